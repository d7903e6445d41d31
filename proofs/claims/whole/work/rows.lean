section
-- ===== PART A: goes FIRST, ahead of the names: the tables' words, and 'selects' of the private methods out of them =====
/-- a private method of a class that the tables say can be made, by its rows of tables_1 -/
def lw_okq (q : MethodName × Nat) : Prop := (q.1.cls ≠ "java/lang/invoke/MethodHandle" ∧ q.1.cls ≠ "java/lang/invoke/VarHandle") ∧ Cond.instantiable q.1.cls q.2 ∈ tables_1 ∧ Cond.privateMethod q.1 ∈ tables_1 ∧ Cond.instanceMethod q.1 ∈ tables_1
theorem lw_p0 : lw_okq (⟨"java/lang/Throwable", "fillInStackTrace", "(I)Ljava/lang/Throwable;"⟩, 6) := ⟨⟨by decide +kernel, by decide +kernel⟩, List.mem_of_getElem? (i := 233) (by decide +kernel), List.mem_of_getElem? (i := 231) (by decide +kernel), List.mem_of_getElem? (i := 232) (by decide +kernel)⟩
theorem lw_p1 : lw_okq (⟨"TagRoot$Names", "isDraft", "(I)Z"⟩, 5) := ⟨⟨by decide +kernel, by decide +kernel⟩, List.mem_of_getElem? (i := 25) (by decide +kernel), List.mem_of_getElem? (i := 295) (by decide +kernel), List.mem_of_getElem? (i := 296) (by decide +kernel)⟩
theorem lw_p2 : lw_okq (⟨"TagRoot$Rules", "workOut", "()V"⟩, 5) := ⟨⟨by decide +kernel, by decide +kernel⟩, List.mem_of_getElem? (i := 52) (by decide +kernel), List.mem_of_getElem? (i := 315) (by decide +kernel), List.mem_of_getElem? (i := 316) (by decide +kernel)⟩
theorem lw_p3 : lw_okq (⟨"TagRoot$Rules", "endsOf", "(I)I"⟩, 5) := ⟨⟨by decide +kernel, by decide +kernel⟩, List.mem_of_getElem? (i := 52) (by decide +kernel), List.mem_of_getElem? (i := 323) (by decide +kernel), List.mem_of_getElem? (i := 324) (by decide +kernel)⟩
theorem lw_p4 : lw_okq (⟨"TagRoot$Rules", "reachOver", "(I)V"⟩, 5) := ⟨⟨by decide +kernel, by decide +kernel⟩, List.mem_of_getElem? (i := 52) (by decide +kernel), List.mem_of_getElem? (i := 330) (by decide +kernel), List.mem_of_getElem? (i := 331) (by decide +kernel)⟩
theorem lw_p5 : lw_okq (⟨"TagRoot", "needTag", "(I)V"⟩, 6) := ⟨⟨by decide +kernel, by decide +kernel⟩, List.mem_of_getElem? (i := 17) (by decide +kernel), List.mem_of_getElem? (i := 346) (by decide +kernel), List.mem_of_getElem? (i := 347) (by decide +kernel)⟩
theorem lw_p6 : lw_okq (⟨"TagRoot", "needThing", "(I)V"⟩, 6) := ⟨⟨by decide +kernel, by decide +kernel⟩, List.mem_of_getElem? (i := 17) (by decide +kernel), List.mem_of_getElem? (i := 383) (by decide +kernel), List.mem_of_getElem? (i := 384) (by decide +kernel)⟩
theorem lw_p7 : lw_okq (⟨"TagRoot", "finishEdit", "()I"⟩, 6) := ⟨⟨by decide +kernel, by decide +kernel⟩, List.mem_of_getElem? (i := 17) (by decide +kernel), List.mem_of_getElem? (i := 392) (by decide +kernel), List.mem_of_getElem? (i := 393) (by decide +kernel)⟩
theorem lw_p8 : lw_okq (⟨"TagRoot$Hands", "keep", "(I)V"⟩, 7) := ⟨⟨by decide +kernel, by decide +kernel⟩, List.mem_of_getElem? (i := 107) (by decide +kernel), List.mem_of_getElem? (i := 400) (by decide +kernel), List.mem_of_getElem? (i := 401) (by decide +kernel)⟩
theorem lw_p9 : lw_okq (⟨"TagRoot", "needRequest", "(I)V"⟩, 6) := ⟨⟨by decide +kernel, by decide +kernel⟩, List.mem_of_getElem? (i := 17) (by decide +kernel), List.mem_of_getElem? (i := 483) (by decide +kernel), List.mem_of_getElem? (i := 484) (by decide +kernel)⟩
theorem lw_p10 : lw_okq (⟨"TagRoot", "decide", "(II)V"⟩, 6) := ⟨⟨by decide +kernel, by decide +kernel⟩, List.mem_of_getElem? (i := 17) (by decide +kernel), List.mem_of_getElem? (i := 499) (by decide +kernel), List.mem_of_getElem? (i := 500) (by decide +kernel)⟩
theorem lw_p11 : lw_okq (⟨"TagRoot$Rules", "allowsAlias", "(II)Z"⟩, 5) := ⟨⟨by decide +kernel, by decide +kernel⟩, List.mem_of_getElem? (i := 52) (by decide +kernel), List.mem_of_getElem? (i := 511) (by decide +kernel), List.mem_of_getElem? (i := 512) (by decide +kernel)⟩
theorem lw_p12 : lw_okq (⟨"TagRoot", "isOpenAndAllowed", "(I)Z"⟩, 6) := ⟨⟨by decide +kernel, by decide +kernel⟩, List.mem_of_getElem? (i := 17) (by decide +kernel), List.mem_of_getElem? (i := 540) (by decide +kernel), List.mem_of_getElem? (i := 541) (by decide +kernel)⟩
theorem lw_p13 : lw_okq (⟨"TagRoot", "isAllowedBehind", "(II)Z"⟩, 6) := ⟨⟨by decide +kernel, by decide +kernel⟩, List.mem_of_getElem? (i := 17) (by decide +kernel), List.mem_of_getElem? (i := 551) (by decide +kernel), List.mem_of_getElem? (i := 552) (by decide +kernel)⟩
theorem lw_p14 : lw_okq (⟨"TagRoot$Rules", "leadingTo", "(I)I"⟩, 5) := ⟨⟨by decide +kernel, by decide +kernel⟩, List.mem_of_getElem? (i := 52) (by decide +kernel), List.mem_of_getElem? (i := 621) (by decide +kernel), List.mem_of_getElem? (i := 622) (by decide +kernel)⟩
theorem lw_p15 : lw_okq (⟨"TagRoot", "needSets", "(III)V"⟩, 6) := ⟨⟨by decide +kernel, by decide +kernel⟩, List.mem_of_getElem? (i := 17) (by decide +kernel), List.mem_of_getElem? (i := 632) (by decide +kernel), List.mem_of_getElem? (i := 633) (by decide +kernel)⟩
def lw_privs_1 : List (MethodName × Nat) := [(⟨"java/lang/Throwable", "fillInStackTrace", "(I)Ljava/lang/Throwable;"⟩, 6), (⟨"TagRoot$Names", "isDraft", "(I)Z"⟩, 5), (⟨"TagRoot$Rules", "workOut", "()V"⟩, 5), (⟨"TagRoot$Rules", "endsOf", "(I)I"⟩, 5), (⟨"TagRoot$Rules", "reachOver", "(I)V"⟩, 5), (⟨"TagRoot", "needTag", "(I)V"⟩, 6), (⟨"TagRoot", "needThing", "(I)V"⟩, 6), (⟨"TagRoot", "finishEdit", "()I"⟩, 6), (⟨"TagRoot$Hands", "keep", "(I)V"⟩, 7), (⟨"TagRoot", "needRequest", "(I)V"⟩, 6), (⟨"TagRoot", "decide", "(II)V"⟩, 6), (⟨"TagRoot$Rules", "allowsAlias", "(II)Z"⟩, 5), (⟨"TagRoot", "isOpenAndAllowed", "(I)Z"⟩, 6), (⟨"TagRoot", "isAllowedBehind", "(II)Z"⟩, 6), (⟨"TagRoot$Rules", "leadingTo", "(I)I"⟩, 5), (⟨"TagRoot", "needSets", "(III)V"⟩, 6)]
theorem lw_r1 : ∀ q ∈ lw_privs_1, lw_okq q := List.forall_mem_cons.mpr ⟨lw_p0, List.forall_mem_cons.mpr ⟨lw_p1, List.forall_mem_cons.mpr ⟨lw_p2, List.forall_mem_cons.mpr ⟨lw_p3, List.forall_mem_cons.mpr ⟨lw_p4, List.forall_mem_cons.mpr ⟨lw_p5, List.forall_mem_cons.mpr ⟨lw_p6, List.forall_mem_cons.mpr ⟨lw_p7, List.forall_mem_cons.mpr ⟨lw_p8, List.forall_mem_cons.mpr ⟨lw_p9, List.forall_mem_cons.mpr ⟨lw_p10, List.forall_mem_cons.mpr ⟨lw_p11, List.forall_mem_cons.mpr ⟨lw_p12, List.forall_mem_cons.mpr ⟨lw_p13, List.forall_mem_cons.mpr ⟨lw_p14, List.forall_mem_cons.mpr ⟨lw_p15, fun _ h => absurd h List.not_mem_nil⟩⟩⟩⟩⟩⟩⟩⟩⟩⟩⟩⟩⟩⟩⟩⟩
theorem lw_p16 : lw_okq (⟨"TagRoot", "isTagSet", "(I)Z"⟩, 6) := ⟨⟨by decide +kernel, by decide +kernel⟩, List.mem_of_getElem? (i := 17) (by decide +kernel), List.mem_of_getElem? (i := 636) (by decide +kernel), List.mem_of_getElem? (i := 637) (by decide +kernel)⟩
theorem lw_p17 : lw_okq (⟨"TagRoot", "matching", "(III)I"⟩, 6) := ⟨⟨by decide +kernel, by decide +kernel⟩, List.mem_of_getElem? (i := 17) (by decide +kernel), List.mem_of_getElem? (i := 641) (by decide +kernel), List.mem_of_getElem? (i := 642) (by decide +kernel)⟩
theorem lw_p18 : lw_okq (⟨"TagRootModel", "holds", "(I)Z"⟩, 20) := ⟨⟨by decide +kernel, by decide +kernel⟩, List.mem_of_getElem? (i := 657) (by decide +kernel), List.mem_of_getElem? (i := 738) (by decide +kernel), List.mem_of_getElem? (i := 739) (by decide +kernel)⟩
theorem lw_p19 : lw_okq (⟨"TagRootModel", "isDraft", "(I)Z"⟩, 20) := ⟨⟨by decide +kernel, by decide +kernel⟩, List.mem_of_getElem? (i := 657) (by decide +kernel), List.mem_of_getElem? (i := 746) (by decide +kernel), List.mem_of_getElem? (i := 747) (by decide +kernel)⟩
theorem lw_p20 : lw_okq (⟨"TagRootModel", "isTag", "(I)Z"⟩, 20) := ⟨⟨by decide +kernel, by decide +kernel⟩, List.mem_of_getElem? (i := 657) (by decide +kernel), List.mem_of_getElem? (i := 758) (by decide +kernel), List.mem_of_getElem? (i := 759) (by decide +kernel)⟩
theorem lw_p21 : lw_okq (⟨"TagRootModel", "areThere", "(II)Z"⟩, 20) := ⟨⟨by decide +kernel, by decide +kernel⟩, List.mem_of_getElem? (i := 657) (by decide +kernel), List.mem_of_getElem? (i := 777) (by decide +kernel), List.mem_of_getElem? (i := 778) (by decide +kernel)⟩
theorem lw_p22 : lw_okq (⟨"TagRootModel", "isThing", "(I)Z"⟩, 20) := ⟨⟨by decide +kernel, by decide +kernel⟩, List.mem_of_getElem? (i := 657) (by decide +kernel), List.mem_of_getElem? (i := 781) (by decide +kernel), List.mem_of_getElem? (i := 782) (by decide +kernel)⟩
theorem lw_p23 : lw_okq (⟨"TagRootModel", "setsOne", "(II)Z"⟩, 20) := ⟨⟨by decide +kernel, by decide +kernel⟩, List.mem_of_getElem? (i := 657) (by decide +kernel), List.mem_of_getElem? (i := 785) (by decide +kernel), List.mem_of_getElem? (i := 786) (by decide +kernel)⟩
theorem lw_p24 : lw_okq (⟨"TagRootModel", "begins", "()V"⟩, 20) := ⟨⟨by decide +kernel, by decide +kernel⟩, List.mem_of_getElem? (i := 657) (by decide +kernel), List.mem_of_getElem? (i := 789) (by decide +kernel), List.mem_of_getElem? (i := 790) (by decide +kernel)⟩
theorem lw_p25 : lw_okq (⟨"TagRootModel", "sets", "(II)V"⟩, 20) := ⟨⟨by decide +kernel, by decide +kernel⟩, List.mem_of_getElem? (i := 657) (by decide +kernel), List.mem_of_getElem? (i := 793) (by decide +kernel), List.mem_of_getElem? (i := 794) (by decide +kernel)⟩
theorem lw_p26 : lw_okq (⟨"TagRootModel", "edited", "(IIII)I"⟩, 20) := ⟨⟨by decide +kernel, by decide +kernel⟩, List.mem_of_getElem? (i := 657) (by decide +kernel), List.mem_of_getElem? (i := 805) (by decide +kernel), List.mem_of_getElem? (i := 806) (by decide +kernel)⟩
theorem lw_p27 : lw_okq (⟨"TagRootModel", "shownOf", "(I)I"⟩, 20) := ⟨⟨by decide +kernel, by decide +kernel⟩, List.mem_of_getElem? (i := 657) (by decide +kernel), List.mem_of_getElem? (i := 812) (by decide +kernel), List.mem_of_getElem? (i := 813) (by decide +kernel)⟩
theorem lw_p28 : lw_okq (⟨"TagRootModel", "endsOf", "(I)I"⟩, 20) := ⟨⟨by decide +kernel, by decide +kernel⟩, List.mem_of_getElem? (i := 657) (by decide +kernel), List.mem_of_getElem? (i := 816) (by decide +kernel), List.mem_of_getElem? (i := 817) (by decide +kernel)⟩
theorem lw_p29 : lw_okq (⟨"TagRootModel", "endOf", "(I)I"⟩, 20) := ⟨⟨by decide +kernel, by decide +kernel⟩, List.mem_of_getElem? (i := 657) (by decide +kernel), List.mem_of_getElem? (i := 820) (by decide +kernel), List.mem_of_getElem? (i := 821) (by decide +kernel)⟩
theorem lw_p30 : lw_okq (⟨"TagRootModel", "closed", "(I)I"⟩, 20) := ⟨⟨by decide +kernel, by decide +kernel⟩, List.mem_of_getElem? (i := 657) (by decide +kernel), List.mem_of_getElem? (i := 824) (by decide +kernel), List.mem_of_getElem? (i := 825) (by decide +kernel)⟩
theorem lw_p31 : lw_okq (⟨"TagRootModel", "onward", "(I)I"⟩, 20) := ⟨⟨by decide +kernel, by decide +kernel⟩, List.mem_of_getElem? (i := 657) (by decide +kernel), List.mem_of_getElem? (i := 828) (by decide +kernel), List.mem_of_getElem? (i := 829) (by decide +kernel)⟩
def lw_privs_2 : List (MethodName × Nat) := [(⟨"TagRoot", "isTagSet", "(I)Z"⟩, 6), (⟨"TagRoot", "matching", "(III)I"⟩, 6), (⟨"TagRootModel", "holds", "(I)Z"⟩, 20), (⟨"TagRootModel", "isDraft", "(I)Z"⟩, 20), (⟨"TagRootModel", "isTag", "(I)Z"⟩, 20), (⟨"TagRootModel", "areThere", "(II)Z"⟩, 20), (⟨"TagRootModel", "isThing", "(I)Z"⟩, 20), (⟨"TagRootModel", "setsOne", "(II)Z"⟩, 20), (⟨"TagRootModel", "begins", "()V"⟩, 20), (⟨"TagRootModel", "sets", "(II)V"⟩, 20), (⟨"TagRootModel", "edited", "(IIII)I"⟩, 20), (⟨"TagRootModel", "shownOf", "(I)I"⟩, 20), (⟨"TagRootModel", "endsOf", "(I)I"⟩, 20), (⟨"TagRootModel", "endOf", "(I)I"⟩, 20), (⟨"TagRootModel", "closed", "(I)I"⟩, 20), (⟨"TagRootModel", "onward", "(I)I"⟩, 20)]
theorem lw_r2 : ∀ q ∈ lw_privs_2, lw_okq q := List.forall_mem_cons.mpr ⟨lw_p16, List.forall_mem_cons.mpr ⟨lw_p17, List.forall_mem_cons.mpr ⟨lw_p18, List.forall_mem_cons.mpr ⟨lw_p19, List.forall_mem_cons.mpr ⟨lw_p20, List.forall_mem_cons.mpr ⟨lw_p21, List.forall_mem_cons.mpr ⟨lw_p22, List.forall_mem_cons.mpr ⟨lw_p23, List.forall_mem_cons.mpr ⟨lw_p24, List.forall_mem_cons.mpr ⟨lw_p25, List.forall_mem_cons.mpr ⟨lw_p26, List.forall_mem_cons.mpr ⟨lw_p27, List.forall_mem_cons.mpr ⟨lw_p28, List.forall_mem_cons.mpr ⟨lw_p29, List.forall_mem_cons.mpr ⟨lw_p30, List.forall_mem_cons.mpr ⟨lw_p31, fun _ h => absurd h List.not_mem_nil⟩⟩⟩⟩⟩⟩⟩⟩⟩⟩⟩⟩⟩⟩⟩⟩
theorem lw_p32 : lw_okq (⟨"TagRootModel", "isRequest", "(I)Z"⟩, 20) := ⟨⟨by decide +kernel, by decide +kernel⟩, List.mem_of_getElem? (i := 657) (by decide +kernel), List.mem_of_getElem? (i := 855) (by decide +kernel), List.mem_of_getElem? (i := 856) (by decide +kernel)⟩
theorem lw_p33 : lw_okq (⟨"TagRootModel", "could", "(I)Z"⟩, 20) := ⟨⟨by decide +kernel, by decide +kernel⟩, List.mem_of_getElem? (i := 657) (by decide +kernel), List.mem_of_getElem? (i := 859) (by decide +kernel), List.mem_of_getElem? (i := 860) (by decide +kernel)⟩
theorem lw_p34 : lw_okq (⟨"TagRootModel", "may", "(III)Z"⟩, 20) := ⟨⟨by decide +kernel, by decide +kernel⟩, List.mem_of_getElem? (i := 657) (by decide +kernel), List.mem_of_getElem? (i := 863) (by decide +kernel), List.mem_of_getElem? (i := 864) (by decide +kernel)⟩
theorem lw_p35 : lw_okq (⟨"TagRootModel", "does", "(III)V"⟩, 20) := ⟨⟨by decide +kernel, by decide +kernel⟩, List.mem_of_getElem? (i := 657) (by decide +kernel), List.mem_of_getElem? (i := 867) (by decide +kernel), List.mem_of_getElem? (i := 868) (by decide +kernel)⟩
theorem lw_p36 : lw_okq (⟨"TagRootModel", "hasCircle", "()Z"⟩, 20) := ⟨⟨by decide +kernel, by decide +kernel⟩, List.mem_of_getElem? (i := 657) (by decide +kernel), List.mem_of_getElem? (i := 871) (by decide +kernel), List.mem_of_getElem? (i := 872) (by decide +kernel)⟩
theorem lw_p37 : lw_okq (⟨"TagRootModel", "couldBehind", "(II)Z"⟩, 20) := ⟨⟨by decide +kernel, by decide +kernel⟩, List.mem_of_getElem? (i := 657) (by decide +kernel), List.mem_of_getElem? (i := 887) (by decide +kernel), List.mem_of_getElem? (i := 888) (by decide +kernel)⟩
theorem lw_p38 : lw_okq (⟨"TagRootModel", "far", "(II)I"⟩, 20) := ⟨⟨by decide +kernel, by decide +kernel⟩, List.mem_of_getElem? (i := 657) (by decide +kernel), List.mem_of_getElem? (i := 919) (by decide +kernel), List.mem_of_getElem? (i := 920) (by decide +kernel)⟩
theorem lw_p39 : lw_okq (⟨"TagRootModel", "areSets", "(III)Z"⟩, 20) := ⟨⟨by decide +kernel, by decide +kernel⟩, List.mem_of_getElem? (i := 657) (by decide +kernel), List.mem_of_getElem? (i := 927) (by decide +kernel), List.mem_of_getElem? (i := 928) (by decide +kernel)⟩
theorem lw_p40 : lw_okq (⟨"TagRootModel", "matches", "(III)I"⟩, 20) := ⟨⟨by decide +kernel, by decide +kernel⟩, List.mem_of_getElem? (i := 657) (by decide +kernel), List.mem_of_getElem? (i := 931) (by decide +kernel), List.mem_of_getElem? (i := 932) (by decide +kernel)⟩
theorem lw_p41 : lw_okq (⟨"TagRootModel", "isMatch", "(IIII)Z"⟩, 20) := ⟨⟨by decide +kernel, by decide +kernel⟩, List.mem_of_getElem? (i := 657) (by decide +kernel), List.mem_of_getElem? (i := 935) (by decide +kernel), List.mem_of_getElem? (i := 936) (by decide +kernel)⟩
def lw_privs_3 : List (MethodName × Nat) := [(⟨"TagRootModel", "isRequest", "(I)Z"⟩, 20), (⟨"TagRootModel", "could", "(I)Z"⟩, 20), (⟨"TagRootModel", "may", "(III)Z"⟩, 20), (⟨"TagRootModel", "does", "(III)V"⟩, 20), (⟨"TagRootModel", "hasCircle", "()Z"⟩, 20), (⟨"TagRootModel", "couldBehind", "(II)Z"⟩, 20), (⟨"TagRootModel", "far", "(II)I"⟩, 20), (⟨"TagRootModel", "areSets", "(III)Z"⟩, 20), (⟨"TagRootModel", "matches", "(III)I"⟩, 20), (⟨"TagRootModel", "isMatch", "(IIII)Z"⟩, 20)]
theorem lw_r3 : ∀ q ∈ lw_privs_3, lw_okq q := List.forall_mem_cons.mpr ⟨lw_p32, List.forall_mem_cons.mpr ⟨lw_p33, List.forall_mem_cons.mpr ⟨lw_p34, List.forall_mem_cons.mpr ⟨lw_p35, List.forall_mem_cons.mpr ⟨lw_p36, List.forall_mem_cons.mpr ⟨lw_p37, List.forall_mem_cons.mpr ⟨lw_p38, List.forall_mem_cons.mpr ⟨lw_p39, List.forall_mem_cons.mpr ⟨lw_p40, List.forall_mem_cons.mpr ⟨lw_p41, fun _ h => absurd h List.not_mem_nil⟩⟩⟩⟩⟩⟩⟩⟩⟩⟩
def lw_privs : List (MethodName × Nat) := lw_privs_1 ++ (lw_privs_2 ++ (lw_privs_3))
def lw_tbl : List Cond := k2_sels lw_privs ++ tables_1
theorem lw_privs_ok : ∀ q ∈ lw_privs, lw_okq q := by
  show ∀ q ∈ lw_privs_1 ++ (lw_privs_2 ++ (lw_privs_3)), lw_okq q
  exact List.forall_mem_append.mpr ⟨lw_r1, List.forall_mem_append.mpr ⟨lw_r2, lw_r3⟩⟩

/-! ===== BEGIN words of one list among another's, by their places ===== -/
theorem goodIn_r {big : List Cond} (ws : List Cond) (ps : List Nat) (hp : ws = ps.filterMap (fun i => big[i]?)) (h : ws.all goodWord = true) : GoodIn big ws := by
  intro w hw
  have h1 := List.all_eq_true.mp h w hw
  rw [hp] at hw
  obtain ⟨i, -, hi⟩ := List.mem_filterMap.mp hw
  have hm : w ∈ big := by first | exact List.mem_of_getElem? hi | exact List.getElem?_mem hi
  exact ⟨hm, good_of_word h1⟩
theorem goodIn_app {big a b : List Cond} (ha : GoodIn big a) (hb : GoodIn big b) : GoodIn big (a ++ b) := fun w h => (List.mem_append.mp h).elim (ha w) (hb w)
theorem goodIn_ca {big a b : List Cond} {c : Cond} (ha : GoodIn big (c :: a)) (hb : GoodIn big b) : GoodIn big (c :: (a ++ b)) := fun w h => (List.mem_cons.mp h).elim (fun e => ha w (List.mem_cons.mpr (Or.inl e))) (fun h => (List.mem_append.mp h).elim (fun h => ha w (List.mem_cons.mpr (Or.inr h))) (hb w))
theorem goodIn_sub {big ws : List Cond} (hm : ∀ w ∈ ws, w ∈ big) (h : ws.all goodWord = true) : GoodIn big ws := fun w hw => ⟨hm w hw, good_of_word (List.all_eq_true.mp h w hw)⟩
/-! ===== END ===== -/

/-! ===== BEGIN exceptions that leave a method, and their catching by the caller (launches without stack traces) ===== -/
section VXA
/-! The laws vx_back, vx_callV, vx_callS, vx_callSW, vx_throw0, vx_throwS follow proofs of the library, with one case more: JvmDerived/Free/Laws.lean (Back.of_free), Shelf42/LK1.lean (callV, callS), Shelf/KitTraced.lean (throwNew0V, throwNewS). -/
/-- where a method has thrown q: the class by its name, the cell, what was written, the world -/
def vx_T (XC : String → State → State → Prop) (st : State) (q : Addr) (t : State) (mc ms : Nat) (free : Addr → Prop) : Prop :=
  ∃ (E : String) (ce : Cell) (L : List Loc), XC E st t ∧ t.heap[q]? = some ce ∧ ce.vm = .none ∧ st.vm.findClass E = some ce.cls ∧ st.WarmedH t.vm ∧ st.sameButNew ({ t with vm := st.vm } : State) L mc ms ∧ ∀ z ∈ L, free z.base
def vx_Q (Qc : Array Value → State → Outcome → State → Prop) (XC : String → State → State → Prop) (mc ms : Nat) (free : Addr → Prop) : Array Value → State → Outcome → State → Prop := fun a st o t =>
  (Qc a st o t ∧ ∃ L, FrameEnd st o t L mc ms ∧ ∀ q ∈ L, free q.base) ∨ ∃ q, o = .threw q ∧ vx_T XC st q t mc ms free
/-- a callee that returns or throws -/
def vx_Met (l : Launch) (y : MethodName) (ws : List Cond) (rm : Room) (Pc : Array Value → State → Prop) (Qc : Array Value → State → Outcome → State → Prop) (XC : String → State → State → Prop) (mc ms : Nat) (free : Addr → Prop) : Prop :=
  MetFree l y (headSpec ws rm) Pc (fun _ _ _ _ _ => True) (vx_Q Qc XC mc ms free)
def vx_Post (XC : String → State → State → Prop) (mc ms : Nat) (free : Addr → Prop) : Pt → Array Value → Addr → Pt → Prop := fun A a q B =>
  ∃ (g : JFrame) (mk : MethodId) (t : State) (L : List Loc) (E : String) (ce : Cell), B.U.heap = t.heap ∧ B.U.vm = t.vm ∧ XC E (A.U.calling g mk a) t ∧ t.heap[q]? = some ce ∧ ce.vm = .none ∧ A.U.vm.findClass E = some ce.cls ∧ B.locs = A.locs ++ L ∧ (∀ z ∈ L, free z.base) ∧ B.cells = A.cells + mc ∧ B.slots = A.slots + ms
def vx_Back (l : Launch) (R : Room) (p : Program) (e : Env) (below : List Frame) (s : State) (sargs : Array Value) (y : MethodName) (len W9 : Nat)
    (Pre : Pt → Array Value → Prop) (Post : Pt → Array Value → Option Value → Pt → Prop) (PostX : Pt → Array Value → Addr → Pt → Prop) : Prop :=
  ∀ (m : MethodId) (meth : Method) (c : Code) (A : Pt) (g : JFrame) (ig : Instr) (mk : MethodId) (a : Array Value),
    Stand p l e R s m sargs below meth c A.U A.locs A.cells A.slots → g.method = m → g.locals.size = c.maxLocals → decode c.code g.pc = .ok (ig, len) →
    2 * g.monitorRoom + (g.stack.map fun v => v.category).sum ≤ W9 → A.U.methodNamed? y = some mk → Pre A a →
    (∃ (v : Option Value) (B : Pt), Stand p l e R s m sargs below meth c B.U B.locs B.cells B.slots ∧ Post A a v B ∧
      Steps p.tables e below (doInvoke e (A.U.setTop g) [] mk a).1 (B.U.setTop { g with pc := g.pc + len, stack := v.toList ++ g.stack })) ∨
    (∃ (q : Addr) (B : Pt), Stand p l e R s m sargs below meth c B.U B.locs B.cells B.slots ∧ PostX A a q B ∧
      Steps p.tables e below (doInvoke e (A.U.setTop g) [] mk a).1 ((B.U.setTop g).pushFrame (.throwing q)))
section Payer
variable {l : Launch} {R : Room} {p : Program} {e : Env} {below : List Frame} {s : State} {sargs : Array Value} {y : MethodName} {len W9 : Nat}
theorem vx_back {ws : List Cond} {rm : Room} {Pc : Array Value → State → Prop} {Qc : Array Value → State → Outcome → State → Prop} {XC : String → State → State → Prop} {mc ms : Nat} {free : Addr → Prop} {bytes : ByteArray} {maxL : Nat} {ret : Option FieldType}
    (hM : vx_Met l y ws rm Pc Qc XC mc ms free) (hblind : FrameBlind Pc) (hrc : rm.cells = mc) (hrs : rm.slots = ms)
    (hframes : rm.frames + 1 ≤ R.frames) (hlocals : W9 + (maxL + 11) + rm.locals ≤ R.locals)
    (hws : ∀ w ∈ ws, ∀ a' U, s.WarmedH U.vm → w.before a' U = true) (hcode : Cond.code y bytes maxL ret ∈ ws) (hinit : ∀ a' U, s.WarmedH U.vm → (Cond.initialized y.cls).before a' U = true) :
    vx_Back l R p e below s sargs y len W9 (PreOf R mc ms Pc) (PostOf Qc mc ms free) (vx_Post XC mc ms free) := by
  intro m meth c A g ig mk a X hg hsize hdg hW hn hp
  have h1 : (headSpec ws rm).pre.before a A.U = true := atoms_intro fun w hw => hws w hw _ _ X.warmed
  have h2 : (Cond.code y bytes maxL ret).before a A.U = true := hws _ hcode _ _ X.warmed
  have h3 : (Cond.initialized y.cls).before a A.U = true := hinit _ _ X.warmed
  have h4 : A.cells + (headSpec ws rm).room.cells ≤ R.cells := by rw [show (headSpec ws rm).room.cells = mc from hrc]; exact hp.1
  have h5 : A.slots + (headSpec ws rm).room.slots ≤ R.slots := by rw [show (headSpec ws rm).room.slots = ms from hrs]; exact hp.2.1
  have hPc : Pc a (A.U.calling g mk a) := hblind _ _ _ _ hp.2.2
  obtain ⟨U, Ls, c0, s0⟩ := A
  dsimp only [Pt.U, Pt.locs, Pt.cells, Pt.slots] at h1 h2 h3 h4 h5 X hn hPc ⊢
  obtain ⟨methY, cY, hmY, hcY, -, hlY, -, -, -, -⟩ := Cond.code_spec hn h2
  obtain ⟨kY, hkY, -⟩ := className_of_methodNamed hn
  have hinitY : kY.init = .initialized := Cond.initialized_spec (findClass_of_methodNamed hn) hkY h3
  have h : At U g.method c below := by rw [hg]; exact X.here
  have hlocals9 : W9 + (maxL + 11) + (headSpec ws rm).room.locals ≤ R.locals := hlocals
  have happ : (headSpec ws rm).appliesLoose y e.platform (U.calling g mk a) = true :=
    Spec.appliesLoose_calling (g := g) h hdg hn hkY hinitY
      (X.room_calling (g := g) (R' := (headSpec ws rm).room) hsize hmY hcY hframes (by rw [hlY]; omega) h4 h5) h1
  obtain ⟨mid, hmid⟩ := h.above
  have hfr : (U.setTop g).frames = (.java g :: mid) ++ below := by rw [State.frames_setTop' g h.top, hmid]; rfl
  obtain ⟨o, s₂, hsteps, -, hend, hq⟩ := Steps.callFree hM p X.admits X.cas X.clock (acts := []) hfr happ hPc trivial
  have hq' : vx_Q Qc XC mc ms free a (U.calling g mk a) o s₂ := hq
  rw [State.frames_setTop' g h.top] at hend
  obtain ⟨g₀, hg0⟩ := Option.isSome_iff_exists.mp h.top
  obtain ⟨r, hr⟩ := State.topJava?_eq_some.mp hg0
  have hr' : (({ U with heap := s₂.heap, slotsUsed := s₂.slotsUsed } : State).setVm s₂.vm).frames = .java g₀ :: r := hr
  rcases hq' with ⟨hqc, L, hfe, hL⟩ | ⟨q, rfl, E, ce, L, hx, hce, hcv, hcl, hW₂, hsm, hL⟩
  · obtain ⟨⟨v, rfl⟩, hW₂, e2, q2, q3, q4, q5, q6⟩ := id hfe
    have e3 : s₂ = ({ (U.calling g mk a).setFrames s₂.frames with heap := s₂.heap, slotsUsed := s₂.slotsUsed } : State).setVm s₂.vm := by
      have : s₂ = ({ s₂ with vm := (U.calling g mk a).vm } : State).setVm s₂.vm := rfl
      rw [e2] at this
      exact this
    obtain ⟨c₂, i₂, len₂, hc₂, hd₂, hf₂⟩ := hend
    have hW' : U.WarmedH s₂.vm := hW₂
    have hcc : c₂ = c := by
      have h1 : s₂.code? g.method = U.code? g.method := by
        rw [State.code?_eq, State.code?_eq, hW'.alike.method?]
      exact Option.some.inj (hc₂.symm.trans (h1.trans h.code))
    subst hcc
    have hlen : len₂ = len := by rw [hdg] at hd₂; cases hd₂; rfl
    subst hlen
    have hs₂ : s₂ = (({ U with heap := s₂.heap, slotsUsed := s₂.slotsUsed } : State).setVm s₂.vm).setTop { g with pc := g.pc + len₂, stack := v.toList ++ g.stack } := by
      refine e3.trans ?_
      rw [hf₂, State.calling_eq h.top, State.setFrames_setFrames, State.setTop_of_frames _ hr', hr]
      rfl
    have hsame : U.sameButNew ({ U with heap := s₂.heap, slotsUsed := s₂.slotsUsed } : State) L mc ms := by
      refine ⟨?_, q2, q3, q4, q5, q6⟩
      obtain ⟨t, ht, -⟩ := State.frames_cons hr
      show ({ U with heap := s₂.heap, slotsUsed := s₂.slotsUsed } : State) = { U.setFrames U.frames with heap := s₂.heap, slotsUsed := s₂.slotsUsed }
      rw [State.setFrames_self ht]
    subst hg
    refine Or.inl ⟨v, ⟨(({ U with heap := s₂.heap, slotsUsed := s₂.slotsUsed } : State).setVm s₂.vm), Ls ++ L, c0 + mc, s0 + ms⟩,
      ⟨X.admits, X.cas, X.clock, X.frames, X.room, X.hears, X.method, X.code, (X.here.setHeapUsed s₂.heap s₂.slotsUsed).setVm hW'.alike, X.tail, State.WarmedH.trans X.warmed hW', X.limits, X.bytes, X.same.trans (hsame.setVm s.vm)⟩,
      ⟨g, mk, s₂, L, rfl, rfl, hqc, rfl, hL, rfl, rfl⟩, ?_⟩
    show Steps p.tables e below _ ((({ U with heap := s₂.heap, slotsUsed := s₂.slotsUsed } : State).setVm s₂.vm).setTop { g with pc := g.pc + len₂, stack := v.toList ++ g.stack })
    rw [← hs₂]
    exact hsteps
  · obtain ⟨e2, q2, q3, q4, q5, q6⟩ := id hsm
    have e3 : s₂ = ({ (U.calling g mk a).setFrames s₂.frames with heap := s₂.heap, slotsUsed := s₂.slotsUsed } : State).setVm s₂.vm := by
      have : s₂ = ({ s₂ with vm := (U.calling g mk a).vm } : State).setVm s₂.vm := rfl
      rw [e2] at this
      exact this
    have hf₂ : s₂.frames = .throwing q :: .java g :: U.frames.tail := hend
    have hW' : U.WarmedH s₂.vm := hW₂
    have hs₂ : s₂ = ((({ U with heap := s₂.heap, slotsUsed := s₂.slotsUsed } : State).setVm s₂.vm).setTop g).pushFrame (.throwing q) := by
      refine e3.trans ?_
      rw [hf₂, State.calling_eq h.top, State.setFrames_setFrames, State.pushFrame, State.frames_setTop _ hr', State.setTop_of_frames _ hr', State.setFrames_setFrames, hr]
      rfl
    have hsame : U.sameButNew ({ U with heap := s₂.heap, slotsUsed := s₂.slotsUsed } : State) L mc ms := by
      refine ⟨?_, q2, q3, q4, q5, q6⟩
      obtain ⟨t, ht, -⟩ := State.frames_cons hr
      show ({ U with heap := s₂.heap, slotsUsed := s₂.slotsUsed } : State) = { U.setFrames U.frames with heap := s₂.heap, slotsUsed := s₂.slotsUsed }
      rw [State.setFrames_self ht]
    subst hg
    refine Or.inr ⟨q, ⟨(({ U with heap := s₂.heap, slotsUsed := s₂.slotsUsed } : State).setVm s₂.vm), Ls ++ L, c0 + mc, s0 + ms⟩,
      ⟨X.admits, X.cas, X.clock, X.frames, X.room, X.hears, X.method, X.code, (X.here.setHeapUsed s₂.heap s₂.slotsUsed).setVm hW'.alike, X.tail, State.WarmedH.trans X.warmed hW', X.limits, X.bytes, X.same.trans (hsame.setVm s.vm)⟩,
      ⟨g, mk, s₂, L, E, ce, rfl, rfl, hx, hce, hcv, hcl, rfl, hL, rfl, rfl⟩, ?_⟩
    show Steps p.tables e below _ (((({ U with heap := s₂.heap, slotsUsed := s₂.slotsUsed } : State).setVm s₂.vm).setTop g).pushFrame (.throwing q))
    rw [← hs₂]
    exact hsteps
end Payer
section Calls
variable {p : Program} {l : Launch} {e : Env} {R : Room} {s : State} {m : MethodId} {args : Array Value} {below : List Frame} {meth : Method} {c : Code} {T : State} {locs : List Loc} {cells slots : Nat}
theorem vx_callV (X : Stand p l e R s m args below meth c T locs cells slots) (hexec : p.tables.exec = Jvm.exec) {own C : String} {index : Nat} {y : MethodName} {bytes : ByteArray} {maxL : Nat} {ret : Option FieldType}
    (hown : s.vm.findClass own = some m.cls) (hlink : (Cond.methodLink own index y).before args s = true) (hinst : (Cond.instanceMethod y).before args s = true) (hsel : (Cond.selects C y y).before args s = true)
    (hcode : (Cond.code y bytes maxL ret).before args s = true) (hy : y.cls ≠ "java/lang/invoke/MethodHandle" ∧ y.cls ≠ "java/lang/invoke/VarHandle")
    {W9 : Nat} {Pre : Pt → Array Value → Prop} {Post : Pt → Array Value → Option Value → Pt → Prop} {PostX : Pt → Array Value → Addr → Pt → Prop} (hK : vx_Back l R p e below s args y 3 W9 Pre Post PostX)
    {b : Addr} {cellB : Cell} (hcell : T.heap[b]? = some cellB) (hobj : cellB.vm.isStatics = false) (hcls : s.vm.findClass C = some cellB.cls)
    {g : JFrame} (hg : g.method = m) (hsize : g.locals.size = c.maxLocals) {argsL rest : List Value} (hlen : ∀ sig, parseMethodDescriptor y.desc = some sig → argsL.length = sig.parameters.length)
    (hstack : g.stack = argsL.reverse ++ .ref b :: rest) (hW : 2 * g.monitorRoom + (rest.map fun v => v.category).sum ≤ W9) (hdg : decode c.code g.pc = .ok (.invokevirtual index, 3))
    (hpre : ∀ vm₁, s.WarmedH vm₁ → Pre ⟨T.setVm vm₁, locs, cells, slots⟩ (Value.ref b :: argsL).toArray) :
    (∃ (v : Option Value) (vm₁ : Vm) (B : Pt), s.WarmedH vm₁ ∧ Stand p l e R s m args below meth c B.U B.locs B.cells B.slots ∧ Post ⟨T.setVm vm₁, locs, cells, slots⟩ (Value.ref b :: argsL).toArray v B ∧
      ∀ target, Steps p.tables e below (B.U.setTop { g with pc := g.pc + 3, stack := v.toList ++ rest }) target → Steps p.tables e below (T.setTop g) target) ∨
    (∃ (q : Addr) (vm₁ : Vm) (B : Pt), s.WarmedH vm₁ ∧ Stand p l e R s m args below meth c B.U B.locs B.cells B.slots ∧ PostX ⟨T.setVm vm₁, locs, cells, slots⟩ (Value.ref b :: argsL).toArray q B ∧
      Steps p.tables e below (T.setTop g) ((B.U.setTop { g with stack := rest }).pushFrame (.throwing q))) := by
  obtain ⟨mk, methM, hnamed, hmethM, hstM, habM⟩ := Cond.instanceMethod_spec hinst
  obtain ⟨methM', cM, hmethM', -, -, -, -, -, -, hsigM⟩ := Cond.code_spec hnamed hcode
  cases hmethM.symm.trans hmethM'
  obtain ⟨c2, r2, m2, q1, q2, q3, q4, kP, hkP, hkPi⟩ := Cond.selects_spec hsel
  cases hcls.symm.trans q1
  cases (State.methodFound?_of_named hnamed hy).symm.trans q2
  cases hnamed.symm.trans q3
  have hselP : selectMethod e.platform s.vm cellB.cls mk = .method mk := by rw [Launch.admits_selectMethod X.admits]; exact q4
  obtain ⟨vm₁, X₁, hstep₁⟩ := X.invokevirtual hexec hown hlink hnamed hmethM hstM hkP hkPi hy (a := b) (cell := cellB) hcell
    (fun z h => by rw [h] at hobj; cases hobj) hselP hmethM habM hkP hkPi (g := g) hg (argsL := argsL) (rest := rest) (hlen _ hsigM) hstack hdg
  rcases hK m meth c ⟨T.setVm vm₁, locs, cells, slots⟩ { g with stack := rest } (.invokevirtual index) mk (Value.ref b :: argsL).toArray X₁ hg hsize hdg hW (X₁.named hnamed) (hpre vm₁ X₁.warmed) with ⟨v, B, X', hpost, hsteps⟩ | ⟨q, B, X', hpost, hsteps⟩
  · exact Or.inl ⟨v, vm₁, B, X₁.warmed, X', hpost, fun target h => hstep₁ _ fun acts => by rw [doInvoke_state]; exact hsteps.trans h⟩
  · exact Or.inr ⟨q, vm₁, B, X₁.warmed, X', hpost, hstep₁ _ fun acts => by rw [doInvoke_state]; exact hsteps⟩
theorem vx_callS (X : Stand p l e R s m args below meth c T locs cells slots) (hexec : p.tables.exec = Jvm.exec) {own : String} {index : Nat} {y : MethodName} {bytes : ByteArray} {maxL : Nat} {ret : Option FieldType}
    (hown : s.vm.findClass own = some m.cls) (hlink : (Cond.methodLink own index y).before args s = true) (hstat : (Cond.static y).before args s = true) (hinit : (Cond.initialized y.cls).before args s = true)
    (hcode : (Cond.code y bytes maxL ret).before args s = true) (hy : y.cls ≠ "java/lang/invoke/MethodHandle" ∧ y.cls ≠ "java/lang/invoke/VarHandle")
    {W9 : Nat} {Pre : Pt → Array Value → Prop} {Post : Pt → Array Value → Option Value → Pt → Prop} {PostX : Pt → Array Value → Addr → Pt → Prop} (hK : vx_Back l R p e below s args y 3 W9 Pre Post PostX)
    {g : JFrame} (hg : g.method = m) (hsize : g.locals.size = c.maxLocals) {argsL rest : List Value} (hlen : ∀ sig, parseMethodDescriptor y.desc = some sig → argsL.length = sig.parameters.length)
    (hstack : g.stack = argsL.reverse ++ rest) (hW : 2 * g.monitorRoom + (rest.map fun v => v.category).sum ≤ W9) (hdg : decode c.code g.pc = .ok (.invokestatic index, 3))
    (hpre : ∀ vm₁, s.WarmedH vm₁ → Pre ⟨T.setVm vm₁, locs, cells, slots⟩ argsL.toArray) :
    (∃ (v : Option Value) (vm₁ : Vm) (B : Pt), s.WarmedH vm₁ ∧ Stand p l e R s m args below meth c B.U B.locs B.cells B.slots ∧ Post ⟨T.setVm vm₁, locs, cells, slots⟩ argsL.toArray v B ∧
      ∀ target, Steps p.tables e below (B.U.setTop { g with pc := g.pc + 3, stack := v.toList ++ rest }) target → Steps p.tables e below (T.setTop g) target) ∨
    (∃ (q : Addr) (vm₁ : Vm) (B : Pt), s.WarmedH vm₁ ∧ Stand p l e R s m args below meth c B.U B.locs B.cells B.slots ∧ PostX ⟨T.setVm vm₁, locs, cells, slots⟩ argsL.toArray q B ∧
      Steps p.tables e below (T.setTop g) ((B.U.setTop { g with stack := rest }).pushFrame (.throwing q))) := by
  obtain ⟨mk, hnamed⟩ := Cond.code_named hcode
  obtain ⟨methM, cM, hmethM, -, -, -, -, -, -, hsigM⟩ := Cond.code_spec hnamed hcode
  have hstatic : methM.isStatic = true := Cond.static_spec hnamed hmethM hstat
  obtain ⟨kP, hkP, -⟩ := className_of_methodNamed hnamed
  have hinitP : kP.init = .initialized := Cond.initialized_spec (findClass_of_methodNamed hnamed) hkP hinit
  obtain ⟨vm₁, X₁, hstep₁⟩ := X.invokestatic hexec hown hlink hnamed hmethM hstatic hkP hinitP hy (g := g) hg (argsL := argsL) (rest := rest) (hlen _ hsigM) hstack hdg
  rcases hK m meth c ⟨T.setVm vm₁, locs, cells, slots⟩ { g with stack := rest } (.invokestatic index) mk argsL.toArray X₁ hg hsize hdg hW (X₁.named hnamed) (hpre vm₁ X₁.warmed) with ⟨v, B, X', hpost, hsteps⟩ | ⟨q, B, X', hpost, hsteps⟩
  · exact Or.inl ⟨v, vm₁, B, X₁.warmed, X', hpost, fun target h => hstep₁ _ fun acts => by rw [doInvoke_state]; exact hsteps.trans h⟩
  · exact Or.inr ⟨q, vm₁, B, X₁.warmed, X', hpost, hstep₁ _ fun acts => by rw [doInvoke_state]; exact hsteps⟩
end Calls
theorem vx_cls {s : State} {T : State} {vm₁ : Vm} {E : String} {k : ClassId} (hW : s.WarmedH vm₁) (h : (T.setVm vm₁).vm.findClass E = some k) : s.vm.findClass E = some k := by
  have h1 : vm₁.findClass E = some k := h
  rw [hW.alike.findClass] at h1
  exact h1
/-- the method's frame g, with q thrown over it -/
def vx_W (p : Program) (l : Launch) (e : Env) (R : Room) (s : State) (m : MethodId) (args : Array Value) (below : List Frame) (meth : Method) (c : Code) (H : Heap) (locs : List Loc) (cells slots : Nat) (Q : State → Prop) (g : JFrame) (q : Addr) : Prop :=
  ∀ T : State, T.heap = H → Stand p l e R s m args below meth c T locs cells slots → ∃ t, Steps p.tables e below ((T.setTop g).pushFrame (.throwing q)) t ∧ Q t
def vx_Run (p : Program) (l : Launch) (e : Env) (R : Room) (s : State) (m : MethodId) (args : Array Value) (below : List Frame) (meth : Method) (c : Code) (H : Heap) (locs : List Loc) (cells slots mc ms : Nat) (g : JFrame) (rest : List Value) (Qa : State → Outcome → State → Prop) (XC : String → State → State → Prop) (free : Addr → Prop) : Prop :=
  ∀ T : State, T.heap = H → Stand p l e R s m args below meth c T locs cells slots →
    (∃ (v : Option Value) (st₀ t T' : State) (L : List Loc), st₀.heap = H ∧ Stand p l e R s m args below meth c T' (locs ++ L) (cells + mc) (slots + ms) ∧ (∀ q ∈ L, free q.base) ∧ T'.heap = t.heap ∧ T'.vm = t.vm ∧ Qa st₀ (.returned v) t ∧
      Goes p e below T g T' { g with pc := g.pc + 3, stack := v.toList ++ rest }) ∨
    (∃ (q : Addr) (st₀ t T' : State) (L : List Loc) (E : String) (ce : Cell), st₀.heap = H ∧ Stand p l e R s m args below meth c T' (locs ++ L) (cells + mc) (slots + ms) ∧ (∀ z ∈ L, free z.base) ∧ T'.heap = t.heap ∧ T'.vm = t.vm ∧ XC E st₀ t ∧ t.heap[q]? = some ce ∧ ce.vm = .none ∧ s.vm.findClass E = some ce.cls ∧
      Steps p.tables e below (T.setTop g) ((T'.setTop { g with stack := rest }).pushFrame (.throwing q)))
def vx_X {S : Type} (px : S → Prop) (B : String → S → State → Prop) (A : Nat → Prop) : String → State → State → Prop := fun E st t => ∃ u : S, px u ∧ B E u t ∧ va_F A st t
section Runs
variable {p : Program} {l : Launch} {e : Env} {R : Room} {s : State} {m : MethodId} {args : Array Value} {below : List Frame} {meth : Method} {c : Code} {H : Heap} {locs : List Loc} {cells slots : Nat}
variable {y : MethodName} {bytes cc : ByteArray} {maxL nL mc ms n index : Nat} {ret : Option FieldType} {ws : List Cond} {rm : Room} {Pc : Array Value → State → Prop} {Qc : Array Value → State → Outcome → State → Prop} {XC : String → State → State → Prop} {free : Addr → Prop} {Ts : List Cond} {own C : String} {b : Addr} {As rest : List Value} {g : JFrame}
theorem vx_callBack (cb : CallB R s args own index y bytes maxL ret ws rm mc ms n) (hM : vx_Met l y ws rm Pc Qc XC mc ms free) (hbl : FrameBlind Pc) : vx_Back l R p e below s args y 3 8 (PreOf R mc ms Pc) (PostOf Qc mc ms free) (vx_Post XC mc ms free) := by
  obtain ⟨hrc, hrs, hfr, hlo, hws, hcw, -, hini, -⟩ := cb
  exact vx_back (bytes := bytes) (maxL := maxL) (ret := ret) hM hbl hrc hrs hfr hlo hws hcw (fun a' U hW => word_at hW (Or.inl (by first | rfl | simp [Cond.onTables, Cond.keeps, Cond.steady])) hini)
theorem vx_runV (S : CallFix p m c cc nL s args Ts own) (hM : vx_Met l y ws rm Pc Qc XC mc ms free) (cw : CallW R s args own C index y bytes maxL ret ws rm mc ms n) (hp : PreV s H C b Pc As)
    (hg : g.method = m) (hn : As.length = n) (hsize : g.locals.size = nL) (hstack : g.stack = As.reverse ++ .ref b :: rest) (hW : 2 * g.monitorRoom + (rest.map fun v => v.category).sum ≤ 8) (hdg : decode cc g.pc = .ok (.invokevirtual index, 3)) (hf : cells + mc ≤ R.cells ∧ slots + ms ≤ R.slots) :
    vx_Run p l e R s m args below meth c H locs cells slots mc ms g rest (Qc (Value.ref b :: As).toArray) XC free := by
  have hK : vx_Back l R p e below s args y 3 8 (PreOf R mc ms Pc) (PostOf Qc mc ms free) (vx_Post XC mc ms free) := vx_callBack cw.1 hM hp.1
  obtain ⟨⟨-, -, -, -, -, -, hcode, -, hy, hlen, hl⟩, hin, hse⟩ := cw
  obtain ⟨hx, hb, hml, ho, -⟩ := S
  obtain ⟨-, ⟨cellB, hcB, hoB, hclB⟩, hPc⟩ := hp
  intro T hT X
  rcases vx_callV X hx (C := C) (bytes := bytes) (maxL := maxL) (ret := ret) ho hl hin hse hcode hy hK (by rw [hT]; exact hcB) hoB hclB hg (hsize.trans hml.symm) (argsL := As) (rest := rest) (fun sig h => hn.trans (hlen sig h)) hstack hW (by rw [hb]; exact hdg)
    (fun vm₁ hW₁ => ⟨hf.1, hf.2, hPc (T.setVm vm₁) hT hW₁⟩) with ⟨v, vm₁, ⟨U', l2, c2, s2⟩, hW₁, X', ⟨g', mk, t, L, e1, e2, hq, h1, hL, h2, h3⟩, st⟩ | ⟨q, vm₁, ⟨U', l2, c2, s2⟩, hW₁, X', ⟨g', mk, t, L, E, ce, e1, e2, hq, hce, hcv, hcl, h1, hL, h2, h3⟩, st⟩
  · dsimp only [Pt.U, Pt.locs, Pt.cells, Pt.slots] at X' e1 e2 h1 h2 h3 st
    subst h1; subst h2; subst h3
    exact Or.inl ⟨v, (T.setVm vm₁).calling g' mk (Value.ref b :: As).toArray, t, U', L, hT, X', hL, e1, e2, hq, st⟩
  · dsimp only [Pt.U, Pt.locs, Pt.cells, Pt.slots] at X' e1 e2 h1 h2 h3 st hcl
    subst h1; subst h2; subst h3
    exact Or.inr ⟨q, (T.setVm vm₁).calling g' mk (Value.ref b :: As).toArray, t, U', L, E, ce, hT, X', hL, e1, e2, hq, hce, hcv, vx_cls hW₁ hcl, st⟩
theorem vx_runS (S : CallFix p m c cc nL s args Ts own) (hM : vx_Met l y ws rm Pc Qc XC mc ms free) (cw : CallB R s args own index y bytes maxL ret ws rm mc ms n ∧ (Cond.static y).before args s = true) (hp : PreS s H Pc As)
    (hg : g.method = m) (hn : As.length = n) (hsize : g.locals.size = nL) (hstack : g.stack = As.reverse ++ rest) (hW : 2 * g.monitorRoom + (rest.map fun v => v.category).sum ≤ 8) (hdg : decode cc g.pc = .ok (.invokestatic index, 3)) (hf : cells + mc ≤ R.cells ∧ slots + ms ≤ R.slots) :
    vx_Run p l e R s m args below meth c H locs cells slots mc ms g rest (Qc As.toArray) XC free := by
  have hK : vx_Back l R p e below s args y 3 8 (PreOf R mc ms Pc) (PostOf Qc mc ms free) (vx_Post XC mc ms free) := vx_callBack cw.1 hM hp.1
  obtain ⟨⟨-, -, -, -, -, -, hcode, hini, hy, hlen, hl⟩, hstt⟩ := cw
  obtain ⟨hx, hb, hml, ho, -⟩ := S
  intro T hT X
  rcases vx_callS X hx (bytes := bytes) (maxL := maxL) (ret := ret) ho hl hstt hini hcode hy hK hg (hsize.trans hml.symm) (argsL := As) (rest := rest) (fun sig h => hn.trans (hlen sig h)) hstack hW (by rw [hb]; exact hdg)
    (fun vm₁ hW₁ => ⟨hf.1, hf.2, hp.2 (T.setVm vm₁) hT hW₁⟩) with ⟨v, vm₁, ⟨U', l2, c2, s2⟩, hW₁, X', ⟨g', mk, t, L, e1, e2, hq, h1, hL, h2, h3⟩, st⟩ | ⟨q, vm₁, ⟨U', l2, c2, s2⟩, hW₁, X', ⟨g', mk, t, L, E, ce, e1, e2, hq, hce, hcv, hcl, h1, hL, h2, h3⟩, st⟩
  · dsimp only [Pt.U, Pt.locs, Pt.cells, Pt.slots] at X' e1 e2 h1 h2 h3 st
    subst h1; subst h2; subst h3
    exact Or.inl ⟨v, (T.setVm vm₁).calling g' mk As.toArray, t, U', L, hT, X', hL, e1, e2, hq, st⟩
  · dsimp only [Pt.U, Pt.locs, Pt.cells, Pt.slots] at X' e1 e2 h1 h2 h3 st hcl
    subst h1; subst h2; subst h3
    exact Or.inr ⟨q, (T.setVm vm₁).calling g' mk As.toArray, t, U', L, E, ce, hT, X', hL, e1, e2, hq, hce, hcv, vx_cls hW₁ hcl, st⟩
end Runs
section Rows
variable {p : Program} {l : Launch} {e : Env} {R : Room} {s : State} {m : MethodId} {args : Array Value} {below : List Frame} {meth : Method} {c : Code} {H : Heap} {locs : List Loc} {cells slots : Nat} {Q : State → Prop}
variable {mc ms : Nat} {free : Addr → Prop} {A0 A1 : Nat → Prop} {H0 : Heap} {a : Array Value} {pc : Nat} {ls : Array Slot} {st0 rest : List Value}
theorem vx_keep {st₀ t T' : State} {L : List Loc} (h0 : st₀.heap = H) (e1 : T'.heap = t.heap) (hS : va_S A0 H0 H locs) (hA : ∀ q, q < H.size → A1 q → A0 q) (hf : ∀ q, free q → A0 q) (hL : ∀ q ∈ L, free q.base) (hF : va_F A1 st₀ t) :
    H.size ≤ T'.heap.size ∧ (∀ q : Nat, q < H.size → ¬ A1 q → T'.heap[q]? = H[q]?) ∧ va_S A0 H0 T'.heap (locs ++ L) := by
  obtain ⟨hz, hk⟩ := hF
  rw [h0] at hz hk
  exact ⟨by rw [e1]; exact hz, fun q h1 h2 => by rw [e1]; exact hk q h1 h2,
    ⟨Nat.le_trans hS.1 (by rw [e1]; exact hz), fun q h1 h2 => by rw [e1, hk q (Nat.lt_of_lt_of_le h1 hS.1) (fun z => h2 (hA q (Nat.lt_of_lt_of_le h1 hS.1) z))]; exact hS.2.1 q h1 h2, fun q hq => by
      rcases List.mem_append.mp hq with h | h
      · exact hS.2.2 q h
      · exact hf _ (hL q h)⟩⟩
theorem vx_calli {S SX : Type} {post : Int32 → S → Prop} {px : SX → Prop} {B : S → State → Prop} {BX : String → SX → State → Prop} {AX : Nat → Prop} (hr : vx_Run p l e R s m args below meth c H locs cells slots mc ms (F0 m pc ls st0) rest (va_Qi post B A1 a) (vx_X px BX AX) free) (hS : va_S A0 H0 H locs) (hA : ∀ q, q < H.size → A1 q → A0 q) (hf : ∀ q, free q → A0 q) (hAX : ∀ q, q < H.size → AX q → A0 q)
    (kx : ∀ (E : String) (ce : Cell) (q9 : Addr) (u : SX) (t : State) (H1 : Heap) (locs1 : List Loc), t.heap = H1 → s.vm.Alike t.vm → px u → BX E u t → H.size ≤ H1.size → (∀ q : Nat, q < H.size → ¬ AX q → H1[q]? = H[q]?) → va_S A0 H0 H1 locs1 → H1[q9]? = some ce → ce.vm = .none → s.vm.findClass E = some ce.cls → vx_W p l e R s m args below meth c H1 locs1 (cells + mc) (slots + ms) Q (F0 m pc ls rest) q9)
    (kk : ∀ (r : Int32) (u : S) (t : State) (H1 : Heap) (locs1 : List Loc), t.heap = H1 → s.vm.Alike t.vm → post r u → B u t → H.size ≤ H1.size → (∀ q : Nat, q < H.size → ¬ A1 q → H1[q]? = H[q]?) → va_S A0 H0 H1 locs1 → W p l e R s m args below meth c H1 locs1 (cells + mc) (slots + ms) Q (F0 m (pc + 3) ls (.int r :: rest))) : W p l e R s m args below meth c H locs cells slots Q (F0 m pc ls st0) := by
  intro T hT X
  rcases hr T hT X with ⟨v, st₀, t, T', L, h0, X', hL, e1, e2, ⟨⟨r, u, hv, hp, hb⟩, hF⟩, st⟩ | ⟨q, st₀, t, T', L, E, ce, h0, X', hL, e1, e2, ⟨u, hp, hb, hF⟩, hce, hcv, hcl, st⟩
  · cases hv
    obtain ⟨k1, k2, k3⟩ := vx_keep h0 e1 hS hA hf hL hF
    obtain ⟨t2, a1, b1⟩ := kk r u t T'.heap (locs ++ L) e1.symm (by rw [← e2]; exact X'.warmed.alike) hp hb k1 k2 k3 T' rfl X'
    exact ⟨t2, st t2 a1, b1⟩
  · obtain ⟨k1, k2, k3⟩ := vx_keep h0 e1 hS hAX hf hL hF
    obtain ⟨t2, a1, b1⟩ := kx E ce q u t T'.heap (locs ++ L) e1.symm (by rw [← e2]; exact X'.warmed.alike) hp hb k1 k2 k3 (by rw [e1]; exact hce) hcv hcl T' rfl X'
    exact ⟨t2, st.trans a1, b1⟩
theorem vx_calll {S SX : Type} {post : Int64 → S → Prop} {px : SX → Prop} {B : S → State → Prop} {BX : String → SX → State → Prop} {AX : Nat → Prop} (hr : vx_Run p l e R s m args below meth c H locs cells slots mc ms (F0 m pc ls st0) rest (va_Ql post B A1 a) (vx_X px BX AX) free) (hS : va_S A0 H0 H locs) (hA : ∀ q, q < H.size → A1 q → A0 q) (hf : ∀ q, free q → A0 q) (hAX : ∀ q, q < H.size → AX q → A0 q)
    (kx : ∀ (E : String) (ce : Cell) (q9 : Addr) (u : SX) (t : State) (H1 : Heap) (locs1 : List Loc), t.heap = H1 → s.vm.Alike t.vm → px u → BX E u t → H.size ≤ H1.size → (∀ q : Nat, q < H.size → ¬ AX q → H1[q]? = H[q]?) → va_S A0 H0 H1 locs1 → H1[q9]? = some ce → ce.vm = .none → s.vm.findClass E = some ce.cls → vx_W p l e R s m args below meth c H1 locs1 (cells + mc) (slots + ms) Q (F0 m pc ls rest) q9)
    (kk : ∀ (r : Int64) (u : S) (t : State) (H1 : Heap) (locs1 : List Loc), t.heap = H1 → s.vm.Alike t.vm → post r u → B u t → H.size ≤ H1.size → (∀ q : Nat, q < H.size → ¬ A1 q → H1[q]? = H[q]?) → va_S A0 H0 H1 locs1 → W p l e R s m args below meth c H1 locs1 (cells + mc) (slots + ms) Q (F0 m (pc + 3) ls (.long r :: rest))) : W p l e R s m args below meth c H locs cells slots Q (F0 m pc ls st0) := by
  intro T hT X
  rcases hr T hT X with ⟨v, st₀, t, T', L, h0, X', hL, e1, e2, ⟨⟨r, u, hv, hp, hb⟩, hF⟩, st⟩ | ⟨q, st₀, t, T', L, E, ce, h0, X', hL, e1, e2, ⟨u, hp, hb, hF⟩, hce, hcv, hcl, st⟩
  · cases hv
    obtain ⟨k1, k2, k3⟩ := vx_keep h0 e1 hS hA hf hL hF
    obtain ⟨t2, a1, b1⟩ := kk r u t T'.heap (locs ++ L) e1.symm (by rw [← e2]; exact X'.warmed.alike) hp hb k1 k2 k3 T' rfl X'
    exact ⟨t2, st t2 a1, b1⟩
  · obtain ⟨k1, k2, k3⟩ := vx_keep h0 e1 hS hAX hf hL hF
    obtain ⟨t2, a1, b1⟩ := kx E ce q u t T'.heap (locs ++ L) e1.symm (by rw [← e2]; exact X'.warmed.alike) hp hb k1 k2 k3 (by rw [e1]; exact hce) hcv hcl T' rfl X'
    exact ⟨t2, st.trans a1, b1⟩
theorem vx_callf {S SX : Type} {post : UInt32 → S → Prop} {px : SX → Prop} {B : S → State → Prop} {BX : String → SX → State → Prop} {AX : Nat → Prop} (hr : vx_Run p l e R s m args below meth c H locs cells slots mc ms (F0 m pc ls st0) rest (va_Qf post B A1 a) (vx_X px BX AX) free) (hS : va_S A0 H0 H locs) (hA : ∀ q, q < H.size → A1 q → A0 q) (hf : ∀ q, free q → A0 q) (hAX : ∀ q, q < H.size → AX q → A0 q)
    (kx : ∀ (E : String) (ce : Cell) (q9 : Addr) (u : SX) (t : State) (H1 : Heap) (locs1 : List Loc), t.heap = H1 → s.vm.Alike t.vm → px u → BX E u t → H.size ≤ H1.size → (∀ q : Nat, q < H.size → ¬ AX q → H1[q]? = H[q]?) → va_S A0 H0 H1 locs1 → H1[q9]? = some ce → ce.vm = .none → s.vm.findClass E = some ce.cls → vx_W p l e R s m args below meth c H1 locs1 (cells + mc) (slots + ms) Q (F0 m pc ls rest) q9)
    (kk : ∀ (r : UInt32) (u : S) (t : State) (H1 : Heap) (locs1 : List Loc), t.heap = H1 → s.vm.Alike t.vm → post r u → B u t → H.size ≤ H1.size → (∀ q : Nat, q < H.size → ¬ A1 q → H1[q]? = H[q]?) → va_S A0 H0 H1 locs1 → W p l e R s m args below meth c H1 locs1 (cells + mc) (slots + ms) Q (F0 m (pc + 3) ls (.float r :: rest))) : W p l e R s m args below meth c H locs cells slots Q (F0 m pc ls st0) := by
  intro T hT X
  rcases hr T hT X with ⟨v, st₀, t, T', L, h0, X', hL, e1, e2, ⟨⟨r, u, hv, hp, hb⟩, hF⟩, st⟩ | ⟨q, st₀, t, T', L, E, ce, h0, X', hL, e1, e2, ⟨u, hp, hb, hF⟩, hce, hcv, hcl, st⟩
  · cases hv
    obtain ⟨k1, k2, k3⟩ := vx_keep h0 e1 hS hA hf hL hF
    obtain ⟨t2, a1, b1⟩ := kk r u t T'.heap (locs ++ L) e1.symm (by rw [← e2]; exact X'.warmed.alike) hp hb k1 k2 k3 T' rfl X'
    exact ⟨t2, st t2 a1, b1⟩
  · obtain ⟨k1, k2, k3⟩ := vx_keep h0 e1 hS hAX hf hL hF
    obtain ⟨t2, a1, b1⟩ := kx E ce q u t T'.heap (locs ++ L) e1.symm (by rw [← e2]; exact X'.warmed.alike) hp hb k1 k2 k3 (by rw [e1]; exact hce) hcv hcl T' rfl X'
    exact ⟨t2, st.trans a1, b1⟩
theorem vx_calld {S SX : Type} {post : UInt64 → S → Prop} {px : SX → Prop} {B : S → State → Prop} {BX : String → SX → State → Prop} {AX : Nat → Prop} (hr : vx_Run p l e R s m args below meth c H locs cells slots mc ms (F0 m pc ls st0) rest (va_Qd post B A1 a) (vx_X px BX AX) free) (hS : va_S A0 H0 H locs) (hA : ∀ q, q < H.size → A1 q → A0 q) (hf : ∀ q, free q → A0 q) (hAX : ∀ q, q < H.size → AX q → A0 q)
    (kx : ∀ (E : String) (ce : Cell) (q9 : Addr) (u : SX) (t : State) (H1 : Heap) (locs1 : List Loc), t.heap = H1 → s.vm.Alike t.vm → px u → BX E u t → H.size ≤ H1.size → (∀ q : Nat, q < H.size → ¬ AX q → H1[q]? = H[q]?) → va_S A0 H0 H1 locs1 → H1[q9]? = some ce → ce.vm = .none → s.vm.findClass E = some ce.cls → vx_W p l e R s m args below meth c H1 locs1 (cells + mc) (slots + ms) Q (F0 m pc ls rest) q9)
    (kk : ∀ (r : UInt64) (u : S) (t : State) (H1 : Heap) (locs1 : List Loc), t.heap = H1 → s.vm.Alike t.vm → post r u → B u t → H.size ≤ H1.size → (∀ q : Nat, q < H.size → ¬ A1 q → H1[q]? = H[q]?) → va_S A0 H0 H1 locs1 → W p l e R s m args below meth c H1 locs1 (cells + mc) (slots + ms) Q (F0 m (pc + 3) ls (.double r :: rest))) : W p l e R s m args below meth c H locs cells slots Q (F0 m pc ls st0) := by
  intro T hT X
  rcases hr T hT X with ⟨v, st₀, t, T', L, h0, X', hL, e1, e2, ⟨⟨r, u, hv, hp, hb⟩, hF⟩, st⟩ | ⟨q, st₀, t, T', L, E, ce, h0, X', hL, e1, e2, ⟨u, hp, hb, hF⟩, hce, hcv, hcl, st⟩
  · cases hv
    obtain ⟨k1, k2, k3⟩ := vx_keep h0 e1 hS hA hf hL hF
    obtain ⟨t2, a1, b1⟩ := kk r u t T'.heap (locs ++ L) e1.symm (by rw [← e2]; exact X'.warmed.alike) hp hb k1 k2 k3 T' rfl X'
    exact ⟨t2, st t2 a1, b1⟩
  · obtain ⟨k1, k2, k3⟩ := vx_keep h0 e1 hS hAX hf hL hF
    obtain ⟨t2, a1, b1⟩ := kx E ce q u t T'.heap (locs ++ L) e1.symm (by rw [← e2]; exact X'.warmed.alike) hp hb k1 k2 k3 (by rw [e1]; exact hce) hcv hcl T' rfl X'
    exact ⟨t2, st.trans a1, b1⟩
theorem vx_callv {S SX : Type} {post : S → Prop} {px : SX → Prop} {B : S → State → Prop} {BX : String → SX → State → Prop} {AX : Nat → Prop} (hr : vx_Run p l e R s m args below meth c H locs cells slots mc ms (F0 m pc ls st0) rest (va_Qv post B A1 a) (vx_X px BX AX) free) (hS : va_S A0 H0 H locs) (hA : ∀ q, q < H.size → A1 q → A0 q) (hf : ∀ q, free q → A0 q) (hAX : ∀ q, q < H.size → AX q → A0 q)
    (kx : ∀ (E : String) (ce : Cell) (q9 : Addr) (u : SX) (t : State) (H1 : Heap) (locs1 : List Loc), t.heap = H1 → s.vm.Alike t.vm → px u → BX E u t → H.size ≤ H1.size → (∀ q : Nat, q < H.size → ¬ AX q → H1[q]? = H[q]?) → va_S A0 H0 H1 locs1 → H1[q9]? = some ce → ce.vm = .none → s.vm.findClass E = some ce.cls → vx_W p l e R s m args below meth c H1 locs1 (cells + mc) (slots + ms) Q (F0 m pc ls rest) q9)
    (kk : ∀ (u : S) (t : State) (H1 : Heap) (locs1 : List Loc), t.heap = H1 → s.vm.Alike t.vm → post u → B u t → H.size ≤ H1.size → (∀ q : Nat, q < H.size → ¬ A1 q → H1[q]? = H[q]?) → va_S A0 H0 H1 locs1 → W p l e R s m args below meth c H1 locs1 (cells + mc) (slots + ms) Q (F0 m (pc + 3) ls (rest))) : W p l e R s m args below meth c H locs cells slots Q (F0 m pc ls st0) := by
  intro T hT X
  rcases hr T hT X with ⟨v, st₀, t, T', L, h0, X', hL, e1, e2, ⟨⟨u, hv, hp, hb⟩, hF⟩, st⟩ | ⟨q, st₀, t, T', L, E, ce, h0, X', hL, e1, e2, ⟨u, hp, hb, hF⟩, hce, hcv, hcl, st⟩
  · cases hv
    obtain ⟨k1, k2, k3⟩ := vx_keep h0 e1 hS hA hf hL hF
    obtain ⟨t2, a1, b1⟩ := kk u t T'.heap (locs ++ L) e1.symm (by rw [← e2]; exact X'.warmed.alike) hp hb k1 k2 k3 T' rfl X'
    exact ⟨t2, st t2 a1, b1⟩
  · obtain ⟨k1, k2, k3⟩ := vx_keep h0 e1 hS hAX hf hL hF
    obtain ⟨t2, a1, b1⟩ := kx E ce q u t T'.heap (locs ++ L) e1.symm (by rw [← e2]; exact X'.warmed.alike) hp hb k1 k2 k3 (by rw [e1]; exact hce) hcv hcl T' rfl X'
    exact ⟨t2, st.trans a1, b1⟩
/-- caught by the row x of this method's table; the rows ahead don't take it -/
theorem vx_catch {own name : String} {E : String} {ce : Cell} {q : Addr} (hown : s.vm.findClass own = some m.cls) (pre : List ExceptionTableEntry) (x : ExceptionTableEntry) (suf : List ExceptionTableEntry) (hsplit : c.exceptionTable.toList = pre ++ x :: suf)
    (hpass : ∀ z ∈ pre, covers z pc = false ∨ (z.catchType ≠ 0 ∧ ∃ nm : String, (Cond.classLink own z.catchType nm).before args s = true ∧ va_Nc E nm s)) (hx : covers x pc = true) (h0 : x.catchType ≠ 0)
    (hlink : (Cond.classLink own x.catchType name).before args s = true) (hcast : (Cond.castable E name).before args s = true) (hcell : H[q]? = some ce) (hv : ce.vm = .none) (hcl : s.vm.findClass E = some ce.cls)
    (kk : W p l e R s m args below meth c H locs cells slots Q (F0 m x.handlerPc ls [.ref q])) : vx_W p l e R s m args below meth c H locs cells slots Q (F0 m pc ls rest) q := by
  intro T hT X
  have hpl : e.platform.magicAccessors = ({} : Platform).magicAccessors := by rw [X.admits.platform]
  obtain ⟨c3, c4, hc3, hc4, hasg⟩ := Cond.castable_spec hcast
  cases Option.some.inj (hc3.symm.trans hcl)
  obtain ⟨c5, hc5, hcl5⟩ := Cond.classLink_spec hown hlink e.platform hpl
  cases Option.some.inj (hc4.symm.trans hc5)
  obtain ⟨vm', X', st⟩ := X.thenCaughtThrough q (g := F0 m pc ls rest) rfl (Steps.refl _) (by rw [hT]; exact hcell) (by rw [hv]; rfl) (by obtain ⟨k9, h9, -⟩ := Vm.findClass_spec hcl; exact ⟨k9, h9⟩) pre x suf hsplit
    (fun z hz => by
      rcases hpass z hz with h | ⟨hz0, nm, hl1, hn1⟩
      · exact Or.inl h
      · obtain ⟨c6, hc6, hcl6⟩ := Cond.classLink_spec hown hl1 e.platform hpl
        obtain ⟨a8, b8, h1, h2, h3⟩ := hn1
        cases Option.some.inj (h1.symm.trans hcl)
        cases Option.some.inj (h2.symm.trans hc6)
        exact Or.inr ⟨hz0, _, hcl6, h3⟩) hx (Or.inr ⟨h0, c4, hcl5, hasg⟩)
  obtain ⟨t, a1, b1⟩ := kk (T.setVm vm') hT X'
  exact ⟨t, st.trans a1, b1⟩
end Rows
section Ends
variable {p : Program} {l : Launch} {e : Env} {R : Room} {s : State} {m : MethodId} {args : Array Value} {below : List Frame} {meth : Method} {c : Code} {H : Heap} {locs : List Loc} {cells slots : Nat} {Q : State → Prop}
variable {mc ms : Nat} {free : Addr → Prop} {A0 A1 : Nat → Prop} {H0 : Heap} {a : Array Value} {ls : Array Slot} {st0 rest : List Value}
variable {Qc : Array Value → State → Outcome → State → Prop} {XC : String → State → State → Prop}
/-- what a body that may throw owes at its end -/
def vx_MQ (below : List Frame) (Qc : Array Value → State → Outcome → State → Prop) (XC : String → State → State → Prop) (a : Array Value) (s : State) (mc ms : Nat) (free : Addr → Prop) : State → Prop := fun t =>
  ∃ o, t.status = .running ∧ Ended t below o ∧ vx_Q Qc XC mc ms free a s o t
theorem vx_ret {g : JFrame} {mc ms : Nat} (k : W p l e R s m args below meth c H locs cells slots (MQ below Qc args s mc ms free) g) : W p l e R s m args below meth c H locs cells slots (vx_MQ below Qc XC args s mc ms free) g := by
  intro T hT X
  obtain ⟨t, a1, o, b1, b2, b3, b4⟩ := k T hT X
  exact ⟨t, a1, o, b1, b2, Or.inl ⟨b3, b4⟩⟩
/-- not caught here: it goes on to the caller -/
theorem vx_widen {g : JFrame} {q : Addr} {k n : Nat} (h1 : cells ≤ k) (h2 : slots ≤ n) (kk : vx_W p l e R s m args below meth c H locs k n Q g q) : vx_W p l e R s m args below meth c H locs cells slots Q g q := fun T hT X => kk T hT (stand_widen X h1 h2)
theorem vx_out {pc : Nat} {E : String} {ce : Cell} {q : Addr} {mc ms : Nat} (hout : ∀ x ∈ c.exceptionTable.toList, covers x pc = false) (hlocks : meth.locks = false) (hcell : H[q]? = some ce) (hv : ce.vm = .none) (hcl : s.vm.findClass E = some ce.cls)
    (hx : ∀ t : State, t.heap = H → s.vm.Alike t.vm → XC E s t) (hf : ∀ z ∈ locs, free z.base) (hc : cells ≤ mc) (hs : slots ≤ ms) :
    vx_W p l e R s m args below meth c H locs cells slots (vx_MQ below Qc XC args s mc ms free) (F0 m pc ls rest) q := by
  intro T hT X
  obtain ⟨st1, hrun, hend, hW, hsm⟩ := X.leaveThrown q (g := F0 m pc ls rest) rfl rfl rfl hout hlocks
  have hcell9 : (T.setFrames (.throwing q :: below)).heap[q]? = some ce := by
    show T.heap[q]? = some ce
    rw [hT]; exact hcell
  exact ⟨_, st1, .threw q, hrun, hend, Or.inr ⟨q, rfl, E, ce, locs, hx _ hT hW.alike, hcell9, hv, hcl, hW, hsm.mono hc hs, hf⟩⟩
theorem vx_frame {U : State} {k n : Nat} (h : s.sameButNew ({ U with vm := s.vm } : State) locs k n) : s.heap.size ≤ U.heap.size ∧ ∀ q : Nat, q < s.heap.size → (∀ z ∈ locs, z.base ≠ q) → U.heap[q]? = s.heap[q]? := by
  obtain ⟨-, h2, -, -, -, h6⟩ := h
  refine ⟨h2, fun q hq hz => ?_⟩
  obtain ⟨c9, e1, e2, e3, e4⟩ := h6 q _ (Array.getElem?_eq_getElem hq)
  have hs : c9.slots = (s.heap[q]).slots := Array.ext_getElem? fun i => e4 i fun hm => hz _ hm rfl
  have h9 : c9 = s.heap[q] := by
    rw [hs] at e2
    exact e2
  have e5 : U.heap[q]? = some c9 := e1
  rw [e5, h9, Array.getElem?_eq_getElem hq]
/-- the words of a throw but the four that speak of the heap -/
def vx_no (w : Cond) : Bool := decide (w ≠ .isRef (.static Bundle.tN "UNASSIGNED_STACK" Bundle.steD)) && decide (w ≠ .isRef (.static Bundle.tN "SUPPRESSED_SENTINEL" Bundle.listD)) && decide (w ≠ .laysStatic Bundle.tN "UNASSIGNED_STACK" Bundle.steD) && decide (w ≠ .laysStatic Bundle.tN "SUPPRESSED_SENTINEL" Bundle.listD)
def vx_at0 (own : String) (ic : Nat) (X : String) (names : List String) : List Cond := (Bundle.ownAtoms0 own ic X names).filter vx_no
def vx_atS (own : String) (ic : Nat) (X : String) (names : List String) : List Cond := (Bundle.ownAtoms own ic X names).filter vx_no
/-- a word that the tables alone decide, or a good one -/
def vx_ot (w : Cond) : Bool := w.onTables || goodWord w
theorem vx_ot_at {args a' : Array Value} {s U : State} {w : Cond} (hW : s.WarmedH U.vm) (hvm : s.vm = U.vm) (hg : vx_ot w = true) (h : w.before args s = true) : w.before a' U = true := by
  simp only [vx_ot, Bool.or_eq_true] at hg
  rcases hg with hg | hg
  · exact va_tabs hg hvm h
  · exact word_at hW (good_of_word hg) h
/-- a list's words: the good ones out of the method's own list, the others by premises of their own -/
theorem vx_hat {args : Array Value} {s : State} {L B : List Cond} (h1 : ∀ w ∈ L.filter goodWord, w.before args s = true) (h2 : ∀ w ∈ L.filter (fun w => !goodWord w), w ∈ B) (h3 : ∀ w ∈ B, w.before args s = true) : ∀ w ∈ L, w.before args s = true := by
  intro w hw
  by_cases g : goodWord w = true
  · exact h1 w (List.mem_filter.mpr ⟨hw, g⟩)
  · refine h3 w (h2 w (List.mem_filter.mpr ⟨hw, ?_⟩))
    show (!goodWord w) = true
    cases hgw : goodWord w
    · rfl
    · exact absurd hgw g
theorem vx_c {args : Array Value} {s : State} {w : Cond} {B : List Cond} (h : w.before args s = true) (t : ∀ w ∈ B, w.before args s = true) : ∀ w' ∈ w :: B, w'.before args s = true := fun w' h' => (List.mem_cons.mp h').elim (fun e => by rw [e]; exact h) (t w')
theorem vx_n {args : Array Value} {s : State} : ∀ w ∈ ([] : List Cond), w.before args s = true := fun _ h => nomatch h
theorem vx_own {args : Array Value} {s : State} {L : List Cond} (h1 : ∀ w ∈ L.filter vx_no, w.before args s = true)
    (hU : (Cond.isRef (.static Bundle.tN "UNASSIGNED_STACK" Bundle.steD)).before args s = true) (hN : (Cond.isRef (.static Bundle.tN "SUPPRESSED_SENTINEL" Bundle.listD)).before args s = true)
    (lU : (Cond.laysStatic Bundle.tN "UNASSIGNED_STACK" Bundle.steD).before args s = true) (lN : (Cond.laysStatic Bundle.tN "SUPPRESSED_SENTINEL" Bundle.listD).before args s = true) : ∀ w ∈ L, w.before args s = true := by
  intro w hw
  by_cases e1 : w = .isRef (.static Bundle.tN "UNASSIGNED_STACK" Bundle.steD)
  · rw [e1]; exact hU
  · by_cases e2 : w = .isRef (.static Bundle.tN "SUPPRESSED_SENTINEL" Bundle.listD)
    · rw [e2]; exact hN
    · by_cases e3 : w = .laysStatic Bundle.tN "UNASSIGNED_STACK" Bundle.steD
      · rw [e3]; exact lU
      · by_cases e4 : w = .laysStatic Bundle.tN "SUPPRESSED_SENTINEL" Bundle.listD
        · rw [e4]; exact lN
        · exact h1 w (List.mem_filter.mpr ⟨hw, by unfold vx_no; rw [decide_eq_true e1, decide_eq_true e2, decide_eq_true e3, decide_eq_true e4]; rfl⟩)
/-- where a static field lies, its class's statics cell in H -/
def vx_L (C n d : String) (A : Nat → Prop) (U : State) (H : Heap) : Prop := ∃ (c : ClassId) (k : Class) (i : Nat) (f : Field) (a : Nat) (cell : Cell), U.vm.findClass C = some c ∧ U.fieldFound? C n d = some (c, k, i, f) ∧ f.isStatic = true ∧ k.statics = some a ∧ H[a]? = some cell ∧ cell.vm.isStatics = true ∧ cell.cls = c ∧ f.slot < cell.slots.size ∧ k.staticTypes[f.slot]? = some f.type ∧ ¬ A a
theorem vx_L.moved {C n d : String} {A : Nat → Prop} {u U : State} {H : Heap} (hvm : u.vm.Alike U.vm) (h : vx_L C n d A u H) : vx_L C n d A U H := by
  obtain ⟨c, k, i, f, a, cell, h1, h2, h3, h4, h5, h6, h7, h8, h9, h10⟩ := h
  obtain ⟨k', hi', he⟩ := State.fieldFound?_setVm hvm h2
  exact ⟨c, k', i, f, a, cell, by rw [hvm.findClass]; exact h1, hi', h3, by rw [he]; exact h4, h5, h6, h7, h8, by rw [he]; exact h9, h10⟩
theorem vx_L.kept {C n d : String} {A : Nat → Prop} {U : State} {H H1 : Heap} (h : vx_L C n d A U H) (hq : ∀ a : Nat, a < H.size → ¬ A a → H1[a]? = H[a]?) : vx_L C n d A U H1 := by
  obtain ⟨c, k, i, f, a, cell, h1, h2, h3, h4, h5, h6, h7, h8, h9, h10⟩ := h
  exact ⟨c, k, i, f, a, cell, h1, h2, h3, h4, by rw [hq a (Array.getElem?_eq_some_iff.mp h5).1 h10]; exact h5, h6, h7, h8, h9, h10⟩
theorem vx_L.narrow {C n d : String} {A B : Nat → Prop} {U : State} {H : Heap} (h : vx_L C n d A U H) (hAB : ∀ q, B q → A q) : vx_L C n d B U H := by
  obtain ⟨c, k, i, f, a, cell, h1, h2, h3, h4, h5, h6, h7, h8, h9, h10⟩ := h
  exact ⟨c, k, i, f, a, cell, h1, h2, h3, h4, h5, h6, h7, h8, h9, fun z => h10 (hAB _ z)⟩
theorem vx_L.word {C n d : String} {A : Nat → Prop} {s : State} {args : Array Value} (h : vx_L C n d A s s.heap) : (Cond.laysStatic C n d).before args s = true := by
  obtain ⟨c, k, i, f, a, cell, h1, h2, h3, h4, h5, h6, h7, h8, h9, -⟩ := h
  show (Cond.laysStatic C n d).holds args s none s [] = true
  exact Cond.laysStatic_of h1 h2 h3 h4 h5 h6 h7 h8 h9
/-- .. and what it holds: null or some reference -/
def vx_Zq (C n d : String) (A : Nat → Prop) (U : State) (H : Heap) : Prop := va_Zq C n d A U H ∧ vx_L C n d A U H
theorem vx_Zq.moved {C n d : String} {A : Nat → Prop} {u U : State} {H : Heap} (hvm : u.vm.Alike U.vm) (h : vx_Zq C n d A u H) : vx_Zq C n d A U H := ⟨va_Zq.moved hvm h.1, vx_L.moved hvm h.2⟩
theorem vx_Zq.kept {C n d : String} {A : Nat → Prop} {U : State} {H H1 : Heap} (h : vx_Zq C n d A U H) (hq : ∀ a : Nat, a < H.size → ¬ A a → H1[a]? = H[a]?) : vx_Zq C n d A U H1 := ⟨va_Zq.kept h.1 hq, vx_L.kept h.2 hq⟩
theorem vx_Zq.narrow {C n d : String} {A B : Nat → Prop} {U : State} {H : Heap} (h : vx_Zq C n d A U H) (hAB : ∀ q, B q → A q) : vx_Zq C n d B U H := ⟨va_Zq.narrow h.1 hAB, vx_L.narrow h.2 hAB⟩
theorem vx_Zqof {args : Array Value} {s : State} {C n d : String} {A : Nat → Prop} (hl : (Cond.laysStatic C n d).before args s = true) (hini : (Cond.initialized C).before args s = true) (h : (Cond.isRef (.static C n d)).before args s = true) (hA : ∀ a : Nat, a < s.heap.size → ¬ A a) : vx_Zq C n d A s s.heap := by
  refine ⟨va_Zqof hl hini h hA, ?_⟩
  obtain ⟨c, k, i, f, a, cell, h1, h2, h3, h4, h5, h6, h7, h8, h9⟩ := Cond.laysStatic_spec hl
  exact ⟨c, k, i, f, a, cell, h1, h2, h3, h4, h5, h6, h7, h8, h9, hA a (Array.getElem?_eq_some_iff.mp h5).1⟩
theorem vx_isRef {C n d : String} {v : Value} {A : Nat → Prop} {s : State} {args : Array Value} (h : va_Z C n d v A s s.heap) (hv : v.isRef = true) : (Cond.isRef (.static C n d)).before args s = true := by
  obtain ⟨cf, kf, fi, f, a, cell, h1, h2, h3, h4, h5, h6, h7, -⟩ := h
  have he : (Term.static C n d).eval args s none [] s = some v := by
    simp [Term.eval, State.fieldNamed?, h1, h2, h4, h5, h6, h7]
  simp only [Cond.before, Cond.holds, Cond.value, he]
  cases v <;> simp_all [Value.isRef]
theorem vx_isRefq {C n d : String} {A : Nat → Prop} {s : State} {args : Array Value} (h : va_Zq C n d A s s.heap) : (Cond.isRef (.static C n d)).before args s = true := by
  rcases h with h | ⟨t, h⟩
  · exact vx_isRef h rfl
  · exact vx_isRef h rfl
/-- the same frame, seen from here: as if the method were called anew in this heap -/
theorem vx_rebase {T : State} (X : Stand p l e R s m args below meth c T locs cells slots) {R' : Room} (hf : R'.frames ≤ R.frames) (hl : R'.locals ≤ R.locals) (hc : cells + R'.cells ≤ R.cells) (hs : slots + R'.slots ≤ R.slots) :
    Stand p l e R' ((T.setVm s.vm).setFrames (.invoking m args :: below)) m args below meth c T [] 0 0 := by
  have htop : (T.setVm s.vm).topJava?.isSome := X.here.top
  have hF : ((T.setVm s.vm).setFrames (.invoking m args :: below)).frames = .invoking m args :: below := State.frames_setFrames _ (State.cur_lt_of_top htop)
  obtain ⟨g₀, hg0⟩ := Option.isSome_iff_exists.mp htop
  obtain ⟨r, hr⟩ := State.topJava?_eq_some.mp hg0
  have hl9 : e.platform.stackLimits (T.setVm s.vm).me = e.platform.stackLimits s.me := X.limits
  have hb9 : (T.setVm s.vm).me.stackBytes = s.me.stackBytes := X.bytes
  refine ⟨X.admits, X.cas, X.clock, hF, ?_, X.hears, X.method, X.code, X.here, X.tail, X.warmed, ?_, ?_, ?_⟩
  · have h := X.room
    have hU : ((T.setVm s.vm).setFrames (.invoking m args :: below)).localsInUse = s.localsInUse := by
      rw [State.localsInUse_invoking hF (meth := meth) (c := c) X.method X.code, State.localsInUse_invoking X.frames X.method X.code]
    simp only [State.hasRoom, Bool.and_eq_true, decide_eq_true_eq] at h ⊢
    obtain ⟨⟨⟨⟨h1, h2, h3, h4, h5, h6⟩, h7⟩, h8⟩, h9⟩ := h
    rw [X.frames, List.length_cons] at h2 h3
    have q1 := X.heapSize
    have q2 := X.used
    simp only [hF, hU, List.length_cons, State.stackLimits_setFrames, State.stackBytes_setFrames, hl9, hb9]
    refine ⟨⟨⟨⟨by omega, by omega, by omega, by omega, by omega, h6⟩, ?_⟩, ?_⟩, X.book⟩
    · show T.heap.size + R'.cells ≤ e.platform.maxCells
      omega
    · show T.slotsUsed + R'.slots ≤ e.platform.maxSlots
      omega
  · rw [State.stackLimits_setFrames]; rfl
  · rw [State.stackBytes_setFrames]; rfl
  · refine ⟨?_, Nat.le_refl _, Nat.le_refl _, ?_, ?_, fun a c9 h9 => ⟨c9, h9, rfl, rfl, fun _ _ => rfl⟩⟩
    · obtain ⟨t, ht, -⟩ := State.frames_cons hr
      show T.setVm s.vm = { ((T.setVm s.vm).setFrames (.invoking m args :: below)).setFrames (T.setVm s.vm).frames with heap := T.heap, slotsUsed := T.slotsUsed }
      rw [State.setFrames_setFrames, State.setFrames_self ht]
      rfl
    · show T.slotsUsed = T.slotsUsed + ((T.heap.toList.drop T.heap.size).map (·.slots.size)).sum
      rw [List.drop_eq_nil_of_le (Nat.le_of_eq Array.length_toList)]
      rfl
    · show ((T.heap.toList.drop T.heap.size).map (·.slots.size)).sum ≤ 0
      rw [List.drop_eq_nil_of_le (Nat.le_of_eq Array.length_toList)]
      exact Nat.le_refl _
/-- 'throw new E()': new; dup; invokespecial; athrow -/
theorem vx_throw0 {cc : ByteArray} {pc : Nat} (hexec : p.tables.exec = Jvm.exec) (hb : c.code = cc) (hl : l.stackTraces = false) {own cls : String} {names : List String} {ik ic mc ms : Nat} {A : Nat → Prop}
    (hown : s.vm.findClass own = some m.cls) (hcls : Bundle.fit cls = true) (hnames : ∀ n ∈ names, Bundle.fit n = true)
    (hk : (Cond.classLink own ik cls).before args s = true) (hini : (Cond.initialized cls).before args s = true) (hat : ∀ w ∈ vx_at0 own ic cls names, w.before args s = true)
    (hgood : ∀ w ∈ Cond.classLink own ik cls :: Cond.initialized cls :: vx_at0 own ic cls names, vx_ot w = true)
    (hU : vx_Zq Bundle.tN "UNASSIGNED_STACK" Bundle.steD A s s.heap) (hN : vx_Zq Bundle.tN "SUPPRESSED_SENTINEL" Bundle.listD A s s.heap) (hS : va_S A s.heap H locs) (hsize : ls.size = c.maxLocals)
    (d0 : decode cc pc = .ok (.new ik, 3)) (d3 : decode cc (pc + 3) = .ok (.dup, 1)) (d4 : decode cc (pc + 4) = .ok (.invokespecial ic, 3)) (d7 : decode cc (pc + 7) = .ok (.athrow, 1))
    (hout : ∀ x ∈ c.exceptionTable.toList, covers x (pc + 7) = false)
    (hRframes : names.length + 3 < R.frames) (hRlocals : (rest.map fun v => v.category).sum + (13 * (names.length + 1) + 42) ≤ R.locals) (hRcells : cells + 1 ≤ R.cells) (hRslots : slots + 6 ≤ R.slots) (hlocks : meth.locks = false)
    (hx : ∀ t : State, s.vm.Alike t.vm → H.size ≤ t.heap.size → (∀ q : Nat, q < H.size → t.heap[q]? = H[q]?) → XC cls s t)
    (hf : ∀ z ∈ locs, free z.base) (hc : cells + 1 ≤ mc) (hs : slots + 6 ≤ ms) :
    W p l e R s m args below meth c H locs cells slots (vx_MQ below Qc XC args s mc ms free) (F0 m pc ls rest) := by
  intro T hT X
  have htr : e.platform.stackTraces = false := (show e.platform.stackTraces = l.stackTraces by rw [X.admits.platform]).trans hl
  have Y := vx_rebase X (R' := { frames := R.frames, locals := R.locals, cells := 1, slots := 6 }) (Nat.le_refl _) (Nat.le_refl _) hRcells hRslots
  obtain ⟨s', hA⟩ : ∃ z, z = (T.setVm s.vm).setFrames (.invoking m args :: below) := ⟨_, rfl⟩
  rw [← hA] at Y
  have hvm : s'.vm = s.vm := by rw [hA]; rfl
  have hhp : s'.heap = H := by rw [hA]; exact hT
  have hW0 : s.WarmedH s'.vm := by rw [hvm]; exact State.WarmedH.refl s
  have hat' : ∀ w ∈ vx_at0 own ic cls names, w.before args s' = true := fun w hw => vx_ot_at hW0 hvm.symm (hgood w (List.mem_cons_of_mem _ (List.mem_cons_of_mem _ hw))) (hat w hw)
  have hk' : (Cond.classLink own ik cls).before args s' = true := vx_ot_at hW0 hvm.symm (hgood _ List.mem_cons_self) hk
  have hini' : (Cond.initialized cls).before args s' = true := vx_ot_at hW0 hvm.symm (hgood _ (List.mem_cons_of_mem _ List.mem_cons_self)) hini
  have hU' : vx_Zq Bundle.tN "UNASSIGNED_STACK" Bundle.steD A s' s'.heap := by rw [hhp]; exact vx_Zq.moved hW0.alike (hU.kept hS.2.1)
  have hN' : vx_Zq Bundle.tN "SUPPRESSED_SENTINEL" Bundle.listD A s' s'.heap := by rw [hhp]; exact vx_Zq.moved hW0.alike (hN.kept hS.2.1)
  have h : ∀ w ∈ Bundle.ownAtoms0 own ic cls names, w.before args s' = true := vx_own hat' (vx_isRefq hU'.1) (vx_isRefq hN'.1) hU'.2.word hN'.2.word
  have hown' : s'.vm.findClass own = some m.cls := by rw [hvm]; exact hown
  have hins : (Cond.instantiable cls 6).before args s' = true := h _ (by simp [Bundle.ownAtoms0])
  obtain ⟨vm₁, cX, kX, hfX, hkX, -, -, X₁, st1⟩ := Y.newCold hexec (own := own) (C := cls) (index := ik) (n := 6) hown' hk' hins hini'
    (g := F0 m pc ls rest) rfl (by rw [hb]; exact d0) (Nat.le_refl _) (Nat.le_refl _)
  generalize hT1 : (T.setVm vm₁).pushCell { cls := cX, slots := kX.instanceTypes.map defaultValue, vm := .none } = T1 at X₁ st1
  have hcat : (Value.ref T.heap.size).category = 1 := rfl
  have hcellA : T1.heap[T.heap.size]? = some (freshCell cX kX) := by rw [← hT1]; exact State.heap_pushCell_size _ _
  have d3' : decode c.code (pc + 3) = .ok (.dup, 1) := by rw [hb]; exact d3
  obtain ⟨U, hsteps, hrun, hend, hW, hsame, ce, hce, hO⟩ := X₁.ctorThrow0 hexec htr (own := own) (cls := cls) (names := names) (ic := ic) hown' hcls hnames h (fun x hx => nomatch hx) hfX hkX hcellA (by rw [hhp, hT]; exact Nat.le_refl _)
    (g := { method := m, pc := pc + 4, locals := ls, stack := .ref T.heap.size :: .ref T.heap.size :: rest, locked := none }) rfl hsize rfl rfl (rest := rest) rfl
    (by rw [hb]; exact d4) (by rw [hb]; exact d7) hout hRframes (by simp only [List.map_cons, List.sum_cons, hcat]; omega) hlocks
  obtain ⟨f1, f2⟩ := vx_frame hsame
  rw [hhp] at f1 f2
  have hWs : s.WarmedH U.vm := State.WarmedH.trans hW0 hW
  have hcl : s.vm.findClass cls = some ce.cls := by
    have h9 := hO.cls
    rw [hvm] at h9
    exact h9
  have hall : s.sameButNew ({ U with vm := s.vm } : State) locs mc ms := by
    subst hA
    obtain ⟨e1, e2⟩ := hsame
    rw [State.setFrames_setFrames] at e1
    have h2 : (T.setVm s.vm).sameButNew ({ U with vm := s.vm } : State) [] (0 + 1) (0 + 6) := ⟨e1, e2⟩
    have h3 := X.same.trans h2
    rw [List.append_nil] at h3
    exact h3.mono hc hs
  refine ⟨U, ?_, .threw T.heap.size, hrun, hend, Or.inr ⟨T.heap.size, rfl, cls, ce, locs, hx U hWs.alike f1 (fun q hq => f2 q hq (fun z hz => nomatch hz)), hce, hO.vm, hcl, hWs, hall, hf⟩⟩
  refine st1 _ ?_
  show Steps p.tables e below (T1.setTop { method := m, pc := pc + 3, locals := ls, stack := .ref T.heap.size :: rest, locked := none }) _
  jvm_step X₁.here [X₁.here.top, hexec, d3', Value.category]
  exact hsteps
/-- 'throw new E("text")': new; dup; ldc; invokespecial; athrow -/
theorem vx_throwS {cc : ByteArray} {pc : Nat} (hexec : p.tables.exec = Jvm.exec) (hb : c.code = cc) (hl : l.stackTraces = false) {own cls text : String} {names : List String} {ik is ic mc ms sa : Nat} {A : Nat → Prop}
    (hown : s.vm.findClass own = some m.cls) (hcls : Bundle.fit cls = true) (hnames : ∀ n ∈ names, Bundle.fit n = true)
    (hk : (Cond.classLink own ik cls).before args s = true) (hini : (Cond.initialized cls).before args s = true) (hstr : vk_R own is text sa s) (hat : ∀ w ∈ vx_atS own ic cls names, w.before args s = true)
    (hgood : ∀ w ∈ Cond.classLink own ik cls :: Cond.initialized cls :: vx_atS own ic cls names, vx_ot w = true)
    (hU : vx_Zq Bundle.tN "UNASSIGNED_STACK" Bundle.steD A s s.heap) (hN : vx_Zq Bundle.tN "SUPPRESSED_SENTINEL" Bundle.listD A s s.heap) (hS : va_S A s.heap H locs) (hsize : ls.size = c.maxLocals)
    (d0 : decode cc pc = .ok (.new ik, 3)) (d3 : decode cc (pc + 3) = .ok (.dup, 1)) (d4 : decode cc (pc + 4) = .ok (.ldc is, 2)) (d6 : decode cc (pc + 6) = .ok (.invokespecial ic, 3)) (d9 : decode cc (pc + 9) = .ok (.athrow, 1))
    (hout : ∀ x ∈ c.exceptionTable.toList, covers x (pc + 9) = false)
    (hRframes : names.length + 3 < R.frames) (hRlocals : (rest.map fun v => v.category).sum + (13 * (names.length + 1) + 43) ≤ R.locals) (hRcells : cells + 1 ≤ R.cells) (hRslots : slots + 6 ≤ R.slots) (hlocks : meth.locks = false)
    (hx : ∀ t : State, s.vm.Alike t.vm → H.size ≤ t.heap.size → (∀ q : Nat, q < H.size → t.heap[q]? = H[q]?) → XC cls s t)
    (hf : ∀ z ∈ locs, free z.base) (hc : cells + 1 ≤ mc) (hs : slots + 6 ≤ ms) :
    W p l e R s m args below meth c H locs cells slots (vx_MQ below Qc XC args s mc ms free) (F0 m pc ls rest) := by
  intro T hT X
  have htr : e.platform.stackTraces = false := (show e.platform.stackTraces = l.stackTraces by rw [X.admits.platform]).trans hl
  have Y := vx_rebase X (R' := { frames := R.frames, locals := R.locals, cells := 1, slots := 6 }) (Nat.le_refl _) (Nat.le_refl _) hRcells hRslots
  obtain ⟨s', hA⟩ : ∃ z, z = (T.setVm s.vm).setFrames (.invoking m args :: below) := ⟨_, rfl⟩
  rw [← hA] at Y
  have hvm : s'.vm = s.vm := by rw [hA]; rfl
  have hhp : s'.heap = H := by rw [hA]; exact hT
  have hW0 : s.WarmedH s'.vm := by rw [hvm]; exact State.WarmedH.refl s
  have hat' : ∀ w ∈ vx_atS own ic cls names, w.before args s' = true := fun w hw => vx_ot_at hW0 hvm.symm (hgood w (List.mem_cons_of_mem _ (List.mem_cons_of_mem _ hw))) (hat w hw)
  have hk' : (Cond.classLink own ik cls).before args s' = true := vx_ot_at hW0 hvm.symm (hgood _ List.mem_cons_self) hk
  have hini' : (Cond.initialized cls).before args s' = true := vx_ot_at hW0 hvm.symm (hgood _ (List.mem_cons_of_mem _ List.mem_cons_self)) hini
  have hU' : vx_Zq Bundle.tN "UNASSIGNED_STACK" Bundle.steD A s' s'.heap := by rw [hhp]; exact vx_Zq.moved hW0.alike (hU.kept hS.2.1)
  have hN' : vx_Zq Bundle.tN "SUPPRESSED_SENTINEL" Bundle.listD A s' s'.heap := by rw [hhp]; exact vx_Zq.moved hW0.alike (hN.kept hS.2.1)
  have h : ∀ w ∈ Bundle.ownAtoms own ic cls names, w.before args s' = true := vx_own hat' (vx_isRefq hU'.1) (vx_isRefq hN'.1) hU'.2.word hN'.2.word
  have hown' : s'.vm.findClass own = some m.cls := by rw [hvm]; exact hown
  have hins : (Cond.instantiable cls 6).before args s' = true := h _ (by simp [Bundle.ownAtoms])
  obtain ⟨vm₁, cX, kX, hfX, hkX, -, -, X₁, st1⟩ := Y.newCold hexec (own := own) (C := cls) (index := ik) (n := 6) hown' hk' hins hini'
    (g := F0 m pc ls rest) rfl (by rw [hb]; exact d0) (Nat.le_refl _) (Nat.le_refl _)
  generalize hT1 : (T.setVm vm₁).pushCell { cls := cX, slots := kX.instanceTypes.map defaultValue, vm := .none } = T1 at X₁ st1
  have hcat : (Value.ref T.heap.size).category = 1 := rfl
  have hcellA : T1.heap[T.heap.size]? = some (freshCell cX kX) := by rw [← hT1]; exact State.heap_pushCell_size _ _
  have d3' : decode c.code (pc + 3) = .ok (.dup, 1) := by rw [hb]; exact d3
  have d4' : decode c.code (pc + 4) = .ok (.ldc is, 2) := by rw [hb]; exact d4
  have hstr' : vk_R own is text sa s' := vk_R.warm hW0 hstr
  obtain ⟨U, hsteps, hrun, hend, hW, hsame, ce, hce, hO⟩ := X₁.ctorThrowS hexec htr (own := own) (cls := cls) (names := names) (ic := ic) hown' hcls hnames h (fun x hx => nomatch hx) hfX hkX hcellA (by rw [hhp, hT]; exact Nat.le_refl _) (msg := .ref sa) rfl
    (g := { method := m, pc := pc + 6, locals := ls, stack := .ref sa :: .ref T.heap.size :: .ref T.heap.size :: rest, locked := none }) rfl hsize rfl rfl (rest := rest) rfl
    (by rw [hb]; exact d6) (by rw [hb]; exact d9) hout hRframes (by simp only [List.map_cons, List.sum_cons, hcat]; omega) hlocks
  obtain ⟨f1, f2⟩ := vx_frame hsame
  rw [hhp] at f1 f2
  have hWs : s.WarmedH U.vm := State.WarmedH.trans hW0 hW
  have hcl : s.vm.findClass cls = some ce.cls := by
    have h9 := hO.cls
    rw [hvm] at h9
    exact h9
  have hall : s.sameButNew ({ U with vm := s.vm } : State) locs mc ms := by
    subst hA
    obtain ⟨e1, e2⟩ := hsame
    rw [State.setFrames_setFrames] at e1
    have h2 : (T.setVm s.vm).sameButNew ({ U with vm := s.vm } : State) [] (0 + 1) (0 + 6) := ⟨e1, e2⟩
    have h3 := X.same.trans h2
    rw [List.append_nil] at h3
    exact h3.mono hc hs
  refine ⟨U, ?_, .threw T.heap.size, hrun, hend, Or.inr ⟨T.heap.size, rfl, cls, ce, locs, hx U hWs.alike f1 (fun q hq => f2 q hq (fun z hz => nomatch hz)), hce, hO.vm, hcl, hWs, hall, hf⟩⟩
  refine st1 _ ?_
  show Steps p.tables e below (T1.setTop { method := m, pc := pc + 3, locals := ls, stack := .ref T.heap.size :: rest, locked := none }) _
  jvm_step X₁.here [X₁.here.top, hexec, d3', Value.category]
  exact X₁.ldcString hexec (own := own) (text := text) (index := is) (a := sa) hown' hstr'.1 hstr'.2
    (g := { method := m, pc := pc + 4, locals := ls, stack := .ref T.heap.size :: .ref T.heap.size :: rest, locked := none }) rfl d4' _ hsteps
/-- 'throw new E("text")', the text by a wide index -/
theorem vx_throwSW {cc : ByteArray} {pc : Nat} (hexec : p.tables.exec = Jvm.exec) (hb : c.code = cc) (hl : l.stackTraces = false) {own cls text : String} {names : List String} {ik is ic mc ms sa : Nat} {A : Nat → Prop}
    (hown : s.vm.findClass own = some m.cls) (hcls : Bundle.fit cls = true) (hnames : ∀ n ∈ names, Bundle.fit n = true)
    (hk : (Cond.classLink own ik cls).before args s = true) (hini : (Cond.initialized cls).before args s = true) (hstr : vk_R own is text sa s) (hat : ∀ w ∈ vx_atS own ic cls names, w.before args s = true)
    (hgood : ∀ w ∈ Cond.classLink own ik cls :: Cond.initialized cls :: vx_atS own ic cls names, vx_ot w = true)
    (hU : vx_Zq Bundle.tN "UNASSIGNED_STACK" Bundle.steD A s s.heap) (hN : vx_Zq Bundle.tN "SUPPRESSED_SENTINEL" Bundle.listD A s s.heap) (hS : va_S A s.heap H locs) (hsize : ls.size = c.maxLocals)
    (d0 : decode cc pc = .ok (.new ik, 3)) (d3 : decode cc (pc + 3) = .ok (.dup, 1)) (d4 : decode cc (pc + 4) = .ok (.ldc_w is, 3)) (d7 : decode cc (pc + 7) = .ok (.invokespecial ic, 3)) (d10 : decode cc (pc + 10) = .ok (.athrow, 1))
    (hout : ∀ x ∈ c.exceptionTable.toList, covers x (pc + 10) = false)
    (hRframes : names.length + 3 < R.frames) (hRlocals : (rest.map fun v => v.category).sum + (13 * (names.length + 1) + 43) ≤ R.locals) (hRcells : cells + 1 ≤ R.cells) (hRslots : slots + 6 ≤ R.slots) (hlocks : meth.locks = false)
    (hx : ∀ t : State, s.vm.Alike t.vm → H.size ≤ t.heap.size → (∀ q : Nat, q < H.size → t.heap[q]? = H[q]?) → XC cls s t)
    (hf : ∀ z ∈ locs, free z.base) (hc : cells + 1 ≤ mc) (hs : slots + 6 ≤ ms) :
    W p l e R s m args below meth c H locs cells slots (vx_MQ below Qc XC args s mc ms free) (F0 m pc ls rest) := by
  intro T hT X
  have htr : e.platform.stackTraces = false := (show e.platform.stackTraces = l.stackTraces by rw [X.admits.platform]).trans hl
  have Y := vx_rebase X (R' := { frames := R.frames, locals := R.locals, cells := 1, slots := 6 }) (Nat.le_refl _) (Nat.le_refl _) hRcells hRslots
  obtain ⟨s', hA⟩ : ∃ z, z = (T.setVm s.vm).setFrames (.invoking m args :: below) := ⟨_, rfl⟩
  rw [← hA] at Y
  have hvm : s'.vm = s.vm := by rw [hA]; rfl
  have hhp : s'.heap = H := by rw [hA]; exact hT
  have hW0 : s.WarmedH s'.vm := by rw [hvm]; exact State.WarmedH.refl s
  have hat' : ∀ w ∈ vx_atS own ic cls names, w.before args s' = true := fun w hw => vx_ot_at hW0 hvm.symm (hgood w (List.mem_cons_of_mem _ (List.mem_cons_of_mem _ hw))) (hat w hw)
  have hk' : (Cond.classLink own ik cls).before args s' = true := vx_ot_at hW0 hvm.symm (hgood _ List.mem_cons_self) hk
  have hini' : (Cond.initialized cls).before args s' = true := vx_ot_at hW0 hvm.symm (hgood _ (List.mem_cons_of_mem _ List.mem_cons_self)) hini
  have hU' : vx_Zq Bundle.tN "UNASSIGNED_STACK" Bundle.steD A s' s'.heap := by rw [hhp]; exact vx_Zq.moved hW0.alike (hU.kept hS.2.1)
  have hN' : vx_Zq Bundle.tN "SUPPRESSED_SENTINEL" Bundle.listD A s' s'.heap := by rw [hhp]; exact vx_Zq.moved hW0.alike (hN.kept hS.2.1)
  have h : ∀ w ∈ Bundle.ownAtoms own ic cls names, w.before args s' = true := vx_own hat' (vx_isRefq hU'.1) (vx_isRefq hN'.1) hU'.2.word hN'.2.word
  have hown' : s'.vm.findClass own = some m.cls := by rw [hvm]; exact hown
  have hins : (Cond.instantiable cls 6).before args s' = true := h _ (by simp [Bundle.ownAtoms])
  obtain ⟨vm₁, cX, kX, hfX, hkX, -, -, X₁, st1⟩ := Y.newCold hexec (own := own) (C := cls) (index := ik) (n := 6) hown' hk' hins hini'
    (g := F0 m pc ls rest) rfl (by rw [hb]; exact d0) (Nat.le_refl _) (Nat.le_refl _)
  generalize hT1 : (T.setVm vm₁).pushCell { cls := cX, slots := kX.instanceTypes.map defaultValue, vm := .none } = T1 at X₁ st1
  have hcat : (Value.ref T.heap.size).category = 1 := rfl
  have hcellA : T1.heap[T.heap.size]? = some (freshCell cX kX) := by rw [← hT1]; exact State.heap_pushCell_size _ _
  have d3' : decode c.code (pc + 3) = .ok (.dup, 1) := by rw [hb]; exact d3
  have d4' : decode c.code (pc + 4) = .ok (.ldc_w is, 3) := by rw [hb]; exact d4
  have hstr' : vk_R own is text sa s' := vk_R.warm hW0 hstr
  obtain ⟨U, hsteps, hrun, hend, hW, hsame, ce, hce, hO⟩ := X₁.ctorThrowS hexec htr (own := own) (cls := cls) (names := names) (ic := ic) hown' hcls hnames h (fun x hx => nomatch hx) hfX hkX hcellA (by rw [hhp, hT]; exact Nat.le_refl _) (msg := .ref sa) rfl
    (g := { method := m, pc := pc + 7, locals := ls, stack := .ref sa :: .ref T.heap.size :: .ref T.heap.size :: rest, locked := none }) rfl hsize rfl rfl (rest := rest) rfl
    (by rw [hb]; exact d7) (by rw [hb]; exact d10) hout hRframes (by simp only [List.map_cons, List.sum_cons, hcat]; omega) hlocks
  obtain ⟨f1, f2⟩ := vx_frame hsame
  rw [hhp] at f1 f2
  have hWs : s.WarmedH U.vm := State.WarmedH.trans hW0 hW
  have hcl : s.vm.findClass cls = some ce.cls := by
    have h9 := hO.cls
    rw [hvm] at h9
    exact h9
  have hall : s.sameButNew ({ U with vm := s.vm } : State) locs mc ms := by
    subst hA
    obtain ⟨e1, e2⟩ := hsame
    rw [State.setFrames_setFrames] at e1
    have h2 : (T.setVm s.vm).sameButNew ({ U with vm := s.vm } : State) [] (0 + 1) (0 + 6) := ⟨e1, e2⟩
    have h3 := X.same.trans h2
    rw [List.append_nil] at h3
    exact h3.mono hc hs
  refine ⟨U, ?_, .threw T.heap.size, hrun, hend, Or.inr ⟨T.heap.size, rfl, cls, ce, locs, hx U hWs.alike f1 (fun q hq => f2 q hq (fun z hz => nomatch hz)), hce, hO.vm, hcl, hWs, hall, hf⟩⟩
  refine st1 _ ?_
  show Steps p.tables e below (T1.setTop { method := m, pc := pc + 3, locals := ls, stack := .ref T.heap.size :: rest, locked := none }) _
  jvm_step X₁.here [X₁.here.top, hexec, d3', Value.category]
  exact X₁.ldcStringW hexec (own := own) (text := text) (index := is) (a := sa) hown' hstr'.1 hstr'.2
    (g := { method := m, pc := pc + 4, locals := ls, stack := .ref T.heap.size :: .ref T.heap.size :: rest, locked := none }) rfl d4' _ hsteps
end Ends
section Bodies
variable {l : Launch}
theorem vx_ofW {y : MethodName} {ws ws' : List Cond} {rm : Room} {Pc : Array Value → State → Prop} {Qc : Array Value → State → Outcome → State → Prop} {XC : String → State → State → Prop} {mc ms : Nat} {free : Addr → Prop} {cc : ByteArray} {maxL : Nat} {ret : Option FieldType}
    (hy : plainName y.cls = true) (hw : ws = Cond.code y cc maxL ret :: ws')
    (body : ∀ p e s m args below meth c s₁, BodyLoose p l y (headSpec ws rm) cc maxL ret e s m args below meth c s₁ → c.maxLocals = maxL → (∀ x ∈ c.exceptionTable.toList, False) → Pc args s →
      W p l e (headSpec ws rm).room s m args below meth c s.heap [] 0 0 (vx_MQ below Qc XC args s mc ms free) (entryFrame m args maxL)) : vx_Met l y ws rm Pc Qc XC mc ms free := by
  refine MetFree.of_bodyS (code := cc) (maxLocals := maxL) (ret := ret) hy ?_ ?_
  · intro args s m h hn
    obtain ⟨meth, c, h1, h2, h3, h4, h5, h6, -, -⟩ := Cond.code_spec hn (atoms_spec (ws := ws) h _ (by rw [hw]; exact List.mem_cons_self))
    exact ⟨meth, c, h1, h2, h3, h4, h5, h6⟩
  · intro p e s m args below meth c s₁ B hml hP _
    have hh0 : s₁.heap = s.heap := by rw [B.state]; rfl
    have ht : ∀ x ∈ c.exceptionTable.toList, False := by
      obtain ⟨meth9, c9, h1, h2, -, -, -, -, h7, -⟩ := Cond.code_spec B.named (atoms_spec (ws := ws) B.pre _ (by rw [hw]; exact List.mem_cons_self))
      cases Option.some.inj (h1.symm.trans B.method)
      cases Option.some.inj (h2.symm.trans (Stand.of_body B).code)
      intro x hx
      rw [Array.isEmpty_iff.mp h7] at hx
      cases hx
    obtain ⟨t, a1, o, b1, b2, b3⟩ := body p e s m args below meth c s₁ B hml ht hP s₁ hh0 (Stand.of_body B)
    exact ⟨t, o, a1, b1, b2, b3⟩
/-- the table of a body with handlers -/
theorem vx_table {p : Program} {x y : MethodName} {S : Spec} {cc bytes : ByteArray} {maxL maxL' : Nat} {ret ret' : Option FieldType} {e : Env} {s s₁ : State} {m : MethodId} {args : Array Value} {below : List Frame} {meth : Method} {c : Code} {hh : List (Nat × Nat × Nat × Nat)}
    (B : BodyLoose p l y S cc maxL ret e s m args below meth c s₁) (h : (Cond.codeWith y bytes maxL' ret' hh).before args s = true) : c.exceptionTable.toList = tableOf hh := by
  obtain ⟨m9, meth9, c9, hn9, h1, h2, -, -, h6, -⟩ := Cond.codeWith_spec h
  cases Option.some.inj (hn9.symm.trans B.named)
  cases Option.some.inj (h1.symm.trans B.method)
  cases Option.some.inj (h2.symm.trans (Stand.of_body B).code)
  rw [← h6, table_eq]
end Bodies
end VXA
/-! ===== END ===== -/
/-! ===== BEGIN a static call of a method with an exception table ===== -/
section VXS
variable {p : Program} {l : Launch} {e : Env} {R : Room} {s : State} {m : MethodId} {args : Array Value} {below : List Frame} {meth : Method} {c : Code} {T : State} {H : Heap} {locs : List Loc} {cells slots : Nat}
abbrev vx_CSW (R : Room) (s : State) (args : Array Value) (own : String) (index : Nat) (y : MethodName) (bytes : ByteArray) (maxL : Nat) (ret : Option FieldType) (hh : List (Nat × Nat × Nat × Nat)) (ws : List Cond) (rm : Room) (mc ms n : Nat) : Prop :=
  (rm.cells = mc ∧ rm.slots = ms ∧ rm.frames + 1 ≤ R.frames ∧ 8 + (maxL + 11) + rm.locals ≤ R.locals ∧ (∀ w ∈ ws, ∀ (a' : Array Value) (U : State), s.WarmedH U.vm → w.before a' U = true) ∧ Cond.codeWith y bytes maxL ret hh ∈ ws) ∧
  (Cond.codeWith y bytes maxL ret hh).before args s = true ∧ (Cond.initialized y.cls).before args s = true ∧ (y.cls ≠ "java/lang/invoke/MethodHandle" ∧ y.cls ≠ "java/lang/invoke/VarHandle") ∧
  (∀ sig, parseMethodDescriptor y.desc = some sig → n = sig.parameters.length) ∧ (Cond.methodLink own index y).before args s = true ∧ (Cond.static y).before args s = true
theorem vx_cwSW {own : String} {index maxL mc ms : Nat} {y : MethodName} {bytes : ByteArray} {ret : Option FieldType} {hh : List (Nat × Nat × Nat × Nat)} {Ts ws ws' : List Cond} {rm : Room} (n : Nat) (ht : ∀ w ∈ Ts, w.before args s = true) (hT : GoodIn Ts (va_wsS own index y ws)) (hw : ws = Cond.codeWith y bytes maxL ret hh :: ws') (hrc : rm.cells = mc) (hrs : rm.slots = ms)
    (hd : y.cls ≠ "java/lang/invoke/MethodHandle" ∧ y.cls ≠ "java/lang/invoke/VarHandle" ∧ (parseMethodDescriptor y.desc).map (fun d => d.parameters.length) = some n) (hR : rm.frames + 1 ≤ R.frames ∧ 8 + (maxL + 11) + rm.locals ≤ R.locals) :
    vx_CSW R s args own index y bytes maxL ret hh ws rm mc ms n := by
  have ok : ∀ w ∈ va_wsS own index y ws, w.before args s = true := fun w h => ht w (hT w h).1
  have hG : GoodIn Ts ws := fun w h => hT w (by unfold va_wsS; exact List.mem_append_right _ h)
  have hc : Cond.codeWith y bytes maxL ret hh ∈ ws := by rw [hw]; exact List.mem_cons_self
  refine ⟨⟨hrc, hrs, hR.1, hR.2, pay_in ht hG, hc⟩, ht _ (hG _ hc).1, ok _ (by simp [va_wsS]), ⟨hd.1, hd.2.1⟩, fun sig h => ?_, ok _ (by simp [va_wsS]), ok _ (by simp [va_wsS])⟩
  have h2 := hd.2.2
  rw [h] at h2
  exact (Option.some.inj h2).symm
theorem vx_callSW (X : Stand p l e R s m args below meth c T locs cells slots) (hexec : p.tables.exec = Jvm.exec) {own : String} {index : Nat} {y : MethodName} {bytes : ByteArray} {maxL : Nat} {ret : Option FieldType} {hh : List (Nat × Nat × Nat × Nat)}
    (hown : s.vm.findClass own = some m.cls) (hlink : (Cond.methodLink own index y).before args s = true) (hstat : (Cond.static y).before args s = true) (hinit : (Cond.initialized y.cls).before args s = true)
    (hcode : (Cond.codeWith y bytes maxL ret hh).before args s = true) (hy : y.cls ≠ "java/lang/invoke/MethodHandle" ∧ y.cls ≠ "java/lang/invoke/VarHandle")
    {W9 : Nat} {Pre : Pt → Array Value → Prop} {Post : Pt → Array Value → Option Value → Pt → Prop} (hK : Back l R p e below s args y 3 W9 Pre Post)
    {g : JFrame} (hg : g.method = m) (hsize : g.locals.size = c.maxLocals) {argsL rest : List Value} (hlen : ∀ sig, parseMethodDescriptor y.desc = some sig → argsL.length = sig.parameters.length)
    (hstack : g.stack = argsL.reverse ++ rest) (hW : 2 * g.monitorRoom + (rest.map fun v => v.category).sum ≤ W9) (hdg : decode c.code g.pc = .ok (.invokestatic index, 3))
    (hpre : ∀ vm₁, s.WarmedH vm₁ → Pre ⟨T.setVm vm₁, locs, cells, slots⟩ argsL.toArray) :
    ∃ (v : Option Value) (vm₁ : Vm) (B : Pt), s.WarmedH vm₁ ∧ Stand p l e R s m args below meth c B.U B.locs B.cells B.slots ∧ Post ⟨T.setVm vm₁, locs, cells, slots⟩ argsL.toArray v B ∧
      ∀ target, Steps p.tables e below (B.U.setTop { g with pc := g.pc + 3, stack := v.toList ++ rest }) target → Steps p.tables e below (T.setTop g) target := by
  obtain ⟨mk, methM, cM, hnamed, hmethM, -, -, -, -, -, -, hsigM⟩ := Cond.codeWith_spec hcode
  have hstatic : methM.isStatic = true := Cond.static_spec hnamed hmethM hstat
  obtain ⟨kP, hkP, -⟩ := className_of_methodNamed hnamed
  have hinitP : kP.init = .initialized := Cond.initialized_spec (findClass_of_methodNamed hnamed) hkP hinit
  obtain ⟨vm₁, X₁, hstep₁⟩ := X.invokestatic hexec hown hlink hnamed hmethM hstatic hkP hinitP hy (g := g) hg (argsL := argsL) (rest := rest) (hlen _ hsigM) hstack hdg
  obtain ⟨v, B, X', hpost, hsteps⟩ := hK m meth c ⟨T.setVm vm₁, locs, cells, slots⟩ { g with stack := rest } (.invokestatic index) mk argsL.toArray X₁ hg hsize hdg hW (X₁.named hnamed) (hpre vm₁ X₁.warmed)
  exact ⟨v, vm₁, B, X₁.warmed, X', hpost, fun target h => hstep₁ _ fun acts => by rw [doInvoke_state]; exact hsteps.trans h⟩
theorem vx_runSW {y : MethodName} {bytes cc : ByteArray} {maxL nL mc ms n index : Nat} {ret : Option FieldType} {hh : List (Nat × Nat × Nat × Nat)} {ws : List Cond} {rm : Room} {Pc : Array Value → State → Prop} {Qc : Array Value → State → Outcome → State → Prop} {free : Addr → Prop} {Ts : List Cond} {own : String} {As rest : List Value} {g : JFrame}
    (S : CallFix p m c cc nL s args Ts own) (hM : Met l y ws rm Pc Qc mc ms free) (cw : vx_CSW R s args own index y bytes maxL ret hh ws rm mc ms n) (hp : PreS s H Pc As)
    (hg : g.method = m) (hn : As.length = n) (hsize : g.locals.size = nL) (hstack : g.stack = As.reverse ++ rest) (hW : 2 * g.monitorRoom + (rest.map fun v => v.category).sum ≤ 8) (hdg : decode cc g.pc = .ok (.invokestatic index, 3)) (hf : cells + mc ≤ R.cells ∧ slots + ms ≤ R.slots) :
    va_Run p l e R s m args below meth c H locs cells slots mc ms g rest (Qc As.toArray) (free) := by
  obtain ⟨⟨hrc, hrs, hfr, hlo, hws, hcw⟩, hcode, hini, hy, hlen, hl, hstt⟩ := cw
  have hK : Back l R p e below s args y 3 8 (PreOf R mc ms Pc) (PostOf Qc mc ms free) := va_backW (hh := hh) (bytes := bytes) (maxL := maxL) (ret := ret) hM hp.1 hrc hrs hfr hlo hws hcw (fun a' U hW => word_at hW (Or.inl (by first | rfl | simp [Cond.onTables, Cond.keeps, Cond.steady])) hini)
  obtain ⟨hx, hb, hml, ho, -⟩ := S
  intro T hT X
  obtain ⟨v, vm₁, ⟨U', l2, c2, s2⟩, hW₁, X', ⟨g', mk, t, L, e1, e2, hq, h1, hL, h2, h3⟩, st⟩ := vx_callSW X hx (hh := hh) (bytes := bytes) (maxL := maxL) (ret := ret) ho hl hstt hini hcode hy hK hg (hsize.trans hml.symm) (argsL := As) (rest := rest) (fun sig h => hn.trans (hlen sig h)) hstack hW (by rw [hb]; exact hdg)
    (fun vm₁ hW₁ => ⟨hf.1, hf.2, hp.2 (T.setVm vm₁) hT hW₁⟩)
  dsimp only [Pt.U, Pt.locs, Pt.cells, Pt.slots] at X' e1 e2 h1 h2 h3 st
  subst h1; subst h2; subst h3
  exact ⟨v, (T.setVm vm₁).calling g' mk As.toArray, t, U', L, hT, X', hL, e1, e2, hq, st⟩
/-- not caught here, past rows that name other classes: it goes on to the caller -/
theorem vx_outP {p : Program} {l : Launch} {e : Env} {R : Room} {s : State} {m : MethodId} {args : Array Value} {below : List Frame} {meth : Method} {c : Code} {H : Heap} {locs : List Loc} {cells slots : Nat} {free : Addr → Prop} {ls : Array Slot} {rest : List Value} {Qc : Array Value → State → Outcome → State → Prop} {XC : String → State → State → Prop}
    {pc : Nat} {own E : String} {ce : Cell} {q : Addr} {mc ms : Nat} (hown : s.vm.findClass own = some m.cls) (hlocks : meth.locks = false)
    (hpass : ∀ z ∈ c.exceptionTable.toList, covers z pc = false ∨ (z.catchType ≠ 0 ∧ ∃ nm : String, (Cond.classLink own z.catchType nm).before args s = true ∧ va_Nc E nm s)) (hcell : H[q]? = some ce) (hv : ce.vm = .none) (hcl : s.vm.findClass E = some ce.cls)
    (hx : ∀ t : State, t.heap = H → s.vm.Alike t.vm → XC E s t) (hf : ∀ z ∈ locs, free z.base) (hc : cells ≤ mc) (hs : slots ≤ ms) :
    vx_W p l e R s m args below meth c H locs cells slots (vx_MQ below Qc XC args s mc ms free) (F0 m pc ls rest) q := by
  intro T hT X
  have hpl : e.platform.magicAccessors = ({} : Platform).magicAccessors := by rw [X.admits.platform]
  obtain ⟨vm', hW', X', st⟩ := X.outThrough hlocks q (g := F0 m pc ls rest) rfl rfl rfl (cell := ce) (by rw [hT]; exact hcell) (by rw [hv]; rfl)
    (by obtain ⟨k9, h9, -⟩ := Vm.findClass_spec hcl; exact ⟨k9, h9⟩) (fun z hz => by
      rcases hpass z hz with h | ⟨hz0, nm, hl1, hn1⟩
      · exact Or.inl h
      · obtain ⟨c6, hc6, hcl6⟩ := Cond.classLink_spec hown hl1 e.platform hpl
        obtain ⟨a8, b8, h1, h2, h3⟩ := hn1
        cases Option.some.inj (h1.symm.trans hcl)
        cases Option.some.inj (h2.symm.trans hc6)
        exact Or.inr ⟨hz0, _, hcl6, h3⟩)
  obtain ⟨g₀, hfr⟩ := X'.frames_eq
  have hcell9 : ((T.setVm vm').setFrames (.throwing q :: below)).heap[q]? = some ce := by
    show T.heap[q]? = some ce
    rw [hT]; exact hcell
  have hend : Ended ((T.setVm vm').setFrames (.throwing q :: below)) below (.threw q) := State.frames_setFrames _ (State.cur_lt_of_frames hfr)
  refine ⟨(T.setVm vm').setFrames (.throwing q :: below), ?_, .threw q, X'.here.running, hend, Or.inr ⟨q, rfl, E, ce, locs, hx _ hT (X'.ends _).1.alike, hcell9, hv, hcl, (X'.ends _).1, (X'.ends _).2.mono hc hs, hf⟩⟩
  rw [X.pushThrowing_eq]
  exact st
/-- a thing of a world lies in the heap -/
theorem vx_lt {D : va_G} {cl : List vw_C} {ws : va_W} {H1 : Heap} (h : va_P D cl ws H1) {k : Nat} {q : Nat × va_E} (hk : ws[k]? = some q) : q.1 < H1.size := (h k q hk).lt
end VXS
/-! ===== END ===== -/
/-! ===== BEGIN methods with a table of their own: called by a name, returning or throwing ===== -/
section VXH
/-! vx_backW, vx_callVX, vx_callSX, vx_callVW, vx_runVW, vx_runVX, vx_runSX, vx_ofWH follow the same proofs as their sisters above (Free/Laws.lean, Shelf42/LK1.lean); vx_outP calls Shelf42/NT130.lean (outThrough). -/
section
variable {l : Launch} {R : Room} {p : Program} {e : Env} {below : List Frame} {s : State} {sargs : Array Value} {y : MethodName} {len W9 : Nat}
theorem vx_backW {ws : List Cond} {rm : Room} {Pc : Array Value → State → Prop} {Qc : Array Value → State → Outcome → State → Prop} {XC : String → State → State → Prop} {mc ms : Nat} {free : Addr → Prop} {bytes : ByteArray} {maxL : Nat} {ret : Option FieldType} {hh : List (Nat × Nat × Nat × Nat)}
    (hM : vx_Met l y ws rm Pc Qc XC mc ms free) (hblind : FrameBlind Pc) (hrc : rm.cells = mc) (hrs : rm.slots = ms)
    (hframes : rm.frames + 1 ≤ R.frames) (hlocals : W9 + (maxL + 11) + rm.locals ≤ R.locals)
    (hws : ∀ w ∈ ws, ∀ a' U, s.WarmedH U.vm → w.before a' U = true) (hcode : Cond.codeWith y bytes maxL ret hh ∈ ws) (hinit : ∀ a' U, s.WarmedH U.vm → (Cond.initialized y.cls).before a' U = true) :
    vx_Back l R p e below s sargs y len W9 (PreOf R mc ms Pc) (PostOf Qc mc ms free) (vx_Post XC mc ms free) := by
  intro m meth c A g ig mk a X hg hsize hdg hW hn hp
  have h1 : (headSpec ws rm).pre.before a A.U = true := atoms_intro fun w hw => hws w hw _ _ X.warmed
  have h2 : (Cond.codeWith y bytes maxL ret hh).before a A.U = true := hws _ hcode _ _ X.warmed
  have h3 : (Cond.initialized y.cls).before a A.U = true := hinit _ _ X.warmed
  have h4 : A.cells + (headSpec ws rm).room.cells ≤ R.cells := by rw [show (headSpec ws rm).room.cells = mc from hrc]; exact hp.1
  have h5 : A.slots + (headSpec ws rm).room.slots ≤ R.slots := by rw [show (headSpec ws rm).room.slots = ms from hrs]; exact hp.2.1
  have hPc : Pc a (A.U.calling g mk a) := hblind _ _ _ _ hp.2.2
  obtain ⟨U, Ls, c0, s0⟩ := A
  dsimp only [Pt.U, Pt.locs, Pt.cells, Pt.slots] at h1 h2 h3 h4 h5 X hn hPc ⊢
  obtain ⟨m9, methY, cY, hn9, hmY, hcY, -, hlY, -⟩ := Cond.codeWith_spec h2
  cases Option.some.inj (hn9.symm.trans hn)
  obtain ⟨kY, hkY, -⟩ := className_of_methodNamed hn
  have hinitY : kY.init = .initialized := Cond.initialized_spec (findClass_of_methodNamed hn) hkY h3
  have h : At U g.method c below := by rw [hg]; exact X.here
  have hlocals9 : W9 + (maxL + 11) + (headSpec ws rm).room.locals ≤ R.locals := hlocals
  have happ : (headSpec ws rm).appliesLoose y e.platform (U.calling g mk a) = true :=
    Spec.appliesLoose_calling (g := g) h hdg hn hkY hinitY
      (X.room_calling (g := g) (R' := (headSpec ws rm).room) hsize hmY hcY hframes (by rw [hlY]; omega) h4 h5) h1
  obtain ⟨mid, hmid⟩ := h.above
  have hfr : (U.setTop g).frames = (.java g :: mid) ++ below := by rw [State.frames_setTop' g h.top, hmid]; rfl
  obtain ⟨o, s₂, hsteps, -, hend, hq⟩ := Steps.callFree hM p X.admits X.cas X.clock (acts := []) hfr happ hPc trivial
  have hq' : vx_Q Qc XC mc ms free a (U.calling g mk a) o s₂ := hq
  rw [State.frames_setTop' g h.top] at hend
  obtain ⟨g₀, hg0⟩ := Option.isSome_iff_exists.mp h.top
  obtain ⟨r, hr⟩ := State.topJava?_eq_some.mp hg0
  have hr' : (({ U with heap := s₂.heap, slotsUsed := s₂.slotsUsed } : State).setVm s₂.vm).frames = .java g₀ :: r := hr
  rcases hq' with ⟨hqc, L, hfe, hL⟩ | ⟨q, rfl, E, ce, L, hx, hce, hcv, hcl, hW₂, hsm, hL⟩
  · obtain ⟨⟨v, rfl⟩, hW₂, e2, q2, q3, q4, q5, q6⟩ := id hfe
    have e3 : s₂ = ({ (U.calling g mk a).setFrames s₂.frames with heap := s₂.heap, slotsUsed := s₂.slotsUsed } : State).setVm s₂.vm := by
      have : s₂ = ({ s₂ with vm := (U.calling g mk a).vm } : State).setVm s₂.vm := rfl
      rw [e2] at this
      exact this
    obtain ⟨c₂, i₂, len₂, hc₂, hd₂, hf₂⟩ := hend
    have hW' : U.WarmedH s₂.vm := hW₂
    have hcc : c₂ = c := by
      have h1 : s₂.code? g.method = U.code? g.method := by
        rw [State.code?_eq, State.code?_eq, hW'.alike.method?]
      exact Option.some.inj (hc₂.symm.trans (h1.trans h.code))
    subst hcc
    have hlen : len₂ = len := by rw [hdg] at hd₂; cases hd₂; rfl
    subst hlen
    have hs₂ : s₂ = (({ U with heap := s₂.heap, slotsUsed := s₂.slotsUsed } : State).setVm s₂.vm).setTop { g with pc := g.pc + len₂, stack := v.toList ++ g.stack } := by
      refine e3.trans ?_
      rw [hf₂, State.calling_eq h.top, State.setFrames_setFrames, State.setTop_of_frames _ hr', hr]
      rfl
    have hsame : U.sameButNew ({ U with heap := s₂.heap, slotsUsed := s₂.slotsUsed } : State) L mc ms := by
      refine ⟨?_, q2, q3, q4, q5, q6⟩
      obtain ⟨t, ht, -⟩ := State.frames_cons hr
      show ({ U with heap := s₂.heap, slotsUsed := s₂.slotsUsed } : State) = { U.setFrames U.frames with heap := s₂.heap, slotsUsed := s₂.slotsUsed }
      rw [State.setFrames_self ht]
    subst hg
    refine Or.inl ⟨v, ⟨(({ U with heap := s₂.heap, slotsUsed := s₂.slotsUsed } : State).setVm s₂.vm), Ls ++ L, c0 + mc, s0 + ms⟩,
      ⟨X.admits, X.cas, X.clock, X.frames, X.room, X.hears, X.method, X.code, (X.here.setHeapUsed s₂.heap s₂.slotsUsed).setVm hW'.alike, X.tail, State.WarmedH.trans X.warmed hW', X.limits, X.bytes, X.same.trans (hsame.setVm s.vm)⟩,
      ⟨g, mk, s₂, L, rfl, rfl, hqc, rfl, hL, rfl, rfl⟩, ?_⟩
    show Steps p.tables e below _ ((({ U with heap := s₂.heap, slotsUsed := s₂.slotsUsed } : State).setVm s₂.vm).setTop { g with pc := g.pc + len₂, stack := v.toList ++ g.stack })
    rw [← hs₂]
    exact hsteps
  · obtain ⟨e2, q2, q3, q4, q5, q6⟩ := id hsm
    have e3 : s₂ = ({ (U.calling g mk a).setFrames s₂.frames with heap := s₂.heap, slotsUsed := s₂.slotsUsed } : State).setVm s₂.vm := by
      have : s₂ = ({ s₂ with vm := (U.calling g mk a).vm } : State).setVm s₂.vm := rfl
      rw [e2] at this
      exact this
    have hf₂ : s₂.frames = .throwing q :: .java g :: U.frames.tail := hend
    have hW' : U.WarmedH s₂.vm := hW₂
    have hs₂ : s₂ = ((({ U with heap := s₂.heap, slotsUsed := s₂.slotsUsed } : State).setVm s₂.vm).setTop g).pushFrame (.throwing q) := by
      refine e3.trans ?_
      rw [hf₂, State.calling_eq h.top, State.setFrames_setFrames, State.pushFrame, State.frames_setTop _ hr', State.setTop_of_frames _ hr', State.setFrames_setFrames, hr]
      rfl
    have hsame : U.sameButNew ({ U with heap := s₂.heap, slotsUsed := s₂.slotsUsed } : State) L mc ms := by
      refine ⟨?_, q2, q3, q4, q5, q6⟩
      obtain ⟨t, ht, -⟩ := State.frames_cons hr
      show ({ U with heap := s₂.heap, slotsUsed := s₂.slotsUsed } : State) = { U.setFrames U.frames with heap := s₂.heap, slotsUsed := s₂.slotsUsed }
      rw [State.setFrames_self ht]
    subst hg
    refine Or.inr ⟨q, ⟨(({ U with heap := s₂.heap, slotsUsed := s₂.slotsUsed } : State).setVm s₂.vm), Ls ++ L, c0 + mc, s0 + ms⟩,
      ⟨X.admits, X.cas, X.clock, X.frames, X.room, X.hears, X.method, X.code, (X.here.setHeapUsed s₂.heap s₂.slotsUsed).setVm hW'.alike, X.tail, State.WarmedH.trans X.warmed hW', X.limits, X.bytes, X.same.trans (hsame.setVm s.vm)⟩,
      ⟨g, mk, s₂, L, E, ce, rfl, rfl, hx, hce, hcv, hcl, rfl, hL, rfl, rfl⟩, ?_⟩
    show Steps p.tables e below _ (((({ U with heap := s₂.heap, slotsUsed := s₂.slotsUsed } : State).setVm s₂.vm).setTop g).pushFrame (.throwing q))
    rw [← hs₂]
    exact hsteps
end
variable {p : Program} {l : Launch} {e : Env} {R : Room} {s : State} {m : MethodId} {args : Array Value} {below : List Frame} {meth : Method} {c : Code} {T : State} {H : Heap} {locs : List Loc} {cells slots : Nat}
theorem vx_callVX (X : Stand p l e R s m args below meth c T locs cells slots) (hexec : p.tables.exec = Jvm.exec) {own C : String} {index : Nat} {y : MethodName} {bytes : ByteArray} {maxL : Nat} {ret : Option FieldType} {hh : List (Nat × Nat × Nat × Nat)}
    (hown : s.vm.findClass own = some m.cls) (hlink : (Cond.methodLink own index y).before args s = true) (hinst : (Cond.instanceMethod y).before args s = true) (hsel : (Cond.selects C y y).before args s = true)
    (hcode : (Cond.codeWith y bytes maxL ret hh).before args s = true) (hy : y.cls ≠ "java/lang/invoke/MethodHandle" ∧ y.cls ≠ "java/lang/invoke/VarHandle")
    {W9 : Nat} {Pre : Pt → Array Value → Prop} {Post : Pt → Array Value → Option Value → Pt → Prop} {PostX : Pt → Array Value → Addr → Pt → Prop} (hK : vx_Back l R p e below s args y 3 W9 Pre Post PostX)
    {b : Addr} {cellB : Cell} (hcell : T.heap[b]? = some cellB) (hobj : cellB.vm.isStatics = false) (hcls : s.vm.findClass C = some cellB.cls)
    {g : JFrame} (hg : g.method = m) (hsize : g.locals.size = c.maxLocals) {argsL rest : List Value} (hlen : ∀ sig, parseMethodDescriptor y.desc = some sig → argsL.length = sig.parameters.length)
    (hstack : g.stack = argsL.reverse ++ .ref b :: rest) (hW : 2 * g.monitorRoom + (rest.map fun v => v.category).sum ≤ W9) (hdg : decode c.code g.pc = .ok (.invokevirtual index, 3))
    (hpre : ∀ vm₁, s.WarmedH vm₁ → Pre ⟨T.setVm vm₁, locs, cells, slots⟩ (Value.ref b :: argsL).toArray) :
    (∃ (v : Option Value) (vm₁ : Vm) (B : Pt), s.WarmedH vm₁ ∧ Stand p l e R s m args below meth c B.U B.locs B.cells B.slots ∧ Post ⟨T.setVm vm₁, locs, cells, slots⟩ (Value.ref b :: argsL).toArray v B ∧
      ∀ target, Steps p.tables e below (B.U.setTop { g with pc := g.pc + 3, stack := v.toList ++ rest }) target → Steps p.tables e below (T.setTop g) target) ∨
    (∃ (q : Addr) (vm₁ : Vm) (B : Pt), s.WarmedH vm₁ ∧ Stand p l e R s m args below meth c B.U B.locs B.cells B.slots ∧ PostX ⟨T.setVm vm₁, locs, cells, slots⟩ (Value.ref b :: argsL).toArray q B ∧
      Steps p.tables e below (T.setTop g) ((B.U.setTop { g with stack := rest }).pushFrame (.throwing q))) := by
  obtain ⟨mk, methM, hnamed, hmethM, hstM, habM⟩ := Cond.instanceMethod_spec hinst
  obtain ⟨m8, methM', cM, hn8, hmethM', -, -, -, -, -, -, hsigM⟩ := Cond.codeWith_spec hcode
  cases Option.some.inj (hn8.symm.trans hnamed)
  cases hmethM.symm.trans hmethM'
  obtain ⟨c2, r2, m2, q1, q2, q3, q4, kP, hkP, hkPi⟩ := Cond.selects_spec hsel
  cases hcls.symm.trans q1
  cases (State.methodFound?_of_named hnamed hy).symm.trans q2
  cases hnamed.symm.trans q3
  have hselP : selectMethod e.platform s.vm cellB.cls mk = .method mk := by rw [Launch.admits_selectMethod X.admits]; exact q4
  obtain ⟨vm₁, X₁, hstep₁⟩ := X.invokevirtual hexec hown hlink hnamed hmethM hstM hkP hkPi hy (a := b) (cell := cellB) hcell
    (fun z h => by rw [h] at hobj; cases hobj) hselP hmethM habM hkP hkPi (g := g) hg (argsL := argsL) (rest := rest) (hlen _ hsigM) hstack hdg
  rcases hK m meth c ⟨T.setVm vm₁, locs, cells, slots⟩ { g with stack := rest } (.invokevirtual index) mk (Value.ref b :: argsL).toArray X₁ hg hsize hdg hW (X₁.named hnamed) (hpre vm₁ X₁.warmed) with ⟨v, B, X', hpost, hsteps⟩ | ⟨q, B, X', hpost, hsteps⟩
  · exact Or.inl ⟨v, vm₁, B, X₁.warmed, X', hpost, fun target h => hstep₁ _ fun acts => by rw [doInvoke_state]; exact hsteps.trans h⟩
  · exact Or.inr ⟨q, vm₁, B, X₁.warmed, X', hpost, hstep₁ _ fun acts => by rw [doInvoke_state]; exact hsteps⟩
theorem vx_callSX (X : Stand p l e R s m args below meth c T locs cells slots) (hexec : p.tables.exec = Jvm.exec) {own : String} {index : Nat} {y : MethodName} {bytes : ByteArray} {maxL : Nat} {ret : Option FieldType} {hh : List (Nat × Nat × Nat × Nat)}
    (hown : s.vm.findClass own = some m.cls) (hlink : (Cond.methodLink own index y).before args s = true) (hstat : (Cond.static y).before args s = true) (hinit : (Cond.initialized y.cls).before args s = true)
    (hcode : (Cond.codeWith y bytes maxL ret hh).before args s = true) (hy : y.cls ≠ "java/lang/invoke/MethodHandle" ∧ y.cls ≠ "java/lang/invoke/VarHandle")
    {W9 : Nat} {Pre : Pt → Array Value → Prop} {Post : Pt → Array Value → Option Value → Pt → Prop} {PostX : Pt → Array Value → Addr → Pt → Prop} (hK : vx_Back l R p e below s args y 3 W9 Pre Post PostX)
    {g : JFrame} (hg : g.method = m) (hsize : g.locals.size = c.maxLocals) {argsL rest : List Value} (hlen : ∀ sig, parseMethodDescriptor y.desc = some sig → argsL.length = sig.parameters.length)
    (hstack : g.stack = argsL.reverse ++ rest) (hW : 2 * g.monitorRoom + (rest.map fun v => v.category).sum ≤ W9) (hdg : decode c.code g.pc = .ok (.invokestatic index, 3))
    (hpre : ∀ vm₁, s.WarmedH vm₁ → Pre ⟨T.setVm vm₁, locs, cells, slots⟩ argsL.toArray) :
    (∃ (v : Option Value) (vm₁ : Vm) (B : Pt), s.WarmedH vm₁ ∧ Stand p l e R s m args below meth c B.U B.locs B.cells B.slots ∧ Post ⟨T.setVm vm₁, locs, cells, slots⟩ argsL.toArray v B ∧
      ∀ target, Steps p.tables e below (B.U.setTop { g with pc := g.pc + 3, stack := v.toList ++ rest }) target → Steps p.tables e below (T.setTop g) target) ∨
    (∃ (q : Addr) (vm₁ : Vm) (B : Pt), s.WarmedH vm₁ ∧ Stand p l e R s m args below meth c B.U B.locs B.cells B.slots ∧ PostX ⟨T.setVm vm₁, locs, cells, slots⟩ argsL.toArray q B ∧
      Steps p.tables e below (T.setTop g) ((B.U.setTop { g with stack := rest }).pushFrame (.throwing q))) := by
  obtain ⟨mk, methM, cM, hnamed, hmethM, -, -, -, -, -, -, hsigM⟩ := Cond.codeWith_spec hcode
  have hstatic : methM.isStatic = true := Cond.static_spec hnamed hmethM hstat
  obtain ⟨kP, hkP, -⟩ := className_of_methodNamed hnamed
  have hinitP : kP.init = .initialized := Cond.initialized_spec (findClass_of_methodNamed hnamed) hkP hinit
  obtain ⟨vm₁, X₁, hstep₁⟩ := X.invokestatic hexec hown hlink hnamed hmethM hstatic hkP hinitP hy (g := g) hg (argsL := argsL) (rest := rest) (hlen _ hsigM) hstack hdg
  rcases hK m meth c ⟨T.setVm vm₁, locs, cells, slots⟩ { g with stack := rest } (.invokestatic index) mk argsL.toArray X₁ hg hsize hdg hW (X₁.named hnamed) (hpre vm₁ X₁.warmed) with ⟨v, B, X', hpost, hsteps⟩ | ⟨q, B, X', hpost, hsteps⟩
  · exact Or.inl ⟨v, vm₁, B, X₁.warmed, X', hpost, fun target h => hstep₁ _ fun acts => by rw [doInvoke_state]; exact hsteps.trans h⟩
  · exact Or.inr ⟨q, vm₁, B, X₁.warmed, X', hpost, hstep₁ _ fun acts => by rw [doInvoke_state]; exact hsteps⟩
theorem vx_callVW (X : Stand p l e R s m args below meth c T locs cells slots) (hexec : p.tables.exec = Jvm.exec) {own C : String} {index : Nat} {y : MethodName} {bytes : ByteArray} {maxL : Nat} {ret : Option FieldType} {hh : List (Nat × Nat × Nat × Nat)}
    (hown : s.vm.findClass own = some m.cls) (hlink : (Cond.methodLink own index y).before args s = true) (hinst : (Cond.instanceMethod y).before args s = true) (hsel : (Cond.selects C y y).before args s = true)
    (hcode : (Cond.codeWith y bytes maxL ret hh).before args s = true) (hy : y.cls ≠ "java/lang/invoke/MethodHandle" ∧ y.cls ≠ "java/lang/invoke/VarHandle")
    {W9 : Nat} {Pre : Pt → Array Value → Prop} {Post : Pt → Array Value → Option Value → Pt → Prop} (hK : Back l R p e below s args y 3 W9 Pre Post)
    {b : Addr} {cellB : Cell} (hcell : T.heap[b]? = some cellB) (hobj : cellB.vm.isStatics = false) (hcls : s.vm.findClass C = some cellB.cls)
    {g : JFrame} (hg : g.method = m) (hsize : g.locals.size = c.maxLocals) {argsL rest : List Value} (hlen : ∀ sig, parseMethodDescriptor y.desc = some sig → argsL.length = sig.parameters.length)
    (hstack : g.stack = argsL.reverse ++ .ref b :: rest) (hW : 2 * g.monitorRoom + (rest.map fun v => v.category).sum ≤ W9) (hdg : decode c.code g.pc = .ok (.invokevirtual index, 3))
    (hpre : ∀ vm₁, s.WarmedH vm₁ → Pre ⟨T.setVm vm₁, locs, cells, slots⟩ (Value.ref b :: argsL).toArray) :
    ∃ (v : Option Value) (vm₁ : Vm) (B : Pt), s.WarmedH vm₁ ∧ Stand p l e R s m args below meth c B.U B.locs B.cells B.slots ∧ Post ⟨T.setVm vm₁, locs, cells, slots⟩ (Value.ref b :: argsL).toArray v B ∧
      ∀ target, Steps p.tables e below (B.U.setTop { g with pc := g.pc + 3, stack := v.toList ++ rest }) target → Steps p.tables e below (T.setTop g) target := by
  obtain ⟨mk, methM, hnamed, hmethM, hstM, habM⟩ := Cond.instanceMethod_spec hinst
  obtain ⟨m8, methM', cM, hn8, hmethM', -, -, -, -, -, -, hsigM⟩ := Cond.codeWith_spec hcode
  cases Option.some.inj (hn8.symm.trans hnamed)
  cases hmethM.symm.trans hmethM'
  obtain ⟨c2, r2, m2, q1, q2, q3, q4, kP, hkP, hkPi⟩ := Cond.selects_spec hsel
  cases hcls.symm.trans q1
  cases (State.methodFound?_of_named hnamed hy).symm.trans q2
  cases hnamed.symm.trans q3
  have hselP : selectMethod e.platform s.vm cellB.cls mk = .method mk := by rw [Launch.admits_selectMethod X.admits]; exact q4
  obtain ⟨vm₁, X₁, hstep₁⟩ := X.invokevirtual hexec hown hlink hnamed hmethM hstM hkP hkPi hy (a := b) (cell := cellB) hcell
    (fun z h => by rw [h] at hobj; cases hobj) hselP hmethM habM hkP hkPi (g := g) hg (argsL := argsL) (rest := rest) (hlen _ hsigM) hstack hdg
  obtain ⟨v, B, X', hpost, hsteps⟩ := hK m meth c ⟨T.setVm vm₁, locs, cells, slots⟩ { g with stack := rest } (.invokevirtual index) mk (Value.ref b :: argsL).toArray X₁ hg hsize hdg hW (X₁.named hnamed) (hpre vm₁ X₁.warmed)
  exact ⟨v, vm₁, B, X₁.warmed, X', hpost, fun target h => hstep₁ _ fun acts => by rw [doInvoke_state]; exact hsteps.trans h⟩
abbrev vx_CVW (R : Room) (s : State) (args : Array Value) (own C : String) (index : Nat) (y : MethodName) (bytes : ByteArray) (maxL : Nat) (ret : Option FieldType) (hh : List (Nat × Nat × Nat × Nat)) (ws : List Cond) (rm : Room) (mc ms n : Nat) : Prop :=
  (rm.cells = mc ∧ rm.slots = ms ∧ rm.frames + 1 ≤ R.frames ∧ 8 + (maxL + 11) + rm.locals ≤ R.locals ∧ (∀ w ∈ ws, ∀ (a' : Array Value) (U : State), s.WarmedH U.vm → w.before a' U = true) ∧ Cond.codeWith y bytes maxL ret hh ∈ ws) ∧
  (Cond.codeWith y bytes maxL ret hh).before args s = true ∧ (Cond.initialized y.cls).before args s = true ∧ (y.cls ≠ "java/lang/invoke/MethodHandle" ∧ y.cls ≠ "java/lang/invoke/VarHandle") ∧
  (∀ sig, parseMethodDescriptor y.desc = some sig → n = sig.parameters.length) ∧ (Cond.methodLink own index y).before args s = true ∧ (Cond.instanceMethod y).before args s = true ∧ (Cond.selects C y y).before args s = true
theorem vx_cwVW {own C : String} {index maxL mc ms : Nat} {y : MethodName} {bytes : ByteArray} {ret : Option FieldType} {hh : List (Nat × Nat × Nat × Nat)} {Ts ws ws' : List Cond} {rm : Room} (n : Nat) (ht : ∀ w ∈ Ts, w.before args s = true) (hT : GoodIn Ts (wsV own index C y ws)) (hw : ws = Cond.codeWith y bytes maxL ret hh :: ws') (hrc : rm.cells = mc) (hrs : rm.slots = ms)
    (hd : y.cls = C ∧ y.cls ≠ "java/lang/invoke/MethodHandle" ∧ y.cls ≠ "java/lang/invoke/VarHandle" ∧ (parseMethodDescriptor y.desc).map (fun d => d.parameters.length) = some n) (hR : rm.frames + 1 ≤ R.frames ∧ 8 + (maxL + 11) + rm.locals ≤ R.locals) :
    vx_CVW R s args own C index y bytes maxL ret hh ws rm mc ms n := by
  obtain ⟨hC, hd⟩ := hd
  subst hC
  have ok : ∀ w ∈ wsV own index y.cls y ws, w.before args s = true := fun w h => ht w (hT w h).1
  have hG : GoodIn Ts ws := fun w h => hT w (by unfold wsV; exact List.mem_append_right _ h)
  have hc : Cond.codeWith y bytes maxL ret hh ∈ ws := by rw [hw]; exact List.mem_cons_self
  refine ⟨⟨hrc, hrs, hR.1, hR.2, pay_in ht hG, hc⟩, ht _ (hG _ hc).1, ok _ (by simp [wsV]), ⟨hd.1, hd.2.1⟩, fun sig h => ?_, ok _ (by simp [wsV]), ok _ (by simp [wsV]), ok _ (by simp [wsV])⟩
  have h2 := hd.2.2
  rw [h] at h2
  exact (Option.some.inj h2).symm
theorem vx_runVW {y : MethodName} {bytes cc : ByteArray} {maxL nL mc ms n index : Nat} {ret : Option FieldType} {hh : List (Nat × Nat × Nat × Nat)} {ws : List Cond} {rm : Room} {Pc : Array Value → State → Prop} {Qc : Array Value → State → Outcome → State → Prop} {free : Addr → Prop} {Ts : List Cond} {own C : String} {b : Addr} {As rest : List Value} {g : JFrame}
    (S : CallFix p m c cc nL s args Ts own) (hM : Met l y ws rm Pc Qc mc ms free) (cw : vx_CVW R s args own C index y bytes maxL ret hh ws rm mc ms n) (hp : PreV s H C b Pc As)
    (hg : g.method = m) (hn : As.length = n) (hsize : g.locals.size = nL) (hstack : g.stack = As.reverse ++ .ref b :: rest) (hW : 2 * g.monitorRoom + (rest.map fun v => v.category).sum ≤ 8) (hdg : decode cc g.pc = .ok (.invokevirtual index, 3)) (hf : cells + mc ≤ R.cells ∧ slots + ms ≤ R.slots) :
    va_Run p l e R s m args below meth c H locs cells slots mc ms g rest (Qc (Value.ref b :: As).toArray) free := by
  obtain ⟨⟨hrc, hrs, hfr, hlo, hws, hcw⟩, hcode, hini, hy, hlen, hl, hin, hse⟩ := cw
  have hK : Back l R p e below s args y 3 8 (PreOf R mc ms Pc) (PostOf Qc mc ms free) := va_backW (hh := hh) (bytes := bytes) (maxL := maxL) (ret := ret) hM hp.1 hrc hrs hfr hlo hws hcw (fun a' U hW => word_at hW (Or.inl (by first | rfl | simp [Cond.onTables, Cond.keeps, Cond.steady])) hini)
  obtain ⟨hx, hb, hml, ho, -⟩ := S
  obtain ⟨-, ⟨cellB, hcB, hoB, hclB⟩, hPc⟩ := hp
  intro T hT X
  obtain ⟨v, vm₁, ⟨U', l2, c2, s2⟩, hW₁, X', ⟨g', mk, t, L, e1, e2, hq, h1, hL, h2, h3⟩, st⟩ := vx_callVW X hx (C := C) (hh := hh) (bytes := bytes) (maxL := maxL) (ret := ret) ho hl hin hse hcode hy hK (by rw [hT]; exact hcB) hoB hclB hg (hsize.trans hml.symm) (argsL := As) (rest := rest) (fun sig h => hn.trans (hlen sig h)) hstack hW (by rw [hb]; exact hdg)
    (fun vm₁ hW₁ => ⟨hf.1, hf.2, hPc (T.setVm vm₁) hT hW₁⟩)
  dsimp only [Pt.U, Pt.locs, Pt.cells, Pt.slots] at X' e1 e2 h1 h2 h3 st
  subst h1; subst h2; subst h3
  exact ⟨v, (T.setVm vm₁).calling g' mk (Value.ref b :: As).toArray, t, U', L, hT, X', hL, e1, e2, hq, st⟩
section
variable {y : MethodName} {bytes cc : ByteArray} {maxL nL mc ms n index : Nat} {ret : Option FieldType} {ws : List Cond} {rm : Room} {Pc : Array Value → State → Prop} {Qc : Array Value → State → Outcome → State → Prop} {XC : String → State → State → Prop} {free : Addr → Prop} {Ts : List Cond} {own C : String} {b : Addr} {As rest : List Value} {g : JFrame}
theorem vx_runVX {hh : List (Nat × Nat × Nat × Nat)} (S : CallFix p m c cc nL s args Ts own) (hM : vx_Met l y ws rm Pc Qc XC mc ms free) (cw : vx_CVW R s args own C index y bytes maxL ret hh ws rm mc ms n) (hp : PreV s H C b Pc As)
    (hg : g.method = m) (hn : As.length = n) (hsize : g.locals.size = nL) (hstack : g.stack = As.reverse ++ .ref b :: rest) (hW : 2 * g.monitorRoom + (rest.map fun v => v.category).sum ≤ 8) (hdg : decode cc g.pc = .ok (.invokevirtual index, 3)) (hf : cells + mc ≤ R.cells ∧ slots + ms ≤ R.slots) :
    vx_Run p l e R s m args below meth c H locs cells slots mc ms g rest (Qc (Value.ref b :: As).toArray) XC free := by
  obtain ⟨⟨hrc, hrs, hfr, hlo, hws, hcw⟩, hcode, hini, hy, hlen, hl, hin, hse⟩ := cw
  have hK : vx_Back l R p e below s args y 3 8 (PreOf R mc ms Pc) (PostOf Qc mc ms free) (vx_Post XC mc ms free) := vx_backW (hh := hh) (bytes := bytes) (maxL := maxL) (ret := ret) hM hp.1 hrc hrs hfr hlo hws hcw (fun a' U hW => word_at hW (Or.inl (by first | rfl | simp [Cond.onTables, Cond.keeps, Cond.steady])) hini)
  obtain ⟨hx, hb, hml, ho, -⟩ := S
  obtain ⟨-, ⟨cellB, hcB, hoB, hclB⟩, hPc⟩ := hp
  intro T hT X
  rcases vx_callVX X hx (C := C) (hh := hh) (bytes := bytes) (maxL := maxL) (ret := ret) ho hl hin hse hcode hy hK (by rw [hT]; exact hcB) hoB hclB hg (hsize.trans hml.symm) (argsL := As) (rest := rest) (fun sig h => hn.trans (hlen sig h)) hstack hW (by rw [hb]; exact hdg)
    (fun vm₁ hW₁ => ⟨hf.1, hf.2, hPc (T.setVm vm₁) hT hW₁⟩) with ⟨v, vm₁, ⟨U', l2, c2, s2⟩, hW₁, X', ⟨g', mk, t, L, e1, e2, hq, h1, hL, h2, h3⟩, st⟩ | ⟨q, vm₁, ⟨U', l2, c2, s2⟩, hW₁, X', ⟨g', mk, t, L, E, ce, e1, e2, hq, hce, hcv, hcl, h1, hL, h2, h3⟩, st⟩
  · dsimp only [Pt.U, Pt.locs, Pt.cells, Pt.slots] at X' e1 e2 h1 h2 h3 st
    subst h1; subst h2; subst h3
    exact Or.inl ⟨v, (T.setVm vm₁).calling g' mk (Value.ref b :: As).toArray, t, U', L, hT, X', hL, e1, e2, hq, st⟩
  · dsimp only [Pt.U, Pt.locs, Pt.cells, Pt.slots] at X' e1 e2 h1 h2 h3 st hcl
    subst h1; subst h2; subst h3
    exact Or.inr ⟨q, (T.setVm vm₁).calling g' mk (Value.ref b :: As).toArray, t, U', L, E, ce, hT, X', hL, e1, e2, hq, hce, hcv, vx_cls hW₁ hcl, st⟩
theorem vx_runSX {hh : List (Nat × Nat × Nat × Nat)} (S : CallFix p m c cc nL s args Ts own) (hM : vx_Met l y ws rm Pc Qc XC mc ms free) (cw : vx_CSW R s args own index y bytes maxL ret hh ws rm mc ms n) (hp : PreS s H Pc As)
    (hg : g.method = m) (hn : As.length = n) (hsize : g.locals.size = nL) (hstack : g.stack = As.reverse ++ rest) (hW : 2 * g.monitorRoom + (rest.map fun v => v.category).sum ≤ 8) (hdg : decode cc g.pc = .ok (.invokestatic index, 3)) (hf : cells + mc ≤ R.cells ∧ slots + ms ≤ R.slots) :
    vx_Run p l e R s m args below meth c H locs cells slots mc ms g rest (Qc As.toArray) XC free := by
  obtain ⟨⟨hrc, hrs, hfr, hlo, hws, hcw⟩, hcode, hini, hy, hlen, hl, hstt⟩ := cw
  have hK : vx_Back l R p e below s args y 3 8 (PreOf R mc ms Pc) (PostOf Qc mc ms free) (vx_Post XC mc ms free) := vx_backW (hh := hh) (bytes := bytes) (maxL := maxL) (ret := ret) hM hp.1 hrc hrs hfr hlo hws hcw (fun a' U hW => word_at hW (Or.inl (by first | rfl | simp [Cond.onTables, Cond.keeps, Cond.steady])) hini)
  obtain ⟨hx, hb, hml, ho, -⟩ := S
  intro T hT X
  rcases vx_callSX X hx (hh := hh) (bytes := bytes) (maxL := maxL) (ret := ret) ho hl hstt hini hcode hy hK hg (hsize.trans hml.symm) (argsL := As) (rest := rest) (fun sig h => hn.trans (hlen sig h)) hstack hW (by rw [hb]; exact hdg)
    (fun vm₁ hW₁ => ⟨hf.1, hf.2, hp.2 (T.setVm vm₁) hT hW₁⟩) with ⟨v, vm₁, ⟨U', l2, c2, s2⟩, hW₁, X', ⟨g', mk, t, L, e1, e2, hq, h1, hL, h2, h3⟩, st⟩ | ⟨q, vm₁, ⟨U', l2, c2, s2⟩, hW₁, X', ⟨g', mk, t, L, E, ce, e1, e2, hq, hce, hcv, hcl, h1, hL, h2, h3⟩, st⟩
  · dsimp only [Pt.U, Pt.locs, Pt.cells, Pt.slots] at X' e1 e2 h1 h2 h3 st
    subst h1; subst h2; subst h3
    exact Or.inl ⟨v, (T.setVm vm₁).calling g' mk As.toArray, t, U', L, hT, X', hL, e1, e2, hq, st⟩
  · dsimp only [Pt.U, Pt.locs, Pt.cells, Pt.slots] at X' e1 e2 h1 h2 h3 st hcl
    subst h1; subst h2; subst h3
    exact Or.inr ⟨q, (T.setVm vm₁).calling g' mk As.toArray, t, U', L, E, ce, hT, X', hL, e1, e2, hq, hce, hcv, vx_cls hW₁ hcl, st⟩
end
end VXH
theorem vx_ofWH {l : Launch} {y : MethodName} {ws ws' : List Cond} {rm : Room} {Pc : Array Value → State → Prop} {Qc : Array Value → State → Outcome → State → Prop} {XC : String → State → State → Prop} {mc ms : Nat} {free : Addr → Prop} {cc : ByteArray} {maxL : Nat} {ret : Option FieldType} {hh : List (Nat × Nat × Nat × Nat)}
    (hy : plainName y.cls = true) (hw : ws = Cond.codeWith y cc maxL ret hh :: ws')
    (body : ∀ p e s m args below meth c s₁, BodyLoose p l y (headSpec ws rm) cc maxL ret e s m args below meth c s₁ → c.maxLocals = maxL → Pc args s →
      W p l e (headSpec ws rm).room s m args below meth c s.heap [] 0 0 (vx_MQ below Qc XC args s mc ms free) (entryFrame m args maxL)) : vx_Met l y ws rm Pc Qc XC mc ms free := by
  refine MetFree.of_bodyS (code := cc) (maxLocals := maxL) (ret := ret) hy ?_ ?_
  · intro args s m h hn
    obtain ⟨m9, meth, c, hn9, h1, h2, h3, h4, -, h5, h6, -⟩ := Cond.codeWith_spec (atoms_spec (ws := ws) h _ (by rw [hw]; exact List.mem_cons_self))
    cases hn.symm.trans hn9
    exact ⟨meth, c, h1, h2, h3, h4, h5, h6⟩
  · intro p e s m args below meth c s₁ B hml hP _
    have hh0 : s₁.heap = s.heap := by rw [B.state]; rfl
    obtain ⟨t, a1, o, b1, b2, b3⟩ := body p e s m args below meth c s₁ B hml hP s₁ hh0 (Stand.of_body B)
    exact ⟨t, o, a1, b1, b2, b3⟩
/-! ===== END ===== -/
end
section
def RX0 : String := "TagRoot$Hands"
def TX0 : u_T := fun k => match k with
  | 0 => ("TagRoot$Hands", "sets", "[I", true)
  | 1 => ("TagRoot$Hands", "edited", "[I", true)
  | 2 => ("TagRoot$Hands", "changedThings", "[I", true)
  | 3 => ("TagRoot$Hands", "setsAhead", "[I", true)
  | 4 => ("TagRoot$Hands", "size", "I", false)
  | 5 => ("TagRoot$Hands", "keptSize", "I", false)
  | _ => ("TagRoot$Hands", "nextSlot", "I", false)
def tyX0 : Nat → FieldType := fun k => match k with
  | 0 => .array .int
  | 1 => .array .int
  | 2 => .array .int
  | 3 => .array .int
  | 4 => .int
  | 5 => .int
  | _ => .int
theorem nmX0 : ∀ a, a < 7 → ∀ b, b < 7 → a ≠ b → (TX0 a).2.1 ≠ (TX0 b).2.1 := by decide +kernel
theorem tyX0_ok : ∀ k, k < 7 → parseFieldDescriptor (TX0 k).2.2.1 = some (tyX0 k) := by decide +kernel
abbrev cX0_init : ByteArray := prog_2_method_1_code
def yX0_init : MethodName := ⟨RX0, "<init>", "()V"⟩
abbrev cX0_startEdit : ByteArray := prog_2_method_2_code
def yX0_startEdit : MethodName := ⟨RX0, "startEdit", "()V"⟩
abbrev cX0_finishEdit : ByteArray := prog_2_method_3_code
def yX0_finishEdit : MethodName := ⟨RX0, "finishEdit", "()I"⟩
abbrev cX0_keep : ByteArray := prog_2_method_4_code
def yX0_keep : MethodName := ⟨RX0, "keep", "(I)V"⟩
abbrev cX0_restoreLatest : ByteArray := prog_2_method_5_code
def yX0_restoreLatest : MethodName := ⟨RX0, "restoreLatest", "()I"⟩
def RX1 : String := "TagRoot$Names"
def TX1 : u_T := fun k => match k with
  | 0 => ("TagRoot$Names", "letters", "[C", true)
  | 1 => ("TagRoot$Names", "lengths", "[I", true)
  | 2 => ("TagRoot$Names", "draft", "[C", true)
  | 3 => ("TagRoot$Names", "size", "I", false)
  | _ => ("TagRoot$Names", "draftLength", "I", false)
def tyX1 : Nat → FieldType := fun k => match k with
  | 0 => .array .char
  | 1 => .array .int
  | 2 => .array .char
  | 3 => .int
  | _ => .int
theorem nmX1 : ∀ a, a < 5 → ∀ b, b < 5 → a ≠ b → (TX1 a).2.1 ≠ (TX1 b).2.1 := by decide +kernel
theorem tyX1_ok : ∀ k, k < 5 → parseFieldDescriptor (TX1 k).2.2.1 = some (tyX1 k) := by decide +kernel
abbrev cX1_init : ByteArray := prog_3_method_1_code
def yX1_init : MethodName := ⟨RX1, "<init>", "()V"⟩
abbrev cX1_append : ByteArray := prog_3_method_2_code
def yX1_append : MethodName := ⟨RX1, "append", "(C)V"⟩
abbrev cX1_emptyDraft : ByteArray := prog_3_method_3_code
def yX1_emptyDraft : MethodName := ⟨RX1, "emptyDraft", "()V"⟩
abbrev cX1_letterAt : ByteArray := prog_3_method_4_code
def yX1_letterAt : MethodName := ⟨RX1, "letterAt", "(II)C"⟩
abbrev cX1_findDraft : ByteArray := prog_3_method_5_code
def yX1_findDraft : MethodName := ⟨RX1, "findDraft", "()I"⟩
abbrev cX1_addDraft : ByteArray := prog_3_method_6_code
def yX1_addDraft : MethodName := ⟨RX1, "addDraft", "()I"⟩
abbrev cX1_isDraft : ByteArray := prog_3_method_7_code
def yX1_isDraft : MethodName := ⟨RX1, "isDraft", "(I)Z"⟩
abbrev cX1_plain : ByteArray := prog_3_method_8_code
def yX1_plain : MethodName := ⟨RX1, "plain", "(C)C"⟩
def RX2 : String := "TagRoot$Requests"
def TX2 : u_T := fun k => match k with
  | 0 => ("TagRoot$Requests", "kinds", "[I", true)
  | 1 => ("TagRoot$Requests", "sources", "[I", true)
  | 2 => ("TagRoot$Requests", "targets", "[I", true)
  | 3 => ("TagRoot$Requests", "states", "[I", true)
  | 4 => ("TagRoot$Requests", "votersFor", "[I", true)
  | 5 => ("TagRoot$Requests", "votersAgainst", "[I", true)
  | _ => ("TagRoot$Requests", "size", "I", false)
def tyX2 : Nat → FieldType := fun k => match k with
  | 0 => .array .int
  | 1 => .array .int
  | 2 => .array .int
  | 3 => .array .int
  | 4 => .array .int
  | 5 => .array .int
  | _ => .int
theorem nmX2 : ∀ a, a < 7 → ∀ b, b < 7 → a ≠ b → (TX2 a).2.1 ≠ (TX2 b).2.1 := by decide +kernel
theorem tyX2_ok : ∀ k, k < 7 → parseFieldDescriptor (TX2 k).2.2.1 = some (tyX2 k) := by decide +kernel
abbrev cX2_init : ByteArray := prog_4_method_1_code
def yX2_init : MethodName := ⟨RX2, "<init>", "()V"⟩
abbrev cX2_add : ByteArray := prog_4_method_2_code
def yX2_add : MethodName := ⟨RX2, "add", "(III)I"⟩
abbrev cX2_setVote : ByteArray := prog_4_method_3_code
def yX2_setVote : MethodName := ⟨RX2, "setVote", "(IIZ)V"⟩
abbrev cX2_leadOf : ByteArray := prog_4_method_4_code
def yX2_leadOf : MethodName := ⟨RX2, "leadOf", "(I)I"⟩
abbrev cX2_isAllowedBy : ByteArray := prog_4_method_5_code
def yX2_isAllowedBy : MethodName := ⟨RX2, "isAllowedBy", "(LTagRoot$Rules;I)Z"⟩
abbrev cX2_carryOut : ByteArray := prog_4_method_6_code
def yX2_carryOut : MethodName := ⟨RX2, "carryOut", "(LTagRoot$Rules;I)V"⟩
def RX3 : String := "TagRoot$Rows"
def TX3 : u_T := fun k => match k with
  | _ => ("TagRoot$Rows", "showing", "[I", true)
def tyX3 : Nat → FieldType := fun k => match k with
  | _ => .array .int
theorem nmX3 : ∀ a, a < 1 → ∀ b, b < 1 → a ≠ b → (TX3 a).2.1 ≠ (TX3 b).2.1 := by decide +kernel
theorem tyX3_ok : ∀ k, k < 1 → parseFieldDescriptor (TX3 k).2.2.1 = some (tyX3 k) := by decide +kernel
abbrev cX3_init : ByteArray := prog_5_method_1_code
def yX3_init : MethodName := ⟨RX3, "<init>", "()V"⟩
abbrev cX3_refresh : ByteArray := prog_5_method_2_code
def yX3_refresh : MethodName := ⟨RX3, "refresh", "(LTagRoot$Rules;LTagRoot$Hands;)V"⟩
abbrev cX3_column : ByteArray := prog_5_method_3_code
def yX3_column : MethodName := ⟨RX3, "column", "(II)I"⟩
def RX4 : String := "TagRoot$Rules"
def TX4 : u_T := fun k => match k with
  | 0 => ("TagRoot$Rules", "aliases", "[I", true)
  | 1 => ("TagRoot$Rules", "implied", "[I", true)
  | 2 => ("TagRoot$Rules", "next", "[I", true)
  | 3 => ("TagRoot$Rules", "reached", "[I", true)
  | _ => ("TagRoot$Rules", "size", "I", false)
def tyX4 : Nat → FieldType := fun k => match k with
  | 0 => .array .int
  | 1 => .array .int
  | 2 => .array .int
  | 3 => .array .int
  | _ => .int
theorem nmX4 : ∀ a, a < 5 → ∀ b, b < 5 → a ≠ b → (TX4 a).2.1 ≠ (TX4 b).2.1 := by decide +kernel
theorem tyX4_ok : ∀ k, k < 5 → parseFieldDescriptor (TX4 k).2.2.1 = some (tyX4 k) := by decide +kernel
abbrev cX4_init : ByteArray := prog_6_method_1_code
def yX4_init : MethodName := ⟨RX4, "<init>", "()V"⟩
abbrev cX4_grow : ByteArray := prog_6_method_2_code
def yX4_grow : MethodName := ⟨RX4, "grow", "(I)V"⟩
abbrev cX4_copyFrom : ByteArray := prog_6_method_3_code
def yX4_copyFrom : MethodName := ⟨RX4, "copyFrom", "(LTagRoot$Rules;)V"⟩
abbrev cX4_endOf : ByteArray := prog_6_method_4_code
def yX4_endOf : MethodName := ⟨RX4, "endOf", "(I)I"⟩
abbrev cX4_allows : ByteArray := prog_6_method_5_code
def yX4_allows : MethodName := ⟨RX4, "allows", "(III)Z"⟩
abbrev cX4_allowsAlias : ByteArray := prog_6_method_6_code
def yX4_allowsAlias : MethodName := ⟨RX4, "allowsAlias", "(II)Z"⟩
abbrev cX4_carryOut : ByteArray := prog_6_method_7_code
def yX4_carryOut : MethodName := ⟨RX4, "carryOut", "(III)V"⟩
abbrev cX4_workOut : ByteArray := prog_6_method_8_code
def yX4_workOut : MethodName := ⟨RX4, "workOut", "()V"⟩
abbrev cX4_reachOver : ByteArray := prog_6_method_9_code
def yX4_reachOver : MethodName := ⟨RX4, "reachOver", "(I)V"⟩
abbrev cX4_endsOf : ByteArray := prog_6_method_10_code
def yX4_endsOf : MethodName := ⟨RX4, "endsOf", "(I)I"⟩
abbrev cX4_reachedFrom : ByteArray := prog_6_method_11_code
def yX4_reachedFrom : MethodName := ⟨RX4, "reachedFrom", "(I)I"⟩
abbrev cX4_spread : ByteArray := prog_6_method_12_code
def yX4_spread : MethodName := ⟨RX4, "spread", "(I)I"⟩
abbrev cX4_nearest : ByteArray := prog_6_method_13_code
def yX4_nearest : MethodName := ⟨RX4, "nearest", "(II)I"⟩
abbrev cX4_leadingTo : ByteArray := prog_6_method_14_code
def yX4_leadingTo : MethodName := ⟨RX4, "leadingTo", "(I)I"⟩
def RX5 : String := "TagRoot"
def TX5 : u_T := fun k => match k with
  | 0 => ("TagRoot", "names", "LTagRoot$Names;", true)
  | 1 => ("TagRoot", "rules", "LTagRoot$Rules;", true)
  | 2 => ("TagRoot", "trial", "LTagRoot$Rules;", true)
  | 3 => ("TagRoot", "requests", "LTagRoot$Requests;", true)
  | 4 => ("TagRoot", "hands", "LTagRoot$Hands;", true)
  | _ => ("TagRoot", "rows", "LTagRoot$Rows;", true)
def tyX5 : Nat → FieldType := fun k => match k with
  | 0 => .object "TagRoot$Names"
  | 1 => .object "TagRoot$Rules"
  | 2 => .object "TagRoot$Rules"
  | 3 => .object "TagRoot$Requests"
  | 4 => .object "TagRoot$Hands"
  | _ => .object "TagRoot$Rows"
theorem nmX5 : ∀ a, a < 6 → ∀ b, b < 6 → a ≠ b → (TX5 a).2.1 ≠ (TX5 b).2.1 := by decide +kernel
theorem tyX5_ok : ∀ k, k < 6 → parseFieldDescriptor (TX5 k).2.2.1 = some (tyX5 k) := by decide +kernel
abbrev cX5_init : ByteArray := prog_1_method_1_code
def yX5_init : MethodName := ⟨RX5, "<init>", "()V"⟩
abbrev cX5_type : ByteArray := prog_1_method_2_code
def yX5_type : MethodName := ⟨RX5, "type", "(C)I"⟩
abbrev cX5_enter : ByteArray := prog_1_method_3_code
def yX5_enter : MethodName := ⟨RX5, "enter", "()I"⟩
abbrev cX5_tags : ByteArray := prog_1_method_4_code
def yX5_tags : MethodName := ⟨RX5, "tags", "()I"⟩
abbrev cX5_letter : ByteArray := prog_1_method_5_code
def yX5_letter : MethodName := ⟨RX5, "letter", "(II)C"⟩
abbrev cX5_addThing : ByteArray := prog_1_method_6_code
def yX5_addThing : MethodName := ⟨RX5, "addThing", "()I"⟩
abbrev cX5_things : ByteArray := prog_1_method_7_code
def yX5_things : MethodName := ⟨RX5, "things", "()I"⟩
abbrev cX5_tag : ByteArray := prog_1_method_8_code
def yX5_tag : MethodName := ⟨RX5, "tag", "(II)Z"⟩
abbrev cX5_untag : ByteArray := prog_1_method_9_code
def yX5_untag : MethodName := ⟨RX5, "untag", "(II)Z"⟩
abbrev cX5_mass : ByteArray := prog_1_method_10_code
def yX5_mass : MethodName := ⟨RX5, "mass", "(III)I"⟩
abbrev cX5_undo : ByteArray := prog_1_method_11_code
def yX5_undo : MethodName := ⟨RX5, "undo", "()I"⟩
abbrev cX5_kept : ByteArray := prog_1_method_12_code
def yX5_kept : MethodName := ⟨RX5, "kept", "()I"⟩
abbrev cX5_hand : ByteArray := prog_1_method_13_code
def yX5_hand : MethodName := ⟨RX5, "hand", "(I)I"⟩
abbrev cX5_ask : ByteArray := prog_1_method_14_code
def yX5_ask : MethodName := ⟨RX5, "ask", "(III)I"⟩
abbrev cX5_vote : ByteArray := prog_1_method_15_code
def yX5_vote : MethodName := ⟨RX5, "vote", "(IIZ)I"⟩
abbrev cX5_standing : ByteArray := prog_1_method_16_code
def yX5_standing : MethodName := ⟨RX5, "standing", "(I)I"⟩
abbrev cX5_couldPass : ByteArray := prog_1_method_17_code
def yX5_couldPass : MethodName := ⟨RX5, "couldPass", "(I)Z"⟩
abbrev cX5_clashes : ByteArray := prog_1_method_18_code
def yX5_clashes : MethodName := ⟨RX5, "clashes", "(I)I"⟩
abbrev cX5_alias : ByteArray := prog_1_method_19_code
def yX5_alias : MethodName := ⟨RX5, "alias", "(I)I"⟩
abbrev cX5_end : ByteArray := prog_1_method_20_code
def yX5_end : MethodName := ⟨RX5, "end", "(I)I"⟩
abbrev cX5_implies : ByteArray := prog_1_method_21_code
def yX5_implies : MethodName := ⟨RX5, "implies", "(II)Z"⟩
abbrev cX5_shown : ByteArray := prog_1_method_22_code
def yX5_shown : MethodName := ⟨RX5, "shown", "(I)I"⟩
abbrev cX5_shownByHand : ByteArray := prog_1_method_23_code
def yX5_shownByHand : MethodName := ⟨RX5, "shownByHand", "(I)I"⟩
abbrev cX5_users : ByteArray := prog_1_method_24_code
def yX5_users : MethodName := ⟨RX5, "users", "(I)I"⟩
abbrev cX5_reason : ByteArray := prog_1_method_25_code
def yX5_reason : MethodName := ⟨RX5, "reason", "(II)I"⟩
abbrev cX5_count : ByteArray := prog_1_method_26_code
def yX5_count : MethodName := ⟨RX5, "count", "(III)I"⟩
abbrev cX5_match : ByteArray := prog_1_method_27_code
def yX5_match : MethodName := ⟨RX5, "match", "(IIII)I"⟩
abbrev cX5_needTag : ByteArray := prog_1_method_28_code
def yX5_needTag : MethodName := ⟨RX5, "needTag", "(I)V"⟩
abbrev cX5_needThing : ByteArray := prog_1_method_29_code
def yX5_needThing : MethodName := ⟨RX5, "needThing", "(I)V"⟩
abbrev cX5_needRequest : ByteArray := prog_1_method_30_code
def yX5_needRequest : MethodName := ⟨RX5, "needRequest", "(I)V"⟩
abbrev cX5_needSets : ByteArray := prog_1_method_31_code
def yX5_needSets : MethodName := ⟨RX5, "needSets", "(III)V"⟩
abbrev cX5_isTagSet : ByteArray := prog_1_method_32_code
def yX5_isTagSet : MethodName := ⟨RX5, "isTagSet", "(I)Z"⟩
abbrev cX5_finishEdit : ByteArray := prog_1_method_33_code
def yX5_finishEdit : MethodName := ⟨RX5, "finishEdit", "()I"⟩
abbrev cX5_decide : ByteArray := prog_1_method_34_code
def yX5_decide : MethodName := ⟨RX5, "decide", "(II)V"⟩
abbrev cX5_isOpenAndAllowed : ByteArray := prog_1_method_35_code
def yX5_isOpenAndAllowed : MethodName := ⟨RX5, "isOpenAndAllowed", "(I)Z"⟩
abbrev cX5_isAllowedBehind : ByteArray := prog_1_method_36_code
def yX5_isAllowedBehind : MethodName := ⟨RX5, "isAllowedBehind", "(II)Z"⟩
abbrev cX5_matching : ByteArray := prog_1_method_37_code
def yX5_matching : MethodName := ⟨RX5, "matching", "(III)I"⟩
abbrev cX5_memberAt : ByteArray := prog_1_method_38_code
def yX5_memberAt : MethodName := ⟨RX5, "memberAt", "(II)I"⟩
abbrev cX5_massEdited : ByteArray := prog_1_method_39_code
def yX5_massEdited : MethodName := ⟨RX5, "massEdited", "(IIII)I"⟩
abbrev cX5_has : ByteArray := prog_1_method_40_code
def yX5_has : MethodName := ⟨RX5, "has", "(II)Z"⟩
abbrev cX5_isNameCharacter : ByteArray := prog_1_method_41_code
def yX5_isNameCharacter : MethodName := ⟨RX5, "isNameCharacter", "(C)Z"⟩
def RX6 : String := "TagRootModel"
def TX6 : u_T := fun k => match k with
  | 0 => ("TagRootModel", "thrown", "I", false)
  | 1 => ("TagRootModel", "draft", "[C", true)
  | 2 => ("TagRootModel", "drafted", "I", false)
  | 3 => ("TagRootModel", "tags", "I", false)
  | 4 => ("TagRootModel", "names", "[C", true)
  | 5 => ("TagRootModel", "sizes", "[I", true)
  | 6 => ("TagRootModel", "aliases", "[I", true)
  | 7 => ("TagRootModel", "implied", "[I", true)
  | 8 => ("TagRootModel", "things", "I", false)
  | 9 => ("TagRootModel", "hands", "[I", true)
  | 10 => ("TagRootModel", "requests", "I", false)
  | 11 => ("TagRootModel", "kinds", "[I", true)
  | 12 => ("TagRootModel", "froms", "[I", true)
  | 13 => ("TagRootModel", "tos", "[I", true)
  | 14 => ("TagRootModel", "fors", "[I", true)
  | 15 => ("TagRootModel", "againsts", "[I", true)
  | 16 => ("TagRootModel", "standings", "[I", true)
  | 17 => ("TagRootModel", "kept", "I", false)
  | 18 => ("TagRootModel", "changed", "[I", true)
  | _ => ("TagRootModel", "before", "[I", true)
def tyX6 : Nat → FieldType := fun k => match k with
  | 0 => .int
  | 1 => .array .char
  | 2 => .int
  | 3 => .int
  | 4 => .array .char
  | 5 => .array .int
  | 6 => .array .int
  | 7 => .array .int
  | 8 => .int
  | 9 => .array .int
  | 10 => .int
  | 11 => .array .int
  | 12 => .array .int
  | 13 => .array .int
  | 14 => .array .int
  | 15 => .array .int
  | 16 => .array .int
  | 17 => .int
  | 18 => .array .int
  | _ => .array .int
theorem nmX6 : ∀ a, a < 20 → ∀ b, b < 20 → a ≠ b → (TX6 a).2.1 ≠ (TX6 b).2.1 := by decide +kernel
theorem tyX6_ok : ∀ k, k < 20 → parseFieldDescriptor (TX6 k).2.2.1 = some (tyX6 k) := by decide +kernel
abbrev cX6_init : ByteArray := prog_8_method_1_code
def yX6_init : MethodName := ⟨RX6, "<init>", "()V"⟩
abbrev cX6_thrown : ByteArray := prog_8_method_2_code
def yX6_thrown : MethodName := ⟨RX6, "thrown", "()I"⟩
abbrev cX6_holds : ByteArray := prog_8_method_3_code
def yX6_holds : MethodName := ⟨RX6, "holds", "(I)Z"⟩
abbrev cX6_in : ByteArray := prog_8_method_4_code
def yX6_in : MethodName := ⟨RX6, "in", "(III)Z"⟩
abbrev cX6_has : ByteArray := prog_8_method_5_code
def yX6_has : MethodName := ⟨RX6, "has", "(II)Z"⟩
abbrev cX6_many : ByteArray := prog_8_method_6_code
def yX6_many : MethodName := ⟨RX6, "many", "(I)I"⟩
abbrev cX6_isTag : ByteArray := prog_8_method_7_code
def yX6_isTag : MethodName := ⟨RX6, "isTag", "(I)Z"⟩
abbrev cX6_isThing : ByteArray := prog_8_method_8_code
def yX6_isThing : MethodName := ⟨RX6, "isThing", "(I)Z"⟩
abbrev cX6_plain : ByteArray := prog_8_method_9_code
def yX6_plain : MethodName := ⟨RX6, "plain", "(C)C"⟩
abbrev cX6_isSign : ByteArray := prog_8_method_10_code
def yX6_isSign : MethodName := ⟨RX6, "isSign", "(C)Z"⟩
abbrev cX6_type : ByteArray := prog_8_method_11_code
def yX6_type : MethodName := ⟨RX6, "type", "(C)I"⟩
abbrev cX6_isDraft : ByteArray := prog_8_method_12_code
def yX6_isDraft : MethodName := ⟨RX6, "isDraft", "(I)Z"⟩
abbrev cX6_enter : ByteArray := prog_8_method_13_code
def yX6_enter : MethodName := ⟨RX6, "enter", "()I"⟩
abbrev cX6_tags : ByteArray := prog_8_method_14_code
def yX6_tags : MethodName := ⟨RX6, "tags", "()I"⟩
abbrev cX6_letter : ByteArray := prog_8_method_15_code
def yX6_letter : MethodName := ⟨RX6, "letter", "(II)C"⟩
abbrev cX6_addThing : ByteArray := prog_8_method_16_code
def yX6_addThing : MethodName := ⟨RX6, "addThing", "()I"⟩
abbrev cX6_things : ByteArray := prog_8_method_17_code
def yX6_things : MethodName := ⟨RX6, "things", "()I"⟩
abbrev cX6_begins : ByteArray := prog_8_method_18_code
def yX6_begins : MethodName := ⟨RX6, "begins", "()V"⟩
abbrev cX6_sets : ByteArray := prog_8_method_19_code
def yX6_sets : MethodName := ⟨RX6, "sets", "(II)V"⟩
abbrev cX6_setsOne : ByteArray := prog_8_method_20_code
def yX6_setsOne : MethodName := ⟨RX6, "setsOne", "(II)Z"⟩
abbrev cX6_areThere : ByteArray := prog_8_method_21_code
def yX6_areThere : MethodName := ⟨RX6, "areThere", "(II)Z"⟩
abbrev cX6_tag : ByteArray := prog_8_method_22_code
def yX6_tag : MethodName := ⟨RX6, "tag", "(II)Z"⟩
abbrev cX6_untag : ByteArray := prog_8_method_23_code
def yX6_untag : MethodName := ⟨RX6, "untag", "(II)Z"⟩
abbrev cX6_edited : ByteArray := prog_8_method_24_code
def yX6_edited : MethodName := ⟨RX6, "edited", "(IIII)I"⟩
abbrev cX6_mass : ByteArray := prog_8_method_25_code
def yX6_mass : MethodName := ⟨RX6, "mass", "(III)I"⟩
abbrev cX6_undo : ByteArray := prog_8_method_26_code
def yX6_undo : MethodName := ⟨RX6, "undo", "()I"⟩
abbrev cX6_kept : ByteArray := prog_8_method_27_code
def yX6_kept : MethodName := ⟨RX6, "kept", "()I"⟩
abbrev cX6_hand : ByteArray := prog_8_method_28_code
def yX6_hand : MethodName := ⟨RX6, "hand", "(I)I"⟩
abbrev cX6_endOf : ByteArray := prog_8_method_29_code
def yX6_endOf : MethodName := ⟨RX6, "endOf", "(I)I"⟩
abbrev cX6_endsOf : ByteArray := prog_8_method_30_code
def yX6_endsOf : MethodName := ⟨RX6, "endsOf", "(I)I"⟩
abbrev cX6_onward : ByteArray := prog_8_method_31_code
def yX6_onward : MethodName := ⟨RX6, "onward", "(I)I"⟩
abbrev cX6_closed : ByteArray := prog_8_method_32_code
def yX6_closed : MethodName := ⟨RX6, "closed", "(I)I"⟩
abbrev cX6_hasCircle : ByteArray := prog_8_method_33_code
def yX6_hasCircle : MethodName := ⟨RX6, "hasCircle", "()Z"⟩
abbrev cX6_does : ByteArray := prog_8_method_34_code
def yX6_does : MethodName := ⟨RX6, "does", "(III)V"⟩
abbrev cX6_may : ByteArray := prog_8_method_35_code
def yX6_may : MethodName := ⟨RX6, "may", "(III)Z"⟩
abbrev cX6_ask : ByteArray := prog_8_method_36_code
def yX6_ask : MethodName := ⟨RX6, "ask", "(III)I"⟩
abbrev cX6_isRequest : ByteArray := prog_8_method_37_code
def yX6_isRequest : MethodName := ⟨RX6, "isRequest", "(I)Z"⟩
abbrev cX6_could : ByteArray := prog_8_method_38_code
def yX6_could : MethodName := ⟨RX6, "could", "(I)Z"⟩
abbrev cX6_vote : ByteArray := prog_8_method_39_code
def yX6_vote : MethodName := ⟨RX6, "vote", "(IIZ)I"⟩
abbrev cX6_standing : ByteArray := prog_8_method_40_code
def yX6_standing : MethodName := ⟨RX6, "standing", "(I)I"⟩
abbrev cX6_couldPass : ByteArray := prog_8_method_41_code
def yX6_couldPass : MethodName := ⟨RX6, "couldPass", "(I)Z"⟩
abbrev cX6_couldBehind : ByteArray := prog_8_method_42_code
def yX6_couldBehind : MethodName := ⟨RX6, "couldBehind", "(II)Z"⟩
abbrev cX6_clashes : ByteArray := prog_8_method_43_code
def yX6_clashes : MethodName := ⟨RX6, "clashes", "(I)I"⟩
abbrev cX6_alias : ByteArray := prog_8_method_44_code
def yX6_alias : MethodName := ⟨RX6, "alias", "(I)I"⟩
abbrev cX6_end : ByteArray := prog_8_method_45_code
def yX6_end : MethodName := ⟨RX6, "end", "(I)I"⟩
abbrev cX6_implies : ByteArray := prog_8_method_46_code
def yX6_implies : MethodName := ⟨RX6, "implies", "(II)Z"⟩
abbrev cX6_shownOf : ByteArray := prog_8_method_47_code
def yX6_shownOf : MethodName := ⟨RX6, "shownOf", "(I)I"⟩
abbrev cX6_shown : ByteArray := prog_8_method_48_code
def yX6_shown : MethodName := ⟨RX6, "shown", "(I)I"⟩
abbrev cX6_shownByHand : ByteArray := prog_8_method_49_code
def yX6_shownByHand : MethodName := ⟨RX6, "shownByHand", "(I)I"⟩
abbrev cX6_users : ByteArray := prog_8_method_50_code
def yX6_users : MethodName := ⟨RX6, "users", "(I)I"⟩
abbrev cX6_far : ByteArray := prog_8_method_51_code
def yX6_far : MethodName := ⟨RX6, "far", "(II)I"⟩
abbrev cX6_reason : ByteArray := prog_8_method_52_code
def yX6_reason : MethodName := ⟨RX6, "reason", "(II)I"⟩
abbrev cX6_areSets : ByteArray := prog_8_method_53_code
def yX6_areSets : MethodName := ⟨RX6, "areSets", "(III)Z"⟩
abbrev cX6_isMatch : ByteArray := prog_8_method_54_code
def yX6_isMatch : MethodName := ⟨RX6, "isMatch", "(IIII)Z"⟩
abbrev cX6_matches : ByteArray := prog_8_method_55_code
def yX6_matches : MethodName := ⟨RX6, "matches", "(III)I"⟩
abbrev cX6_count : ByteArray := prog_8_method_56_code
def yX6_count : MethodName := ⟨RX6, "count", "(III)I"⟩
abbrev cX6_match : ByteArray := prog_8_method_57_code
def yX6_match : MethodName := ⟨RX6, "match", "(IIII)I"⟩
def RJ6 : String := "java/lang/Integer"
abbrev cJ6_bitCount_0f7a4 : ByteArray := prog_13_method_49_code
def yJ6_bitCount_0f7a4 : MethodName := ⟨RJ6, "bitCount", "(I)I"⟩
def RJ9 : String := "java/lang/Math"
abbrev cJ9_abs_0f7a4 : ByteArray := prog_14_method_59_code
def yJ9_abs_0f7a4 : MethodName := ⟨RJ9, "abs", "(I)I"⟩
abbrev cJ9_min_7cf53 : ByteArray := prog_14_method_69_code
def yJ9_min_7cf53 : MethodName := ⟨RJ9, "min", "(II)I"⟩
def RJ0 : String := "java/lang/String"
def RL : String := "TagRootLaw"
abbrev cL_type : ByteArray := method_3_code
def yL_type : MethodName := ⟨RL, "type", "(LTagRoot;C[J)I"⟩
abbrev cL_enter : ByteArray := method_4_code
def yL_enter : MethodName := ⟨RL, "enter", "(LTagRoot;[J)I"⟩
abbrev cL_letter : ByteArray := method_5_code
def yL_letter : MethodName := ⟨RL, "letter", "(LTagRoot;II[J)I"⟩
abbrev cL_addThing : ByteArray := method_6_code
def yL_addThing : MethodName := ⟨RL, "addThing", "(LTagRoot;[J)I"⟩
abbrev cL_tag : ByteArray := method_7_code
def yL_tag : MethodName := ⟨RL, "tag", "(LTagRoot;II[J)I"⟩
abbrev cL_untag : ByteArray := method_8_code
def yL_untag : MethodName := ⟨RL, "untag", "(LTagRoot;II[J)I"⟩
abbrev cL_mass : ByteArray := method_9_code
def yL_mass : MethodName := ⟨RL, "mass", "(LTagRoot;III[J)I"⟩
abbrev cL_undo : ByteArray := method_10_code
def yL_undo : MethodName := ⟨RL, "undo", "(LTagRoot;[J)I"⟩
abbrev cL_hand : ByteArray := method_11_code
def yL_hand : MethodName := ⟨RL, "hand", "(LTagRoot;I[J)I"⟩
abbrev cL_ask : ByteArray := method_12_code
def yL_ask : MethodName := ⟨RL, "ask", "(LTagRoot;III[J)I"⟩
abbrev cL_vote : ByteArray := method_13_code
def yL_vote : MethodName := ⟨RL, "vote", "(LTagRoot;IIZ[J)I"⟩
abbrev cL_standing : ByteArray := method_14_code
def yL_standing : MethodName := ⟨RL, "standing", "(LTagRoot;I[J)I"⟩
abbrev cL_couldPass : ByteArray := method_15_code
def yL_couldPass : MethodName := ⟨RL, "couldPass", "(LTagRoot;I[J)I"⟩
abbrev cL_clashes : ByteArray := method_16_code
def yL_clashes : MethodName := ⟨RL, "clashes", "(LTagRoot;I[J)I"⟩
abbrev cL_alias : ByteArray := method_17_code
def yL_alias : MethodName := ⟨RL, "alias", "(LTagRoot;I[J)I"⟩
abbrev cL_end : ByteArray := method_18_code
def yL_end : MethodName := ⟨RL, "end", "(LTagRoot;I[J)I"⟩
abbrev cL_implies : ByteArray := method_19_code
def yL_implies : MethodName := ⟨RL, "implies", "(LTagRoot;II[J)I"⟩
abbrev cL_shown : ByteArray := method_20_code
def yL_shown : MethodName := ⟨RL, "shown", "(LTagRoot;I[J)I"⟩
abbrev cL_shownByHand : ByteArray := method_21_code
def yL_shownByHand : MethodName := ⟨RL, "shownByHand", "(LTagRoot;I[J)I"⟩
abbrev cL_users : ByteArray := method_22_code
def yL_users : MethodName := ⟨RL, "users", "(LTagRoot;I[J)I"⟩
abbrev cL_reason : ByteArray := method_23_code
def yL_reason : MethodName := ⟨RL, "reason", "(LTagRoot;II[J)I"⟩
abbrev cL_count : ByteArray := method_24_code
def yL_count : MethodName := ⟨RL, "count", "(LTagRoot;III[J)I"⟩
abbrev cL_match : ByteArray := method_25_code
def yL_match : MethodName := ⟨RL, "match", "(LTagRoot;IIII[J)I"⟩
abbrev cL_law : ByteArray := code
def yL_law : MethodName := ⟨RL, "law", "([I)Z"⟩
theorem dX0_init_0 : decode cX0_init 0 = .ok (.aload_n 0, 1) := by decide +kernel
theorem dX0_init_1 : decode cX0_init 1 = .ok (.invokespecial 3, 3) := by decide +kernel
theorem dX0_init_4 : decode cX0_init 4 = .ok (.aload_n 0, 1) := by decide +kernel
theorem dX0_init_5 : decode cX0_init 5 = .ok (.bipush 20, 2) := by decide +kernel
theorem dX0_init_7 : decode cX0_init 7 = .ok (.newarray .int, 2) := by decide +kernel
theorem dX0_init_9 : decode cX0_init 9 = .ok (.putfield 9, 3) := by decide +kernel
theorem dX0_init_12 : decode cX0_init 12 = .ok (.aload_n 0, 1) := by decide +kernel
theorem dX0_init_13 : decode cX0_init 13 = .ok (.bipush 20, 2) := by decide +kernel
theorem dX0_init_15 : decode cX0_init 15 = .ok (.newarray .int, 2) := by decide +kernel
theorem dX0_init_17 : decode cX0_init 17 = .ok (.putfield 15, 3) := by decide +kernel
theorem dX0_init_20 : decode cX0_init 20 = .ok (.aload_n 0, 1) := by decide +kernel
theorem dX0_init_21 : decode cX0_init 21 = .ok (.bipush 20, 2) := by decide +kernel
theorem dX0_init_23 : decode cX0_init 23 = .ok (.newarray .int, 2) := by decide +kernel
theorem dX0_init_25 : decode cX0_init 25 = .ok (.putfield 18, 3) := by decide +kernel
theorem dX0_init_28 : decode cX0_init 28 = .ok (.aload_n 0, 1) := by decide +kernel
theorem dX0_init_29 : decode cX0_init 29 = .ok (.sipush 400, 3) := by decide +kernel
theorem dX0_init_32 : decode cX0_init 32 = .ok (.newarray .int, 2) := by decide +kernel
theorem dX0_init_34 : decode cX0_init 34 = .ok (.putfield 21, 3) := by decide +kernel
theorem dX0_init_37 : decode cX0_init 37 = .ok (.return_, 1) := by decide +kernel
theorem dX0_startEdit_0 : decode cX0_startEdit 0 = .ok (.iconst 0, 1) := by decide +kernel
theorem dX0_startEdit_1 : decode cX0_startEdit 1 = .ok (.istore_n 1, 1) := by decide +kernel
theorem dX0_startEdit_2 : decode cX0_startEdit 2 = .ok (.iload_n 1, 1) := by decide +kernel
theorem dX0_startEdit_3 : decode cX0_startEdit 3 = .ok (.aload_n 0, 1) := by decide +kernel
theorem dX0_startEdit_4 : decode cX0_startEdit 4 = .ok (.getfield 24, 3) := by decide +kernel
theorem dX0_startEdit_7 : decode cX0_startEdit 7 = .ok (.if_icmp .ge 21, 3) := by decide +kernel
theorem dX0_startEdit_10 : decode cX0_startEdit 10 = .ok (.aload_n 0, 1) := by decide +kernel
theorem dX0_startEdit_11 : decode cX0_startEdit 11 = .ok (.getfield 15, 3) := by decide +kernel
theorem dX0_startEdit_14 : decode cX0_startEdit 14 = .ok (.iload_n 1, 1) := by decide +kernel
theorem dX0_startEdit_15 : decode cX0_startEdit 15 = .ok (.aload_n 0, 1) := by decide +kernel
theorem dX0_startEdit_16 : decode cX0_startEdit 16 = .ok (.getfield 9, 3) := by decide +kernel
theorem dX0_startEdit_19 : decode cX0_startEdit 19 = .ok (.iload_n 1, 1) := by decide +kernel
theorem dX0_startEdit_20 : decode cX0_startEdit 20 = .ok (.iaload, 1) := by decide +kernel
theorem dX0_startEdit_21 : decode cX0_startEdit 21 = .ok (.iastore, 1) := by decide +kernel
theorem dX0_startEdit_22 : decode cX0_startEdit 22 = .ok (.iinc 1 1, 3) := by decide +kernel
theorem dX0_startEdit_25 : decode cX0_startEdit 25 = .ok (.goto (-23), 3) := by decide +kernel
theorem dX0_startEdit_28 : decode cX0_startEdit 28 = .ok (.return_, 1) := by decide +kernel
theorem dX0_finishEdit_0 : decode cX0_finishEdit 0 = .ok (.iconst 0, 1) := by decide +kernel
theorem dX0_finishEdit_1 : decode cX0_finishEdit 1 = .ok (.istore_n 1, 1) := by decide +kernel
theorem dX0_finishEdit_2 : decode cX0_finishEdit 2 = .ok (.iconst 0, 1) := by decide +kernel
theorem dX0_finishEdit_3 : decode cX0_finishEdit 3 = .ok (.istore_n 2, 1) := by decide +kernel
theorem dX0_finishEdit_4 : decode cX0_finishEdit 4 = .ok (.iload_n 2, 1) := by decide +kernel
theorem dX0_finishEdit_5 : decode cX0_finishEdit 5 = .ok (.aload_n 0, 1) := by decide +kernel
theorem dX0_finishEdit_6 : decode cX0_finishEdit 6 = .ok (.getfield 24, 3) := by decide +kernel
theorem dX0_finishEdit_9 : decode cX0_finishEdit 9 = .ok (.if_icmp .ge 30, 3) := by decide +kernel
theorem dX0_finishEdit_12 : decode cX0_finishEdit 12 = .ok (.aload_n 0, 1) := by decide +kernel
theorem dX0_finishEdit_13 : decode cX0_finishEdit 13 = .ok (.getfield 15, 3) := by decide +kernel
theorem dX0_finishEdit_16 : decode cX0_finishEdit 16 = .ok (.iload_n 2, 1) := by decide +kernel
theorem dX0_finishEdit_17 : decode cX0_finishEdit 17 = .ok (.iaload, 1) := by decide +kernel
theorem dX0_finishEdit_18 : decode cX0_finishEdit 18 = .ok (.aload_n 0, 1) := by decide +kernel
theorem dX0_finishEdit_19 : decode cX0_finishEdit 19 = .ok (.getfield 9, 3) := by decide +kernel
theorem dX0_finishEdit_22 : decode cX0_finishEdit 22 = .ok (.iload_n 2, 1) := by decide +kernel
theorem dX0_finishEdit_23 : decode cX0_finishEdit 23 = .ok (.iaload, 1) := by decide +kernel
theorem dX0_finishEdit_24 : decode cX0_finishEdit 24 = .ok (.if_icmp .eq 9, 3) := by decide +kernel
theorem dX0_finishEdit_27 : decode cX0_finishEdit 27 = .ok (.iload_n 1, 1) := by decide +kernel
theorem dX0_finishEdit_28 : decode cX0_finishEdit 28 = .ok (.iconst 1, 1) := by decide +kernel
theorem dX0_finishEdit_29 : decode cX0_finishEdit 29 = .ok (.iload_n 2, 1) := by decide +kernel
theorem dX0_finishEdit_30 : decode cX0_finishEdit 30 = .ok (.ishl, 1) := by decide +kernel
theorem dX0_finishEdit_31 : decode cX0_finishEdit 31 = .ok (.ior, 1) := by decide +kernel
theorem dX0_finishEdit_32 : decode cX0_finishEdit 32 = .ok (.istore_n 1, 1) := by decide +kernel
theorem dX0_finishEdit_33 : decode cX0_finishEdit 33 = .ok (.iinc 2 1, 3) := by decide +kernel
theorem dX0_finishEdit_36 : decode cX0_finishEdit 36 = .ok (.goto (-32), 3) := by decide +kernel
theorem dX0_finishEdit_39 : decode cX0_finishEdit 39 = .ok (.iload_n 1, 1) := by decide +kernel
theorem dX0_finishEdit_40 : decode cX0_finishEdit 40 = .ok (.ifCond .eq 8, 3) := by decide +kernel
theorem dX0_finishEdit_43 : decode cX0_finishEdit 43 = .ok (.aload_n 0, 1) := by decide +kernel
theorem dX0_finishEdit_44 : decode cX0_finishEdit 44 = .ok (.iload_n 1, 1) := by decide +kernel
theorem dX0_finishEdit_45 : decode cX0_finishEdit 45 = .ok (.invokevirtual 28, 3) := by decide +kernel
theorem dX0_finishEdit_48 : decode cX0_finishEdit 48 = .ok (.iload_n 1, 1) := by decide +kernel
theorem dX0_finishEdit_49 : decode cX0_finishEdit 49 = .ok (.invokestatic 32, 3) := by decide +kernel
theorem dX0_finishEdit_52 : decode cX0_finishEdit 52 = .ok (.ireturn, 1) := by decide +kernel
theorem dX0_keep_0 : decode cX0_keep 0 = .ok (.iconst 0, 1) := by decide +kernel
theorem dX0_keep_1 : decode cX0_keep 1 = .ok (.istore_n 2, 1) := by decide +kernel
theorem dX0_keep_2 : decode cX0_keep 2 = .ok (.iload_n 2, 1) := by decide +kernel
theorem dX0_keep_3 : decode cX0_keep 3 = .ok (.aload_n 0, 1) := by decide +kernel
theorem dX0_keep_4 : decode cX0_keep 4 = .ok (.getfield 24, 3) := by decide +kernel
theorem dX0_keep_7 : decode cX0_keep 7 = .ok (.if_icmp .ge 41, 3) := by decide +kernel
theorem dX0_keep_10 : decode cX0_keep 10 = .ok (.aload_n 0, 1) := by decide +kernel
theorem dX0_keep_11 : decode cX0_keep 11 = .ok (.getfield 21, 3) := by decide +kernel
theorem dX0_keep_14 : decode cX0_keep 14 = .ok (.aload_n 0, 1) := by decide +kernel
theorem dX0_keep_15 : decode cX0_keep 15 = .ok (.getfield 38, 3) := by decide +kernel
theorem dX0_keep_18 : decode cX0_keep 18 = .ok (.bipush 20, 2) := by decide +kernel
theorem dX0_keep_20 : decode cX0_keep 20 = .ok (.imul, 1) := by decide +kernel
theorem dX0_keep_21 : decode cX0_keep 21 = .ok (.iload_n 2, 1) := by decide +kernel
theorem dX0_keep_22 : decode cX0_keep 22 = .ok (.iadd, 1) := by decide +kernel
theorem dX0_keep_23 : decode cX0_keep 23 = .ok (.aload_n 0, 1) := by decide +kernel
theorem dX0_keep_24 : decode cX0_keep 24 = .ok (.getfield 9, 3) := by decide +kernel
theorem dX0_keep_27 : decode cX0_keep 27 = .ok (.iload_n 2, 1) := by decide +kernel
theorem dX0_keep_28 : decode cX0_keep 28 = .ok (.iaload, 1) := by decide +kernel
theorem dX0_keep_29 : decode cX0_keep 29 = .ok (.iastore, 1) := by decide +kernel
theorem dX0_keep_30 : decode cX0_keep 30 = .ok (.aload_n 0, 1) := by decide +kernel
theorem dX0_keep_31 : decode cX0_keep 31 = .ok (.getfield 9, 3) := by decide +kernel
theorem dX0_keep_34 : decode cX0_keep 34 = .ok (.iload_n 2, 1) := by decide +kernel
theorem dX0_keep_35 : decode cX0_keep 35 = .ok (.aload_n 0, 1) := by decide +kernel
theorem dX0_keep_36 : decode cX0_keep 36 = .ok (.getfield 15, 3) := by decide +kernel
theorem dX0_keep_39 : decode cX0_keep 39 = .ok (.iload_n 2, 1) := by decide +kernel
theorem dX0_keep_40 : decode cX0_keep 40 = .ok (.iaload, 1) := by decide +kernel
theorem dX0_keep_41 : decode cX0_keep 41 = .ok (.iastore, 1) := by decide +kernel
theorem dX0_keep_42 : decode cX0_keep 42 = .ok (.iinc 2 1, 3) := by decide +kernel
theorem dX0_keep_45 : decode cX0_keep 45 = .ok (.goto (-43), 3) := by decide +kernel
theorem dX0_keep_48 : decode cX0_keep 48 = .ok (.aload_n 0, 1) := by decide +kernel
theorem dX0_keep_49 : decode cX0_keep 49 = .ok (.getfield 18, 3) := by decide +kernel
theorem dX0_keep_52 : decode cX0_keep 52 = .ok (.aload_n 0, 1) := by decide +kernel
theorem dX0_keep_53 : decode cX0_keep 53 = .ok (.getfield 38, 3) := by decide +kernel
theorem dX0_keep_56 : decode cX0_keep 56 = .ok (.iload_n 1, 1) := by decide +kernel
theorem dX0_keep_57 : decode cX0_keep 57 = .ok (.iastore, 1) := by decide +kernel
theorem dX0_keep_58 : decode cX0_keep 58 = .ok (.aload_n 0, 1) := by decide +kernel
theorem dX0_keep_59 : decode cX0_keep 59 = .ok (.aload_n 0, 1) := by decide +kernel
theorem dX0_keep_60 : decode cX0_keep 60 = .ok (.getfield 38, 3) := by decide +kernel
theorem dX0_keep_63 : decode cX0_keep 63 = .ok (.iconst 1, 1) := by decide +kernel
theorem dX0_keep_64 : decode cX0_keep 64 = .ok (.iadd, 1) := by decide +kernel
theorem dX0_keep_65 : decode cX0_keep 65 = .ok (.bipush 20, 2) := by decide +kernel
theorem dX0_keep_67 : decode cX0_keep 67 = .ok (.if_icmp .ge 12, 3) := by decide +kernel
theorem dX0_keep_70 : decode cX0_keep 70 = .ok (.aload_n 0, 1) := by decide +kernel
theorem dX0_keep_71 : decode cX0_keep 71 = .ok (.getfield 38, 3) := by decide +kernel
theorem dX0_keep_74 : decode cX0_keep 74 = .ok (.iconst 1, 1) := by decide +kernel
theorem dX0_keep_75 : decode cX0_keep 75 = .ok (.iadd, 1) := by decide +kernel
theorem dX0_keep_76 : decode cX0_keep 76 = .ok (.goto 4, 3) := by decide +kernel
theorem dX0_keep_79 : decode cX0_keep 79 = .ok (.iconst 0, 1) := by decide +kernel
theorem dX0_keep_80 : decode cX0_keep 80 = .ok (.putfield 38, 3) := by decide +kernel
theorem dX0_keep_83 : decode cX0_keep 83 = .ok (.aload_n 0, 1) := by decide +kernel
theorem dX0_keep_84 : decode cX0_keep 84 = .ok (.aload_n 0, 1) := by decide +kernel
theorem dX0_keep_85 : decode cX0_keep 85 = .ok (.getfield 41, 3) := by decide +kernel
theorem dX0_keep_88 : decode cX0_keep 88 = .ok (.iconst 1, 1) := by decide +kernel
theorem dX0_keep_89 : decode cX0_keep 89 = .ok (.iadd, 1) := by decide +kernel
theorem dX0_keep_90 : decode cX0_keep 90 = .ok (.bipush 20, 2) := by decide +kernel
theorem dX0_keep_92 : decode cX0_keep 92 = .ok (.invokestatic 44, 3) := by decide +kernel
theorem dX0_keep_95 : decode cX0_keep 95 = .ok (.putfield 41, 3) := by decide +kernel
theorem dX0_keep_98 : decode cX0_keep 98 = .ok (.return_, 1) := by decide +kernel
theorem dX0_restoreLatest_0 : decode cX0_restoreLatest 0 = .ok (.aload_n 0, 1) := by decide +kernel
theorem dX0_restoreLatest_1 : decode cX0_restoreLatest 1 = .ok (.aload_n 0, 1) := by decide +kernel
theorem dX0_restoreLatest_2 : decode cX0_restoreLatest 2 = .ok (.getfield 38, 3) := by decide +kernel
theorem dX0_restoreLatest_5 : decode cX0_restoreLatest 5 = .ok (.ifCond .le 12, 3) := by decide +kernel
theorem dX0_restoreLatest_8 : decode cX0_restoreLatest 8 = .ok (.aload_n 0, 1) := by decide +kernel
theorem dX0_restoreLatest_9 : decode cX0_restoreLatest 9 = .ok (.getfield 38, 3) := by decide +kernel
theorem dX0_restoreLatest_12 : decode cX0_restoreLatest 12 = .ok (.iconst 1, 1) := by decide +kernel
theorem dX0_restoreLatest_13 : decode cX0_restoreLatest 13 = .ok (.isub, 1) := by decide +kernel
theorem dX0_restoreLatest_14 : decode cX0_restoreLatest 14 = .ok (.goto 5, 3) := by decide +kernel
theorem dX0_restoreLatest_17 : decode cX0_restoreLatest 17 = .ok (.bipush 19, 2) := by decide +kernel
theorem dX0_restoreLatest_19 : decode cX0_restoreLatest 19 = .ok (.putfield 38, 3) := by decide +kernel
theorem dX0_restoreLatest_22 : decode cX0_restoreLatest 22 = .ok (.aload_n 0, 1) := by decide +kernel
theorem dX0_restoreLatest_23 : decode cX0_restoreLatest 23 = .ok (.dup, 1) := by decide +kernel
theorem dX0_restoreLatest_24 : decode cX0_restoreLatest 24 = .ok (.getfield 41, 3) := by decide +kernel
theorem dX0_restoreLatest_27 : decode cX0_restoreLatest 27 = .ok (.iconst 1, 1) := by decide +kernel
theorem dX0_restoreLatest_28 : decode cX0_restoreLatest 28 = .ok (.isub, 1) := by decide +kernel
theorem dX0_restoreLatest_29 : decode cX0_restoreLatest 29 = .ok (.putfield 41, 3) := by decide +kernel
theorem dX0_restoreLatest_32 : decode cX0_restoreLatest 32 = .ok (.aload_n 0, 1) := by decide +kernel
theorem dX0_restoreLatest_33 : decode cX0_restoreLatest 33 = .ok (.getfield 18, 3) := by decide +kernel
theorem dX0_restoreLatest_36 : decode cX0_restoreLatest 36 = .ok (.aload_n 0, 1) := by decide +kernel
theorem dX0_restoreLatest_37 : decode cX0_restoreLatest 37 = .ok (.getfield 38, 3) := by decide +kernel
theorem dX0_restoreLatest_40 : decode cX0_restoreLatest 40 = .ok (.iaload, 1) := by decide +kernel
theorem dX0_restoreLatest_41 : decode cX0_restoreLatest 41 = .ok (.istore_n 1, 1) := by decide +kernel
theorem dX0_restoreLatest_42 : decode cX0_restoreLatest 42 = .ok (.iconst 0, 1) := by decide +kernel
theorem dX0_restoreLatest_43 : decode cX0_restoreLatest 43 = .ok (.istore_n 2, 1) := by decide +kernel
theorem dX0_restoreLatest_44 : decode cX0_restoreLatest 44 = .ok (.iload_n 2, 1) := by decide +kernel
theorem dX0_restoreLatest_45 : decode cX0_restoreLatest 45 = .ok (.aload_n 0, 1) := by decide +kernel
theorem dX0_restoreLatest_46 : decode cX0_restoreLatest 46 = .ok (.getfield 24, 3) := by decide +kernel
theorem dX0_restoreLatest_49 : decode cX0_restoreLatest 49 = .ok (.if_icmp .ge 37, 3) := by decide +kernel
theorem dX0_restoreLatest_52 : decode cX0_restoreLatest 52 = .ok (.iload_n 1, 1) := by decide +kernel
theorem dX0_restoreLatest_53 : decode cX0_restoreLatest 53 = .ok (.iload_n 2, 1) := by decide +kernel
theorem dX0_restoreLatest_54 : decode cX0_restoreLatest 54 = .ok (.invokestatic 50, 3) := by decide +kernel
theorem dX0_restoreLatest_57 : decode cX0_restoreLatest 57 = .ok (.ifCond .eq 23, 3) := by decide +kernel
theorem dX0_restoreLatest_60 : decode cX0_restoreLatest 60 = .ok (.aload_n 0, 1) := by decide +kernel
theorem dX0_restoreLatest_61 : decode cX0_restoreLatest 61 = .ok (.getfield 9, 3) := by decide +kernel
theorem dX0_restoreLatest_64 : decode cX0_restoreLatest 64 = .ok (.iload_n 2, 1) := by decide +kernel
theorem dX0_restoreLatest_65 : decode cX0_restoreLatest 65 = .ok (.aload_n 0, 1) := by decide +kernel
theorem dX0_restoreLatest_66 : decode cX0_restoreLatest 66 = .ok (.getfield 21, 3) := by decide +kernel
theorem dX0_restoreLatest_69 : decode cX0_restoreLatest 69 = .ok (.aload_n 0, 1) := by decide +kernel
theorem dX0_restoreLatest_70 : decode cX0_restoreLatest 70 = .ok (.getfield 38, 3) := by decide +kernel
theorem dX0_restoreLatest_73 : decode cX0_restoreLatest 73 = .ok (.bipush 20, 2) := by decide +kernel
theorem dX0_restoreLatest_75 : decode cX0_restoreLatest 75 = .ok (.imul, 1) := by decide +kernel
theorem dX0_restoreLatest_76 : decode cX0_restoreLatest 76 = .ok (.iload_n 2, 1) := by decide +kernel
theorem dX0_restoreLatest_77 : decode cX0_restoreLatest 77 = .ok (.iadd, 1) := by decide +kernel
theorem dX0_restoreLatest_78 : decode cX0_restoreLatest 78 = .ok (.iaload, 1) := by decide +kernel
theorem dX0_restoreLatest_79 : decode cX0_restoreLatest 79 = .ok (.iastore, 1) := by decide +kernel
theorem dX0_restoreLatest_80 : decode cX0_restoreLatest 80 = .ok (.iinc 2 1, 3) := by decide +kernel
theorem dX0_restoreLatest_83 : decode cX0_restoreLatest 83 = .ok (.goto (-39), 3) := by decide +kernel
theorem dX0_restoreLatest_86 : decode cX0_restoreLatest 86 = .ok (.iload_n 1, 1) := by decide +kernel
theorem dX0_restoreLatest_87 : decode cX0_restoreLatest 87 = .ok (.invokestatic 32, 3) := by decide +kernel
theorem dX0_restoreLatest_90 : decode cX0_restoreLatest 90 = .ok (.ireturn, 1) := by decide +kernel
theorem dX1_init_0 : decode cX1_init 0 = .ok (.aload_n 0, 1) := by decide +kernel
theorem dX1_init_1 : decode cX1_init 1 = .ok (.invokespecial 3, 3) := by decide +kernel
theorem dX1_init_4 : decode cX1_init 4 = .ok (.aload_n 0, 1) := by decide +kernel
theorem dX1_init_5 : decode cX1_init 5 = .ok (.sipush 192, 3) := by decide +kernel
theorem dX1_init_8 : decode cX1_init 8 = .ok (.newarray .char, 2) := by decide +kernel
theorem dX1_init_10 : decode cX1_init 10 = .ok (.putfield 9, 3) := by decide +kernel
theorem dX1_init_13 : decode cX1_init 13 = .ok (.aload_n 0, 1) := by decide +kernel
theorem dX1_init_14 : decode cX1_init 14 = .ok (.bipush 24, 2) := by decide +kernel
theorem dX1_init_16 : decode cX1_init 16 = .ok (.newarray .int, 2) := by decide +kernel
theorem dX1_init_18 : decode cX1_init 18 = .ok (.putfield 15, 3) := by decide +kernel
theorem dX1_init_21 : decode cX1_init 21 = .ok (.aload_n 0, 1) := by decide +kernel
theorem dX1_init_22 : decode cX1_init 22 = .ok (.bipush 8, 2) := by decide +kernel
theorem dX1_init_24 : decode cX1_init 24 = .ok (.newarray .char, 2) := by decide +kernel
theorem dX1_init_26 : decode cX1_init 26 = .ok (.putfield 19, 3) := by decide +kernel
theorem dX1_init_29 : decode cX1_init 29 = .ok (.return_, 1) := by decide +kernel
theorem dX1_append_0 : decode cX1_append 0 = .ok (.aload_n 0, 1) := by decide +kernel
theorem dX1_append_1 : decode cX1_append 1 = .ok (.getfield 19, 3) := by decide +kernel
theorem dX1_append_4 : decode cX1_append 4 = .ok (.aload_n 0, 1) := by decide +kernel
theorem dX1_append_5 : decode cX1_append 5 = .ok (.getfield 22, 3) := by decide +kernel
theorem dX1_append_8 : decode cX1_append 8 = .ok (.iload_n 1, 1) := by decide +kernel
theorem dX1_append_9 : decode cX1_append 9 = .ok (.castore, 1) := by decide +kernel
theorem dX1_append_10 : decode cX1_append 10 = .ok (.aload_n 0, 1) := by decide +kernel
theorem dX1_append_11 : decode cX1_append 11 = .ok (.dup, 1) := by decide +kernel
theorem dX1_append_12 : decode cX1_append 12 = .ok (.getfield 22, 3) := by decide +kernel
theorem dX1_append_15 : decode cX1_append 15 = .ok (.iconst 1, 1) := by decide +kernel
theorem dX1_append_16 : decode cX1_append 16 = .ok (.iadd, 1) := by decide +kernel
theorem dX1_append_17 : decode cX1_append 17 = .ok (.putfield 22, 3) := by decide +kernel
theorem dX1_append_20 : decode cX1_append 20 = .ok (.return_, 1) := by decide +kernel
theorem dX1_emptyDraft_0 : decode cX1_emptyDraft 0 = .ok (.aload_n 0, 1) := by decide +kernel
theorem dX1_emptyDraft_1 : decode cX1_emptyDraft 1 = .ok (.iconst 0, 1) := by decide +kernel
theorem dX1_emptyDraft_2 : decode cX1_emptyDraft 2 = .ok (.putfield 22, 3) := by decide +kernel
theorem dX1_emptyDraft_5 : decode cX1_emptyDraft 5 = .ok (.return_, 1) := by decide +kernel
theorem dX1_letterAt_0 : decode cX1_letterAt 0 = .ok (.aload_n 0, 1) := by decide +kernel
theorem dX1_letterAt_1 : decode cX1_letterAt 1 = .ok (.getfield 9, 3) := by decide +kernel
theorem dX1_letterAt_4 : decode cX1_letterAt 4 = .ok (.iload_n 1, 1) := by decide +kernel
theorem dX1_letterAt_5 : decode cX1_letterAt 5 = .ok (.bipush 8, 2) := by decide +kernel
theorem dX1_letterAt_7 : decode cX1_letterAt 7 = .ok (.imul, 1) := by decide +kernel
theorem dX1_letterAt_8 : decode cX1_letterAt 8 = .ok (.iload_n 2, 1) := by decide +kernel
theorem dX1_letterAt_9 : decode cX1_letterAt 9 = .ok (.iadd, 1) := by decide +kernel
theorem dX1_letterAt_10 : decode cX1_letterAt 10 = .ok (.caload, 1) := by decide +kernel
theorem dX1_letterAt_11 : decode cX1_letterAt 11 = .ok (.ireturn, 1) := by decide +kernel
theorem dX1_findDraft_0 : decode cX1_findDraft 0 = .ok (.iconst 0, 1) := by decide +kernel
theorem dX1_findDraft_1 : decode cX1_findDraft 1 = .ok (.istore_n 1, 1) := by decide +kernel
theorem dX1_findDraft_2 : decode cX1_findDraft 2 = .ok (.iload_n 1, 1) := by decide +kernel
theorem dX1_findDraft_3 : decode cX1_findDraft 3 = .ok (.aload_n 0, 1) := by decide +kernel
theorem dX1_findDraft_4 : decode cX1_findDraft 4 = .ok (.getfield 26, 3) := by decide +kernel
theorem dX1_findDraft_7 : decode cX1_findDraft 7 = .ok (.if_icmp .ge 19, 3) := by decide +kernel
theorem dX1_findDraft_10 : decode cX1_findDraft 10 = .ok (.aload_n 0, 1) := by decide +kernel
theorem dX1_findDraft_11 : decode cX1_findDraft 11 = .ok (.iload_n 1, 1) := by decide +kernel
theorem dX1_findDraft_12 : decode cX1_findDraft 12 = .ok (.invokevirtual 29, 3) := by decide +kernel
theorem dX1_findDraft_15 : decode cX1_findDraft 15 = .ok (.ifCond .eq 5, 3) := by decide +kernel
theorem dX1_findDraft_18 : decode cX1_findDraft 18 = .ok (.iload_n 1, 1) := by decide +kernel
theorem dX1_findDraft_19 : decode cX1_findDraft 19 = .ok (.ireturn, 1) := by decide +kernel
theorem dX1_findDraft_20 : decode cX1_findDraft 20 = .ok (.iinc 1 1, 3) := by decide +kernel
theorem dX1_findDraft_23 : decode cX1_findDraft 23 = .ok (.goto (-21), 3) := by decide +kernel
theorem dX1_findDraft_26 : decode cX1_findDraft 26 = .ok (.iconst (-1), 1) := by decide +kernel
theorem dX1_findDraft_27 : decode cX1_findDraft 27 = .ok (.ireturn, 1) := by decide +kernel
theorem dX1_addDraft_0 : decode cX1_addDraft 0 = .ok (.iconst 0, 1) := by decide +kernel
theorem dX1_addDraft_1 : decode cX1_addDraft 1 = .ok (.istore_n 1, 1) := by decide +kernel
theorem dX1_addDraft_2 : decode cX1_addDraft 2 = .ok (.iload_n 1, 1) := by decide +kernel
theorem dX1_addDraft_3 : decode cX1_addDraft 3 = .ok (.aload_n 0, 1) := by decide +kernel
theorem dX1_addDraft_4 : decode cX1_addDraft 4 = .ok (.getfield 22, 3) := by decide +kernel
theorem dX1_addDraft_7 : decode cX1_addDraft 7 = .ok (.if_icmp .ge 29, 3) := by decide +kernel
theorem dX1_addDraft_10 : decode cX1_addDraft 10 = .ok (.aload_n 0, 1) := by decide +kernel
theorem dX1_addDraft_11 : decode cX1_addDraft 11 = .ok (.getfield 9, 3) := by decide +kernel
theorem dX1_addDraft_14 : decode cX1_addDraft 14 = .ok (.aload_n 0, 1) := by decide +kernel
theorem dX1_addDraft_15 : decode cX1_addDraft 15 = .ok (.getfield 26, 3) := by decide +kernel
theorem dX1_addDraft_18 : decode cX1_addDraft 18 = .ok (.bipush 8, 2) := by decide +kernel
theorem dX1_addDraft_20 : decode cX1_addDraft 20 = .ok (.imul, 1) := by decide +kernel
theorem dX1_addDraft_21 : decode cX1_addDraft 21 = .ok (.iload_n 1, 1) := by decide +kernel
theorem dX1_addDraft_22 : decode cX1_addDraft 22 = .ok (.iadd, 1) := by decide +kernel
theorem dX1_addDraft_23 : decode cX1_addDraft 23 = .ok (.aload_n 0, 1) := by decide +kernel
theorem dX1_addDraft_24 : decode cX1_addDraft 24 = .ok (.getfield 19, 3) := by decide +kernel
theorem dX1_addDraft_27 : decode cX1_addDraft 27 = .ok (.iload_n 1, 1) := by decide +kernel
theorem dX1_addDraft_28 : decode cX1_addDraft 28 = .ok (.caload, 1) := by decide +kernel
theorem dX1_addDraft_29 : decode cX1_addDraft 29 = .ok (.castore, 1) := by decide +kernel
theorem dX1_addDraft_30 : decode cX1_addDraft 30 = .ok (.iinc 1 1, 3) := by decide +kernel
theorem dX1_addDraft_33 : decode cX1_addDraft 33 = .ok (.goto (-31), 3) := by decide +kernel
theorem dX1_addDraft_36 : decode cX1_addDraft 36 = .ok (.aload_n 0, 1) := by decide +kernel
theorem dX1_addDraft_37 : decode cX1_addDraft 37 = .ok (.getfield 15, 3) := by decide +kernel
theorem dX1_addDraft_40 : decode cX1_addDraft 40 = .ok (.aload_n 0, 1) := by decide +kernel
theorem dX1_addDraft_41 : decode cX1_addDraft 41 = .ok (.getfield 26, 3) := by decide +kernel
theorem dX1_addDraft_44 : decode cX1_addDraft 44 = .ok (.aload_n 0, 1) := by decide +kernel
theorem dX1_addDraft_45 : decode cX1_addDraft 45 = .ok (.getfield 22, 3) := by decide +kernel
theorem dX1_addDraft_48 : decode cX1_addDraft 48 = .ok (.iastore, 1) := by decide +kernel
theorem dX1_addDraft_49 : decode cX1_addDraft 49 = .ok (.aload_n 0, 1) := by decide +kernel
theorem dX1_addDraft_50 : decode cX1_addDraft 50 = .ok (.dup, 1) := by decide +kernel
theorem dX1_addDraft_51 : decode cX1_addDraft 51 = .ok (.getfield 26, 3) := by decide +kernel
theorem dX1_addDraft_54 : decode cX1_addDraft 54 = .ok (.iconst 1, 1) := by decide +kernel
theorem dX1_addDraft_55 : decode cX1_addDraft 55 = .ok (.iadd, 1) := by decide +kernel
theorem dX1_addDraft_56 : decode cX1_addDraft 56 = .ok (.putfield 26, 3) := by decide +kernel
theorem dX1_addDraft_59 : decode cX1_addDraft 59 = .ok (.aload_n 0, 1) := by decide +kernel
theorem dX1_addDraft_60 : decode cX1_addDraft 60 = .ok (.getfield 26, 3) := by decide +kernel
theorem dX1_addDraft_63 : decode cX1_addDraft 63 = .ok (.iconst 1, 1) := by decide +kernel
theorem dX1_addDraft_64 : decode cX1_addDraft 64 = .ok (.isub, 1) := by decide +kernel
theorem dX1_addDraft_65 : decode cX1_addDraft 65 = .ok (.ireturn, 1) := by decide +kernel
theorem dX1_isDraft_0 : decode cX1_isDraft 0 = .ok (.aload_n 0, 1) := by decide +kernel
theorem dX1_isDraft_1 : decode cX1_isDraft 1 = .ok (.getfield 15, 3) := by decide +kernel
theorem dX1_isDraft_4 : decode cX1_isDraft 4 = .ok (.iload_n 1, 1) := by decide +kernel
theorem dX1_isDraft_5 : decode cX1_isDraft 5 = .ok (.iaload, 1) := by decide +kernel
theorem dX1_isDraft_6 : decode cX1_isDraft 6 = .ok (.aload_n 0, 1) := by decide +kernel
theorem dX1_isDraft_7 : decode cX1_isDraft 7 = .ok (.getfield 22, 3) := by decide +kernel
theorem dX1_isDraft_10 : decode cX1_isDraft 10 = .ok (.if_icmp .eq 5, 3) := by decide +kernel
theorem dX1_isDraft_13 : decode cX1_isDraft 13 = .ok (.iconst 0, 1) := by decide +kernel
theorem dX1_isDraft_14 : decode cX1_isDraft 14 = .ok (.ireturn, 1) := by decide +kernel
theorem dX1_isDraft_15 : decode cX1_isDraft 15 = .ok (.iconst 0, 1) := by decide +kernel
theorem dX1_isDraft_16 : decode cX1_isDraft 16 = .ok (.istore_n 2, 1) := by decide +kernel
theorem dX1_isDraft_17 : decode cX1_isDraft 17 = .ok (.iload_n 2, 1) := by decide +kernel
theorem dX1_isDraft_18 : decode cX1_isDraft 18 = .ok (.aload_n 0, 1) := by decide +kernel
theorem dX1_isDraft_19 : decode cX1_isDraft 19 = .ok (.getfield 22, 3) := by decide +kernel
theorem dX1_isDraft_22 : decode cX1_isDraft 22 = .ok (.if_icmp .ge 32, 3) := by decide +kernel
theorem dX1_isDraft_25 : decode cX1_isDraft 25 = .ok (.aload_n 0, 1) := by decide +kernel
theorem dX1_isDraft_26 : decode cX1_isDraft 26 = .ok (.iload_n 1, 1) := by decide +kernel
theorem dX1_isDraft_27 : decode cX1_isDraft 27 = .ok (.iload_n 2, 1) := by decide +kernel
theorem dX1_isDraft_28 : decode cX1_isDraft 28 = .ok (.invokevirtual 33, 3) := by decide +kernel
theorem dX1_isDraft_31 : decode cX1_isDraft 31 = .ok (.invokestatic 37, 3) := by decide +kernel
theorem dX1_isDraft_34 : decode cX1_isDraft 34 = .ok (.aload_n 0, 1) := by decide +kernel
theorem dX1_isDraft_35 : decode cX1_isDraft 35 = .ok (.getfield 19, 3) := by decide +kernel
theorem dX1_isDraft_38 : decode cX1_isDraft 38 = .ok (.iload_n 2, 1) := by decide +kernel
theorem dX1_isDraft_39 : decode cX1_isDraft 39 = .ok (.caload, 1) := by decide +kernel
theorem dX1_isDraft_40 : decode cX1_isDraft 40 = .ok (.invokestatic 37, 3) := by decide +kernel
theorem dX1_isDraft_43 : decode cX1_isDraft 43 = .ok (.if_icmp .eq 5, 3) := by decide +kernel
theorem dX1_isDraft_46 : decode cX1_isDraft 46 = .ok (.iconst 0, 1) := by decide +kernel
theorem dX1_isDraft_47 : decode cX1_isDraft 47 = .ok (.ireturn, 1) := by decide +kernel
theorem dX1_isDraft_48 : decode cX1_isDraft 48 = .ok (.iinc 2 1, 3) := by decide +kernel
theorem dX1_isDraft_51 : decode cX1_isDraft 51 = .ok (.goto (-34), 3) := by decide +kernel
theorem dX1_isDraft_54 : decode cX1_isDraft 54 = .ok (.iconst 1, 1) := by decide +kernel
theorem dX1_isDraft_55 : decode cX1_isDraft 55 = .ok (.ireturn, 1) := by decide +kernel
theorem dX1_plain_0 : decode cX1_plain 0 = .ok (.iload_n 0, 1) := by decide +kernel
theorem dX1_plain_1 : decode cX1_plain 1 = .ok (.bipush 65, 2) := by decide +kernel
theorem dX1_plain_3 : decode cX1_plain 3 = .ok (.if_icmp .lt 18, 3) := by decide +kernel
theorem dX1_plain_6 : decode cX1_plain 6 = .ok (.iload_n 0, 1) := by decide +kernel
theorem dX1_plain_7 : decode cX1_plain 7 = .ok (.bipush 90, 2) := by decide +kernel
theorem dX1_plain_9 : decode cX1_plain 9 = .ok (.if_icmp .gt 12, 3) := by decide +kernel
theorem dX1_plain_12 : decode cX1_plain 12 = .ok (.iload_n 0, 1) := by decide +kernel
theorem dX1_plain_13 : decode cX1_plain 13 = .ok (.bipush 65, 2) := by decide +kernel
theorem dX1_plain_15 : decode cX1_plain 15 = .ok (.isub, 1) := by decide +kernel
theorem dX1_plain_16 : decode cX1_plain 16 = .ok (.bipush 97, 2) := by decide +kernel
theorem dX1_plain_18 : decode cX1_plain 18 = .ok (.iadd, 1) := by decide +kernel
theorem dX1_plain_19 : decode cX1_plain 19 = .ok (.i2c, 1) := by decide +kernel
theorem dX1_plain_20 : decode cX1_plain 20 = .ok (.ireturn, 1) := by decide +kernel
theorem dX1_plain_21 : decode cX1_plain 21 = .ok (.iload_n 0, 1) := by decide +kernel
theorem dX1_plain_22 : decode cX1_plain 22 = .ok (.bipush 45, 2) := by decide +kernel
theorem dX1_plain_24 : decode cX1_plain 24 = .ok (.if_icmp .ne 8, 3) := by decide +kernel
theorem dX1_plain_27 : decode cX1_plain 27 = .ok (.bipush 95, 2) := by decide +kernel
theorem dX1_plain_29 : decode cX1_plain 29 = .ok (.goto 4, 3) := by decide +kernel
theorem dX1_plain_32 : decode cX1_plain 32 = .ok (.iload_n 0, 1) := by decide +kernel
theorem dX1_plain_33 : decode cX1_plain 33 = .ok (.ireturn, 1) := by decide +kernel
theorem dX2_init_0 : decode cX2_init 0 = .ok (.aload_n 0, 1) := by decide +kernel
theorem dX2_init_1 : decode cX2_init 1 = .ok (.invokespecial 3, 3) := by decide +kernel
theorem dX2_init_4 : decode cX2_init 4 = .ok (.aload_n 0, 1) := by decide +kernel
theorem dX2_init_5 : decode cX2_init 5 = .ok (.bipush 40, 2) := by decide +kernel
theorem dX2_init_7 : decode cX2_init 7 = .ok (.newarray .int, 2) := by decide +kernel
theorem dX2_init_9 : decode cX2_init 9 = .ok (.putfield 9, 3) := by decide +kernel
theorem dX2_init_12 : decode cX2_init 12 = .ok (.aload_n 0, 1) := by decide +kernel
theorem dX2_init_13 : decode cX2_init 13 = .ok (.bipush 40, 2) := by decide +kernel
theorem dX2_init_15 : decode cX2_init 15 = .ok (.newarray .int, 2) := by decide +kernel
theorem dX2_init_17 : decode cX2_init 17 = .ok (.putfield 15, 3) := by decide +kernel
theorem dX2_init_20 : decode cX2_init 20 = .ok (.aload_n 0, 1) := by decide +kernel
theorem dX2_init_21 : decode cX2_init 21 = .ok (.bipush 40, 2) := by decide +kernel
theorem dX2_init_23 : decode cX2_init 23 = .ok (.newarray .int, 2) := by decide +kernel
theorem dX2_init_25 : decode cX2_init 25 = .ok (.putfield 18, 3) := by decide +kernel
theorem dX2_init_28 : decode cX2_init 28 = .ok (.aload_n 0, 1) := by decide +kernel
theorem dX2_init_29 : decode cX2_init 29 = .ok (.bipush 40, 2) := by decide +kernel
theorem dX2_init_31 : decode cX2_init 31 = .ok (.newarray .int, 2) := by decide +kernel
theorem dX2_init_33 : decode cX2_init 33 = .ok (.putfield 21, 3) := by decide +kernel
theorem dX2_init_36 : decode cX2_init 36 = .ok (.aload_n 0, 1) := by decide +kernel
theorem dX2_init_37 : decode cX2_init 37 = .ok (.bipush 40, 2) := by decide +kernel
theorem dX2_init_39 : decode cX2_init 39 = .ok (.newarray .int, 2) := by decide +kernel
theorem dX2_init_41 : decode cX2_init 41 = .ok (.putfield 24, 3) := by decide +kernel
theorem dX2_init_44 : decode cX2_init 44 = .ok (.aload_n 0, 1) := by decide +kernel
theorem dX2_init_45 : decode cX2_init 45 = .ok (.bipush 40, 2) := by decide +kernel
theorem dX2_init_47 : decode cX2_init 47 = .ok (.newarray .int, 2) := by decide +kernel
theorem dX2_init_49 : decode cX2_init 49 = .ok (.putfield 27, 3) := by decide +kernel
theorem dX2_init_52 : decode cX2_init 52 = .ok (.return_, 1) := by decide +kernel
theorem dX2_add_0 : decode cX2_add 0 = .ok (.aload_n 0, 1) := by decide +kernel
theorem dX2_add_1 : decode cX2_add 1 = .ok (.getfield 9, 3) := by decide +kernel
theorem dX2_add_4 : decode cX2_add 4 = .ok (.aload_n 0, 1) := by decide +kernel
theorem dX2_add_5 : decode cX2_add 5 = .ok (.getfield 30, 3) := by decide +kernel
theorem dX2_add_8 : decode cX2_add 8 = .ok (.iload_n 1, 1) := by decide +kernel
theorem dX2_add_9 : decode cX2_add 9 = .ok (.iastore, 1) := by decide +kernel
theorem dX2_add_10 : decode cX2_add 10 = .ok (.aload_n 0, 1) := by decide +kernel
theorem dX2_add_11 : decode cX2_add 11 = .ok (.getfield 15, 3) := by decide +kernel
theorem dX2_add_14 : decode cX2_add 14 = .ok (.aload_n 0, 1) := by decide +kernel
theorem dX2_add_15 : decode cX2_add 15 = .ok (.getfield 30, 3) := by decide +kernel
theorem dX2_add_18 : decode cX2_add 18 = .ok (.iload_n 2, 1) := by decide +kernel
theorem dX2_add_19 : decode cX2_add 19 = .ok (.iastore, 1) := by decide +kernel
theorem dX2_add_20 : decode cX2_add 20 = .ok (.aload_n 0, 1) := by decide +kernel
theorem dX2_add_21 : decode cX2_add 21 = .ok (.getfield 18, 3) := by decide +kernel
theorem dX2_add_24 : decode cX2_add 24 = .ok (.aload_n 0, 1) := by decide +kernel
theorem dX2_add_25 : decode cX2_add 25 = .ok (.getfield 30, 3) := by decide +kernel
theorem dX2_add_28 : decode cX2_add 28 = .ok (.iload_n 3, 1) := by decide +kernel
theorem dX2_add_29 : decode cX2_add 29 = .ok (.iastore, 1) := by decide +kernel
theorem dX2_add_30 : decode cX2_add 30 = .ok (.aload_n 0, 1) := by decide +kernel
theorem dX2_add_31 : decode cX2_add 31 = .ok (.getfield 21, 3) := by decide +kernel
theorem dX2_add_34 : decode cX2_add 34 = .ok (.aload_n 0, 1) := by decide +kernel
theorem dX2_add_35 : decode cX2_add 35 = .ok (.getfield 30, 3) := by decide +kernel
theorem dX2_add_38 : decode cX2_add 38 = .ok (.iconst 0, 1) := by decide +kernel
theorem dX2_add_39 : decode cX2_add 39 = .ok (.iastore, 1) := by decide +kernel
theorem dX2_add_40 : decode cX2_add 40 = .ok (.aload_n 0, 1) := by decide +kernel
theorem dX2_add_41 : decode cX2_add 41 = .ok (.dup, 1) := by decide +kernel
theorem dX2_add_42 : decode cX2_add 42 = .ok (.getfield 30, 3) := by decide +kernel
theorem dX2_add_45 : decode cX2_add 45 = .ok (.iconst 1, 1) := by decide +kernel
theorem dX2_add_46 : decode cX2_add 46 = .ok (.iadd, 1) := by decide +kernel
theorem dX2_add_47 : decode cX2_add 47 = .ok (.putfield 30, 3) := by decide +kernel
theorem dX2_add_50 : decode cX2_add 50 = .ok (.aload_n 0, 1) := by decide +kernel
theorem dX2_add_51 : decode cX2_add 51 = .ok (.getfield 30, 3) := by decide +kernel
theorem dX2_add_54 : decode cX2_add 54 = .ok (.iconst 1, 1) := by decide +kernel
theorem dX2_add_55 : decode cX2_add 55 = .ok (.isub, 1) := by decide +kernel
theorem dX2_add_56 : decode cX2_add 56 = .ok (.ireturn, 1) := by decide +kernel
theorem dX2_setVote_0 : decode cX2_setVote 0 = .ok (.iconst 1, 1) := by decide +kernel
theorem dX2_setVote_1 : decode cX2_setVote 1 = .ok (.iload_n 2, 1) := by decide +kernel
theorem dX2_setVote_2 : decode cX2_setVote 2 = .ok (.ishl, 1) := by decide +kernel
theorem dX2_setVote_3 : decode cX2_setVote 3 = .ok (.istore 4, 2) := by decide +kernel
theorem dX2_setVote_5 : decode cX2_setVote 5 = .ok (.iload_n 3, 1) := by decide +kernel
theorem dX2_setVote_6 : decode cX2_setVote 6 = .ok (.ifCond .eq 30, 3) := by decide +kernel
theorem dX2_setVote_9 : decode cX2_setVote 9 = .ok (.aload_n 0, 1) := by decide +kernel
theorem dX2_setVote_10 : decode cX2_setVote 10 = .ok (.getfield 24, 3) := by decide +kernel
theorem dX2_setVote_13 : decode cX2_setVote 13 = .ok (.iload_n 1, 1) := by decide +kernel
theorem dX2_setVote_14 : decode cX2_setVote 14 = .ok (.dup2, 1) := by decide +kernel
theorem dX2_setVote_15 : decode cX2_setVote 15 = .ok (.iaload, 1) := by decide +kernel
theorem dX2_setVote_16 : decode cX2_setVote 16 = .ok (.iload 4, 2) := by decide +kernel
theorem dX2_setVote_18 : decode cX2_setVote 18 = .ok (.ior, 1) := by decide +kernel
theorem dX2_setVote_19 : decode cX2_setVote 19 = .ok (.iastore, 1) := by decide +kernel
theorem dX2_setVote_20 : decode cX2_setVote 20 = .ok (.aload_n 0, 1) := by decide +kernel
theorem dX2_setVote_21 : decode cX2_setVote 21 = .ok (.getfield 27, 3) := by decide +kernel
theorem dX2_setVote_24 : decode cX2_setVote 24 = .ok (.iload_n 1, 1) := by decide +kernel
theorem dX2_setVote_25 : decode cX2_setVote 25 = .ok (.dup2, 1) := by decide +kernel
theorem dX2_setVote_26 : decode cX2_setVote 26 = .ok (.iaload, 1) := by decide +kernel
theorem dX2_setVote_27 : decode cX2_setVote 27 = .ok (.iload 4, 2) := by decide +kernel
theorem dX2_setVote_29 : decode cX2_setVote 29 = .ok (.iconst (-1), 1) := by decide +kernel
theorem dX2_setVote_30 : decode cX2_setVote 30 = .ok (.ixor, 1) := by decide +kernel
theorem dX2_setVote_31 : decode cX2_setVote 31 = .ok (.iand, 1) := by decide +kernel
theorem dX2_setVote_32 : decode cX2_setVote 32 = .ok (.iastore, 1) := by decide +kernel
theorem dX2_setVote_33 : decode cX2_setVote 33 = .ok (.goto 27, 3) := by decide +kernel
theorem dX2_setVote_36 : decode cX2_setVote 36 = .ok (.aload_n 0, 1) := by decide +kernel
theorem dX2_setVote_37 : decode cX2_setVote 37 = .ok (.getfield 24, 3) := by decide +kernel
theorem dX2_setVote_40 : decode cX2_setVote 40 = .ok (.iload_n 1, 1) := by decide +kernel
theorem dX2_setVote_41 : decode cX2_setVote 41 = .ok (.dup2, 1) := by decide +kernel
theorem dX2_setVote_42 : decode cX2_setVote 42 = .ok (.iaload, 1) := by decide +kernel
theorem dX2_setVote_43 : decode cX2_setVote 43 = .ok (.iload 4, 2) := by decide +kernel
theorem dX2_setVote_45 : decode cX2_setVote 45 = .ok (.iconst (-1), 1) := by decide +kernel
theorem dX2_setVote_46 : decode cX2_setVote 46 = .ok (.ixor, 1) := by decide +kernel
theorem dX2_setVote_47 : decode cX2_setVote 47 = .ok (.iand, 1) := by decide +kernel
theorem dX2_setVote_48 : decode cX2_setVote 48 = .ok (.iastore, 1) := by decide +kernel
theorem dX2_setVote_49 : decode cX2_setVote 49 = .ok (.aload_n 0, 1) := by decide +kernel
theorem dX2_setVote_50 : decode cX2_setVote 50 = .ok (.getfield 27, 3) := by decide +kernel
theorem dX2_setVote_53 : decode cX2_setVote 53 = .ok (.iload_n 1, 1) := by decide +kernel
theorem dX2_setVote_54 : decode cX2_setVote 54 = .ok (.dup2, 1) := by decide +kernel
theorem dX2_setVote_55 : decode cX2_setVote 55 = .ok (.iaload, 1) := by decide +kernel
theorem dX2_setVote_56 : decode cX2_setVote 56 = .ok (.iload 4, 2) := by decide +kernel
theorem dX2_setVote_58 : decode cX2_setVote 58 = .ok (.ior, 1) := by decide +kernel
theorem dX2_setVote_59 : decode cX2_setVote 59 = .ok (.iastore, 1) := by decide +kernel
theorem dX2_setVote_60 : decode cX2_setVote 60 = .ok (.return_, 1) := by decide +kernel
theorem dX2_leadOf_0 : decode cX2_leadOf 0 = .ok (.aload_n 0, 1) := by decide +kernel
theorem dX2_leadOf_1 : decode cX2_leadOf 1 = .ok (.getfield 24, 3) := by decide +kernel
theorem dX2_leadOf_4 : decode cX2_leadOf 4 = .ok (.iload_n 1, 1) := by decide +kernel
theorem dX2_leadOf_5 : decode cX2_leadOf 5 = .ok (.iaload, 1) := by decide +kernel
theorem dX2_leadOf_6 : decode cX2_leadOf 6 = .ok (.invokestatic 34, 3) := by decide +kernel
theorem dX2_leadOf_9 : decode cX2_leadOf 9 = .ok (.aload_n 0, 1) := by decide +kernel
theorem dX2_leadOf_10 : decode cX2_leadOf 10 = .ok (.getfield 27, 3) := by decide +kernel
theorem dX2_leadOf_13 : decode cX2_leadOf 13 = .ok (.iload_n 1, 1) := by decide +kernel
theorem dX2_leadOf_14 : decode cX2_leadOf 14 = .ok (.iaload, 1) := by decide +kernel
theorem dX2_leadOf_15 : decode cX2_leadOf 15 = .ok (.invokestatic 34, 3) := by decide +kernel
theorem dX2_leadOf_18 : decode cX2_leadOf 18 = .ok (.isub, 1) := by decide +kernel
theorem dX2_leadOf_19 : decode cX2_leadOf 19 = .ok (.ireturn, 1) := by decide +kernel
theorem dX2_isAllowedBy_0 : decode cX2_isAllowedBy 0 = .ok (.aload_n 1, 1) := by decide +kernel
theorem dX2_isAllowedBy_1 : decode cX2_isAllowedBy 1 = .ok (.aload_n 0, 1) := by decide +kernel
theorem dX2_isAllowedBy_2 : decode cX2_isAllowedBy 2 = .ok (.getfield 9, 3) := by decide +kernel
theorem dX2_isAllowedBy_5 : decode cX2_isAllowedBy 5 = .ok (.iload_n 2, 1) := by decide +kernel
theorem dX2_isAllowedBy_6 : decode cX2_isAllowedBy 6 = .ok (.iaload, 1) := by decide +kernel
theorem dX2_isAllowedBy_7 : decode cX2_isAllowedBy 7 = .ok (.aload_n 0, 1) := by decide +kernel
theorem dX2_isAllowedBy_8 : decode cX2_isAllowedBy 8 = .ok (.getfield 15, 3) := by decide +kernel
theorem dX2_isAllowedBy_11 : decode cX2_isAllowedBy 11 = .ok (.iload_n 2, 1) := by decide +kernel
theorem dX2_isAllowedBy_12 : decode cX2_isAllowedBy 12 = .ok (.iaload, 1) := by decide +kernel
theorem dX2_isAllowedBy_13 : decode cX2_isAllowedBy 13 = .ok (.aload_n 0, 1) := by decide +kernel
theorem dX2_isAllowedBy_14 : decode cX2_isAllowedBy 14 = .ok (.getfield 18, 3) := by decide +kernel
theorem dX2_isAllowedBy_17 : decode cX2_isAllowedBy 17 = .ok (.iload_n 2, 1) := by decide +kernel
theorem dX2_isAllowedBy_18 : decode cX2_isAllowedBy 18 = .ok (.iaload, 1) := by decide +kernel
theorem dX2_isAllowedBy_19 : decode cX2_isAllowedBy 19 = .ok (.invokevirtual 40, 3) := by decide +kernel
theorem dX2_isAllowedBy_22 : decode cX2_isAllowedBy 22 = .ok (.ireturn, 1) := by decide +kernel
theorem dX2_carryOut_0 : decode cX2_carryOut 0 = .ok (.aload_n 1, 1) := by decide +kernel
theorem dX2_carryOut_1 : decode cX2_carryOut 1 = .ok (.aload_n 0, 1) := by decide +kernel
theorem dX2_carryOut_2 : decode cX2_carryOut 2 = .ok (.getfield 9, 3) := by decide +kernel
theorem dX2_carryOut_5 : decode cX2_carryOut 5 = .ok (.iload_n 2, 1) := by decide +kernel
theorem dX2_carryOut_6 : decode cX2_carryOut 6 = .ok (.iaload, 1) := by decide +kernel
theorem dX2_carryOut_7 : decode cX2_carryOut 7 = .ok (.aload_n 0, 1) := by decide +kernel
theorem dX2_carryOut_8 : decode cX2_carryOut 8 = .ok (.getfield 15, 3) := by decide +kernel
theorem dX2_carryOut_11 : decode cX2_carryOut 11 = .ok (.iload_n 2, 1) := by decide +kernel
theorem dX2_carryOut_12 : decode cX2_carryOut 12 = .ok (.iaload, 1) := by decide +kernel
theorem dX2_carryOut_13 : decode cX2_carryOut 13 = .ok (.aload_n 0, 1) := by decide +kernel
theorem dX2_carryOut_14 : decode cX2_carryOut 14 = .ok (.getfield 18, 3) := by decide +kernel
theorem dX2_carryOut_17 : decode cX2_carryOut 17 = .ok (.iload_n 2, 1) := by decide +kernel
theorem dX2_carryOut_18 : decode cX2_carryOut 18 = .ok (.iaload, 1) := by decide +kernel
theorem dX2_carryOut_19 : decode cX2_carryOut 19 = .ok (.invokevirtual 46, 3) := by decide +kernel
theorem dX2_carryOut_22 : decode cX2_carryOut 22 = .ok (.return_, 1) := by decide +kernel
theorem dX3_init_0 : decode cX3_init 0 = .ok (.aload_n 0, 1) := by decide +kernel
theorem dX3_init_1 : decode cX3_init 1 = .ok (.invokespecial 3, 3) := by decide +kernel
theorem dX3_init_4 : decode cX3_init 4 = .ok (.aload_n 0, 1) := by decide +kernel
theorem dX3_init_5 : decode cX3_init 5 = .ok (.bipush 24, 2) := by decide +kernel
theorem dX3_init_7 : decode cX3_init 7 = .ok (.newarray .int, 2) := by decide +kernel
theorem dX3_init_9 : decode cX3_init 9 = .ok (.putfield 9, 3) := by decide +kernel
theorem dX3_init_12 : decode cX3_init 12 = .ok (.return_, 1) := by decide +kernel
theorem dX3_refresh_0 : decode cX3_refresh 0 = .ok (.iconst 0, 1) := by decide +kernel
theorem dX3_refresh_1 : decode cX3_refresh 1 = .ok (.istore_n 3, 1) := by decide +kernel
theorem dX3_refresh_2 : decode cX3_refresh 2 = .ok (.iload_n 3, 1) := by decide +kernel
theorem dX3_refresh_3 : decode cX3_refresh 3 = .ok (.aload_n 1, 1) := by decide +kernel
theorem dX3_refresh_4 : decode cX3_refresh 4 = .ok (.getfield 15, 3) := by decide +kernel
theorem dX3_refresh_7 : decode cX3_refresh 7 = .ok (.if_icmp .ge 16, 3) := by decide +kernel
theorem dX3_refresh_10 : decode cX3_refresh 10 = .ok (.aload_n 0, 1) := by decide +kernel
theorem dX3_refresh_11 : decode cX3_refresh 11 = .ok (.getfield 9, 3) := by decide +kernel
theorem dX3_refresh_14 : decode cX3_refresh 14 = .ok (.iload_n 3, 1) := by decide +kernel
theorem dX3_refresh_15 : decode cX3_refresh 15 = .ok (.iconst 0, 1) := by decide +kernel
theorem dX3_refresh_16 : decode cX3_refresh 16 = .ok (.iastore, 1) := by decide +kernel
theorem dX3_refresh_17 : decode cX3_refresh 17 = .ok (.iinc 3 1, 3) := by decide +kernel
theorem dX3_refresh_20 : decode cX3_refresh 20 = .ok (.goto (-18), 3) := by decide +kernel
theorem dX3_refresh_23 : decode cX3_refresh 23 = .ok (.iconst 0, 1) := by decide +kernel
theorem dX3_refresh_24 : decode cX3_refresh 24 = .ok (.istore_n 3, 1) := by decide +kernel
theorem dX3_refresh_25 : decode cX3_refresh 25 = .ok (.iload_n 3, 1) := by decide +kernel
theorem dX3_refresh_26 : decode cX3_refresh 26 = .ok (.aload_n 2, 1) := by decide +kernel
theorem dX3_refresh_27 : decode cX3_refresh 27 = .ok (.getfield 21, 3) := by decide +kernel
theorem dX3_refresh_30 : decode cX3_refresh 30 = .ok (.if_icmp .ge 62, 3) := by decide +kernel
theorem dX3_refresh_33 : decode cX3_refresh 33 = .ok (.aload_n 1, 1) := by decide +kernel
theorem dX3_refresh_34 : decode cX3_refresh 34 = .ok (.aload_n 2, 1) := by decide +kernel
theorem dX3_refresh_35 : decode cX3_refresh 35 = .ok (.getfield 24, 3) := by decide +kernel
theorem dX3_refresh_38 : decode cX3_refresh 38 = .ok (.iload_n 3, 1) := by decide +kernel
theorem dX3_refresh_39 : decode cX3_refresh 39 = .ok (.iaload, 1) := by decide +kernel
theorem dX3_refresh_40 : decode cX3_refresh 40 = .ok (.invokevirtual 27, 3) := by decide +kernel
theorem dX3_refresh_43 : decode cX3_refresh 43 = .ok (.istore 4, 2) := by decide +kernel
theorem dX3_refresh_45 : decode cX3_refresh 45 = .ok (.iconst 0, 1) := by decide +kernel
theorem dX3_refresh_46 : decode cX3_refresh 46 = .ok (.istore 5, 2) := by decide +kernel
theorem dX3_refresh_48 : decode cX3_refresh 48 = .ok (.iload 5, 2) := by decide +kernel
theorem dX3_refresh_50 : decode cX3_refresh 50 = .ok (.aload_n 1, 1) := by decide +kernel
theorem dX3_refresh_51 : decode cX3_refresh 51 = .ok (.getfield 15, 3) := by decide +kernel
theorem dX3_refresh_54 : decode cX3_refresh 54 = .ok (.if_icmp .ge 32, 3) := by decide +kernel
theorem dX3_refresh_57 : decode cX3_refresh 57 = .ok (.iload 4, 2) := by decide +kernel
theorem dX3_refresh_59 : decode cX3_refresh 59 = .ok (.iload 5, 2) := by decide +kernel
theorem dX3_refresh_61 : decode cX3_refresh 61 = .ok (.invokestatic 31, 3) := by decide +kernel
theorem dX3_refresh_64 : decode cX3_refresh 64 = .ok (.ifCond .eq 16, 3) := by decide +kernel
theorem dX3_refresh_67 : decode cX3_refresh 67 = .ok (.aload_n 0, 1) := by decide +kernel
theorem dX3_refresh_68 : decode cX3_refresh 68 = .ok (.getfield 9, 3) := by decide +kernel
theorem dX3_refresh_71 : decode cX3_refresh 71 = .ok (.iload 5, 2) := by decide +kernel
theorem dX3_refresh_73 : decode cX3_refresh 73 = .ok (.dup2, 1) := by decide +kernel
theorem dX3_refresh_74 : decode cX3_refresh 74 = .ok (.iaload, 1) := by decide +kernel
theorem dX3_refresh_75 : decode cX3_refresh 75 = .ok (.iconst 1, 1) := by decide +kernel
theorem dX3_refresh_76 : decode cX3_refresh 76 = .ok (.iload_n 3, 1) := by decide +kernel
theorem dX3_refresh_77 : decode cX3_refresh 77 = .ok (.ishl, 1) := by decide +kernel
theorem dX3_refresh_78 : decode cX3_refresh 78 = .ok (.ior, 1) := by decide +kernel
theorem dX3_refresh_79 : decode cX3_refresh 79 = .ok (.iastore, 1) := by decide +kernel
theorem dX3_refresh_80 : decode cX3_refresh 80 = .ok (.iinc 5 1, 3) := by decide +kernel
theorem dX3_refresh_83 : decode cX3_refresh 83 = .ok (.goto (-35), 3) := by decide +kernel
theorem dX3_refresh_86 : decode cX3_refresh 86 = .ok (.iinc 3 1, 3) := by decide +kernel
theorem dX3_refresh_89 : decode cX3_refresh 89 = .ok (.goto (-64), 3) := by decide +kernel
theorem dX3_refresh_92 : decode cX3_refresh 92 = .ok (.return_, 1) := by decide +kernel
theorem dX3_column_0 : decode cX3_column 0 = .ok (.iconst 0, 1) := by decide +kernel
theorem dX3_column_1 : decode cX3_column 1 = .ok (.istore_n 3, 1) := by decide +kernel
theorem dX3_column_2 : decode cX3_column 2 = .ok (.iconst 0, 1) := by decide +kernel
theorem dX3_column_3 : decode cX3_column 3 = .ok (.istore 4, 2) := by decide +kernel
theorem dX3_column_5 : decode cX3_column 5 = .ok (.iload 4, 2) := by decide +kernel
theorem dX3_column_7 : decode cX3_column 7 = .ok (.iload_n 2, 1) := by decide +kernel
theorem dX3_column_8 : decode cX3_column 8 = .ok (.if_icmp .ge 30, 3) := by decide +kernel
theorem dX3_column_11 : decode cX3_column 11 = .ok (.aload_n 0, 1) := by decide +kernel
theorem dX3_column_12 : decode cX3_column 12 = .ok (.getfield 9, 3) := by decide +kernel
theorem dX3_column_15 : decode cX3_column 15 = .ok (.iload 4, 2) := by decide +kernel
theorem dX3_column_17 : decode cX3_column 17 = .ok (.iaload, 1) := by decide +kernel
theorem dX3_column_18 : decode cX3_column 18 = .ok (.iload_n 1, 1) := by decide +kernel
theorem dX3_column_19 : decode cX3_column 19 = .ok (.invokestatic 31, 3) := by decide +kernel
theorem dX3_column_22 : decode cX3_column 22 = .ok (.ifCond .eq 10, 3) := by decide +kernel
theorem dX3_column_25 : decode cX3_column 25 = .ok (.iload_n 3, 1) := by decide +kernel
theorem dX3_column_26 : decode cX3_column 26 = .ok (.iconst 1, 1) := by decide +kernel
theorem dX3_column_27 : decode cX3_column 27 = .ok (.iload 4, 2) := by decide +kernel
theorem dX3_column_29 : decode cX3_column 29 = .ok (.ishl, 1) := by decide +kernel
theorem dX3_column_30 : decode cX3_column 30 = .ok (.ior, 1) := by decide +kernel
theorem dX3_column_31 : decode cX3_column 31 = .ok (.istore_n 3, 1) := by decide +kernel
theorem dX3_column_32 : decode cX3_column 32 = .ok (.iinc 4 1, 3) := by decide +kernel
theorem dX3_column_35 : decode cX3_column 35 = .ok (.goto (-30), 3) := by decide +kernel
theorem dX3_column_38 : decode cX3_column 38 = .ok (.iload_n 3, 1) := by decide +kernel
theorem dX3_column_39 : decode cX3_column 39 = .ok (.ireturn, 1) := by decide +kernel
theorem dX4_init_0 : decode cX4_init 0 = .ok (.aload_n 0, 1) := by decide +kernel
theorem dX4_init_1 : decode cX4_init 1 = .ok (.invokespecial 3, 3) := by decide +kernel
theorem dX4_init_4 : decode cX4_init 4 = .ok (.aload_n 0, 1) := by decide +kernel
theorem dX4_init_5 : decode cX4_init 5 = .ok (.bipush 24, 2) := by decide +kernel
theorem dX4_init_7 : decode cX4_init 7 = .ok (.newarray .int, 2) := by decide +kernel
theorem dX4_init_9 : decode cX4_init 9 = .ok (.putfield 9, 3) := by decide +kernel
theorem dX4_init_12 : decode cX4_init 12 = .ok (.aload_n 0, 1) := by decide +kernel
theorem dX4_init_13 : decode cX4_init 13 = .ok (.bipush 24, 2) := by decide +kernel
theorem dX4_init_15 : decode cX4_init 15 = .ok (.newarray .int, 2) := by decide +kernel
theorem dX4_init_17 : decode cX4_init 17 = .ok (.putfield 15, 3) := by decide +kernel
theorem dX4_init_20 : decode cX4_init 20 = .ok (.aload_n 0, 1) := by decide +kernel
theorem dX4_init_21 : decode cX4_init 21 = .ok (.bipush 24, 2) := by decide +kernel
theorem dX4_init_23 : decode cX4_init 23 = .ok (.newarray .int, 2) := by decide +kernel
theorem dX4_init_25 : decode cX4_init 25 = .ok (.putfield 18, 3) := by decide +kernel
theorem dX4_init_28 : decode cX4_init 28 = .ok (.aload_n 0, 1) := by decide +kernel
theorem dX4_init_29 : decode cX4_init 29 = .ok (.bipush 24, 2) := by decide +kernel
theorem dX4_init_31 : decode cX4_init 31 = .ok (.newarray .int, 2) := by decide +kernel
theorem dX4_init_33 : decode cX4_init 33 = .ok (.putfield 21, 3) := by decide +kernel
theorem dX4_init_36 : decode cX4_init 36 = .ok (.return_, 1) := by decide +kernel
theorem dX4_grow_0 : decode cX4_grow 0 = .ok (.aload_n 0, 1) := by decide +kernel
theorem dX4_grow_1 : decode cX4_grow 1 = .ok (.getfield 24, 3) := by decide +kernel
theorem dX4_grow_4 : decode cX4_grow 4 = .ok (.istore_n 2, 1) := by decide +kernel
theorem dX4_grow_5 : decode cX4_grow 5 = .ok (.iload_n 2, 1) := by decide +kernel
theorem dX4_grow_6 : decode cX4_grow 6 = .ok (.iload_n 1, 1) := by decide +kernel
theorem dX4_grow_7 : decode cX4_grow 7 = .ok (.if_icmp .ge 16, 3) := by decide +kernel
theorem dX4_grow_10 : decode cX4_grow 10 = .ok (.aload_n 0, 1) := by decide +kernel
theorem dX4_grow_11 : decode cX4_grow 11 = .ok (.getfield 9, 3) := by decide +kernel
theorem dX4_grow_14 : decode cX4_grow 14 = .ok (.iload_n 2, 1) := by decide +kernel
theorem dX4_grow_15 : decode cX4_grow 15 = .ok (.iconst (-1), 1) := by decide +kernel
theorem dX4_grow_16 : decode cX4_grow 16 = .ok (.iastore, 1) := by decide +kernel
theorem dX4_grow_17 : decode cX4_grow 17 = .ok (.iinc 2 1, 3) := by decide +kernel
theorem dX4_grow_20 : decode cX4_grow 20 = .ok (.goto (-15), 3) := by decide +kernel
theorem dX4_grow_23 : decode cX4_grow 23 = .ok (.aload_n 0, 1) := by decide +kernel
theorem dX4_grow_24 : decode cX4_grow 24 = .ok (.iload_n 1, 1) := by decide +kernel
theorem dX4_grow_25 : decode cX4_grow 25 = .ok (.putfield 24, 3) := by decide +kernel
theorem dX4_grow_28 : decode cX4_grow 28 = .ok (.aload_n 0, 1) := by decide +kernel
theorem dX4_grow_29 : decode cX4_grow 29 = .ok (.invokevirtual 28, 3) := by decide +kernel
theorem dX4_grow_32 : decode cX4_grow 32 = .ok (.return_, 1) := by decide +kernel
theorem dX4_copyFrom_0 : decode cX4_copyFrom 0 = .ok (.aload_n 0, 1) := by decide +kernel
theorem dX4_copyFrom_1 : decode cX4_copyFrom 1 = .ok (.aload_n 1, 1) := by decide +kernel
theorem dX4_copyFrom_2 : decode cX4_copyFrom 2 = .ok (.getfield 24, 3) := by decide +kernel
theorem dX4_copyFrom_5 : decode cX4_copyFrom 5 = .ok (.putfield 24, 3) := by decide +kernel
theorem dX4_copyFrom_8 : decode cX4_copyFrom 8 = .ok (.iconst 0, 1) := by decide +kernel
theorem dX4_copyFrom_9 : decode cX4_copyFrom 9 = .ok (.istore_n 2, 1) := by decide +kernel
theorem dX4_copyFrom_10 : decode cX4_copyFrom 10 = .ok (.iload_n 2, 1) := by decide +kernel
theorem dX4_copyFrom_11 : decode cX4_copyFrom 11 = .ok (.aload_n 0, 1) := by decide +kernel
theorem dX4_copyFrom_12 : decode cX4_copyFrom 12 = .ok (.getfield 24, 3) := by decide +kernel
theorem dX4_copyFrom_15 : decode cX4_copyFrom 15 = .ok (.if_icmp .ge 33, 3) := by decide +kernel
theorem dX4_copyFrom_18 : decode cX4_copyFrom 18 = .ok (.aload_n 0, 1) := by decide +kernel
theorem dX4_copyFrom_19 : decode cX4_copyFrom 19 = .ok (.getfield 9, 3) := by decide +kernel
theorem dX4_copyFrom_22 : decode cX4_copyFrom 22 = .ok (.iload_n 2, 1) := by decide +kernel
theorem dX4_copyFrom_23 : decode cX4_copyFrom 23 = .ok (.aload_n 1, 1) := by decide +kernel
theorem dX4_copyFrom_24 : decode cX4_copyFrom 24 = .ok (.getfield 9, 3) := by decide +kernel
theorem dX4_copyFrom_27 : decode cX4_copyFrom 27 = .ok (.iload_n 2, 1) := by decide +kernel
theorem dX4_copyFrom_28 : decode cX4_copyFrom 28 = .ok (.iaload, 1) := by decide +kernel
theorem dX4_copyFrom_29 : decode cX4_copyFrom 29 = .ok (.iastore, 1) := by decide +kernel
theorem dX4_copyFrom_30 : decode cX4_copyFrom 30 = .ok (.aload_n 0, 1) := by decide +kernel
theorem dX4_copyFrom_31 : decode cX4_copyFrom 31 = .ok (.getfield 15, 3) := by decide +kernel
theorem dX4_copyFrom_34 : decode cX4_copyFrom 34 = .ok (.iload_n 2, 1) := by decide +kernel
theorem dX4_copyFrom_35 : decode cX4_copyFrom 35 = .ok (.aload_n 1, 1) := by decide +kernel
theorem dX4_copyFrom_36 : decode cX4_copyFrom 36 = .ok (.getfield 15, 3) := by decide +kernel
theorem dX4_copyFrom_39 : decode cX4_copyFrom 39 = .ok (.iload_n 2, 1) := by decide +kernel
theorem dX4_copyFrom_40 : decode cX4_copyFrom 40 = .ok (.iaload, 1) := by decide +kernel
theorem dX4_copyFrom_41 : decode cX4_copyFrom 41 = .ok (.iastore, 1) := by decide +kernel
theorem dX4_copyFrom_42 : decode cX4_copyFrom 42 = .ok (.iinc 2 1, 3) := by decide +kernel
theorem dX4_copyFrom_45 : decode cX4_copyFrom 45 = .ok (.goto (-35), 3) := by decide +kernel
theorem dX4_copyFrom_48 : decode cX4_copyFrom 48 = .ok (.return_, 1) := by decide +kernel
theorem dX4_endOf_0 : decode cX4_endOf 0 = .ok (.iload_n 1, 1) := by decide +kernel
theorem dX4_endOf_1 : decode cX4_endOf 1 = .ok (.istore_n 2, 1) := by decide +kernel
theorem dX4_endOf_2 : decode cX4_endOf 2 = .ok (.iconst 0, 1) := by decide +kernel
theorem dX4_endOf_3 : decode cX4_endOf 3 = .ok (.istore_n 3, 1) := by decide +kernel
theorem dX4_endOf_4 : decode cX4_endOf 4 = .ok (.iload_n 3, 1) := by decide +kernel
theorem dX4_endOf_5 : decode cX4_endOf 5 = .ok (.aload_n 0, 1) := by decide +kernel
theorem dX4_endOf_6 : decode cX4_endOf 6 = .ok (.getfield 24, 3) := by decide +kernel
theorem dX4_endOf_9 : decode cX4_endOf 9 = .ok (.if_icmp .ge 37, 3) := by decide +kernel
theorem dX4_endOf_12 : decode cX4_endOf 12 = .ok (.aload_n 0, 1) := by decide +kernel
theorem dX4_endOf_13 : decode cX4_endOf 13 = .ok (.getfield 9, 3) := by decide +kernel
theorem dX4_endOf_16 : decode cX4_endOf 16 = .ok (.iload_n 2, 1) := by decide +kernel
theorem dX4_endOf_17 : decode cX4_endOf 17 = .ok (.iaload, 1) := by decide +kernel
theorem dX4_endOf_18 : decode cX4_endOf 18 = .ok (.istore 4, 2) := by decide +kernel
theorem dX4_endOf_20 : decode cX4_endOf 20 = .ok (.iload 4, 2) := by decide +kernel
theorem dX4_endOf_22 : decode cX4_endOf 22 = .ok (.ifCond .lt 24, 3) := by decide +kernel
theorem dX4_endOf_25 : decode cX4_endOf 25 = .ok (.iload 4, 2) := by decide +kernel
theorem dX4_endOf_27 : decode cX4_endOf 27 = .ok (.aload_n 0, 1) := by decide +kernel
theorem dX4_endOf_28 : decode cX4_endOf 28 = .ok (.getfield 24, 3) := by decide +kernel
theorem dX4_endOf_31 : decode cX4_endOf 31 = .ok (.if_icmp .lt 6, 3) := by decide +kernel
theorem dX4_endOf_34 : decode cX4_endOf 34 = .ok (.goto 12, 3) := by decide +kernel
theorem dX4_endOf_37 : decode cX4_endOf 37 = .ok (.iload 4, 2) := by decide +kernel
theorem dX4_endOf_39 : decode cX4_endOf 39 = .ok (.istore_n 2, 1) := by decide +kernel
theorem dX4_endOf_40 : decode cX4_endOf 40 = .ok (.iinc 3 1, 3) := by decide +kernel
theorem dX4_endOf_43 : decode cX4_endOf 43 = .ok (.goto (-39), 3) := by decide +kernel
theorem dX4_endOf_46 : decode cX4_endOf 46 = .ok (.iload_n 2, 1) := by decide +kernel
theorem dX4_endOf_47 : decode cX4_endOf 47 = .ok (.ireturn, 1) := by decide +kernel
theorem dX4_allows_0 : decode cX4_allows 0 = .ok (.iload_n 1, 1) := by decide +kernel
theorem dX4_allows_1 : decode cX4_allows 1 = .ok (.tableswitch 90 0 2 #[27, 34, 74], 27) := by decide +kernel
theorem dX4_allows_28 : decode cX4_allows 28 = .ok (.aload_n 0, 1) := by decide +kernel
theorem dX4_allows_29 : decode cX4_allows 29 = .ok (.iload_n 2, 1) := by decide +kernel
theorem dX4_allows_30 : decode cX4_allows 30 = .ok (.iload_n 3, 1) := by decide +kernel
theorem dX4_allows_31 : decode cX4_allows 31 = .ok (.invokevirtual 31, 3) := by decide +kernel
theorem dX4_allows_34 : decode cX4_allows 34 = .ok (.ireturn, 1) := by decide +kernel
theorem dX4_allows_35 : decode cX4_allows 35 = .ok (.aload_n 0, 1) := by decide +kernel
theorem dX4_allows_36 : decode cX4_allows 36 = .ok (.getfield 15, 3) := by decide +kernel
theorem dX4_allows_39 : decode cX4_allows 39 = .ok (.iload_n 2, 1) := by decide +kernel
theorem dX4_allows_40 : decode cX4_allows 40 = .ok (.iaload, 1) := by decide +kernel
theorem dX4_allows_41 : decode cX4_allows 41 = .ok (.iload_n 3, 1) := by decide +kernel
theorem dX4_allows_42 : decode cX4_allows 42 = .ok (.invokestatic 35, 3) := by decide +kernel
theorem dX4_allows_45 : decode cX4_allows 45 = .ok (.ifCond .ne 28, 3) := by decide +kernel
theorem dX4_allows_48 : decode cX4_allows 48 = .ok (.aload_n 0, 1) := by decide +kernel
theorem dX4_allows_49 : decode cX4_allows 49 = .ok (.getfield 21, 3) := by decide +kernel
theorem dX4_allows_52 : decode cX4_allows 52 = .ok (.aload_n 0, 1) := by decide +kernel
theorem dX4_allows_53 : decode cX4_allows 53 = .ok (.iload_n 3, 1) := by decide +kernel
theorem dX4_allows_54 : decode cX4_allows 54 = .ok (.invokevirtual 38, 3) := by decide +kernel
theorem dX4_allows_57 : decode cX4_allows 57 = .ok (.iaload, 1) := by decide +kernel
theorem dX4_allows_58 : decode cX4_allows 58 = .ok (.aload_n 0, 1) := by decide +kernel
theorem dX4_allows_59 : decode cX4_allows 59 = .ok (.iload_n 2, 1) := by decide +kernel
theorem dX4_allows_60 : decode cX4_allows 60 = .ok (.invokevirtual 38, 3) := by decide +kernel
theorem dX4_allows_63 : decode cX4_allows 63 = .ok (.invokestatic 35, 3) := by decide +kernel
theorem dX4_allows_66 : decode cX4_allows 66 = .ok (.ifCond .ne 7, 3) := by decide +kernel
theorem dX4_allows_69 : decode cX4_allows 69 = .ok (.iconst 1, 1) := by decide +kernel
theorem dX4_allows_70 : decode cX4_allows 70 = .ok (.goto 4, 3) := by decide +kernel
theorem dX4_allows_73 : decode cX4_allows 73 = .ok (.iconst 0, 1) := by decide +kernel
theorem dX4_allows_74 : decode cX4_allows 74 = .ok (.ireturn, 1) := by decide +kernel
theorem dX4_allows_75 : decode cX4_allows 75 = .ok (.aload_n 0, 1) := by decide +kernel
theorem dX4_allows_76 : decode cX4_allows 76 = .ok (.getfield 9, 3) := by decide +kernel
theorem dX4_allows_79 : decode cX4_allows 79 = .ok (.iload_n 2, 1) := by decide +kernel
theorem dX4_allows_80 : decode cX4_allows 80 = .ok (.iaload, 1) := by decide +kernel
theorem dX4_allows_81 : decode cX4_allows 81 = .ok (.iload_n 3, 1) := by decide +kernel
theorem dX4_allows_82 : decode cX4_allows 82 = .ok (.if_icmp .ne 7, 3) := by decide +kernel
theorem dX4_allows_85 : decode cX4_allows 85 = .ok (.iconst 1, 1) := by decide +kernel
theorem dX4_allows_86 : decode cX4_allows 86 = .ok (.goto 4, 3) := by decide +kernel
theorem dX4_allows_89 : decode cX4_allows 89 = .ok (.iconst 0, 1) := by decide +kernel
theorem dX4_allows_90 : decode cX4_allows 90 = .ok (.ireturn, 1) := by decide +kernel
theorem dX4_allows_91 : decode cX4_allows 91 = .ok (.aload_n 0, 1) := by decide +kernel
theorem dX4_allows_92 : decode cX4_allows 92 = .ok (.getfield 15, 3) := by decide +kernel
theorem dX4_allows_95 : decode cX4_allows 95 = .ok (.iload_n 2, 1) := by decide +kernel
theorem dX4_allows_96 : decode cX4_allows 96 = .ok (.iaload, 1) := by decide +kernel
theorem dX4_allows_97 : decode cX4_allows 97 = .ok (.iload_n 3, 1) := by decide +kernel
theorem dX4_allows_98 : decode cX4_allows 98 = .ok (.invokestatic 35, 3) := by decide +kernel
theorem dX4_allows_101 : decode cX4_allows 101 = .ok (.ireturn, 1) := by decide +kernel
theorem dX4_allowsAlias_0 : decode cX4_allowsAlias 0 = .ok (.aload_n 0, 1) := by decide +kernel
theorem dX4_allowsAlias_1 : decode cX4_allowsAlias 1 = .ok (.iload_n 2, 1) := by decide +kernel
theorem dX4_allowsAlias_2 : decode cX4_allowsAlias 2 = .ok (.invokevirtual 38, 3) := by decide +kernel
theorem dX4_allowsAlias_5 : decode cX4_allowsAlias 5 = .ok (.istore_n 3, 1) := by decide +kernel
theorem dX4_allowsAlias_6 : decode cX4_allowsAlias 6 = .ok (.aload_n 0, 1) := by decide +kernel
theorem dX4_allowsAlias_7 : decode cX4_allowsAlias 7 = .ok (.getfield 9, 3) := by decide +kernel
theorem dX4_allowsAlias_10 : decode cX4_allowsAlias 10 = .ok (.iload_n 1, 1) := by decide +kernel
theorem dX4_allowsAlias_11 : decode cX4_allowsAlias 11 = .ok (.iaload, 1) := by decide +kernel
theorem dX4_allowsAlias_12 : decode cX4_allowsAlias 12 = .ok (.iconst (-1), 1) := by decide +kernel
theorem dX4_allowsAlias_13 : decode cX4_allowsAlias 13 = .ok (.if_icmp .ne 38, 3) := by decide +kernel
theorem dX4_allowsAlias_16 : decode cX4_allowsAlias 16 = .ok (.iload_n 3, 1) := by decide +kernel
theorem dX4_allowsAlias_17 : decode cX4_allowsAlias 17 = .ok (.iload_n 1, 1) := by decide +kernel
theorem dX4_allowsAlias_18 : decode cX4_allowsAlias 18 = .ok (.if_icmp .eq 33, 3) := by decide +kernel
theorem dX4_allowsAlias_21 : decode cX4_allowsAlias 21 = .ok (.aload_n 0, 1) := by decide +kernel
theorem dX4_allowsAlias_22 : decode cX4_allowsAlias 22 = .ok (.getfield 21, 3) := by decide +kernel
theorem dX4_allowsAlias_25 : decode cX4_allowsAlias 25 = .ok (.iload_n 1, 1) := by decide +kernel
theorem dX4_allowsAlias_26 : decode cX4_allowsAlias 26 = .ok (.iaload, 1) := by decide +kernel
theorem dX4_allowsAlias_27 : decode cX4_allowsAlias 27 = .ok (.iload_n 3, 1) := by decide +kernel
theorem dX4_allowsAlias_28 : decode cX4_allowsAlias 28 = .ok (.invokestatic 35, 3) := by decide +kernel
theorem dX4_allowsAlias_31 : decode cX4_allowsAlias 31 = .ok (.ifCond .ne 20, 3) := by decide +kernel
theorem dX4_allowsAlias_34 : decode cX4_allowsAlias 34 = .ok (.aload_n 0, 1) := by decide +kernel
theorem dX4_allowsAlias_35 : decode cX4_allowsAlias 35 = .ok (.getfield 21, 3) := by decide +kernel
theorem dX4_allowsAlias_38 : decode cX4_allowsAlias 38 = .ok (.iload_n 3, 1) := by decide +kernel
theorem dX4_allowsAlias_39 : decode cX4_allowsAlias 39 = .ok (.iaload, 1) := by decide +kernel
theorem dX4_allowsAlias_40 : decode cX4_allowsAlias 40 = .ok (.iload_n 1, 1) := by decide +kernel
theorem dX4_allowsAlias_41 : decode cX4_allowsAlias 41 = .ok (.invokestatic 35, 3) := by decide +kernel
theorem dX4_allowsAlias_44 : decode cX4_allowsAlias 44 = .ok (.ifCond .ne 7, 3) := by decide +kernel
theorem dX4_allowsAlias_47 : decode cX4_allowsAlias 47 = .ok (.iconst 1, 1) := by decide +kernel
theorem dX4_allowsAlias_48 : decode cX4_allowsAlias 48 = .ok (.goto 4, 3) := by decide +kernel
theorem dX4_allowsAlias_51 : decode cX4_allowsAlias 51 = .ok (.iconst 0, 1) := by decide +kernel
theorem dX4_allowsAlias_52 : decode cX4_allowsAlias 52 = .ok (.ireturn, 1) := by decide +kernel
theorem dX4_carryOut_0 : decode cX4_carryOut 0 = .ok (.iload_n 1, 1) := by decide +kernel
theorem dX4_carryOut_1 : decode cX4_carryOut 1 = .ok (.tableswitch 62 0 2 #[27, 37, 52], 27) := by decide +kernel
theorem dX4_carryOut_28 : decode cX4_carryOut 28 = .ok (.aload_n 0, 1) := by decide +kernel
theorem dX4_carryOut_29 : decode cX4_carryOut 29 = .ok (.getfield 9, 3) := by decide +kernel
theorem dX4_carryOut_32 : decode cX4_carryOut 32 = .ok (.iload_n 2, 1) := by decide +kernel
theorem dX4_carryOut_33 : decode cX4_carryOut 33 = .ok (.iload_n 3, 1) := by decide +kernel
theorem dX4_carryOut_34 : decode cX4_carryOut 34 = .ok (.iastore, 1) := by decide +kernel
theorem dX4_carryOut_35 : decode cX4_carryOut 35 = .ok (.goto 42, 3) := by decide +kernel
theorem dX4_carryOut_38 : decode cX4_carryOut 38 = .ok (.aload_n 0, 1) := by decide +kernel
theorem dX4_carryOut_39 : decode cX4_carryOut 39 = .ok (.getfield 15, 3) := by decide +kernel
theorem dX4_carryOut_42 : decode cX4_carryOut 42 = .ok (.iload_n 2, 1) := by decide +kernel
theorem dX4_carryOut_43 : decode cX4_carryOut 43 = .ok (.dup2, 1) := by decide +kernel
theorem dX4_carryOut_44 : decode cX4_carryOut 44 = .ok (.iaload, 1) := by decide +kernel
theorem dX4_carryOut_45 : decode cX4_carryOut 45 = .ok (.iconst 1, 1) := by decide +kernel
theorem dX4_carryOut_46 : decode cX4_carryOut 46 = .ok (.iload_n 3, 1) := by decide +kernel
theorem dX4_carryOut_47 : decode cX4_carryOut 47 = .ok (.ishl, 1) := by decide +kernel
theorem dX4_carryOut_48 : decode cX4_carryOut 48 = .ok (.ior, 1) := by decide +kernel
theorem dX4_carryOut_49 : decode cX4_carryOut 49 = .ok (.iastore, 1) := by decide +kernel
theorem dX4_carryOut_50 : decode cX4_carryOut 50 = .ok (.goto 27, 3) := by decide +kernel
theorem dX4_carryOut_53 : decode cX4_carryOut 53 = .ok (.aload_n 0, 1) := by decide +kernel
theorem dX4_carryOut_54 : decode cX4_carryOut 54 = .ok (.getfield 9, 3) := by decide +kernel
theorem dX4_carryOut_57 : decode cX4_carryOut 57 = .ok (.iload_n 2, 1) := by decide +kernel
theorem dX4_carryOut_58 : decode cX4_carryOut 58 = .ok (.iconst (-1), 1) := by decide +kernel
theorem dX4_carryOut_59 : decode cX4_carryOut 59 = .ok (.iastore, 1) := by decide +kernel
theorem dX4_carryOut_60 : decode cX4_carryOut 60 = .ok (.goto 17, 3) := by decide +kernel
theorem dX4_carryOut_63 : decode cX4_carryOut 63 = .ok (.aload_n 0, 1) := by decide +kernel
theorem dX4_carryOut_64 : decode cX4_carryOut 64 = .ok (.getfield 15, 3) := by decide +kernel
theorem dX4_carryOut_67 : decode cX4_carryOut 67 = .ok (.iload_n 2, 1) := by decide +kernel
theorem dX4_carryOut_68 : decode cX4_carryOut 68 = .ok (.dup2, 1) := by decide +kernel
theorem dX4_carryOut_69 : decode cX4_carryOut 69 = .ok (.iaload, 1) := by decide +kernel
theorem dX4_carryOut_70 : decode cX4_carryOut 70 = .ok (.iconst 1, 1) := by decide +kernel
theorem dX4_carryOut_71 : decode cX4_carryOut 71 = .ok (.iload_n 3, 1) := by decide +kernel
theorem dX4_carryOut_72 : decode cX4_carryOut 72 = .ok (.ishl, 1) := by decide +kernel
theorem dX4_carryOut_73 : decode cX4_carryOut 73 = .ok (.iconst (-1), 1) := by decide +kernel
theorem dX4_carryOut_74 : decode cX4_carryOut 74 = .ok (.ixor, 1) := by decide +kernel
theorem dX4_carryOut_75 : decode cX4_carryOut 75 = .ok (.iand, 1) := by decide +kernel
theorem dX4_carryOut_76 : decode cX4_carryOut 76 = .ok (.iastore, 1) := by decide +kernel
theorem dX4_carryOut_77 : decode cX4_carryOut 77 = .ok (.aload_n 0, 1) := by decide +kernel
theorem dX4_carryOut_78 : decode cX4_carryOut 78 = .ok (.invokevirtual 28, 3) := by decide +kernel
theorem dX4_carryOut_81 : decode cX4_carryOut 81 = .ok (.return_, 1) := by decide +kernel
theorem dX4_workOut_0 : decode cX4_workOut 0 = .ok (.iconst 0, 1) := by decide +kernel
theorem dX4_workOut_1 : decode cX4_workOut 1 = .ok (.istore_n 1, 1) := by decide +kernel
theorem dX4_workOut_2 : decode cX4_workOut 2 = .ok (.iload_n 1, 1) := by decide +kernel
theorem dX4_workOut_3 : decode cX4_workOut 3 = .ok (.aload_n 0, 1) := by decide +kernel
theorem dX4_workOut_4 : decode cX4_workOut 4 = .ok (.getfield 24, 3) := by decide +kernel
theorem dX4_workOut_7 : decode cX4_workOut 7 = .ok (.if_icmp .ge 16, 3) := by decide +kernel
theorem dX4_workOut_10 : decode cX4_workOut 10 = .ok (.aload_n 0, 1) := by decide +kernel
theorem dX4_workOut_11 : decode cX4_workOut 11 = .ok (.getfield 18, 3) := by decide +kernel
theorem dX4_workOut_14 : decode cX4_workOut 14 = .ok (.iload_n 1, 1) := by decide +kernel
theorem dX4_workOut_15 : decode cX4_workOut 15 = .ok (.iconst 0, 1) := by decide +kernel
theorem dX4_workOut_16 : decode cX4_workOut 16 = .ok (.iastore, 1) := by decide +kernel
theorem dX4_workOut_17 : decode cX4_workOut 17 = .ok (.iinc 1 1, 3) := by decide +kernel
theorem dX4_workOut_20 : decode cX4_workOut 20 = .ok (.goto (-18), 3) := by decide +kernel
theorem dX4_workOut_23 : decode cX4_workOut 23 = .ok (.iconst 0, 1) := by decide +kernel
theorem dX4_workOut_24 : decode cX4_workOut 24 = .ok (.istore_n 1, 1) := by decide +kernel
theorem dX4_workOut_25 : decode cX4_workOut 25 = .ok (.iload_n 1, 1) := by decide +kernel
theorem dX4_workOut_26 : decode cX4_workOut 26 = .ok (.aload_n 0, 1) := by decide +kernel
theorem dX4_workOut_27 : decode cX4_workOut 27 = .ok (.getfield 24, 3) := by decide +kernel
theorem dX4_workOut_30 : decode cX4_workOut 30 = .ok (.if_icmp .ge 41, 3) := by decide +kernel
theorem dX4_workOut_33 : decode cX4_workOut 33 = .ok (.aload_n 0, 1) := by decide +kernel
theorem dX4_workOut_34 : decode cX4_workOut 34 = .ok (.getfield 15, 3) := by decide +kernel
theorem dX4_workOut_37 : decode cX4_workOut 37 = .ok (.iload_n 1, 1) := by decide +kernel
theorem dX4_workOut_38 : decode cX4_workOut 38 = .ok (.iaload, 1) := by decide +kernel
theorem dX4_workOut_39 : decode cX4_workOut 39 = .ok (.ifCond .eq 26, 3) := by decide +kernel
theorem dX4_workOut_42 : decode cX4_workOut 42 = .ok (.aload_n 0, 1) := by decide +kernel
theorem dX4_workOut_43 : decode cX4_workOut 43 = .ok (.getfield 18, 3) := by decide +kernel
theorem dX4_workOut_46 : decode cX4_workOut 46 = .ok (.aload_n 0, 1) := by decide +kernel
theorem dX4_workOut_47 : decode cX4_workOut 47 = .ok (.iload_n 1, 1) := by decide +kernel
theorem dX4_workOut_48 : decode cX4_workOut 48 = .ok (.invokevirtual 38, 3) := by decide +kernel
theorem dX4_workOut_51 : decode cX4_workOut 51 = .ok (.dup2, 1) := by decide +kernel
theorem dX4_workOut_52 : decode cX4_workOut 52 = .ok (.iaload, 1) := by decide +kernel
theorem dX4_workOut_53 : decode cX4_workOut 53 = .ok (.aload_n 0, 1) := by decide +kernel
theorem dX4_workOut_54 : decode cX4_workOut 54 = .ok (.aload_n 0, 1) := by decide +kernel
theorem dX4_workOut_55 : decode cX4_workOut 55 = .ok (.getfield 15, 3) := by decide +kernel
theorem dX4_workOut_58 : decode cX4_workOut 58 = .ok (.iload_n 1, 1) := by decide +kernel
theorem dX4_workOut_59 : decode cX4_workOut 59 = .ok (.iaload, 1) := by decide +kernel
theorem dX4_workOut_60 : decode cX4_workOut 60 = .ok (.invokevirtual 42, 3) := by decide +kernel
theorem dX4_workOut_63 : decode cX4_workOut 63 = .ok (.ior, 1) := by decide +kernel
theorem dX4_workOut_64 : decode cX4_workOut 64 = .ok (.iastore, 1) := by decide +kernel
theorem dX4_workOut_65 : decode cX4_workOut 65 = .ok (.iinc 1 1, 3) := by decide +kernel
theorem dX4_workOut_68 : decode cX4_workOut 68 = .ok (.goto (-43), 3) := by decide +kernel
theorem dX4_workOut_71 : decode cX4_workOut 71 = .ok (.iconst 0, 1) := by decide +kernel
theorem dX4_workOut_72 : decode cX4_workOut 72 = .ok (.istore_n 1, 1) := by decide +kernel
theorem dX4_workOut_73 : decode cX4_workOut 73 = .ok (.iload_n 1, 1) := by decide +kernel
theorem dX4_workOut_74 : decode cX4_workOut 74 = .ok (.aload_n 0, 1) := by decide +kernel
theorem dX4_workOut_75 : decode cX4_workOut 75 = .ok (.getfield 24, 3) := by decide +kernel
theorem dX4_workOut_78 : decode cX4_workOut 78 = .ok (.if_icmp .ge 25, 3) := by decide +kernel
theorem dX4_workOut_81 : decode cX4_workOut 81 = .ok (.aload_n 0, 1) := by decide +kernel
theorem dX4_workOut_82 : decode cX4_workOut 82 = .ok (.getfield 21, 3) := by decide +kernel
theorem dX4_workOut_85 : decode cX4_workOut 85 = .ok (.iload_n 1, 1) := by decide +kernel
theorem dX4_workOut_86 : decode cX4_workOut 86 = .ok (.aload_n 0, 1) := by decide +kernel
theorem dX4_workOut_87 : decode cX4_workOut 87 = .ok (.getfield 18, 3) := by decide +kernel
theorem dX4_workOut_90 : decode cX4_workOut 90 = .ok (.iload_n 1, 1) := by decide +kernel
theorem dX4_workOut_91 : decode cX4_workOut 91 = .ok (.iaload, 1) := by decide +kernel
theorem dX4_workOut_92 : decode cX4_workOut 92 = .ok (.iconst 1, 1) := by decide +kernel
theorem dX4_workOut_93 : decode cX4_workOut 93 = .ok (.iload_n 1, 1) := by decide +kernel
theorem dX4_workOut_94 : decode cX4_workOut 94 = .ok (.ishl, 1) := by decide +kernel
theorem dX4_workOut_95 : decode cX4_workOut 95 = .ok (.ior, 1) := by decide +kernel
theorem dX4_workOut_96 : decode cX4_workOut 96 = .ok (.iastore, 1) := by decide +kernel
theorem dX4_workOut_97 : decode cX4_workOut 97 = .ok (.iinc 1 1, 3) := by decide +kernel
theorem dX4_workOut_100 : decode cX4_workOut 100 = .ok (.goto (-27), 3) := by decide +kernel
theorem dX4_workOut_103 : decode cX4_workOut 103 = .ok (.iconst 0, 1) := by decide +kernel
theorem dX4_workOut_104 : decode cX4_workOut 104 = .ok (.istore_n 1, 1) := by decide +kernel
theorem dX4_workOut_105 : decode cX4_workOut 105 = .ok (.iload_n 1, 1) := by decide +kernel
theorem dX4_workOut_106 : decode cX4_workOut 106 = .ok (.aload_n 0, 1) := by decide +kernel
theorem dX4_workOut_107 : decode cX4_workOut 107 = .ok (.getfield 24, 3) := by decide +kernel
theorem dX4_workOut_110 : decode cX4_workOut 110 = .ok (.if_icmp .ge 23, 3) := by decide +kernel
theorem dX4_workOut_113 : decode cX4_workOut 113 = .ok (.aload_n 0, 1) := by decide +kernel
theorem dX4_workOut_114 : decode cX4_workOut 114 = .ok (.getfield 18, 3) := by decide +kernel
theorem dX4_workOut_117 : decode cX4_workOut 117 = .ok (.iload_n 1, 1) := by decide +kernel
theorem dX4_workOut_118 : decode cX4_workOut 118 = .ok (.iaload, 1) := by decide +kernel
theorem dX4_workOut_119 : decode cX4_workOut 119 = .ok (.ifCond .eq 8, 3) := by decide +kernel
theorem dX4_workOut_122 : decode cX4_workOut 122 = .ok (.aload_n 0, 1) := by decide +kernel
theorem dX4_workOut_123 : decode cX4_workOut 123 = .ok (.iload_n 1, 1) := by decide +kernel
theorem dX4_workOut_124 : decode cX4_workOut 124 = .ok (.invokevirtual 45, 3) := by decide +kernel
theorem dX4_workOut_127 : decode cX4_workOut 127 = .ok (.iinc 1 1, 3) := by decide +kernel
theorem dX4_workOut_130 : decode cX4_workOut 130 = .ok (.goto (-25), 3) := by decide +kernel
theorem dX4_workOut_133 : decode cX4_workOut 133 = .ok (.return_, 1) := by decide +kernel
theorem dX4_reachOver_0 : decode cX4_reachOver 0 = .ok (.iconst 0, 1) := by decide +kernel
theorem dX4_reachOver_1 : decode cX4_reachOver 1 = .ok (.istore_n 2, 1) := by decide +kernel
theorem dX4_reachOver_2 : decode cX4_reachOver 2 = .ok (.iload_n 2, 1) := by decide +kernel
theorem dX4_reachOver_3 : decode cX4_reachOver 3 = .ok (.aload_n 0, 1) := by decide +kernel
theorem dX4_reachOver_4 : decode cX4_reachOver 4 = .ok (.getfield 24, 3) := by decide +kernel
theorem dX4_reachOver_7 : decode cX4_reachOver 7 = .ok (.if_icmp .ge 37, 3) := by decide +kernel
theorem dX4_reachOver_10 : decode cX4_reachOver 10 = .ok (.aload_n 0, 1) := by decide +kernel
theorem dX4_reachOver_11 : decode cX4_reachOver 11 = .ok (.getfield 21, 3) := by decide +kernel
theorem dX4_reachOver_14 : decode cX4_reachOver 14 = .ok (.iload_n 2, 1) := by decide +kernel
theorem dX4_reachOver_15 : decode cX4_reachOver 15 = .ok (.iaload, 1) := by decide +kernel
theorem dX4_reachOver_16 : decode cX4_reachOver 16 = .ok (.iload_n 1, 1) := by decide +kernel
theorem dX4_reachOver_17 : decode cX4_reachOver 17 = .ok (.invokestatic 35, 3) := by decide +kernel
theorem dX4_reachOver_20 : decode cX4_reachOver 20 = .ok (.ifCond .eq 18, 3) := by decide +kernel
theorem dX4_reachOver_23 : decode cX4_reachOver 23 = .ok (.aload_n 0, 1) := by decide +kernel
theorem dX4_reachOver_24 : decode cX4_reachOver 24 = .ok (.getfield 21, 3) := by decide +kernel
theorem dX4_reachOver_27 : decode cX4_reachOver 27 = .ok (.iload_n 2, 1) := by decide +kernel
theorem dX4_reachOver_28 : decode cX4_reachOver 28 = .ok (.dup2, 1) := by decide +kernel
theorem dX4_reachOver_29 : decode cX4_reachOver 29 = .ok (.iaload, 1) := by decide +kernel
theorem dX4_reachOver_30 : decode cX4_reachOver 30 = .ok (.aload_n 0, 1) := by decide +kernel
theorem dX4_reachOver_31 : decode cX4_reachOver 31 = .ok (.getfield 21, 3) := by decide +kernel
theorem dX4_reachOver_34 : decode cX4_reachOver 34 = .ok (.iload_n 1, 1) := by decide +kernel
theorem dX4_reachOver_35 : decode cX4_reachOver 35 = .ok (.iaload, 1) := by decide +kernel
theorem dX4_reachOver_36 : decode cX4_reachOver 36 = .ok (.ior, 1) := by decide +kernel
theorem dX4_reachOver_37 : decode cX4_reachOver 37 = .ok (.iastore, 1) := by decide +kernel
theorem dX4_reachOver_38 : decode cX4_reachOver 38 = .ok (.iinc 2 1, 3) := by decide +kernel
theorem dX4_reachOver_41 : decode cX4_reachOver 41 = .ok (.goto (-39), 3) := by decide +kernel
theorem dX4_reachOver_44 : decode cX4_reachOver 44 = .ok (.return_, 1) := by decide +kernel
theorem dX4_endsOf_0 : decode cX4_endsOf 0 = .ok (.iconst 0, 1) := by decide +kernel
theorem dX4_endsOf_1 : decode cX4_endsOf 1 = .ok (.istore_n 2, 1) := by decide +kernel
theorem dX4_endsOf_2 : decode cX4_endsOf 2 = .ok (.iconst 0, 1) := by decide +kernel
theorem dX4_endsOf_3 : decode cX4_endsOf 3 = .ok (.istore_n 3, 1) := by decide +kernel
theorem dX4_endsOf_4 : decode cX4_endsOf 4 = .ok (.iload_n 3, 1) := by decide +kernel
theorem dX4_endsOf_5 : decode cX4_endsOf 5 = .ok (.aload_n 0, 1) := by decide +kernel
theorem dX4_endsOf_6 : decode cX4_endsOf 6 = .ok (.getfield 24, 3) := by decide +kernel
theorem dX4_endsOf_9 : decode cX4_endsOf 9 = .ok (.if_icmp .ge 27, 3) := by decide +kernel
theorem dX4_endsOf_12 : decode cX4_endsOf 12 = .ok (.iload_n 1, 1) := by decide +kernel
theorem dX4_endsOf_13 : decode cX4_endsOf 13 = .ok (.iload_n 3, 1) := by decide +kernel
theorem dX4_endsOf_14 : decode cX4_endsOf 14 = .ok (.invokestatic 35, 3) := by decide +kernel
theorem dX4_endsOf_17 : decode cX4_endsOf 17 = .ok (.ifCond .eq 13, 3) := by decide +kernel
theorem dX4_endsOf_20 : decode cX4_endsOf 20 = .ok (.iload_n 2, 1) := by decide +kernel
theorem dX4_endsOf_21 : decode cX4_endsOf 21 = .ok (.iconst 1, 1) := by decide +kernel
theorem dX4_endsOf_22 : decode cX4_endsOf 22 = .ok (.aload_n 0, 1) := by decide +kernel
theorem dX4_endsOf_23 : decode cX4_endsOf 23 = .ok (.iload_n 3, 1) := by decide +kernel
theorem dX4_endsOf_24 : decode cX4_endsOf 24 = .ok (.invokevirtual 38, 3) := by decide +kernel
theorem dX4_endsOf_27 : decode cX4_endsOf 27 = .ok (.ishl, 1) := by decide +kernel
theorem dX4_endsOf_28 : decode cX4_endsOf 28 = .ok (.ior, 1) := by decide +kernel
theorem dX4_endsOf_29 : decode cX4_endsOf 29 = .ok (.istore_n 2, 1) := by decide +kernel
theorem dX4_endsOf_30 : decode cX4_endsOf 30 = .ok (.iinc 3 1, 3) := by decide +kernel
theorem dX4_endsOf_33 : decode cX4_endsOf 33 = .ok (.goto (-29), 3) := by decide +kernel
theorem dX4_endsOf_36 : decode cX4_endsOf 36 = .ok (.iload_n 2, 1) := by decide +kernel
theorem dX4_endsOf_37 : decode cX4_endsOf 37 = .ok (.ireturn, 1) := by decide +kernel
theorem dX4_reachedFrom_0 : decode cX4_reachedFrom 0 = .ok (.iconst 0, 1) := by decide +kernel
theorem dX4_reachedFrom_1 : decode cX4_reachedFrom 1 = .ok (.istore_n 2, 1) := by decide +kernel
theorem dX4_reachedFrom_2 : decode cX4_reachedFrom 2 = .ok (.iconst 0, 1) := by decide +kernel
theorem dX4_reachedFrom_3 : decode cX4_reachedFrom 3 = .ok (.istore_n 3, 1) := by decide +kernel
theorem dX4_reachedFrom_4 : decode cX4_reachedFrom 4 = .ok (.iload_n 3, 1) := by decide +kernel
theorem dX4_reachedFrom_5 : decode cX4_reachedFrom 5 = .ok (.aload_n 0, 1) := by decide +kernel
theorem dX4_reachedFrom_6 : decode cX4_reachedFrom 6 = .ok (.getfield 24, 3) := by decide +kernel
theorem dX4_reachedFrom_9 : decode cX4_reachedFrom 9 = .ok (.if_icmp .ge 30, 3) := by decide +kernel
theorem dX4_reachedFrom_12 : decode cX4_reachedFrom 12 = .ok (.iload_n 1, 1) := by decide +kernel
theorem dX4_reachedFrom_13 : decode cX4_reachedFrom 13 = .ok (.iload_n 3, 1) := by decide +kernel
theorem dX4_reachedFrom_14 : decode cX4_reachedFrom 14 = .ok (.invokestatic 35, 3) := by decide +kernel
theorem dX4_reachedFrom_17 : decode cX4_reachedFrom 17 = .ok (.ifCond .eq 16, 3) := by decide +kernel
theorem dX4_reachedFrom_20 : decode cX4_reachedFrom 20 = .ok (.iload_n 2, 1) := by decide +kernel
theorem dX4_reachedFrom_21 : decode cX4_reachedFrom 21 = .ok (.aload_n 0, 1) := by decide +kernel
theorem dX4_reachedFrom_22 : decode cX4_reachedFrom 22 = .ok (.getfield 21, 3) := by decide +kernel
theorem dX4_reachedFrom_25 : decode cX4_reachedFrom 25 = .ok (.aload_n 0, 1) := by decide +kernel
theorem dX4_reachedFrom_26 : decode cX4_reachedFrom 26 = .ok (.iload_n 3, 1) := by decide +kernel
theorem dX4_reachedFrom_27 : decode cX4_reachedFrom 27 = .ok (.invokevirtual 38, 3) := by decide +kernel
theorem dX4_reachedFrom_30 : decode cX4_reachedFrom 30 = .ok (.iaload, 1) := by decide +kernel
theorem dX4_reachedFrom_31 : decode cX4_reachedFrom 31 = .ok (.ior, 1) := by decide +kernel
theorem dX4_reachedFrom_32 : decode cX4_reachedFrom 32 = .ok (.istore_n 2, 1) := by decide +kernel
theorem dX4_reachedFrom_33 : decode cX4_reachedFrom 33 = .ok (.iinc 3 1, 3) := by decide +kernel
theorem dX4_reachedFrom_36 : decode cX4_reachedFrom 36 = .ok (.goto (-32), 3) := by decide +kernel
theorem dX4_reachedFrom_39 : decode cX4_reachedFrom 39 = .ok (.iload_n 2, 1) := by decide +kernel
theorem dX4_reachedFrom_40 : decode cX4_reachedFrom 40 = .ok (.ireturn, 1) := by decide +kernel
theorem dX4_spread_0 : decode cX4_spread 0 = .ok (.aload_n 0, 1) := by decide +kernel
theorem dX4_spread_1 : decode cX4_spread 1 = .ok (.iload_n 1, 1) := by decide +kernel
theorem dX4_spread_2 : decode cX4_spread 2 = .ok (.invokevirtual 42, 3) := by decide +kernel
theorem dX4_spread_5 : decode cX4_spread 5 = .ok (.istore_n 2, 1) := by decide +kernel
theorem dX4_spread_6 : decode cX4_spread 6 = .ok (.iconst 0, 1) := by decide +kernel
theorem dX4_spread_7 : decode cX4_spread 7 = .ok (.istore_n 3, 1) := by decide +kernel
theorem dX4_spread_8 : decode cX4_spread 8 = .ok (.iload_n 3, 1) := by decide +kernel
theorem dX4_spread_9 : decode cX4_spread 9 = .ok (.aload_n 0, 1) := by decide +kernel
theorem dX4_spread_10 : decode cX4_spread 10 = .ok (.getfield 24, 3) := by decide +kernel
theorem dX4_spread_13 : decode cX4_spread 13 = .ok (.if_icmp .ge 63, 3) := by decide +kernel
theorem dX4_spread_16 : decode cX4_spread 16 = .ok (.iload_n 2, 1) := by decide +kernel
theorem dX4_spread_17 : decode cX4_spread 17 = .ok (.istore 4, 2) := by decide +kernel
theorem dX4_spread_19 : decode cX4_spread 19 = .ok (.iconst 0, 1) := by decide +kernel
theorem dX4_spread_20 : decode cX4_spread 20 = .ok (.istore 5, 2) := by decide +kernel
theorem dX4_spread_22 : decode cX4_spread 22 = .ok (.iload 5, 2) := by decide +kernel
theorem dX4_spread_24 : decode cX4_spread 24 = .ok (.aload_n 0, 1) := by decide +kernel
theorem dX4_spread_25 : decode cX4_spread 25 = .ok (.getfield 24, 3) := by decide +kernel
theorem dX4_spread_28 : decode cX4_spread 28 = .ok (.if_icmp .ge 30, 3) := by decide +kernel
theorem dX4_spread_31 : decode cX4_spread 31 = .ok (.iload_n 2, 1) := by decide +kernel
theorem dX4_spread_32 : decode cX4_spread 32 = .ok (.iload 5, 2) := by decide +kernel
theorem dX4_spread_34 : decode cX4_spread 34 = .ok (.invokestatic 35, 3) := by decide +kernel
theorem dX4_spread_37 : decode cX4_spread 37 = .ok (.ifCond .eq 15, 3) := by decide +kernel
theorem dX4_spread_40 : decode cX4_spread 40 = .ok (.iload 4, 2) := by decide +kernel
theorem dX4_spread_42 : decode cX4_spread 42 = .ok (.aload_n 0, 1) := by decide +kernel
theorem dX4_spread_43 : decode cX4_spread 43 = .ok (.getfield 18, 3) := by decide +kernel
theorem dX4_spread_46 : decode cX4_spread 46 = .ok (.iload 5, 2) := by decide +kernel
theorem dX4_spread_48 : decode cX4_spread 48 = .ok (.iaload, 1) := by decide +kernel
theorem dX4_spread_49 : decode cX4_spread 49 = .ok (.ior, 1) := by decide +kernel
theorem dX4_spread_50 : decode cX4_spread 50 = .ok (.istore 4, 2) := by decide +kernel
theorem dX4_spread_52 : decode cX4_spread 52 = .ok (.iinc 5 1, 3) := by decide +kernel
theorem dX4_spread_55 : decode cX4_spread 55 = .ok (.goto (-33), 3) := by decide +kernel
theorem dX4_spread_58 : decode cX4_spread 58 = .ok (.iload 4, 2) := by decide +kernel
theorem dX4_spread_60 : decode cX4_spread 60 = .ok (.iload_n 2, 1) := by decide +kernel
theorem dX4_spread_61 : decode cX4_spread 61 = .ok (.if_icmp .ne 6, 3) := by decide +kernel
theorem dX4_spread_64 : decode cX4_spread 64 = .ok (.goto 12, 3) := by decide +kernel
theorem dX4_spread_67 : decode cX4_spread 67 = .ok (.iload 4, 2) := by decide +kernel
theorem dX4_spread_69 : decode cX4_spread 69 = .ok (.istore_n 2, 1) := by decide +kernel
theorem dX4_spread_70 : decode cX4_spread 70 = .ok (.iinc 3 1, 3) := by decide +kernel
theorem dX4_spread_73 : decode cX4_spread 73 = .ok (.goto (-65), 3) := by decide +kernel
theorem dX4_spread_76 : decode cX4_spread 76 = .ok (.iload_n 2, 1) := by decide +kernel
theorem dX4_spread_77 : decode cX4_spread 77 = .ok (.ireturn, 1) := by decide +kernel
theorem dX4_nearest_0 : decode cX4_nearest 0 = .ok (.iconst 1, 1) := by decide +kernel
theorem dX4_nearest_1 : decode cX4_nearest 1 = .ok (.iload_n 2, 1) := by decide +kernel
theorem dX4_nearest_2 : decode cX4_nearest 2 = .ok (.ishl, 1) := by decide +kernel
theorem dX4_nearest_3 : decode cX4_nearest 3 = .ok (.istore_n 3, 1) := by decide +kernel
theorem dX4_nearest_4 : decode cX4_nearest 4 = .ok (.iconst 0, 1) := by decide +kernel
theorem dX4_nearest_5 : decode cX4_nearest 5 = .ok (.istore 4, 2) := by decide +kernel
theorem dX4_nearest_7 : decode cX4_nearest 7 = .ok (.iload 4, 2) := by decide +kernel
theorem dX4_nearest_9 : decode cX4_nearest 9 = .ok (.aload_n 0, 1) := by decide +kernel
theorem dX4_nearest_10 : decode cX4_nearest 10 = .ok (.getfield 24, 3) := by decide +kernel
theorem dX4_nearest_13 : decode cX4_nearest 13 = .ok (.if_icmp .ge 66, 3) := by decide +kernel
theorem dX4_nearest_16 : decode cX4_nearest 16 = .ok (.iconst 0, 1) := by decide +kernel
theorem dX4_nearest_17 : decode cX4_nearest 17 = .ok (.istore 5, 2) := by decide +kernel
theorem dX4_nearest_19 : decode cX4_nearest 19 = .ok (.iload 5, 2) := by decide +kernel
theorem dX4_nearest_21 : decode cX4_nearest 21 = .ok (.aload_n 0, 1) := by decide +kernel
theorem dX4_nearest_22 : decode cX4_nearest 22 = .ok (.getfield 24, 3) := by decide +kernel
theorem dX4_nearest_25 : decode cX4_nearest 25 = .ok (.if_icmp .ge 40, 3) := by decide +kernel
theorem dX4_nearest_28 : decode cX4_nearest 28 = .ok (.iload_n 1, 1) := by decide +kernel
theorem dX4_nearest_29 : decode cX4_nearest 29 = .ok (.iload 5, 2) := by decide +kernel
theorem dX4_nearest_31 : decode cX4_nearest 31 = .ok (.invokestatic 35, 3) := by decide +kernel
theorem dX4_nearest_34 : decode cX4_nearest 34 = .ok (.ifCond .eq 25, 3) := by decide +kernel
theorem dX4_nearest_37 : decode cX4_nearest 37 = .ok (.iload_n 3, 1) := by decide +kernel
theorem dX4_nearest_38 : decode cX4_nearest 38 = .ok (.aload_n 0, 1) := by decide +kernel
theorem dX4_nearest_39 : decode cX4_nearest 39 = .ok (.iload 5, 2) := by decide +kernel
theorem dX4_nearest_41 : decode cX4_nearest 41 = .ok (.invokevirtual 38, 3) := by decide +kernel
theorem dX4_nearest_44 : decode cX4_nearest 44 = .ok (.invokestatic 35, 3) := by decide +kernel
theorem dX4_nearest_47 : decode cX4_nearest 47 = .ok (.ifCond .eq 12, 3) := by decide +kernel
theorem dX4_nearest_50 : decode cX4_nearest 50 = .ok (.bipush 100, 2) := by decide +kernel
theorem dX4_nearest_52 : decode cX4_nearest 52 = .ok (.iload 4, 2) := by decide +kernel
theorem dX4_nearest_54 : decode cX4_nearest 54 = .ok (.imul, 1) := by decide +kernel
theorem dX4_nearest_55 : decode cX4_nearest 55 = .ok (.iload 5, 2) := by decide +kernel
theorem dX4_nearest_57 : decode cX4_nearest 57 = .ok (.iadd, 1) := by decide +kernel
theorem dX4_nearest_58 : decode cX4_nearest 58 = .ok (.ireturn, 1) := by decide +kernel
theorem dX4_nearest_59 : decode cX4_nearest 59 = .ok (.iinc 5 1, 3) := by decide +kernel
theorem dX4_nearest_62 : decode cX4_nearest 62 = .ok (.goto (-43), 3) := by decide +kernel
theorem dX4_nearest_65 : decode cX4_nearest 65 = .ok (.iload_n 3, 1) := by decide +kernel
theorem dX4_nearest_66 : decode cX4_nearest 66 = .ok (.aload_n 0, 1) := by decide +kernel
theorem dX4_nearest_67 : decode cX4_nearest 67 = .ok (.iload_n 3, 1) := by decide +kernel
theorem dX4_nearest_68 : decode cX4_nearest 68 = .ok (.invokevirtual 49, 3) := by decide +kernel
theorem dX4_nearest_71 : decode cX4_nearest 71 = .ok (.ior, 1) := by decide +kernel
theorem dX4_nearest_72 : decode cX4_nearest 72 = .ok (.istore_n 3, 1) := by decide +kernel
theorem dX4_nearest_73 : decode cX4_nearest 73 = .ok (.iinc 4 1, 3) := by decide +kernel
theorem dX4_nearest_76 : decode cX4_nearest 76 = .ok (.goto (-69), 3) := by decide +kernel
theorem dX4_nearest_79 : decode cX4_nearest 79 = .ok (.iconst (-1), 1) := by decide +kernel
theorem dX4_nearest_80 : decode cX4_nearest 80 = .ok (.ireturn, 1) := by decide +kernel
theorem dX4_leadingTo_0 : decode cX4_leadingTo 0 = .ok (.iconst 0, 1) := by decide +kernel
theorem dX4_leadingTo_1 : decode cX4_leadingTo 1 = .ok (.istore_n 2, 1) := by decide +kernel
theorem dX4_leadingTo_2 : decode cX4_leadingTo 2 = .ok (.iconst 0, 1) := by decide +kernel
theorem dX4_leadingTo_3 : decode cX4_leadingTo 3 = .ok (.istore_n 3, 1) := by decide +kernel
theorem dX4_leadingTo_4 : decode cX4_leadingTo 4 = .ok (.iload_n 3, 1) := by decide +kernel
theorem dX4_leadingTo_5 : decode cX4_leadingTo 5 = .ok (.aload_n 0, 1) := by decide +kernel
theorem dX4_leadingTo_6 : decode cX4_leadingTo 6 = .ok (.getfield 24, 3) := by decide +kernel
theorem dX4_leadingTo_9 : decode cX4_leadingTo 9 = .ok (.if_icmp .ge 26, 3) := by decide +kernel
theorem dX4_leadingTo_12 : decode cX4_leadingTo 12 = .ok (.aload_n 0, 1) := by decide +kernel
theorem dX4_leadingTo_13 : decode cX4_leadingTo 13 = .ok (.getfield 18, 3) := by decide +kernel
theorem dX4_leadingTo_16 : decode cX4_leadingTo 16 = .ok (.iload_n 3, 1) := by decide +kernel
theorem dX4_leadingTo_17 : decode cX4_leadingTo 17 = .ok (.iaload, 1) := by decide +kernel
theorem dX4_leadingTo_18 : decode cX4_leadingTo 18 = .ok (.iload_n 1, 1) := by decide +kernel
theorem dX4_leadingTo_19 : decode cX4_leadingTo 19 = .ok (.iand, 1) := by decide +kernel
theorem dX4_leadingTo_20 : decode cX4_leadingTo 20 = .ok (.ifCond .eq 9, 3) := by decide +kernel
theorem dX4_leadingTo_23 : decode cX4_leadingTo 23 = .ok (.iload_n 2, 1) := by decide +kernel
theorem dX4_leadingTo_24 : decode cX4_leadingTo 24 = .ok (.iconst 1, 1) := by decide +kernel
theorem dX4_leadingTo_25 : decode cX4_leadingTo 25 = .ok (.iload_n 3, 1) := by decide +kernel
theorem dX4_leadingTo_26 : decode cX4_leadingTo 26 = .ok (.ishl, 1) := by decide +kernel
theorem dX4_leadingTo_27 : decode cX4_leadingTo 27 = .ok (.ior, 1) := by decide +kernel
theorem dX4_leadingTo_28 : decode cX4_leadingTo 28 = .ok (.istore_n 2, 1) := by decide +kernel
theorem dX4_leadingTo_29 : decode cX4_leadingTo 29 = .ok (.iinc 3 1, 3) := by decide +kernel
theorem dX4_leadingTo_32 : decode cX4_leadingTo 32 = .ok (.goto (-28), 3) := by decide +kernel
theorem dX4_leadingTo_35 : decode cX4_leadingTo 35 = .ok (.iload_n 2, 1) := by decide +kernel
theorem dX4_leadingTo_36 : decode cX4_leadingTo 36 = .ok (.ireturn, 1) := by decide +kernel
theorem dX5_init_0 : decode cX5_init 0 = .ok (.aload_n 0, 1) := by decide +kernel
theorem dX5_init_1 : decode cX5_init 1 = .ok (.invokespecial 1, 3) := by decide +kernel
theorem dX5_init_4 : decode cX5_init 4 = .ok (.aload_n 0, 1) := by decide +kernel
theorem dX5_init_5 : decode cX5_init 5 = .ok (.new 7, 3) := by decide +kernel
theorem dX5_init_8 : decode cX5_init 8 = .ok (.dup, 1) := by decide +kernel
theorem dX5_init_9 : decode cX5_init 9 = .ok (.invokespecial 9, 3) := by decide +kernel
theorem dX5_init_12 : decode cX5_init 12 = .ok (.putfield 10, 3) := by decide +kernel
theorem dX5_init_15 : decode cX5_init 15 = .ok (.aload_n 0, 1) := by decide +kernel
theorem dX5_init_16 : decode cX5_init 16 = .ok (.new 16, 3) := by decide +kernel
theorem dX5_init_19 : decode cX5_init 19 = .ok (.dup, 1) := by decide +kernel
theorem dX5_init_20 : decode cX5_init 20 = .ok (.invokespecial 18, 3) := by decide +kernel
theorem dX5_init_23 : decode cX5_init 23 = .ok (.putfield 19, 3) := by decide +kernel
theorem dX5_init_26 : decode cX5_init 26 = .ok (.aload_n 0, 1) := by decide +kernel
theorem dX5_init_27 : decode cX5_init 27 = .ok (.new 16, 3) := by decide +kernel
theorem dX5_init_30 : decode cX5_init 30 = .ok (.dup, 1) := by decide +kernel
theorem dX5_init_31 : decode cX5_init 31 = .ok (.invokespecial 18, 3) := by decide +kernel
theorem dX5_init_34 : decode cX5_init 34 = .ok (.putfield 23, 3) := by decide +kernel
theorem dX5_init_37 : decode cX5_init 37 = .ok (.aload_n 0, 1) := by decide +kernel
theorem dX5_init_38 : decode cX5_init 38 = .ok (.new 26, 3) := by decide +kernel
theorem dX5_init_41 : decode cX5_init 41 = .ok (.dup, 1) := by decide +kernel
theorem dX5_init_42 : decode cX5_init 42 = .ok (.invokespecial 28, 3) := by decide +kernel
theorem dX5_init_45 : decode cX5_init 45 = .ok (.putfield 29, 3) := by decide +kernel
theorem dX5_init_48 : decode cX5_init 48 = .ok (.aload_n 0, 1) := by decide +kernel
theorem dX5_init_49 : decode cX5_init 49 = .ok (.new 33, 3) := by decide +kernel
theorem dX5_init_52 : decode cX5_init 52 = .ok (.dup, 1) := by decide +kernel
theorem dX5_init_53 : decode cX5_init 53 = .ok (.invokespecial 35, 3) := by decide +kernel
theorem dX5_init_56 : decode cX5_init 56 = .ok (.putfield 36, 3) := by decide +kernel
theorem dX5_init_59 : decode cX5_init 59 = .ok (.aload_n 0, 1) := by decide +kernel
theorem dX5_init_60 : decode cX5_init 60 = .ok (.new 40, 3) := by decide +kernel
theorem dX5_init_63 : decode cX5_init 63 = .ok (.dup, 1) := by decide +kernel
theorem dX5_init_64 : decode cX5_init 64 = .ok (.invokespecial 42, 3) := by decide +kernel
theorem dX5_init_67 : decode cX5_init 67 = .ok (.putfield 43, 3) := by decide +kernel
theorem dX5_init_70 : decode cX5_init 70 = .ok (.return_, 1) := by decide +kernel
theorem dX5_type_0 : decode cX5_type 0 = .ok (.iload_n 1, 1) := by decide +kernel
theorem dX5_type_1 : decode cX5_type 1 = .ok (.invokestatic 47, 3) := by decide +kernel
theorem dX5_type_4 : decode cX5_type 4 = .ok (.ifCond .ne 13, 3) := by decide +kernel
theorem dX5_type_7 : decode cX5_type 7 = .ok (.new 51, 3) := by decide +kernel
theorem dX5_type_10 : decode cX5_type 10 = .ok (.dup, 1) := by decide +kernel
theorem dX5_type_11 : decode cX5_type 11 = .ok (.ldc 53, 2) := by decide +kernel
theorem dX5_type_13 : decode cX5_type 13 = .ok (.invokespecial 55, 3) := by decide +kernel
theorem dX5_type_16 : decode cX5_type 16 = .ok (.athrow, 1) := by decide +kernel
theorem dX5_type_17 : decode cX5_type 17 = .ok (.aload_n 0, 1) := by decide +kernel
theorem dX5_type_18 : decode cX5_type 18 = .ok (.getfield 10, 3) := by decide +kernel
theorem dX5_type_21 : decode cX5_type 21 = .ok (.getfield 58, 3) := by decide +kernel
theorem dX5_type_24 : decode cX5_type 24 = .ok (.bipush 8, 2) := by decide +kernel
theorem dX5_type_26 : decode cX5_type 26 = .ok (.if_icmp .lt 13, 3) := by decide +kernel
theorem dX5_type_29 : decode cX5_type 29 = .ok (.new 62, 3) := by decide +kernel
theorem dX5_type_32 : decode cX5_type 32 = .ok (.dup, 1) := by decide +kernel
theorem dX5_type_33 : decode cX5_type 33 = .ok (.ldc 64, 2) := by decide +kernel
theorem dX5_type_35 : decode cX5_type 35 = .ok (.invokespecial 66, 3) := by decide +kernel
theorem dX5_type_38 : decode cX5_type 38 = .ok (.athrow, 1) := by decide +kernel
theorem dX5_type_39 : decode cX5_type 39 = .ok (.aload_n 0, 1) := by decide +kernel
theorem dX5_type_40 : decode cX5_type 40 = .ok (.getfield 10, 3) := by decide +kernel
theorem dX5_type_43 : decode cX5_type 43 = .ok (.iload_n 1, 1) := by decide +kernel
theorem dX5_type_44 : decode cX5_type 44 = .ok (.invokevirtual 67, 3) := by decide +kernel
theorem dX5_type_47 : decode cX5_type 47 = .ok (.aload_n 0, 1) := by decide +kernel
theorem dX5_type_48 : decode cX5_type 48 = .ok (.getfield 10, 3) := by decide +kernel
theorem dX5_type_51 : decode cX5_type 51 = .ok (.getfield 58, 3) := by decide +kernel
theorem dX5_type_54 : decode cX5_type 54 = .ok (.ireturn, 1) := by decide +kernel
theorem dX5_enter_0 : decode cX5_enter 0 = .ok (.aload_n 0, 1) := by decide +kernel
theorem dX5_enter_1 : decode cX5_enter 1 = .ok (.getfield 10, 3) := by decide +kernel
theorem dX5_enter_4 : decode cX5_enter 4 = .ok (.getfield 58, 3) := by decide +kernel
theorem dX5_enter_7 : decode cX5_enter 7 = .ok (.ifCond .ne 13, 3) := by decide +kernel
theorem dX5_enter_10 : decode cX5_enter 10 = .ok (.new 62, 3) := by decide +kernel
theorem dX5_enter_13 : decode cX5_enter 13 = .ok (.dup, 1) := by decide +kernel
theorem dX5_enter_14 : decode cX5_enter 14 = .ok (.ldc 71, 2) := by decide +kernel
theorem dX5_enter_16 : decode cX5_enter 16 = .ok (.invokespecial 66, 3) := by decide +kernel
theorem dX5_enter_19 : decode cX5_enter 19 = .ok (.athrow, 1) := by decide +kernel
theorem dX5_enter_20 : decode cX5_enter 20 = .ok (.aload_n 0, 1) := by decide +kernel
theorem dX5_enter_21 : decode cX5_enter 21 = .ok (.getfield 10, 3) := by decide +kernel
theorem dX5_enter_24 : decode cX5_enter 24 = .ok (.invokevirtual 73, 3) := by decide +kernel
theorem dX5_enter_27 : decode cX5_enter 27 = .ok (.istore_n 1, 1) := by decide +kernel
theorem dX5_enter_28 : decode cX5_enter 28 = .ok (.iload_n 1, 1) := by decide +kernel
theorem dX5_enter_29 : decode cX5_enter 29 = .ok (.iconst (-1), 1) := by decide +kernel
theorem dX5_enter_30 : decode cX5_enter 30 = .ok (.if_icmp .ne 25, 3) := by decide +kernel
theorem dX5_enter_33 : decode cX5_enter 33 = .ok (.aload_n 0, 1) := by decide +kernel
theorem dX5_enter_34 : decode cX5_enter 34 = .ok (.getfield 10, 3) := by decide +kernel
theorem dX5_enter_37 : decode cX5_enter 37 = .ok (.getfield 77, 3) := by decide +kernel
theorem dX5_enter_40 : decode cX5_enter 40 = .ok (.bipush 24, 2) := by decide +kernel
theorem dX5_enter_42 : decode cX5_enter 42 = .ok (.if_icmp .lt 13, 3) := by decide +kernel
theorem dX5_enter_45 : decode cX5_enter 45 = .ok (.new 62, 3) := by decide +kernel
theorem dX5_enter_48 : decode cX5_enter 48 = .ok (.dup, 1) := by decide +kernel
theorem dX5_enter_49 : decode cX5_enter 49 = .ok (.ldc 80, 2) := by decide +kernel
theorem dX5_enter_51 : decode cX5_enter 51 = .ok (.invokespecial 66, 3) := by decide +kernel
theorem dX5_enter_54 : decode cX5_enter 54 = .ok (.athrow, 1) := by decide +kernel
theorem dX5_enter_55 : decode cX5_enter 55 = .ok (.iload_n 1, 1) := by decide +kernel
theorem dX5_enter_56 : decode cX5_enter 56 = .ok (.istore_n 2, 1) := by decide +kernel
theorem dX5_enter_57 : decode cX5_enter 57 = .ok (.iload_n 1, 1) := by decide +kernel
theorem dX5_enter_58 : decode cX5_enter 58 = .ok (.iconst (-1), 1) := by decide +kernel
theorem dX5_enter_59 : decode cX5_enter 59 = .ok (.if_icmp .ne 25, 3) := by decide +kernel
theorem dX5_enter_62 : decode cX5_enter 62 = .ok (.aload_n 0, 1) := by decide +kernel
theorem dX5_enter_63 : decode cX5_enter 63 = .ok (.getfield 10, 3) := by decide +kernel
theorem dX5_enter_66 : decode cX5_enter 66 = .ok (.invokevirtual 82, 3) := by decide +kernel
theorem dX5_enter_69 : decode cX5_enter 69 = .ok (.istore_n 2, 1) := by decide +kernel
theorem dX5_enter_70 : decode cX5_enter 70 = .ok (.aload_n 0, 1) := by decide +kernel
theorem dX5_enter_71 : decode cX5_enter 71 = .ok (.getfield 19, 3) := by decide +kernel
theorem dX5_enter_74 : decode cX5_enter 74 = .ok (.aload_n 0, 1) := by decide +kernel
theorem dX5_enter_75 : decode cX5_enter 75 = .ok (.getfield 10, 3) := by decide +kernel
theorem dX5_enter_78 : decode cX5_enter 78 = .ok (.getfield 77, 3) := by decide +kernel
theorem dX5_enter_81 : decode cX5_enter 81 = .ok (.invokevirtual 85, 3) := by decide +kernel
theorem dX5_enter_84 : decode cX5_enter 84 = .ok (.aload_n 0, 1) := by decide +kernel
theorem dX5_enter_85 : decode cX5_enter 85 = .ok (.getfield 10, 3) := by decide +kernel
theorem dX5_enter_88 : decode cX5_enter 88 = .ok (.invokevirtual 89, 3) := by decide +kernel
theorem dX5_enter_91 : decode cX5_enter 91 = .ok (.iload_n 2, 1) := by decide +kernel
theorem dX5_enter_92 : decode cX5_enter 92 = .ok (.ireturn, 1) := by decide +kernel
theorem dX5_tags_0 : decode cX5_tags 0 = .ok (.aload_n 0, 1) := by decide +kernel
theorem dX5_tags_1 : decode cX5_tags 1 = .ok (.getfield 10, 3) := by decide +kernel
theorem dX5_tags_4 : decode cX5_tags 4 = .ok (.getfield 77, 3) := by decide +kernel
theorem dX5_tags_7 : decode cX5_tags 7 = .ok (.ireturn, 1) := by decide +kernel
theorem dX5_letter_0 : decode cX5_letter 0 = .ok (.aload_n 0, 1) := by decide +kernel
theorem dX5_letter_1 : decode cX5_letter 1 = .ok (.iload_n 1, 1) := by decide +kernel
theorem dX5_letter_2 : decode cX5_letter 2 = .ok (.invokevirtual 92, 3) := by decide +kernel
theorem dX5_letter_5 : decode cX5_letter 5 = .ok (.iload_n 2, 1) := by decide +kernel
theorem dX5_letter_6 : decode cX5_letter 6 = .ok (.ifCond .lt 16, 3) := by decide +kernel
theorem dX5_letter_9 : decode cX5_letter 9 = .ok (.iload_n 2, 1) := by decide +kernel
theorem dX5_letter_10 : decode cX5_letter 10 = .ok (.aload_n 0, 1) := by decide +kernel
theorem dX5_letter_11 : decode cX5_letter 11 = .ok (.getfield 10, 3) := by decide +kernel
theorem dX5_letter_14 : decode cX5_letter 14 = .ok (.getfield 95, 3) := by decide +kernel
theorem dX5_letter_17 : decode cX5_letter 17 = .ok (.iload_n 1, 1) := by decide +kernel
theorem dX5_letter_18 : decode cX5_letter 18 = .ok (.iaload, 1) := by decide +kernel
theorem dX5_letter_19 : decode cX5_letter 19 = .ok (.if_icmp .lt 13, 3) := by decide +kernel
theorem dX5_letter_22 : decode cX5_letter 22 = .ok (.new 99, 3) := by decide +kernel
theorem dX5_letter_25 : decode cX5_letter 25 = .ok (.dup, 1) := by decide +kernel
theorem dX5_letter_26 : decode cX5_letter 26 = .ok (.ldc 101, 2) := by decide +kernel
theorem dX5_letter_28 : decode cX5_letter 28 = .ok (.invokespecial 103, 3) := by decide +kernel
theorem dX5_letter_31 : decode cX5_letter 31 = .ok (.athrow, 1) := by decide +kernel
theorem dX5_letter_32 : decode cX5_letter 32 = .ok (.aload_n 0, 1) := by decide +kernel
theorem dX5_letter_33 : decode cX5_letter 33 = .ok (.getfield 10, 3) := by decide +kernel
theorem dX5_letter_36 : decode cX5_letter 36 = .ok (.iload_n 1, 1) := by decide +kernel
theorem dX5_letter_37 : decode cX5_letter 37 = .ok (.iload_n 2, 1) := by decide +kernel
theorem dX5_letter_38 : decode cX5_letter 38 = .ok (.invokevirtual 104, 3) := by decide +kernel
theorem dX5_letter_41 : decode cX5_letter 41 = .ok (.ireturn, 1) := by decide +kernel
theorem dX5_addThing_0 : decode cX5_addThing 0 = .ok (.aload_n 0, 1) := by decide +kernel
theorem dX5_addThing_1 : decode cX5_addThing 1 = .ok (.getfield 36, 3) := by decide +kernel
theorem dX5_addThing_4 : decode cX5_addThing 4 = .ok (.getfield 108, 3) := by decide +kernel
theorem dX5_addThing_7 : decode cX5_addThing 7 = .ok (.bipush 20, 2) := by decide +kernel
theorem dX5_addThing_9 : decode cX5_addThing 9 = .ok (.if_icmp .lt 13, 3) := by decide +kernel
theorem dX5_addThing_12 : decode cX5_addThing 12 = .ok (.new 62, 3) := by decide +kernel
theorem dX5_addThing_15 : decode cX5_addThing 15 = .ok (.dup, 1) := by decide +kernel
theorem dX5_addThing_16 : decode cX5_addThing 16 = .ok (.ldc 109, 2) := by decide +kernel
theorem dX5_addThing_18 : decode cX5_addThing 18 = .ok (.invokespecial 66, 3) := by decide +kernel
theorem dX5_addThing_21 : decode cX5_addThing 21 = .ok (.athrow, 1) := by decide +kernel
theorem dX5_addThing_22 : decode cX5_addThing 22 = .ok (.aload_n 0, 1) := by decide +kernel
theorem dX5_addThing_23 : decode cX5_addThing 23 = .ok (.getfield 36, 3) := by decide +kernel
theorem dX5_addThing_26 : decode cX5_addThing 26 = .ok (.dup, 1) := by decide +kernel
theorem dX5_addThing_27 : decode cX5_addThing 27 = .ok (.getfield 108, 3) := by decide +kernel
theorem dX5_addThing_30 : decode cX5_addThing 30 = .ok (.iconst 1, 1) := by decide +kernel
theorem dX5_addThing_31 : decode cX5_addThing 31 = .ok (.iadd, 1) := by decide +kernel
theorem dX5_addThing_32 : decode cX5_addThing 32 = .ok (.putfield 108, 3) := by decide +kernel
theorem dX5_addThing_35 : decode cX5_addThing 35 = .ok (.aload_n 0, 1) := by decide +kernel
theorem dX5_addThing_36 : decode cX5_addThing 36 = .ok (.getfield 36, 3) := by decide +kernel
theorem dX5_addThing_39 : decode cX5_addThing 39 = .ok (.getfield 108, 3) := by decide +kernel
theorem dX5_addThing_42 : decode cX5_addThing 42 = .ok (.iconst 1, 1) := by decide +kernel
theorem dX5_addThing_43 : decode cX5_addThing 43 = .ok (.isub, 1) := by decide +kernel
theorem dX5_addThing_44 : decode cX5_addThing 44 = .ok (.ireturn, 1) := by decide +kernel
theorem dX5_things_0 : decode cX5_things 0 = .ok (.aload_n 0, 1) := by decide +kernel
theorem dX5_things_1 : decode cX5_things 1 = .ok (.getfield 36, 3) := by decide +kernel
theorem dX5_things_4 : decode cX5_things 4 = .ok (.getfield 108, 3) := by decide +kernel
theorem dX5_things_7 : decode cX5_things 7 = .ok (.ireturn, 1) := by decide +kernel
theorem dX5_tag_0 : decode cX5_tag 0 = .ok (.aload_n 0, 1) := by decide +kernel
theorem dX5_tag_1 : decode cX5_tag 1 = .ok (.iload_n 1, 1) := by decide +kernel
theorem dX5_tag_2 : decode cX5_tag 2 = .ok (.invokevirtual 111, 3) := by decide +kernel
theorem dX5_tag_5 : decode cX5_tag 5 = .ok (.aload_n 0, 1) := by decide +kernel
theorem dX5_tag_6 : decode cX5_tag 6 = .ok (.iload_n 2, 1) := by decide +kernel
theorem dX5_tag_7 : decode cX5_tag 7 = .ok (.invokevirtual 92, 3) := by decide +kernel
theorem dX5_tag_10 : decode cX5_tag 10 = .ok (.aload_n 0, 1) := by decide +kernel
theorem dX5_tag_11 : decode cX5_tag 11 = .ok (.getfield 36, 3) := by decide +kernel
theorem dX5_tag_14 : decode cX5_tag 14 = .ok (.invokevirtual 114, 3) := by decide +kernel
theorem dX5_tag_17 : decode cX5_tag 17 = .ok (.aload_n 0, 1) := by decide +kernel
theorem dX5_tag_18 : decode cX5_tag 18 = .ok (.getfield 36, 3) := by decide +kernel
theorem dX5_tag_21 : decode cX5_tag 21 = .ok (.getfield 117, 3) := by decide +kernel
theorem dX5_tag_24 : decode cX5_tag 24 = .ok (.iload_n 1, 1) := by decide +kernel
theorem dX5_tag_25 : decode cX5_tag 25 = .ok (.dup2, 1) := by decide +kernel
theorem dX5_tag_26 : decode cX5_tag 26 = .ok (.iaload, 1) := by decide +kernel
theorem dX5_tag_27 : decode cX5_tag 27 = .ok (.iconst 1, 1) := by decide +kernel
theorem dX5_tag_28 : decode cX5_tag 28 = .ok (.iload_n 2, 1) := by decide +kernel
theorem dX5_tag_29 : decode cX5_tag 29 = .ok (.ishl, 1) := by decide +kernel
theorem dX5_tag_30 : decode cX5_tag 30 = .ok (.ior, 1) := by decide +kernel
theorem dX5_tag_31 : decode cX5_tag 31 = .ok (.iastore, 1) := by decide +kernel
theorem dX5_tag_32 : decode cX5_tag 32 = .ok (.aload_n 0, 1) := by decide +kernel
theorem dX5_tag_33 : decode cX5_tag 33 = .ok (.invokevirtual 120, 3) := by decide +kernel
theorem dX5_tag_36 : decode cX5_tag 36 = .ok (.ifCond .le 7, 3) := by decide +kernel
theorem dX5_tag_39 : decode cX5_tag 39 = .ok (.iconst 1, 1) := by decide +kernel
theorem dX5_tag_40 : decode cX5_tag 40 = .ok (.goto 4, 3) := by decide +kernel
theorem dX5_tag_43 : decode cX5_tag 43 = .ok (.iconst 0, 1) := by decide +kernel
theorem dX5_tag_44 : decode cX5_tag 44 = .ok (.ireturn, 1) := by decide +kernel
theorem dX5_untag_0 : decode cX5_untag 0 = .ok (.aload_n 0, 1) := by decide +kernel
theorem dX5_untag_1 : decode cX5_untag 1 = .ok (.iload_n 1, 1) := by decide +kernel
theorem dX5_untag_2 : decode cX5_untag 2 = .ok (.invokevirtual 111, 3) := by decide +kernel
theorem dX5_untag_5 : decode cX5_untag 5 = .ok (.aload_n 0, 1) := by decide +kernel
theorem dX5_untag_6 : decode cX5_untag 6 = .ok (.iload_n 2, 1) := by decide +kernel
theorem dX5_untag_7 : decode cX5_untag 7 = .ok (.invokevirtual 92, 3) := by decide +kernel
theorem dX5_untag_10 : decode cX5_untag 10 = .ok (.aload_n 0, 1) := by decide +kernel
theorem dX5_untag_11 : decode cX5_untag 11 = .ok (.getfield 36, 3) := by decide +kernel
theorem dX5_untag_14 : decode cX5_untag 14 = .ok (.invokevirtual 114, 3) := by decide +kernel
theorem dX5_untag_17 : decode cX5_untag 17 = .ok (.aload_n 0, 1) := by decide +kernel
theorem dX5_untag_18 : decode cX5_untag 18 = .ok (.getfield 36, 3) := by decide +kernel
theorem dX5_untag_21 : decode cX5_untag 21 = .ok (.getfield 117, 3) := by decide +kernel
theorem dX5_untag_24 : decode cX5_untag 24 = .ok (.iload_n 1, 1) := by decide +kernel
theorem dX5_untag_25 : decode cX5_untag 25 = .ok (.dup2, 1) := by decide +kernel
theorem dX5_untag_26 : decode cX5_untag 26 = .ok (.iaload, 1) := by decide +kernel
theorem dX5_untag_27 : decode cX5_untag 27 = .ok (.iconst 1, 1) := by decide +kernel
theorem dX5_untag_28 : decode cX5_untag 28 = .ok (.iload_n 2, 1) := by decide +kernel
theorem dX5_untag_29 : decode cX5_untag 29 = .ok (.ishl, 1) := by decide +kernel
theorem dX5_untag_30 : decode cX5_untag 30 = .ok (.iconst (-1), 1) := by decide +kernel
theorem dX5_untag_31 : decode cX5_untag 31 = .ok (.ixor, 1) := by decide +kernel
theorem dX5_untag_32 : decode cX5_untag 32 = .ok (.iand, 1) := by decide +kernel
theorem dX5_untag_33 : decode cX5_untag 33 = .ok (.iastore, 1) := by decide +kernel
theorem dX5_untag_34 : decode cX5_untag 34 = .ok (.aload_n 0, 1) := by decide +kernel
theorem dX5_untag_35 : decode cX5_untag 35 = .ok (.invokevirtual 120, 3) := by decide +kernel
theorem dX5_untag_38 : decode cX5_untag 38 = .ok (.ifCond .le 7, 3) := by decide +kernel
theorem dX5_untag_41 : decode cX5_untag 41 = .ok (.iconst 1, 1) := by decide +kernel
theorem dX5_untag_42 : decode cX5_untag 42 = .ok (.goto 4, 3) := by decide +kernel
theorem dX5_untag_45 : decode cX5_untag 45 = .ok (.iconst 0, 1) := by decide +kernel
theorem dX5_untag_46 : decode cX5_untag 46 = .ok (.ireturn, 1) := by decide +kernel
theorem dX5_mass_0 : decode cX5_mass 0 = .ok (.aload_n 0, 1) := by decide +kernel
theorem dX5_mass_1 : decode cX5_mass 1 = .ok (.iload_n 2, 1) := by decide +kernel
theorem dX5_mass_2 : decode cX5_mass 2 = .ok (.invokevirtual 92, 3) := by decide +kernel
theorem dX5_mass_5 : decode cX5_mass 5 = .ok (.aload_n 0, 1) := by decide +kernel
theorem dX5_mass_6 : decode cX5_mass 6 = .ok (.iload_n 3, 1) := by decide +kernel
theorem dX5_mass_7 : decode cX5_mass 7 = .ok (.invokevirtual 92, 3) := by decide +kernel
theorem dX5_mass_10 : decode cX5_mass 10 = .ok (.iload_n 1, 1) := by decide +kernel
theorem dX5_mass_11 : decode cX5_mass 11 = .ok (.ifCond .lt 8, 3) := by decide +kernel
theorem dX5_mass_14 : decode cX5_mass 14 = .ok (.iload_n 1, 1) := by decide +kernel
theorem dX5_mass_15 : decode cX5_mass 15 = .ok (.iconst 2, 1) := by decide +kernel
theorem dX5_mass_16 : decode cX5_mass 16 = .ok (.if_icmp .le 13, 3) := by decide +kernel
theorem dX5_mass_19 : decode cX5_mass 19 = .ok (.new 51, 3) := by decide +kernel
theorem dX5_mass_22 : decode cX5_mass 22 = .ok (.dup, 1) := by decide +kernel
theorem dX5_mass_23 : decode cX5_mass 23 = .ok (.ldc 123, 2) := by decide +kernel
theorem dX5_mass_25 : decode cX5_mass 25 = .ok (.invokespecial 55, 3) := by decide +kernel
theorem dX5_mass_28 : decode cX5_mass 28 = .ok (.athrow, 1) := by decide +kernel
theorem dX5_mass_29 : decode cX5_mass 29 = .ok (.aload_n 0, 1) := by decide +kernel
theorem dX5_mass_30 : decode cX5_mass 30 = .ok (.getfield 43, 3) := by decide +kernel
theorem dX5_mass_33 : decode cX5_mass 33 = .ok (.getfield 125, 3) := by decide +kernel
theorem dX5_mass_36 : decode cX5_mass 36 = .ok (.aload_n 0, 1) := by decide +kernel
theorem dX5_mass_37 : decode cX5_mass 37 = .ok (.getfield 19, 3) := by decide +kernel
theorem dX5_mass_40 : decode cX5_mass 40 = .ok (.iload_n 2, 1) := by decide +kernel
theorem dX5_mass_41 : decode cX5_mass 41 = .ok (.invokevirtual 128, 3) := by decide +kernel
theorem dX5_mass_44 : decode cX5_mass 44 = .ok (.iaload, 1) := by decide +kernel
theorem dX5_mass_45 : decode cX5_mass 45 = .ok (.istore 4, 2) := by decide +kernel
theorem dX5_mass_47 : decode cX5_mass 47 = .ok (.aload_n 0, 1) := by decide +kernel
theorem dX5_mass_48 : decode cX5_mass 48 = .ok (.getfield 36, 3) := by decide +kernel
theorem dX5_mass_51 : decode cX5_mass 51 = .ok (.invokevirtual 114, 3) := by decide +kernel
theorem dX5_mass_54 : decode cX5_mass 54 = .ok (.iconst 0, 1) := by decide +kernel
theorem dX5_mass_55 : decode cX5_mass 55 = .ok (.istore 5, 2) := by decide +kernel
theorem dX5_mass_57 : decode cX5_mass 57 = .ok (.iload 5, 2) := by decide +kernel
theorem dX5_mass_59 : decode cX5_mass 59 = .ok (.aload_n 0, 1) := by decide +kernel
theorem dX5_mass_60 : decode cX5_mass 60 = .ok (.getfield 36, 3) := by decide +kernel
theorem dX5_mass_63 : decode cX5_mass 63 = .ok (.getfield 108, 3) := by decide +kernel
theorem dX5_mass_66 : decode cX5_mass 66 = .ok (.if_icmp .ge 71, 3) := by decide +kernel
theorem dX5_mass_69 : decode cX5_mass 69 = .ok (.iload_n 1, 1) := by decide +kernel
theorem dX5_mass_70 : decode cX5_mass 70 = .ok (.iconst 2, 1) := by decide +kernel
theorem dX5_mass_71 : decode cX5_mass 71 = .ok (.if_icmp .ne 20, 3) := by decide +kernel
theorem dX5_mass_74 : decode cX5_mass 74 = .ok (.aload_n 0, 1) := by decide +kernel
theorem dX5_mass_75 : decode cX5_mass 75 = .ok (.getfield 36, 3) := by decide +kernel
theorem dX5_mass_78 : decode cX5_mass 78 = .ok (.getfield 132, 3) := by decide +kernel
theorem dX5_mass_81 : decode cX5_mass 81 = .ok (.iload 5, 2) := by decide +kernel
theorem dX5_mass_83 : decode cX5_mass 83 = .ok (.iaload, 1) := by decide +kernel
theorem dX5_mass_84 : decode cX5_mass 84 = .ok (.iload_n 2, 1) := by decide +kernel
theorem dX5_mass_85 : decode cX5_mass 85 = .ok (.invokestatic 135, 3) := by decide +kernel
theorem dX5_mass_88 : decode cX5_mass 88 = .ok (.goto 10, 3) := by decide +kernel
theorem dX5_mass_91 : decode cX5_mass 91 = .ok (.iload 4, 2) := by decide +kernel
theorem dX5_mass_93 : decode cX5_mass 93 = .ok (.iload 5, 2) := by decide +kernel
theorem dX5_mass_95 : decode cX5_mass 95 = .ok (.invokestatic 135, 3) := by decide +kernel
theorem dX5_mass_98 : decode cX5_mass 98 = .ok (.istore 6, 2) := by decide +kernel
theorem dX5_mass_100 : decode cX5_mass 100 = .ok (.iload 6, 2) := by decide +kernel
theorem dX5_mass_102 : decode cX5_mass 102 = .ok (.ifCond .eq 29, 3) := by decide +kernel
theorem dX5_mass_105 : decode cX5_mass 105 = .ok (.aload_n 0, 1) := by decide +kernel
theorem dX5_mass_106 : decode cX5_mass 106 = .ok (.getfield 36, 3) := by decide +kernel
theorem dX5_mass_109 : decode cX5_mass 109 = .ok (.getfield 117, 3) := by decide +kernel
theorem dX5_mass_112 : decode cX5_mass 112 = .ok (.iload 5, 2) := by decide +kernel
theorem dX5_mass_114 : decode cX5_mass 114 = .ok (.iload_n 1, 1) := by decide +kernel
theorem dX5_mass_115 : decode cX5_mass 115 = .ok (.aload_n 0, 1) := by decide +kernel
theorem dX5_mass_116 : decode cX5_mass 116 = .ok (.getfield 36, 3) := by decide +kernel
theorem dX5_mass_119 : decode cX5_mass 119 = .ok (.getfield 132, 3) := by decide +kernel
theorem dX5_mass_122 : decode cX5_mass 122 = .ok (.iload 5, 2) := by decide +kernel
theorem dX5_mass_124 : decode cX5_mass 124 = .ok (.iaload, 1) := by decide +kernel
theorem dX5_mass_125 : decode cX5_mass 125 = .ok (.iload_n 2, 1) := by decide +kernel
theorem dX5_mass_126 : decode cX5_mass 126 = .ok (.iload_n 3, 1) := by decide +kernel
theorem dX5_mass_127 : decode cX5_mass 127 = .ok (.invokestatic 139, 3) := by decide +kernel
theorem dX5_mass_130 : decode cX5_mass 130 = .ok (.iastore, 1) := by decide +kernel
theorem dX5_mass_131 : decode cX5_mass 131 = .ok (.iinc 5 1, 3) := by decide +kernel
theorem dX5_mass_134 : decode cX5_mass 134 = .ok (.goto (-77), 3) := by decide +kernel
theorem dX5_mass_137 : decode cX5_mass 137 = .ok (.aload_n 0, 1) := by decide +kernel
theorem dX5_mass_138 : decode cX5_mass 138 = .ok (.invokevirtual 120, 3) := by decide +kernel
theorem dX5_mass_141 : decode cX5_mass 141 = .ok (.ireturn, 1) := by decide +kernel
theorem dX5_undo_0 : decode cX5_undo 0 = .ok (.aload_n 0, 1) := by decide +kernel
theorem dX5_undo_1 : decode cX5_undo 1 = .ok (.getfield 36, 3) := by decide +kernel
theorem dX5_undo_4 : decode cX5_undo 4 = .ok (.getfield 143, 3) := by decide +kernel
theorem dX5_undo_7 : decode cX5_undo 7 = .ok (.ifCond .ne 13, 3) := by decide +kernel
theorem dX5_undo_10 : decode cX5_undo 10 = .ok (.new 62, 3) := by decide +kernel
theorem dX5_undo_13 : decode cX5_undo 13 = .ok (.dup, 1) := by decide +kernel
theorem dX5_undo_14 : decode cX5_undo 14 = .ok (.ldc 146, 2) := by decide +kernel
theorem dX5_undo_16 : decode cX5_undo 16 = .ok (.invokespecial 66, 3) := by decide +kernel
theorem dX5_undo_19 : decode cX5_undo 19 = .ok (.athrow, 1) := by decide +kernel
theorem dX5_undo_20 : decode cX5_undo 20 = .ok (.aload_n 0, 1) := by decide +kernel
theorem dX5_undo_21 : decode cX5_undo 21 = .ok (.getfield 36, 3) := by decide +kernel
theorem dX5_undo_24 : decode cX5_undo 24 = .ok (.invokevirtual 148, 3) := by decide +kernel
theorem dX5_undo_27 : decode cX5_undo 27 = .ok (.istore_n 1, 1) := by decide +kernel
theorem dX5_undo_28 : decode cX5_undo 28 = .ok (.aload_n 0, 1) := by decide +kernel
theorem dX5_undo_29 : decode cX5_undo 29 = .ok (.getfield 43, 3) := by decide +kernel
theorem dX5_undo_32 : decode cX5_undo 32 = .ok (.aload_n 0, 1) := by decide +kernel
theorem dX5_undo_33 : decode cX5_undo 33 = .ok (.getfield 19, 3) := by decide +kernel
theorem dX5_undo_36 : decode cX5_undo 36 = .ok (.aload_n 0, 1) := by decide +kernel
theorem dX5_undo_37 : decode cX5_undo 37 = .ok (.getfield 36, 3) := by decide +kernel
theorem dX5_undo_40 : decode cX5_undo 40 = .ok (.invokevirtual 151, 3) := by decide +kernel
theorem dX5_undo_43 : decode cX5_undo 43 = .ok (.iload_n 1, 1) := by decide +kernel
theorem dX5_undo_44 : decode cX5_undo 44 = .ok (.ireturn, 1) := by decide +kernel
theorem dX5_kept_0 : decode cX5_kept 0 = .ok (.aload_n 0, 1) := by decide +kernel
theorem dX5_kept_1 : decode cX5_kept 1 = .ok (.getfield 36, 3) := by decide +kernel
theorem dX5_kept_4 : decode cX5_kept 4 = .ok (.getfield 143, 3) := by decide +kernel
theorem dX5_kept_7 : decode cX5_kept 7 = .ok (.ireturn, 1) := by decide +kernel
theorem dX5_hand_0 : decode cX5_hand 0 = .ok (.aload_n 0, 1) := by decide +kernel
theorem dX5_hand_1 : decode cX5_hand 1 = .ok (.iload_n 1, 1) := by decide +kernel
theorem dX5_hand_2 : decode cX5_hand 2 = .ok (.invokevirtual 111, 3) := by decide +kernel
theorem dX5_hand_5 : decode cX5_hand 5 = .ok (.aload_n 0, 1) := by decide +kernel
theorem dX5_hand_6 : decode cX5_hand 6 = .ok (.getfield 36, 3) := by decide +kernel
theorem dX5_hand_9 : decode cX5_hand 9 = .ok (.getfield 132, 3) := by decide +kernel
theorem dX5_hand_12 : decode cX5_hand 12 = .ok (.iload_n 1, 1) := by decide +kernel
theorem dX5_hand_13 : decode cX5_hand 13 = .ok (.iaload, 1) := by decide +kernel
theorem dX5_hand_14 : decode cX5_hand 14 = .ok (.ireturn, 1) := by decide +kernel
theorem dX5_ask_0 : decode cX5_ask 0 = .ok (.aload_n 0, 1) := by decide +kernel
theorem dX5_ask_1 : decode cX5_ask 1 = .ok (.iload_n 2, 1) := by decide +kernel
theorem dX5_ask_2 : decode cX5_ask 2 = .ok (.invokevirtual 92, 3) := by decide +kernel
theorem dX5_ask_5 : decode cX5_ask 5 = .ok (.aload_n 0, 1) := by decide +kernel
theorem dX5_ask_6 : decode cX5_ask 6 = .ok (.iload_n 3, 1) := by decide +kernel
theorem dX5_ask_7 : decode cX5_ask 7 = .ok (.invokevirtual 92, 3) := by decide +kernel
theorem dX5_ask_10 : decode cX5_ask 10 = .ok (.iload_n 1, 1) := by decide +kernel
theorem dX5_ask_11 : decode cX5_ask 11 = .ok (.ifCond .lt 8, 3) := by decide +kernel
theorem dX5_ask_14 : decode cX5_ask 14 = .ok (.iload_n 1, 1) := by decide +kernel
theorem dX5_ask_15 : decode cX5_ask 15 = .ok (.iconst 3, 1) := by decide +kernel
theorem dX5_ask_16 : decode cX5_ask 16 = .ok (.if_icmp .le 13, 3) := by decide +kernel
theorem dX5_ask_19 : decode cX5_ask 19 = .ok (.new 51, 3) := by decide +kernel
theorem dX5_ask_22 : decode cX5_ask 22 = .ok (.dup, 1) := by decide +kernel
theorem dX5_ask_23 : decode cX5_ask 23 = .ok (.ldc 155, 2) := by decide +kernel
theorem dX5_ask_25 : decode cX5_ask 25 = .ok (.invokespecial 55, 3) := by decide +kernel
theorem dX5_ask_28 : decode cX5_ask 28 = .ok (.athrow, 1) := by decide +kernel
theorem dX5_ask_29 : decode cX5_ask 29 = .ok (.iload_n 2, 1) := by decide +kernel
theorem dX5_ask_30 : decode cX5_ask 30 = .ok (.iload_n 3, 1) := by decide +kernel
theorem dX5_ask_31 : decode cX5_ask 31 = .ok (.if_icmp .ne 13, 3) := by decide +kernel
theorem dX5_ask_34 : decode cX5_ask 34 = .ok (.new 51, 3) := by decide +kernel
theorem dX5_ask_37 : decode cX5_ask 37 = .ok (.dup, 1) := by decide +kernel
theorem dX5_ask_38 : decode cX5_ask 38 = .ok (.ldc 157, 2) := by decide +kernel
theorem dX5_ask_40 : decode cX5_ask 40 = .ok (.invokespecial 55, 3) := by decide +kernel
theorem dX5_ask_43 : decode cX5_ask 43 = .ok (.athrow, 1) := by decide +kernel
theorem dX5_ask_44 : decode cX5_ask 44 = .ok (.aload_n 0, 1) := by decide +kernel
theorem dX5_ask_45 : decode cX5_ask 45 = .ok (.getfield 29, 3) := by decide +kernel
theorem dX5_ask_48 : decode cX5_ask 48 = .ok (.getfield 159, 3) := by decide +kernel
theorem dX5_ask_51 : decode cX5_ask 51 = .ok (.bipush 40, 2) := by decide +kernel
theorem dX5_ask_53 : decode cX5_ask 53 = .ok (.if_icmp .lt 13, 3) := by decide +kernel
theorem dX5_ask_56 : decode cX5_ask 56 = .ok (.new 62, 3) := by decide +kernel
theorem dX5_ask_59 : decode cX5_ask 59 = .ok (.dup, 1) := by decide +kernel
theorem dX5_ask_60 : decode cX5_ask 60 = .ok (.ldc 160, 2) := by decide +kernel
theorem dX5_ask_62 : decode cX5_ask 62 = .ok (.invokespecial 66, 3) := by decide +kernel
theorem dX5_ask_65 : decode cX5_ask 65 = .ok (.athrow, 1) := by decide +kernel
theorem dX5_ask_66 : decode cX5_ask 66 = .ok (.aload_n 0, 1) := by decide +kernel
theorem dX5_ask_67 : decode cX5_ask 67 = .ok (.getfield 29, 3) := by decide +kernel
theorem dX5_ask_70 : decode cX5_ask 70 = .ok (.iload_n 1, 1) := by decide +kernel
theorem dX5_ask_71 : decode cX5_ask 71 = .ok (.iload_n 2, 1) := by decide +kernel
theorem dX5_ask_72 : decode cX5_ask 72 = .ok (.iload_n 3, 1) := by decide +kernel
theorem dX5_ask_73 : decode cX5_ask 73 = .ok (.invokevirtual 162, 3) := by decide +kernel
theorem dX5_ask_76 : decode cX5_ask 76 = .ok (.ireturn, 1) := by decide +kernel
theorem dX5_vote_0 : decode cX5_vote 0 = .ok (.aload_n 0, 1) := by decide +kernel
theorem dX5_vote_1 : decode cX5_vote 1 = .ok (.iload_n 1, 1) := by decide +kernel
theorem dX5_vote_2 : decode cX5_vote 2 = .ok (.invokevirtual 166, 3) := by decide +kernel
theorem dX5_vote_5 : decode cX5_vote 5 = .ok (.iload_n 2, 1) := by decide +kernel
theorem dX5_vote_6 : decode cX5_vote 6 = .ok (.ifCond .lt 9, 3) := by decide +kernel
theorem dX5_vote_9 : decode cX5_vote 9 = .ok (.iload_n 2, 1) := by decide +kernel
theorem dX5_vote_10 : decode cX5_vote 10 = .ok (.bipush 10, 2) := by decide +kernel
theorem dX5_vote_12 : decode cX5_vote 12 = .ok (.if_icmp .lt 13, 3) := by decide +kernel
theorem dX5_vote_15 : decode cX5_vote 15 = .ok (.new 51, 3) := by decide +kernel
theorem dX5_vote_18 : decode cX5_vote 18 = .ok (.dup, 1) := by decide +kernel
theorem dX5_vote_19 : decode cX5_vote 19 = .ok (.ldc 169, 2) := by decide +kernel
theorem dX5_vote_21 : decode cX5_vote 21 = .ok (.invokespecial 55, 3) := by decide +kernel
theorem dX5_vote_24 : decode cX5_vote 24 = .ok (.athrow, 1) := by decide +kernel
theorem dX5_vote_25 : decode cX5_vote 25 = .ok (.aload_n 0, 1) := by decide +kernel
theorem dX5_vote_26 : decode cX5_vote 26 = .ok (.getfield 29, 3) := by decide +kernel
theorem dX5_vote_29 : decode cX5_vote 29 = .ok (.getfield 171, 3) := by decide +kernel
theorem dX5_vote_32 : decode cX5_vote 32 = .ok (.iload_n 1, 1) := by decide +kernel
theorem dX5_vote_33 : decode cX5_vote 33 = .ok (.iaload, 1) := by decide +kernel
theorem dX5_vote_34 : decode cX5_vote 34 = .ok (.ifCond .eq 13, 3) := by decide +kernel
theorem dX5_vote_37 : decode cX5_vote 37 = .ok (.new 62, 3) := by decide +kernel
theorem dX5_vote_40 : decode cX5_vote 40 = .ok (.dup, 1) := by decide +kernel
theorem dX5_vote_41 : decode cX5_vote 41 = .ok (.ldc 174, 2) := by decide +kernel
theorem dX5_vote_43 : decode cX5_vote 43 = .ok (.invokespecial 66, 3) := by decide +kernel
theorem dX5_vote_46 : decode cX5_vote 46 = .ok (.athrow, 1) := by decide +kernel
theorem dX5_vote_47 : decode cX5_vote 47 = .ok (.aload_n 0, 1) := by decide +kernel
theorem dX5_vote_48 : decode cX5_vote 48 = .ok (.getfield 29, 3) := by decide +kernel
theorem dX5_vote_51 : decode cX5_vote 51 = .ok (.iload_n 1, 1) := by decide +kernel
theorem dX5_vote_52 : decode cX5_vote 52 = .ok (.iload_n 2, 1) := by decide +kernel
theorem dX5_vote_53 : decode cX5_vote 53 = .ok (.iload_n 3, 1) := by decide +kernel
theorem dX5_vote_54 : decode cX5_vote 54 = .ok (.invokevirtual 176, 3) := by decide +kernel
theorem dX5_vote_57 : decode cX5_vote 57 = .ok (.aload_n 0, 1) := by decide +kernel
theorem dX5_vote_58 : decode cX5_vote 58 = .ok (.iload_n 1, 1) := by decide +kernel
theorem dX5_vote_59 : decode cX5_vote 59 = .ok (.aload_n 0, 1) := by decide +kernel
theorem dX5_vote_60 : decode cX5_vote 60 = .ok (.getfield 29, 3) := by decide +kernel
theorem dX5_vote_63 : decode cX5_vote 63 = .ok (.iload_n 1, 1) := by decide +kernel
theorem dX5_vote_64 : decode cX5_vote 64 = .ok (.invokevirtual 180, 3) := by decide +kernel
theorem dX5_vote_67 : decode cX5_vote 67 = .ok (.invokevirtual 183, 3) := by decide +kernel
theorem dX5_vote_70 : decode cX5_vote 70 = .ok (.aload_n 0, 1) := by decide +kernel
theorem dX5_vote_71 : decode cX5_vote 71 = .ok (.getfield 29, 3) := by decide +kernel
theorem dX5_vote_74 : decode cX5_vote 74 = .ok (.getfield 171, 3) := by decide +kernel
theorem dX5_vote_77 : decode cX5_vote 77 = .ok (.iload_n 1, 1) := by decide +kernel
theorem dX5_vote_78 : decode cX5_vote 78 = .ok (.iaload, 1) := by decide +kernel
theorem dX5_vote_79 : decode cX5_vote 79 = .ok (.ireturn, 1) := by decide +kernel
theorem dX5_standing_0 : decode cX5_standing 0 = .ok (.aload_n 0, 1) := by decide +kernel
theorem dX5_standing_1 : decode cX5_standing 1 = .ok (.iload_n 1, 1) := by decide +kernel
theorem dX5_standing_2 : decode cX5_standing 2 = .ok (.invokevirtual 166, 3) := by decide +kernel
theorem dX5_standing_5 : decode cX5_standing 5 = .ok (.aload_n 0, 1) := by decide +kernel
theorem dX5_standing_6 : decode cX5_standing 6 = .ok (.getfield 29, 3) := by decide +kernel
theorem dX5_standing_9 : decode cX5_standing 9 = .ok (.getfield 171, 3) := by decide +kernel
theorem dX5_standing_12 : decode cX5_standing 12 = .ok (.iload_n 1, 1) := by decide +kernel
theorem dX5_standing_13 : decode cX5_standing 13 = .ok (.iaload, 1) := by decide +kernel
theorem dX5_standing_14 : decode cX5_standing 14 = .ok (.ireturn, 1) := by decide +kernel
theorem dX5_couldPass_0 : decode cX5_couldPass 0 = .ok (.aload_n 0, 1) := by decide +kernel
theorem dX5_couldPass_1 : decode cX5_couldPass 1 = .ok (.iload_n 1, 1) := by decide +kernel
theorem dX5_couldPass_2 : decode cX5_couldPass 2 = .ok (.invokevirtual 166, 3) := by decide +kernel
theorem dX5_couldPass_5 : decode cX5_couldPass 5 = .ok (.aload_n 0, 1) := by decide +kernel
theorem dX5_couldPass_6 : decode cX5_couldPass 6 = .ok (.iload_n 1, 1) := by decide +kernel
theorem dX5_couldPass_7 : decode cX5_couldPass 7 = .ok (.invokevirtual 187, 3) := by decide +kernel
theorem dX5_couldPass_10 : decode cX5_couldPass 10 = .ok (.ireturn, 1) := by decide +kernel
theorem dX5_clashes_0 : decode cX5_clashes 0 = .ok (.aload_n 0, 1) := by decide +kernel
theorem dX5_clashes_1 : decode cX5_clashes 1 = .ok (.iload_n 1, 1) := by decide +kernel
theorem dX5_clashes_2 : decode cX5_clashes 2 = .ok (.invokevirtual 166, 3) := by decide +kernel
theorem dX5_clashes_5 : decode cX5_clashes 5 = .ok (.aload_n 0, 1) := by decide +kernel
theorem dX5_clashes_6 : decode cX5_clashes 6 = .ok (.iload_n 1, 1) := by decide +kernel
theorem dX5_clashes_7 : decode cX5_clashes 7 = .ok (.invokevirtual 187, 3) := by decide +kernel
theorem dX5_clashes_10 : decode cX5_clashes 10 = .ok (.ifCond .ne 5, 3) := by decide +kernel
theorem dX5_clashes_13 : decode cX5_clashes 13 = .ok (.iconst 0, 1) := by decide +kernel
theorem dX5_clashes_14 : decode cX5_clashes 14 = .ok (.ireturn, 1) := by decide +kernel
theorem dX5_clashes_15 : decode cX5_clashes 15 = .ok (.iconst 0, 1) := by decide +kernel
theorem dX5_clashes_16 : decode cX5_clashes 16 = .ok (.istore_n 2, 1) := by decide +kernel
theorem dX5_clashes_17 : decode cX5_clashes 17 = .ok (.iconst 0, 1) := by decide +kernel
theorem dX5_clashes_18 : decode cX5_clashes 18 = .ok (.istore_n 3, 1) := by decide +kernel
theorem dX5_clashes_19 : decode cX5_clashes 19 = .ok (.iload_n 3, 1) := by decide +kernel
theorem dX5_clashes_20 : decode cX5_clashes 20 = .ok (.aload_n 0, 1) := by decide +kernel
theorem dX5_clashes_21 : decode cX5_clashes 21 = .ok (.getfield 29, 3) := by decide +kernel
theorem dX5_clashes_24 : decode cX5_clashes 24 = .ok (.getfield 159, 3) := by decide +kernel
theorem dX5_clashes_27 : decode cX5_clashes 27 = .ok (.if_icmp .ge 43, 3) := by decide +kernel
theorem dX5_clashes_30 : decode cX5_clashes 30 = .ok (.iload_n 3, 1) := by decide +kernel
theorem dX5_clashes_31 : decode cX5_clashes 31 = .ok (.iload_n 1, 1) := by decide +kernel
theorem dX5_clashes_32 : decode cX5_clashes 32 = .ok (.if_icmp .eq 32, 3) := by decide +kernel
theorem dX5_clashes_35 : decode cX5_clashes 35 = .ok (.aload_n 0, 1) := by decide +kernel
theorem dX5_clashes_36 : decode cX5_clashes 36 = .ok (.iload_n 3, 1) := by decide +kernel
theorem dX5_clashes_37 : decode cX5_clashes 37 = .ok (.invokevirtual 187, 3) := by decide +kernel
theorem dX5_clashes_40 : decode cX5_clashes 40 = .ok (.ifCond .eq 24, 3) := by decide +kernel
theorem dX5_clashes_43 : decode cX5_clashes 43 = .ok (.aload_n 0, 1) := by decide +kernel
theorem dX5_clashes_44 : decode cX5_clashes 44 = .ok (.iload_n 1, 1) := by decide +kernel
theorem dX5_clashes_45 : decode cX5_clashes 45 = .ok (.iload_n 3, 1) := by decide +kernel
theorem dX5_clashes_46 : decode cX5_clashes 46 = .ok (.invokevirtual 191, 3) := by decide +kernel
theorem dX5_clashes_49 : decode cX5_clashes 49 = .ok (.ifCond .eq 12, 3) := by decide +kernel
theorem dX5_clashes_52 : decode cX5_clashes 52 = .ok (.aload_n 0, 1) := by decide +kernel
theorem dX5_clashes_53 : decode cX5_clashes 53 = .ok (.iload_n 3, 1) := by decide +kernel
theorem dX5_clashes_54 : decode cX5_clashes 54 = .ok (.iload_n 1, 1) := by decide +kernel
theorem dX5_clashes_55 : decode cX5_clashes 55 = .ok (.invokevirtual 191, 3) := by decide +kernel
theorem dX5_clashes_58 : decode cX5_clashes 58 = .ok (.ifCond .ne 6, 3) := by decide +kernel
theorem dX5_clashes_61 : decode cX5_clashes 61 = .ok (.iinc 2 1, 3) := by decide +kernel
theorem dX5_clashes_64 : decode cX5_clashes 64 = .ok (.iinc 3 1, 3) := by decide +kernel
theorem dX5_clashes_67 : decode cX5_clashes 67 = .ok (.goto (-48), 3) := by decide +kernel
theorem dX5_clashes_70 : decode cX5_clashes 70 = .ok (.iload_n 2, 1) := by decide +kernel
theorem dX5_clashes_71 : decode cX5_clashes 71 = .ok (.ireturn, 1) := by decide +kernel
theorem dX5_alias_0 : decode cX5_alias 0 = .ok (.aload_n 0, 1) := by decide +kernel
theorem dX5_alias_1 : decode cX5_alias 1 = .ok (.iload_n 1, 1) := by decide +kernel
theorem dX5_alias_2 : decode cX5_alias 2 = .ok (.invokevirtual 92, 3) := by decide +kernel
theorem dX5_alias_5 : decode cX5_alias 5 = .ok (.aload_n 0, 1) := by decide +kernel
theorem dX5_alias_6 : decode cX5_alias 6 = .ok (.getfield 19, 3) := by decide +kernel
theorem dX5_alias_9 : decode cX5_alias 9 = .ok (.getfield 194, 3) := by decide +kernel
theorem dX5_alias_12 : decode cX5_alias 12 = .ok (.iload_n 1, 1) := by decide +kernel
theorem dX5_alias_13 : decode cX5_alias 13 = .ok (.iaload, 1) := by decide +kernel
theorem dX5_alias_14 : decode cX5_alias 14 = .ok (.ireturn, 1) := by decide +kernel
theorem dX5_end_0 : decode cX5_end 0 = .ok (.aload_n 0, 1) := by decide +kernel
theorem dX5_end_1 : decode cX5_end 1 = .ok (.iload_n 1, 1) := by decide +kernel
theorem dX5_end_2 : decode cX5_end 2 = .ok (.invokevirtual 92, 3) := by decide +kernel
theorem dX5_end_5 : decode cX5_end 5 = .ok (.aload_n 0, 1) := by decide +kernel
theorem dX5_end_6 : decode cX5_end 6 = .ok (.getfield 19, 3) := by decide +kernel
theorem dX5_end_9 : decode cX5_end 9 = .ok (.iload_n 1, 1) := by decide +kernel
theorem dX5_end_10 : decode cX5_end 10 = .ok (.invokevirtual 128, 3) := by decide +kernel
theorem dX5_end_13 : decode cX5_end 13 = .ok (.ireturn, 1) := by decide +kernel
theorem dX5_implies_0 : decode cX5_implies 0 = .ok (.aload_n 0, 1) := by decide +kernel
theorem dX5_implies_1 : decode cX5_implies 1 = .ok (.iload_n 1, 1) := by decide +kernel
theorem dX5_implies_2 : decode cX5_implies 2 = .ok (.invokevirtual 92, 3) := by decide +kernel
theorem dX5_implies_5 : decode cX5_implies 5 = .ok (.aload_n 0, 1) := by decide +kernel
theorem dX5_implies_6 : decode cX5_implies 6 = .ok (.iload_n 2, 1) := by decide +kernel
theorem dX5_implies_7 : decode cX5_implies 7 = .ok (.invokevirtual 92, 3) := by decide +kernel
theorem dX5_implies_10 : decode cX5_implies 10 = .ok (.aload_n 0, 1) := by decide +kernel
theorem dX5_implies_11 : decode cX5_implies 11 = .ok (.getfield 19, 3) := by decide +kernel
theorem dX5_implies_14 : decode cX5_implies 14 = .ok (.getfield 197, 3) := by decide +kernel
theorem dX5_implies_17 : decode cX5_implies 17 = .ok (.iload_n 1, 1) := by decide +kernel
theorem dX5_implies_18 : decode cX5_implies 18 = .ok (.iaload, 1) := by decide +kernel
theorem dX5_implies_19 : decode cX5_implies 19 = .ok (.iload_n 2, 1) := by decide +kernel
theorem dX5_implies_20 : decode cX5_implies 20 = .ok (.invokestatic 135, 3) := by decide +kernel
theorem dX5_implies_23 : decode cX5_implies 23 = .ok (.ireturn, 1) := by decide +kernel
theorem dX5_shown_0 : decode cX5_shown 0 = .ok (.aload_n 0, 1) := by decide +kernel
theorem dX5_shown_1 : decode cX5_shown 1 = .ok (.iload_n 1, 1) := by decide +kernel
theorem dX5_shown_2 : decode cX5_shown 2 = .ok (.invokevirtual 111, 3) := by decide +kernel
theorem dX5_shown_5 : decode cX5_shown 5 = .ok (.aload_n 0, 1) := by decide +kernel
theorem dX5_shown_6 : decode cX5_shown 6 = .ok (.getfield 43, 3) := by decide +kernel
theorem dX5_shown_9 : decode cX5_shown 9 = .ok (.iload_n 1, 1) := by decide +kernel
theorem dX5_shown_10 : decode cX5_shown 10 = .ok (.aload_n 0, 1) := by decide +kernel
theorem dX5_shown_11 : decode cX5_shown 11 = .ok (.getfield 10, 3) := by decide +kernel
theorem dX5_shown_14 : decode cX5_shown 14 = .ok (.getfield 77, 3) := by decide +kernel
theorem dX5_shown_17 : decode cX5_shown 17 = .ok (.invokevirtual 200, 3) := by decide +kernel
theorem dX5_shown_20 : decode cX5_shown 20 = .ok (.ireturn, 1) := by decide +kernel
theorem dX5_shownByHand_0 : decode cX5_shownByHand 0 = .ok (.aload_n 0, 1) := by decide +kernel
theorem dX5_shownByHand_1 : decode cX5_shownByHand 1 = .ok (.iload_n 1, 1) := by decide +kernel
theorem dX5_shownByHand_2 : decode cX5_shownByHand 2 = .ok (.invokevirtual 111, 3) := by decide +kernel
theorem dX5_shownByHand_5 : decode cX5_shownByHand 5 = .ok (.aload_n 0, 1) := by decide +kernel
theorem dX5_shownByHand_6 : decode cX5_shownByHand 6 = .ok (.getfield 19, 3) := by decide +kernel
theorem dX5_shownByHand_9 : decode cX5_shownByHand 9 = .ok (.aload_n 0, 1) := by decide +kernel
theorem dX5_shownByHand_10 : decode cX5_shownByHand 10 = .ok (.getfield 36, 3) := by decide +kernel
theorem dX5_shownByHand_13 : decode cX5_shownByHand 13 = .ok (.getfield 132, 3) := by decide +kernel
theorem dX5_shownByHand_16 : decode cX5_shownByHand 16 = .ok (.iload_n 1, 1) := by decide +kernel
theorem dX5_shownByHand_17 : decode cX5_shownByHand 17 = .ok (.iaload, 1) := by decide +kernel
theorem dX5_shownByHand_18 : decode cX5_shownByHand 18 = .ok (.invokevirtual 204, 3) := by decide +kernel
theorem dX5_shownByHand_21 : decode cX5_shownByHand 21 = .ok (.ireturn, 1) := by decide +kernel
theorem dX5_users_0 : decode cX5_users 0 = .ok (.aload_n 0, 1) := by decide +kernel
theorem dX5_users_1 : decode cX5_users 1 = .ok (.iload_n 1, 1) := by decide +kernel
theorem dX5_users_2 : decode cX5_users 2 = .ok (.invokevirtual 92, 3) := by decide +kernel
theorem dX5_users_5 : decode cX5_users 5 = .ok (.aload_n 0, 1) := by decide +kernel
theorem dX5_users_6 : decode cX5_users 6 = .ok (.getfield 43, 3) := by decide +kernel
theorem dX5_users_9 : decode cX5_users 9 = .ok (.getfield 125, 3) := by decide +kernel
theorem dX5_users_12 : decode cX5_users 12 = .ok (.iload_n 1, 1) := by decide +kernel
theorem dX5_users_13 : decode cX5_users 13 = .ok (.iaload, 1) := by decide +kernel
theorem dX5_users_14 : decode cX5_users 14 = .ok (.invokestatic 207, 3) := by decide +kernel
theorem dX5_users_17 : decode cX5_users 17 = .ok (.ireturn, 1) := by decide +kernel
theorem dX5_reason_0 : decode cX5_reason 0 = .ok (.aload_n 0, 1) := by decide +kernel
theorem dX5_reason_1 : decode cX5_reason 1 = .ok (.iload_n 1, 1) := by decide +kernel
theorem dX5_reason_2 : decode cX5_reason 2 = .ok (.invokevirtual 111, 3) := by decide +kernel
theorem dX5_reason_5 : decode cX5_reason 5 = .ok (.aload_n 0, 1) := by decide +kernel
theorem dX5_reason_6 : decode cX5_reason 6 = .ok (.iload_n 2, 1) := by decide +kernel
theorem dX5_reason_7 : decode cX5_reason 7 = .ok (.invokevirtual 92, 3) := by decide +kernel
theorem dX5_reason_10 : decode cX5_reason 10 = .ok (.aload_n 0, 1) := by decide +kernel
theorem dX5_reason_11 : decode cX5_reason 11 = .ok (.getfield 19, 3) := by decide +kernel
theorem dX5_reason_14 : decode cX5_reason 14 = .ok (.aload_n 0, 1) := by decide +kernel
theorem dX5_reason_15 : decode cX5_reason 15 = .ok (.getfield 36, 3) := by decide +kernel
theorem dX5_reason_18 : decode cX5_reason 18 = .ok (.getfield 132, 3) := by decide +kernel
theorem dX5_reason_21 : decode cX5_reason 21 = .ok (.iload_n 1, 1) := by decide +kernel
theorem dX5_reason_22 : decode cX5_reason 22 = .ok (.iaload, 1) := by decide +kernel
theorem dX5_reason_23 : decode cX5_reason 23 = .ok (.iload_n 2, 1) := by decide +kernel
theorem dX5_reason_24 : decode cX5_reason 24 = .ok (.invokevirtual 212, 3) := by decide +kernel
theorem dX5_reason_27 : decode cX5_reason 27 = .ok (.ireturn, 1) := by decide +kernel
theorem dX5_count_0 : decode cX5_count 0 = .ok (.aload_n 0, 1) := by decide +kernel
theorem dX5_count_1 : decode cX5_count 1 = .ok (.iload_n 1, 1) := by decide +kernel
theorem dX5_count_2 : decode cX5_count 2 = .ok (.iload_n 2, 1) := by decide +kernel
theorem dX5_count_3 : decode cX5_count 3 = .ok (.iload_n 3, 1) := by decide +kernel
theorem dX5_count_4 : decode cX5_count 4 = .ok (.invokevirtual 215, 3) := by decide +kernel
theorem dX5_count_7 : decode cX5_count 7 = .ok (.aload_n 0, 1) := by decide +kernel
theorem dX5_count_8 : decode cX5_count 8 = .ok (.iload_n 1, 1) := by decide +kernel
theorem dX5_count_9 : decode cX5_count 9 = .ok (.iload_n 2, 1) := by decide +kernel
theorem dX5_count_10 : decode cX5_count 10 = .ok (.iload_n 3, 1) := by decide +kernel
theorem dX5_count_11 : decode cX5_count 11 = .ok (.invokevirtual 219, 3) := by decide +kernel
theorem dX5_count_14 : decode cX5_count 14 = .ok (.invokestatic 207, 3) := by decide +kernel
theorem dX5_count_17 : decode cX5_count 17 = .ok (.ireturn, 1) := by decide +kernel
theorem dX5_match_0 : decode cX5_match 0 = .ok (.iload_n 1, 1) := by decide +kernel
theorem dX5_match_1 : decode cX5_match 1 = .ok (.ifCond .ge 13, 3) := by decide +kernel
theorem dX5_match_4 : decode cX5_match 4 = .ok (.new 99, 3) := by decide +kernel
theorem dX5_match_7 : decode cX5_match 7 = .ok (.dup, 1) := by decide +kernel
theorem dX5_match_8 : decode cX5_match 8 = .ok (.ldc 222, 2) := by decide +kernel
theorem dX5_match_10 : decode cX5_match 10 = .ok (.invokespecial 103, 3) := by decide +kernel
theorem dX5_match_13 : decode cX5_match 13 = .ok (.athrow, 1) := by decide +kernel
theorem dX5_match_14 : decode cX5_match 14 = .ok (.aload_n 0, 1) := by decide +kernel
theorem dX5_match_15 : decode cX5_match 15 = .ok (.iload_n 2, 1) := by decide +kernel
theorem dX5_match_16 : decode cX5_match 16 = .ok (.iload_n 3, 1) := by decide +kernel
theorem dX5_match_17 : decode cX5_match 17 = .ok (.iload 4, 2) := by decide +kernel
theorem dX5_match_19 : decode cX5_match 19 = .ok (.invokevirtual 215, 3) := by decide +kernel
theorem dX5_match_22 : decode cX5_match 22 = .ok (.aload_n 0, 1) := by decide +kernel
theorem dX5_match_23 : decode cX5_match 23 = .ok (.iload_n 2, 1) := by decide +kernel
theorem dX5_match_24 : decode cX5_match 24 = .ok (.iload_n 3, 1) := by decide +kernel
theorem dX5_match_25 : decode cX5_match 25 = .ok (.iload 4, 2) := by decide +kernel
theorem dX5_match_27 : decode cX5_match 27 = .ok (.invokevirtual 219, 3) := by decide +kernel
theorem dX5_match_30 : decode cX5_match 30 = .ok (.iload_n 1, 1) := by decide +kernel
theorem dX5_match_31 : decode cX5_match 31 = .ok (.invokestatic 224, 3) := by decide +kernel
theorem dX5_match_34 : decode cX5_match 34 = .ok (.istore 5, 2) := by decide +kernel
theorem dX5_match_36 : decode cX5_match 36 = .ok (.iload 5, 2) := by decide +kernel
theorem dX5_match_38 : decode cX5_match 38 = .ok (.iconst (-1), 1) := by decide +kernel
theorem dX5_match_39 : decode cX5_match 39 = .ok (.if_icmp .ne 13, 3) := by decide +kernel
theorem dX5_match_42 : decode cX5_match 42 = .ok (.new 99, 3) := by decide +kernel
theorem dX5_match_45 : decode cX5_match 45 = .ok (.dup, 1) := by decide +kernel
theorem dX5_match_46 : decode cX5_match 46 = .ok (.ldc 227, 2) := by decide +kernel
theorem dX5_match_48 : decode cX5_match 48 = .ok (.invokespecial 103, 3) := by decide +kernel
theorem dX5_match_51 : decode cX5_match 51 = .ok (.athrow, 1) := by decide +kernel
theorem dX5_match_52 : decode cX5_match 52 = .ok (.iload 5, 2) := by decide +kernel
theorem dX5_match_54 : decode cX5_match 54 = .ok (.ireturn, 1) := by decide +kernel
theorem dX5_needTag_0 : decode cX5_needTag 0 = .ok (.iload_n 1, 1) := by decide +kernel
theorem dX5_needTag_1 : decode cX5_needTag 1 = .ok (.ifCond .lt 14, 3) := by decide +kernel
theorem dX5_needTag_4 : decode cX5_needTag 4 = .ok (.iload_n 1, 1) := by decide +kernel
theorem dX5_needTag_5 : decode cX5_needTag 5 = .ok (.aload_n 0, 1) := by decide +kernel
theorem dX5_needTag_6 : decode cX5_needTag 6 = .ok (.getfield 10, 3) := by decide +kernel
theorem dX5_needTag_9 : decode cX5_needTag 9 = .ok (.getfield 77, 3) := by decide +kernel
theorem dX5_needTag_12 : decode cX5_needTag 12 = .ok (.if_icmp .lt 13, 3) := by decide +kernel
theorem dX5_needTag_15 : decode cX5_needTag 15 = .ok (.new 99, 3) := by decide +kernel
theorem dX5_needTag_18 : decode cX5_needTag 18 = .ok (.dup, 1) := by decide +kernel
theorem dX5_needTag_19 : decode cX5_needTag 19 = .ok (.ldc 229, 2) := by decide +kernel
theorem dX5_needTag_21 : decode cX5_needTag 21 = .ok (.invokespecial 103, 3) := by decide +kernel
theorem dX5_needTag_24 : decode cX5_needTag 24 = .ok (.athrow, 1) := by decide +kernel
theorem dX5_needTag_25 : decode cX5_needTag 25 = .ok (.return_, 1) := by decide +kernel
theorem dX5_needThing_0 : decode cX5_needThing 0 = .ok (.iload_n 1, 1) := by decide +kernel
theorem dX5_needThing_1 : decode cX5_needThing 1 = .ok (.ifCond .lt 14, 3) := by decide +kernel
theorem dX5_needThing_4 : decode cX5_needThing 4 = .ok (.iload_n 1, 1) := by decide +kernel
theorem dX5_needThing_5 : decode cX5_needThing 5 = .ok (.aload_n 0, 1) := by decide +kernel
theorem dX5_needThing_6 : decode cX5_needThing 6 = .ok (.getfield 36, 3) := by decide +kernel
theorem dX5_needThing_9 : decode cX5_needThing 9 = .ok (.getfield 108, 3) := by decide +kernel
theorem dX5_needThing_12 : decode cX5_needThing 12 = .ok (.if_icmp .lt 13, 3) := by decide +kernel
theorem dX5_needThing_15 : decode cX5_needThing 15 = .ok (.new 99, 3) := by decide +kernel
theorem dX5_needThing_18 : decode cX5_needThing 18 = .ok (.dup, 1) := by decide +kernel
theorem dX5_needThing_19 : decode cX5_needThing 19 = .ok (.ldc 231, 2) := by decide +kernel
theorem dX5_needThing_21 : decode cX5_needThing 21 = .ok (.invokespecial 103, 3) := by decide +kernel
theorem dX5_needThing_24 : decode cX5_needThing 24 = .ok (.athrow, 1) := by decide +kernel
theorem dX5_needThing_25 : decode cX5_needThing 25 = .ok (.return_, 1) := by decide +kernel
theorem dX5_needRequest_0 : decode cX5_needRequest 0 = .ok (.iload_n 1, 1) := by decide +kernel
theorem dX5_needRequest_1 : decode cX5_needRequest 1 = .ok (.ifCond .lt 14, 3) := by decide +kernel
theorem dX5_needRequest_4 : decode cX5_needRequest 4 = .ok (.iload_n 1, 1) := by decide +kernel
theorem dX5_needRequest_5 : decode cX5_needRequest 5 = .ok (.aload_n 0, 1) := by decide +kernel
theorem dX5_needRequest_6 : decode cX5_needRequest 6 = .ok (.getfield 29, 3) := by decide +kernel
theorem dX5_needRequest_9 : decode cX5_needRequest 9 = .ok (.getfield 159, 3) := by decide +kernel
theorem dX5_needRequest_12 : decode cX5_needRequest 12 = .ok (.if_icmp .lt 13, 3) := by decide +kernel
theorem dX5_needRequest_15 : decode cX5_needRequest 15 = .ok (.new 99, 3) := by decide +kernel
theorem dX5_needRequest_18 : decode cX5_needRequest 18 = .ok (.dup, 1) := by decide +kernel
theorem dX5_needRequest_19 : decode cX5_needRequest 19 = .ok (.ldc 233, 2) := by decide +kernel
theorem dX5_needRequest_21 : decode cX5_needRequest 21 = .ok (.invokespecial 103, 3) := by decide +kernel
theorem dX5_needRequest_24 : decode cX5_needRequest 24 = .ok (.athrow, 1) := by decide +kernel
theorem dX5_needRequest_25 : decode cX5_needRequest 25 = .ok (.return_, 1) := by decide +kernel
theorem dX5_needSets_0 : decode cX5_needSets 0 = .ok (.aload_n 0, 1) := by decide +kernel
theorem dX5_needSets_1 : decode cX5_needSets 1 = .ok (.iload_n 1, 1) := by decide +kernel
theorem dX5_needSets_2 : decode cX5_needSets 2 = .ok (.invokevirtual 235, 3) := by decide +kernel
theorem dX5_needSets_5 : decode cX5_needSets 5 = .ok (.ifCond .eq 19, 3) := by decide +kernel
theorem dX5_needSets_8 : decode cX5_needSets 8 = .ok (.aload_n 0, 1) := by decide +kernel
theorem dX5_needSets_9 : decode cX5_needSets 9 = .ok (.iload_n 2, 1) := by decide +kernel
theorem dX5_needSets_10 : decode cX5_needSets 10 = .ok (.invokevirtual 235, 3) := by decide +kernel
theorem dX5_needSets_13 : decode cX5_needSets 13 = .ok (.ifCond .eq 11, 3) := by decide +kernel
theorem dX5_needSets_16 : decode cX5_needSets 16 = .ok (.aload_n 0, 1) := by decide +kernel
theorem dX5_needSets_17 : decode cX5_needSets 17 = .ok (.iload_n 3, 1) := by decide +kernel
theorem dX5_needSets_18 : decode cX5_needSets 18 = .ok (.invokevirtual 235, 3) := by decide +kernel
theorem dX5_needSets_21 : decode cX5_needSets 21 = .ok (.ifCond .ne 13, 3) := by decide +kernel
theorem dX5_needSets_24 : decode cX5_needSets 24 = .ok (.new 51, 3) := by decide +kernel
theorem dX5_needSets_27 : decode cX5_needSets 27 = .ok (.dup, 1) := by decide +kernel
theorem dX5_needSets_28 : decode cX5_needSets 28 = .ok (.ldc 238, 2) := by decide +kernel
theorem dX5_needSets_30 : decode cX5_needSets 30 = .ok (.invokespecial 55, 3) := by decide +kernel
theorem dX5_needSets_33 : decode cX5_needSets 33 = .ok (.athrow, 1) := by decide +kernel
theorem dX5_needSets_34 : decode cX5_needSets 34 = .ok (.return_, 1) := by decide +kernel
theorem dX5_isTagSet_0 : decode cX5_isTagSet 0 = .ok (.iload_n 1, 1) := by decide +kernel
theorem dX5_isTagSet_1 : decode cX5_isTagSet 1 = .ok (.ifCond .lt 20, 3) := by decide +kernel
theorem dX5_isTagSet_4 : decode cX5_isTagSet 4 = .ok (.iload_n 1, 1) := by decide +kernel
theorem dX5_isTagSet_5 : decode cX5_isTagSet 5 = .ok (.iconst 1, 1) := by decide +kernel
theorem dX5_isTagSet_6 : decode cX5_isTagSet 6 = .ok (.aload_n 0, 1) := by decide +kernel
theorem dX5_isTagSet_7 : decode cX5_isTagSet 7 = .ok (.getfield 10, 3) := by decide +kernel
theorem dX5_isTagSet_10 : decode cX5_isTagSet 10 = .ok (.getfield 77, 3) := by decide +kernel
theorem dX5_isTagSet_13 : decode cX5_isTagSet 13 = .ok (.ishl, 1) := by decide +kernel
theorem dX5_isTagSet_14 : decode cX5_isTagSet 14 = .ok (.if_icmp .ge 7, 3) := by decide +kernel
theorem dX5_isTagSet_17 : decode cX5_isTagSet 17 = .ok (.iconst 1, 1) := by decide +kernel
theorem dX5_isTagSet_18 : decode cX5_isTagSet 18 = .ok (.goto 4, 3) := by decide +kernel
theorem dX5_isTagSet_21 : decode cX5_isTagSet 21 = .ok (.iconst 0, 1) := by decide +kernel
theorem dX5_isTagSet_22 : decode cX5_isTagSet 22 = .ok (.ireturn, 1) := by decide +kernel
theorem dX5_finishEdit_0 : decode cX5_finishEdit 0 = .ok (.aload_n 0, 1) := by decide +kernel
theorem dX5_finishEdit_1 : decode cX5_finishEdit 1 = .ok (.getfield 36, 3) := by decide +kernel
theorem dX5_finishEdit_4 : decode cX5_finishEdit 4 = .ok (.invokevirtual 240, 3) := by decide +kernel
theorem dX5_finishEdit_7 : decode cX5_finishEdit 7 = .ok (.istore_n 1, 1) := by decide +kernel
theorem dX5_finishEdit_8 : decode cX5_finishEdit 8 = .ok (.iload_n 1, 1) := by decide +kernel
theorem dX5_finishEdit_9 : decode cX5_finishEdit 9 = .ok (.ifCond .le 18, 3) := by decide +kernel
theorem dX5_finishEdit_12 : decode cX5_finishEdit 12 = .ok (.aload_n 0, 1) := by decide +kernel
theorem dX5_finishEdit_13 : decode cX5_finishEdit 13 = .ok (.getfield 43, 3) := by decide +kernel
theorem dX5_finishEdit_16 : decode cX5_finishEdit 16 = .ok (.aload_n 0, 1) := by decide +kernel
theorem dX5_finishEdit_17 : decode cX5_finishEdit 17 = .ok (.getfield 19, 3) := by decide +kernel
theorem dX5_finishEdit_20 : decode cX5_finishEdit 20 = .ok (.aload_n 0, 1) := by decide +kernel
theorem dX5_finishEdit_21 : decode cX5_finishEdit 21 = .ok (.getfield 36, 3) := by decide +kernel
theorem dX5_finishEdit_24 : decode cX5_finishEdit 24 = .ok (.invokevirtual 151, 3) := by decide +kernel
theorem dX5_finishEdit_27 : decode cX5_finishEdit 27 = .ok (.iload_n 1, 1) := by decide +kernel
theorem dX5_finishEdit_28 : decode cX5_finishEdit 28 = .ok (.ireturn, 1) := by decide +kernel
theorem dX5_decide_0 : decode cX5_decide 0 = .ok (.iload_n 2, 1) := by decide +kernel
theorem dX5_decide_1 : decode cX5_decide 1 = .ok (.iconst 3, 1) := by decide +kernel
theorem dX5_decide_2 : decode cX5_decide 2 = .ok (.if_icmp .lt 58, 3) := by decide +kernel
theorem dX5_decide_5 : decode cX5_decide 5 = .ok (.aload_n 0, 1) := by decide +kernel
theorem dX5_decide_6 : decode cX5_decide 6 = .ok (.getfield 29, 3) := by decide +kernel
theorem dX5_decide_9 : decode cX5_decide 9 = .ok (.aload_n 0, 1) := by decide +kernel
theorem dX5_decide_10 : decode cX5_decide 10 = .ok (.getfield 19, 3) := by decide +kernel
theorem dX5_decide_13 : decode cX5_decide 13 = .ok (.iload_n 1, 1) := by decide +kernel
theorem dX5_decide_14 : decode cX5_decide 14 = .ok (.invokevirtual 241, 3) := by decide +kernel
theorem dX5_decide_17 : decode cX5_decide 17 = .ok (.ifCond .eq 43, 3) := by decide +kernel
theorem dX5_decide_20 : decode cX5_decide 20 = .ok (.aload_n 0, 1) := by decide +kernel
theorem dX5_decide_21 : decode cX5_decide 21 = .ok (.getfield 29, 3) := by decide +kernel
theorem dX5_decide_24 : decode cX5_decide 24 = .ok (.getfield 171, 3) := by decide +kernel
theorem dX5_decide_27 : decode cX5_decide 27 = .ok (.iload_n 1, 1) := by decide +kernel
theorem dX5_decide_28 : decode cX5_decide 28 = .ok (.iconst 1, 1) := by decide +kernel
theorem dX5_decide_29 : decode cX5_decide 29 = .ok (.iastore, 1) := by decide +kernel
theorem dX5_decide_30 : decode cX5_decide 30 = .ok (.aload_n 0, 1) := by decide +kernel
theorem dX5_decide_31 : decode cX5_decide 31 = .ok (.getfield 29, 3) := by decide +kernel
theorem dX5_decide_34 : decode cX5_decide 34 = .ok (.aload_n 0, 1) := by decide +kernel
theorem dX5_decide_35 : decode cX5_decide 35 = .ok (.getfield 19, 3) := by decide +kernel
theorem dX5_decide_38 : decode cX5_decide 38 = .ok (.iload_n 1, 1) := by decide +kernel
theorem dX5_decide_39 : decode cX5_decide 39 = .ok (.invokevirtual 245, 3) := by decide +kernel
theorem dX5_decide_42 : decode cX5_decide 42 = .ok (.aload_n 0, 1) := by decide +kernel
theorem dX5_decide_43 : decode cX5_decide 43 = .ok (.getfield 43, 3) := by decide +kernel
theorem dX5_decide_46 : decode cX5_decide 46 = .ok (.aload_n 0, 1) := by decide +kernel
theorem dX5_decide_47 : decode cX5_decide 47 = .ok (.getfield 19, 3) := by decide +kernel
theorem dX5_decide_50 : decode cX5_decide 50 = .ok (.aload_n 0, 1) := by decide +kernel
theorem dX5_decide_51 : decode cX5_decide 51 = .ok (.getfield 36, 3) := by decide +kernel
theorem dX5_decide_54 : decode cX5_decide 54 = .ok (.invokevirtual 151, 3) := by decide +kernel
theorem dX5_decide_57 : decode cX5_decide 57 = .ok (.goto 21, 3) := by decide +kernel
theorem dX5_decide_60 : decode cX5_decide 60 = .ok (.iload_n 2, 1) := by decide +kernel
theorem dX5_decide_61 : decode cX5_decide 61 = .ok (.invokestatic 249, 3) := by decide +kernel
theorem dX5_decide_64 : decode cX5_decide 64 = .ok (.iconst 3, 1) := by decide +kernel
theorem dX5_decide_65 : decode cX5_decide 65 = .ok (.if_icmp .lt 13, 3) := by decide +kernel
theorem dX5_decide_68 : decode cX5_decide 68 = .ok (.aload_n 0, 1) := by decide +kernel
theorem dX5_decide_69 : decode cX5_decide 69 = .ok (.getfield 29, 3) := by decide +kernel
theorem dX5_decide_72 : decode cX5_decide 72 = .ok (.getfield 171, 3) := by decide +kernel
theorem dX5_decide_75 : decode cX5_decide 75 = .ok (.iload_n 1, 1) := by decide +kernel
theorem dX5_decide_76 : decode cX5_decide 76 = .ok (.iconst 2, 1) := by decide +kernel
theorem dX5_decide_77 : decode cX5_decide 77 = .ok (.iastore, 1) := by decide +kernel
theorem dX5_decide_78 : decode cX5_decide 78 = .ok (.return_, 1) := by decide +kernel
theorem dX5_isOpenAndAllowed_0 : decode cX5_isOpenAndAllowed 0 = .ok (.aload_n 0, 1) := by decide +kernel
theorem dX5_isOpenAndAllowed_1 : decode cX5_isOpenAndAllowed 1 = .ok (.getfield 29, 3) := by decide +kernel
theorem dX5_isOpenAndAllowed_4 : decode cX5_isOpenAndAllowed 4 = .ok (.getfield 171, 3) := by decide +kernel
theorem dX5_isOpenAndAllowed_7 : decode cX5_isOpenAndAllowed 7 = .ok (.iload_n 1, 1) := by decide +kernel
theorem dX5_isOpenAndAllowed_8 : decode cX5_isOpenAndAllowed 8 = .ok (.iaload, 1) := by decide +kernel
theorem dX5_isOpenAndAllowed_9 : decode cX5_isOpenAndAllowed 9 = .ok (.ifCond .ne 22, 3) := by decide +kernel
theorem dX5_isOpenAndAllowed_12 : decode cX5_isOpenAndAllowed 12 = .ok (.aload_n 0, 1) := by decide +kernel
theorem dX5_isOpenAndAllowed_13 : decode cX5_isOpenAndAllowed 13 = .ok (.getfield 29, 3) := by decide +kernel
theorem dX5_isOpenAndAllowed_16 : decode cX5_isOpenAndAllowed 16 = .ok (.aload_n 0, 1) := by decide +kernel
theorem dX5_isOpenAndAllowed_17 : decode cX5_isOpenAndAllowed 17 = .ok (.getfield 19, 3) := by decide +kernel
theorem dX5_isOpenAndAllowed_20 : decode cX5_isOpenAndAllowed 20 = .ok (.iload_n 1, 1) := by decide +kernel
theorem dX5_isOpenAndAllowed_21 : decode cX5_isOpenAndAllowed 21 = .ok (.invokevirtual 241, 3) := by decide +kernel
theorem dX5_isOpenAndAllowed_24 : decode cX5_isOpenAndAllowed 24 = .ok (.ifCond .eq 7, 3) := by decide +kernel
theorem dX5_isOpenAndAllowed_27 : decode cX5_isOpenAndAllowed 27 = .ok (.iconst 1, 1) := by decide +kernel
theorem dX5_isOpenAndAllowed_28 : decode cX5_isOpenAndAllowed 28 = .ok (.goto 4, 3) := by decide +kernel
theorem dX5_isOpenAndAllowed_31 : decode cX5_isOpenAndAllowed 31 = .ok (.iconst 0, 1) := by decide +kernel
theorem dX5_isOpenAndAllowed_32 : decode cX5_isOpenAndAllowed 32 = .ok (.ireturn, 1) := by decide +kernel
theorem dX5_isAllowedBehind_0 : decode cX5_isAllowedBehind 0 = .ok (.aload_n 0, 1) := by decide +kernel
theorem dX5_isAllowedBehind_1 : decode cX5_isAllowedBehind 1 = .ok (.getfield 23, 3) := by decide +kernel
theorem dX5_isAllowedBehind_4 : decode cX5_isAllowedBehind 4 = .ok (.aload_n 0, 1) := by decide +kernel
theorem dX5_isAllowedBehind_5 : decode cX5_isAllowedBehind 5 = .ok (.getfield 19, 3) := by decide +kernel
theorem dX5_isAllowedBehind_8 : decode cX5_isAllowedBehind 8 = .ok (.invokevirtual 254, 3) := by decide +kernel
theorem dX5_isAllowedBehind_11 : decode cX5_isAllowedBehind 11 = .ok (.aload_n 0, 1) := by decide +kernel
theorem dX5_isAllowedBehind_12 : decode cX5_isAllowedBehind 12 = .ok (.getfield 29, 3) := by decide +kernel
theorem dX5_isAllowedBehind_15 : decode cX5_isAllowedBehind 15 = .ok (.aload_n 0, 1) := by decide +kernel
theorem dX5_isAllowedBehind_16 : decode cX5_isAllowedBehind 16 = .ok (.getfield 23, 3) := by decide +kernel
theorem dX5_isAllowedBehind_19 : decode cX5_isAllowedBehind 19 = .ok (.iload_n 1, 1) := by decide +kernel
theorem dX5_isAllowedBehind_20 : decode cX5_isAllowedBehind 20 = .ok (.invokevirtual 245, 3) := by decide +kernel
theorem dX5_isAllowedBehind_23 : decode cX5_isAllowedBehind 23 = .ok (.aload_n 0, 1) := by decide +kernel
theorem dX5_isAllowedBehind_24 : decode cX5_isAllowedBehind 24 = .ok (.getfield 29, 3) := by decide +kernel
theorem dX5_isAllowedBehind_27 : decode cX5_isAllowedBehind 27 = .ok (.aload_n 0, 1) := by decide +kernel
theorem dX5_isAllowedBehind_28 : decode cX5_isAllowedBehind 28 = .ok (.getfield 23, 3) := by decide +kernel
theorem dX5_isAllowedBehind_31 : decode cX5_isAllowedBehind 31 = .ok (.iload_n 2, 1) := by decide +kernel
theorem dX5_isAllowedBehind_32 : decode cX5_isAllowedBehind 32 = .ok (.invokevirtual 241, 3) := by decide +kernel
theorem dX5_isAllowedBehind_35 : decode cX5_isAllowedBehind 35 = .ok (.ireturn, 1) := by decide +kernel
theorem dX5_matching_0 : decode cX5_matching 0 = .ok (.iconst 1, 1) := by decide +kernel
theorem dX5_matching_1 : decode cX5_matching 1 = .ok (.aload_n 0, 1) := by decide +kernel
theorem dX5_matching_2 : decode cX5_matching 2 = .ok (.getfield 36, 3) := by decide +kernel
theorem dX5_matching_5 : decode cX5_matching 5 = .ok (.getfield 108, 3) := by decide +kernel
theorem dX5_matching_8 : decode cX5_matching 8 = .ok (.ishl, 1) := by decide +kernel
theorem dX5_matching_9 : decode cX5_matching 9 = .ok (.iconst 1, 1) := by decide +kernel
theorem dX5_matching_10 : decode cX5_matching 10 = .ok (.isub, 1) := by decide +kernel
theorem dX5_matching_11 : decode cX5_matching 11 = .ok (.istore 4, 2) := by decide +kernel
theorem dX5_matching_13 : decode cX5_matching 13 = .ok (.iload_n 2, 1) := by decide +kernel
theorem dX5_matching_14 : decode cX5_matching 14 = .ok (.ifCond .ne 8, 3) := by decide +kernel
theorem dX5_matching_17 : decode cX5_matching 17 = .ok (.iload 4, 2) := by decide +kernel
theorem dX5_matching_19 : decode cX5_matching 19 = .ok (.goto 4, 3) := by decide +kernel
theorem dX5_matching_22 : decode cX5_matching 22 = .ok (.iconst 0, 1) := by decide +kernel
theorem dX5_matching_23 : decode cX5_matching 23 = .ok (.istore 5, 2) := by decide +kernel
theorem dX5_matching_25 : decode cX5_matching 25 = .ok (.iconst 0, 1) := by decide +kernel
theorem dX5_matching_26 : decode cX5_matching 26 = .ok (.istore 6, 2) := by decide +kernel
theorem dX5_matching_28 : decode cX5_matching 28 = .ok (.iload 6, 2) := by decide +kernel
theorem dX5_matching_30 : decode cX5_matching 30 = .ok (.aload_n 0, 1) := by decide +kernel
theorem dX5_matching_31 : decode cX5_matching 31 = .ok (.getfield 10, 3) := by decide +kernel
theorem dX5_matching_34 : decode cX5_matching 34 = .ok (.getfield 77, 3) := by decide +kernel
theorem dX5_matching_37 : decode cX5_matching 37 = .ok (.if_icmp .ge 78, 3) := by decide +kernel
theorem dX5_matching_40 : decode cX5_matching 40 = .ok (.aload_n 0, 1) := by decide +kernel
theorem dX5_matching_41 : decode cX5_matching 41 = .ok (.getfield 43, 3) := by decide +kernel
theorem dX5_matching_44 : decode cX5_matching 44 = .ok (.getfield 125, 3) := by decide +kernel
theorem dX5_matching_47 : decode cX5_matching 47 = .ok (.aload_n 0, 1) := by decide +kernel
theorem dX5_matching_48 : decode cX5_matching 48 = .ok (.getfield 19, 3) := by decide +kernel
theorem dX5_matching_51 : decode cX5_matching 51 = .ok (.iload 6, 2) := by decide +kernel
theorem dX5_matching_53 : decode cX5_matching 53 = .ok (.invokevirtual 128, 3) := by decide +kernel
theorem dX5_matching_56 : decode cX5_matching 56 = .ok (.iaload, 1) := by decide +kernel
theorem dX5_matching_57 : decode cX5_matching 57 = .ok (.istore 7, 2) := by decide +kernel
theorem dX5_matching_59 : decode cX5_matching 59 = .ok (.iload_n 1, 1) := by decide +kernel
theorem dX5_matching_60 : decode cX5_matching 60 = .ok (.iload 6, 2) := by decide +kernel
theorem dX5_matching_62 : decode cX5_matching 62 = .ok (.invokestatic 135, 3) := by decide +kernel
theorem dX5_matching_65 : decode cX5_matching 65 = .ok (.ifCond .eq 10, 3) := by decide +kernel
theorem dX5_matching_68 : decode cX5_matching 68 = .ok (.iload 4, 2) := by decide +kernel
theorem dX5_matching_70 : decode cX5_matching 70 = .ok (.iload 7, 2) := by decide +kernel
theorem dX5_matching_72 : decode cX5_matching 72 = .ok (.iand, 1) := by decide +kernel
theorem dX5_matching_73 : decode cX5_matching 73 = .ok (.istore 4, 2) := by decide +kernel
theorem dX5_matching_75 : decode cX5_matching 75 = .ok (.iload_n 2, 1) := by decide +kernel
theorem dX5_matching_76 : decode cX5_matching 76 = .ok (.iload 6, 2) := by decide +kernel
theorem dX5_matching_78 : decode cX5_matching 78 = .ok (.invokestatic 135, 3) := by decide +kernel
theorem dX5_matching_81 : decode cX5_matching 81 = .ok (.ifCond .eq 10, 3) := by decide +kernel
theorem dX5_matching_84 : decode cX5_matching 84 = .ok (.iload 5, 2) := by decide +kernel
theorem dX5_matching_86 : decode cX5_matching 86 = .ok (.iload 7, 2) := by decide +kernel
theorem dX5_matching_88 : decode cX5_matching 88 = .ok (.ior, 1) := by decide +kernel
theorem dX5_matching_89 : decode cX5_matching 89 = .ok (.istore 5, 2) := by decide +kernel
theorem dX5_matching_91 : decode cX5_matching 91 = .ok (.iload_n 3, 1) := by decide +kernel
theorem dX5_matching_92 : decode cX5_matching 92 = .ok (.iload 6, 2) := by decide +kernel
theorem dX5_matching_94 : decode cX5_matching 94 = .ok (.invokestatic 135, 3) := by decide +kernel
theorem dX5_matching_97 : decode cX5_matching 97 = .ok (.ifCond .eq 12, 3) := by decide +kernel
theorem dX5_matching_100 : decode cX5_matching 100 = .ok (.iload 4, 2) := by decide +kernel
theorem dX5_matching_102 : decode cX5_matching 102 = .ok (.iload 7, 2) := by decide +kernel
theorem dX5_matching_104 : decode cX5_matching 104 = .ok (.iconst (-1), 1) := by decide +kernel
theorem dX5_matching_105 : decode cX5_matching 105 = .ok (.ixor, 1) := by decide +kernel
theorem dX5_matching_106 : decode cX5_matching 106 = .ok (.iand, 1) := by decide +kernel
theorem dX5_matching_107 : decode cX5_matching 107 = .ok (.istore 4, 2) := by decide +kernel
theorem dX5_matching_109 : decode cX5_matching 109 = .ok (.iinc 6 1, 3) := by decide +kernel
theorem dX5_matching_112 : decode cX5_matching 112 = .ok (.goto (-84), 3) := by decide +kernel
theorem dX5_matching_115 : decode cX5_matching 115 = .ok (.iload 4, 2) := by decide +kernel
theorem dX5_matching_117 : decode cX5_matching 117 = .ok (.iload 5, 2) := by decide +kernel
theorem dX5_matching_119 : decode cX5_matching 119 = .ok (.iand, 1) := by decide +kernel
theorem dX5_matching_120 : decode cX5_matching 120 = .ok (.ireturn, 1) := by decide +kernel
theorem dX5_memberAt_0 : decode cX5_memberAt 0 = .ok (.iconst 0, 1) := by decide +kernel
theorem dX5_memberAt_1 : decode cX5_memberAt 1 = .ok (.istore_n 2, 1) := by decide +kernel
theorem dX5_memberAt_2 : decode cX5_memberAt 2 = .ok (.iconst 0, 1) := by decide +kernel
theorem dX5_memberAt_3 : decode cX5_memberAt 3 = .ok (.istore_n 3, 1) := by decide +kernel
theorem dX5_memberAt_4 : decode cX5_memberAt 4 = .ok (.iload_n 3, 1) := by decide +kernel
theorem dX5_memberAt_5 : decode cX5_memberAt 5 = .ok (.bipush 20, 2) := by decide +kernel
theorem dX5_memberAt_7 : decode cX5_memberAt 7 = .ok (.if_icmp .ge 27, 3) := by decide +kernel
theorem dX5_memberAt_10 : decode cX5_memberAt 10 = .ok (.iload_n 0, 1) := by decide +kernel
theorem dX5_memberAt_11 : decode cX5_memberAt 11 = .ok (.iload_n 3, 1) := by decide +kernel
theorem dX5_memberAt_12 : decode cX5_memberAt 12 = .ok (.invokestatic 135, 3) := by decide +kernel
theorem dX5_memberAt_15 : decode cX5_memberAt 15 = .ok (.ifCond .eq 13, 3) := by decide +kernel
theorem dX5_memberAt_18 : decode cX5_memberAt 18 = .ok (.iload_n 2, 1) := by decide +kernel
theorem dX5_memberAt_19 : decode cX5_memberAt 19 = .ok (.iload_n 1, 1) := by decide +kernel
theorem dX5_memberAt_20 : decode cX5_memberAt 20 = .ok (.if_icmp .ne 5, 3) := by decide +kernel
theorem dX5_memberAt_23 : decode cX5_memberAt 23 = .ok (.iload_n 3, 1) := by decide +kernel
theorem dX5_memberAt_24 : decode cX5_memberAt 24 = .ok (.ireturn, 1) := by decide +kernel
theorem dX5_memberAt_25 : decode cX5_memberAt 25 = .ok (.iinc 2 1, 3) := by decide +kernel
theorem dX5_memberAt_28 : decode cX5_memberAt 28 = .ok (.iinc 3 1, 3) := by decide +kernel
theorem dX5_memberAt_31 : decode cX5_memberAt 31 = .ok (.goto (-27), 3) := by decide +kernel
theorem dX5_memberAt_34 : decode cX5_memberAt 34 = .ok (.iconst (-1), 1) := by decide +kernel
theorem dX5_memberAt_35 : decode cX5_memberAt 35 = .ok (.ireturn, 1) := by decide +kernel
theorem dX5_massEdited_0 : decode cX5_massEdited 0 = .ok (.iload_n 0, 1) := by decide +kernel
theorem dX5_massEdited_1 : decode cX5_massEdited 1 = .ok (.lookupswitch 41 #[(0, 27), (1, 33)], 27) := by decide +kernel
theorem dX5_massEdited_28 : decode cX5_massEdited 28 = .ok (.iload_n 1, 1) := by decide +kernel
theorem dX5_massEdited_29 : decode cX5_massEdited 29 = .ok (.iconst 1, 1) := by decide +kernel
theorem dX5_massEdited_30 : decode cX5_massEdited 30 = .ok (.iload_n 3, 1) := by decide +kernel
theorem dX5_massEdited_31 : decode cX5_massEdited 31 = .ok (.ishl, 1) := by decide +kernel
theorem dX5_massEdited_32 : decode cX5_massEdited 32 = .ok (.ior, 1) := by decide +kernel
theorem dX5_massEdited_33 : decode cX5_massEdited 33 = .ok (.ireturn, 1) := by decide +kernel
theorem dX5_massEdited_34 : decode cX5_massEdited 34 = .ok (.iload_n 1, 1) := by decide +kernel
theorem dX5_massEdited_35 : decode cX5_massEdited 35 = .ok (.iconst 1, 1) := by decide +kernel
theorem dX5_massEdited_36 : decode cX5_massEdited 36 = .ok (.iload_n 3, 1) := by decide +kernel
theorem dX5_massEdited_37 : decode cX5_massEdited 37 = .ok (.ishl, 1) := by decide +kernel
theorem dX5_massEdited_38 : decode cX5_massEdited 38 = .ok (.iconst (-1), 1) := by decide +kernel
theorem dX5_massEdited_39 : decode cX5_massEdited 39 = .ok (.ixor, 1) := by decide +kernel
theorem dX5_massEdited_40 : decode cX5_massEdited 40 = .ok (.iand, 1) := by decide +kernel
theorem dX5_massEdited_41 : decode cX5_massEdited 41 = .ok (.ireturn, 1) := by decide +kernel
theorem dX5_massEdited_42 : decode cX5_massEdited 42 = .ok (.iload_n 1, 1) := by decide +kernel
theorem dX5_massEdited_43 : decode cX5_massEdited 43 = .ok (.iconst 1, 1) := by decide +kernel
theorem dX5_massEdited_44 : decode cX5_massEdited 44 = .ok (.iload_n 2, 1) := by decide +kernel
theorem dX5_massEdited_45 : decode cX5_massEdited 45 = .ok (.ishl, 1) := by decide +kernel
theorem dX5_massEdited_46 : decode cX5_massEdited 46 = .ok (.iconst (-1), 1) := by decide +kernel
theorem dX5_massEdited_47 : decode cX5_massEdited 47 = .ok (.ixor, 1) := by decide +kernel
theorem dX5_massEdited_48 : decode cX5_massEdited 48 = .ok (.iand, 1) := by decide +kernel
theorem dX5_massEdited_49 : decode cX5_massEdited 49 = .ok (.iconst 1, 1) := by decide +kernel
theorem dX5_massEdited_50 : decode cX5_massEdited 50 = .ok (.iload_n 3, 1) := by decide +kernel
theorem dX5_massEdited_51 : decode cX5_massEdited 51 = .ok (.ishl, 1) := by decide +kernel
theorem dX5_massEdited_52 : decode cX5_massEdited 52 = .ok (.ior, 1) := by decide +kernel
theorem dX5_massEdited_53 : decode cX5_massEdited 53 = .ok (.ireturn, 1) := by decide +kernel
theorem dX5_has_0 : decode cX5_has 0 = .ok (.iload_n 0, 1) := by decide +kernel
theorem dX5_has_1 : decode cX5_has 1 = .ok (.iload_n 1, 1) := by decide +kernel
theorem dX5_has_2 : decode cX5_has 2 = .ok (.ishr, 1) := by decide +kernel
theorem dX5_has_3 : decode cX5_has 3 = .ok (.iconst 1, 1) := by decide +kernel
theorem dX5_has_4 : decode cX5_has 4 = .ok (.iand, 1) := by decide +kernel
theorem dX5_has_5 : decode cX5_has 5 = .ok (.iconst 1, 1) := by decide +kernel
theorem dX5_has_6 : decode cX5_has 6 = .ok (.if_icmp .ne 7, 3) := by decide +kernel
theorem dX5_has_9 : decode cX5_has 9 = .ok (.iconst 1, 1) := by decide +kernel
theorem dX5_has_10 : decode cX5_has 10 = .ok (.goto 4, 3) := by decide +kernel
theorem dX5_has_13 : decode cX5_has 13 = .ok (.iconst 0, 1) := by decide +kernel
theorem dX5_has_14 : decode cX5_has 14 = .ok (.ireturn, 1) := by decide +kernel
theorem dX5_isNameCharacter_0 : decode cX5_isNameCharacter 0 = .ok (.iload_n 0, 1) := by decide +kernel
theorem dX5_isNameCharacter_1 : decode cX5_isNameCharacter 1 = .ok (.bipush 97, 2) := by decide +kernel
theorem dX5_isNameCharacter_3 : decode cX5_isNameCharacter 3 = .ok (.if_icmp .lt 9, 3) := by decide +kernel
theorem dX5_isNameCharacter_6 : decode cX5_isNameCharacter 6 = .ok (.iload_n 0, 1) := by decide +kernel
theorem dX5_isNameCharacter_7 : decode cX5_isNameCharacter 7 = .ok (.bipush 122, 2) := by decide +kernel
theorem dX5_isNameCharacter_9 : decode cX5_isNameCharacter 9 = .ok (.if_icmp .le 27, 3) := by decide +kernel
theorem dX5_isNameCharacter_12 : decode cX5_isNameCharacter 12 = .ok (.iload_n 0, 1) := by decide +kernel
theorem dX5_isNameCharacter_13 : decode cX5_isNameCharacter 13 = .ok (.bipush 65, 2) := by decide +kernel
theorem dX5_isNameCharacter_15 : decode cX5_isNameCharacter 15 = .ok (.if_icmp .lt 9, 3) := by decide +kernel
theorem dX5_isNameCharacter_18 : decode cX5_isNameCharacter 18 = .ok (.iload_n 0, 1) := by decide +kernel
theorem dX5_isNameCharacter_19 : decode cX5_isNameCharacter 19 = .ok (.bipush 90, 2) := by decide +kernel
theorem dX5_isNameCharacter_21 : decode cX5_isNameCharacter 21 = .ok (.if_icmp .le 15, 3) := by decide +kernel
theorem dX5_isNameCharacter_24 : decode cX5_isNameCharacter 24 = .ok (.iload_n 0, 1) := by decide +kernel
theorem dX5_isNameCharacter_25 : decode cX5_isNameCharacter 25 = .ok (.bipush 45, 2) := by decide +kernel
theorem dX5_isNameCharacter_27 : decode cX5_isNameCharacter 27 = .ok (.if_icmp .eq 9, 3) := by decide +kernel
theorem dX5_isNameCharacter_30 : decode cX5_isNameCharacter 30 = .ok (.iload_n 0, 1) := by decide +kernel
theorem dX5_isNameCharacter_31 : decode cX5_isNameCharacter 31 = .ok (.bipush 95, 2) := by decide +kernel
theorem dX5_isNameCharacter_33 : decode cX5_isNameCharacter 33 = .ok (.if_icmp .ne 7, 3) := by decide +kernel
theorem dX5_isNameCharacter_36 : decode cX5_isNameCharacter 36 = .ok (.iconst 1, 1) := by decide +kernel
theorem dX5_isNameCharacter_37 : decode cX5_isNameCharacter 37 = .ok (.goto 4, 3) := by decide +kernel
theorem dX5_isNameCharacter_40 : decode cX5_isNameCharacter 40 = .ok (.iconst 0, 1) := by decide +kernel
theorem dX5_isNameCharacter_41 : decode cX5_isNameCharacter 41 = .ok (.ireturn, 1) := by decide +kernel
theorem dX6_init_0 : decode cX6_init 0 = .ok (.aload_n 0, 1) := by decide +kernel
theorem dX6_init_1 : decode cX6_init 1 = .ok (.invokespecial 1, 3) := by decide +kernel
theorem dX6_init_4 : decode cX6_init 4 = .ok (.aload_n 0, 1) := by decide +kernel
theorem dX6_init_5 : decode cX6_init 5 = .ok (.bipush 8, 2) := by decide +kernel
theorem dX6_init_7 : decode cX6_init 7 = .ok (.newarray .char, 2) := by decide +kernel
theorem dX6_init_9 : decode cX6_init 9 = .ok (.putfield 7, 3) := by decide +kernel
theorem dX6_init_12 : decode cX6_init 12 = .ok (.aload_n 0, 1) := by decide +kernel
theorem dX6_init_13 : decode cX6_init 13 = .ok (.sipush 192, 3) := by decide +kernel
theorem dX6_init_16 : decode cX6_init 16 = .ok (.newarray .char, 2) := by decide +kernel
theorem dX6_init_18 : decode cX6_init 18 = .ok (.putfield 13, 3) := by decide +kernel
theorem dX6_init_21 : decode cX6_init 21 = .ok (.aload_n 0, 1) := by decide +kernel
theorem dX6_init_22 : decode cX6_init 22 = .ok (.bipush 24, 2) := by decide +kernel
theorem dX6_init_24 : decode cX6_init 24 = .ok (.newarray .int, 2) := by decide +kernel
theorem dX6_init_26 : decode cX6_init 26 = .ok (.putfield 16, 3) := by decide +kernel
theorem dX6_init_29 : decode cX6_init 29 = .ok (.aload_n 0, 1) := by decide +kernel
theorem dX6_init_30 : decode cX6_init 30 = .ok (.bipush 24, 2) := by decide +kernel
theorem dX6_init_32 : decode cX6_init 32 = .ok (.newarray .int, 2) := by decide +kernel
theorem dX6_init_34 : decode cX6_init 34 = .ok (.putfield 20, 3) := by decide +kernel
theorem dX6_init_37 : decode cX6_init 37 = .ok (.aload_n 0, 1) := by decide +kernel
theorem dX6_init_38 : decode cX6_init 38 = .ok (.bipush 24, 2) := by decide +kernel
theorem dX6_init_40 : decode cX6_init 40 = .ok (.newarray .int, 2) := by decide +kernel
theorem dX6_init_42 : decode cX6_init 42 = .ok (.putfield 23, 3) := by decide +kernel
theorem dX6_init_45 : decode cX6_init 45 = .ok (.aload_n 0, 1) := by decide +kernel
theorem dX6_init_46 : decode cX6_init 46 = .ok (.bipush 20, 2) := by decide +kernel
theorem dX6_init_48 : decode cX6_init 48 = .ok (.newarray .int, 2) := by decide +kernel
theorem dX6_init_50 : decode cX6_init 50 = .ok (.putfield 26, 3) := by decide +kernel
theorem dX6_init_53 : decode cX6_init 53 = .ok (.aload_n 0, 1) := by decide +kernel
theorem dX6_init_54 : decode cX6_init 54 = .ok (.bipush 40, 2) := by decide +kernel
theorem dX6_init_56 : decode cX6_init 56 = .ok (.newarray .int, 2) := by decide +kernel
theorem dX6_init_58 : decode cX6_init 58 = .ok (.putfield 29, 3) := by decide +kernel
theorem dX6_init_61 : decode cX6_init 61 = .ok (.aload_n 0, 1) := by decide +kernel
theorem dX6_init_62 : decode cX6_init 62 = .ok (.bipush 40, 2) := by decide +kernel
theorem dX6_init_64 : decode cX6_init 64 = .ok (.newarray .int, 2) := by decide +kernel
theorem dX6_init_66 : decode cX6_init 66 = .ok (.putfield 32, 3) := by decide +kernel
theorem dX6_init_69 : decode cX6_init 69 = .ok (.aload_n 0, 1) := by decide +kernel
theorem dX6_init_70 : decode cX6_init 70 = .ok (.bipush 40, 2) := by decide +kernel
theorem dX6_init_72 : decode cX6_init 72 = .ok (.newarray .int, 2) := by decide +kernel
theorem dX6_init_74 : decode cX6_init 74 = .ok (.putfield 35, 3) := by decide +kernel
theorem dX6_init_77 : decode cX6_init 77 = .ok (.aload_n 0, 1) := by decide +kernel
theorem dX6_init_78 : decode cX6_init 78 = .ok (.bipush 40, 2) := by decide +kernel
theorem dX6_init_80 : decode cX6_init 80 = .ok (.newarray .int, 2) := by decide +kernel
theorem dX6_init_82 : decode cX6_init 82 = .ok (.putfield 38, 3) := by decide +kernel
theorem dX6_init_85 : decode cX6_init 85 = .ok (.aload_n 0, 1) := by decide +kernel
theorem dX6_init_86 : decode cX6_init 86 = .ok (.bipush 40, 2) := by decide +kernel
theorem dX6_init_88 : decode cX6_init 88 = .ok (.newarray .int, 2) := by decide +kernel
theorem dX6_init_90 : decode cX6_init 90 = .ok (.putfield 41, 3) := by decide +kernel
theorem dX6_init_93 : decode cX6_init 93 = .ok (.aload_n 0, 1) := by decide +kernel
theorem dX6_init_94 : decode cX6_init 94 = .ok (.bipush 40, 2) := by decide +kernel
theorem dX6_init_96 : decode cX6_init 96 = .ok (.newarray .int, 2) := by decide +kernel
theorem dX6_init_98 : decode cX6_init 98 = .ok (.putfield 44, 3) := by decide +kernel
theorem dX6_init_101 : decode cX6_init 101 = .ok (.aload_n 0, 1) := by decide +kernel
theorem dX6_init_102 : decode cX6_init 102 = .ok (.bipush 20, 2) := by decide +kernel
theorem dX6_init_104 : decode cX6_init 104 = .ok (.newarray .int, 2) := by decide +kernel
theorem dX6_init_106 : decode cX6_init 106 = .ok (.putfield 47, 3) := by decide +kernel
theorem dX6_init_109 : decode cX6_init 109 = .ok (.aload_n 0, 1) := by decide +kernel
theorem dX6_init_110 : decode cX6_init 110 = .ok (.sipush 400, 3) := by decide +kernel
theorem dX6_init_113 : decode cX6_init 113 = .ok (.newarray .int, 2) := by decide +kernel
theorem dX6_init_115 : decode cX6_init 115 = .ok (.putfield 50, 3) := by decide +kernel
theorem dX6_init_118 : decode cX6_init 118 = .ok (.iconst 0, 1) := by decide +kernel
theorem dX6_init_119 : decode cX6_init 119 = .ok (.istore_n 1, 1) := by decide +kernel
theorem dX6_init_120 : decode cX6_init 120 = .ok (.iload_n 1, 1) := by decide +kernel
theorem dX6_init_121 : decode cX6_init 121 = .ok (.bipush 24, 2) := by decide +kernel
theorem dX6_init_123 : decode cX6_init 123 = .ok (.if_icmp .ge 16, 3) := by decide +kernel
theorem dX6_init_126 : decode cX6_init 126 = .ok (.aload_n 0, 1) := by decide +kernel
theorem dX6_init_127 : decode cX6_init 127 = .ok (.getfield 20, 3) := by decide +kernel
theorem dX6_init_130 : decode cX6_init 130 = .ok (.iload_n 1, 1) := by decide +kernel
theorem dX6_init_131 : decode cX6_init 131 = .ok (.iconst (-1), 1) := by decide +kernel
theorem dX6_init_132 : decode cX6_init 132 = .ok (.iastore, 1) := by decide +kernel
theorem dX6_init_133 : decode cX6_init 133 = .ok (.iinc 1 1, 3) := by decide +kernel
theorem dX6_init_136 : decode cX6_init 136 = .ok (.goto (-16), 3) := by decide +kernel
theorem dX6_init_139 : decode cX6_init 139 = .ok (.return_, 1) := by decide +kernel
theorem dX6_thrown_0 : decode cX6_thrown 0 = .ok (.aload_n 0, 1) := by decide +kernel
theorem dX6_thrown_1 : decode cX6_thrown 1 = .ok (.getfield 53, 3) := by decide +kernel
theorem dX6_thrown_4 : decode cX6_thrown 4 = .ok (.ireturn, 1) := by decide +kernel
theorem dX6_holds_0 : decode cX6_holds 0 = .ok (.aload_n 0, 1) := by decide +kernel
theorem dX6_holds_1 : decode cX6_holds 1 = .ok (.iload_n 1, 1) := by decide +kernel
theorem dX6_holds_2 : decode cX6_holds 2 = .ok (.putfield 53, 3) := by decide +kernel
theorem dX6_holds_5 : decode cX6_holds 5 = .ok (.iload_n 1, 1) := by decide +kernel
theorem dX6_holds_6 : decode cX6_holds 6 = .ok (.ifCond .ne 7, 3) := by decide +kernel
theorem dX6_holds_9 : decode cX6_holds 9 = .ok (.iconst 1, 1) := by decide +kernel
theorem dX6_holds_10 : decode cX6_holds 10 = .ok (.goto 4, 3) := by decide +kernel
theorem dX6_holds_13 : decode cX6_holds 13 = .ok (.iconst 0, 1) := by decide +kernel
theorem dX6_holds_14 : decode cX6_holds 14 = .ok (.ireturn, 1) := by decide +kernel
theorem dX6_in_0 : decode cX6_in 0 = .ok (.iload_n 0, 1) := by decide +kernel
theorem dX6_in_1 : decode cX6_in 1 = .ok (.iload_n 1, 1) := by decide +kernel
theorem dX6_in_2 : decode cX6_in 2 = .ok (.if_icmp .lt 12, 3) := by decide +kernel
theorem dX6_in_5 : decode cX6_in 5 = .ok (.iload_n 0, 1) := by decide +kernel
theorem dX6_in_6 : decode cX6_in 6 = .ok (.iload_n 2, 1) := by decide +kernel
theorem dX6_in_7 : decode cX6_in 7 = .ok (.if_icmp .gt 7, 3) := by decide +kernel
theorem dX6_in_10 : decode cX6_in 10 = .ok (.iconst 1, 1) := by decide +kernel
theorem dX6_in_11 : decode cX6_in 11 = .ok (.goto 4, 3) := by decide +kernel
theorem dX6_in_14 : decode cX6_in 14 = .ok (.iconst 0, 1) := by decide +kernel
theorem dX6_in_15 : decode cX6_in 15 = .ok (.ireturn, 1) := by decide +kernel
theorem dX6_has_0 : decode cX6_has 0 = .ok (.iload_n 0, 1) := by decide +kernel
theorem dX6_has_1 : decode cX6_has 1 = .ok (.iload_n 1, 1) := by decide +kernel
theorem dX6_has_2 : decode cX6_has 2 = .ok (.ishr, 1) := by decide +kernel
theorem dX6_has_3 : decode cX6_has 3 = .ok (.iconst 1, 1) := by decide +kernel
theorem dX6_has_4 : decode cX6_has 4 = .ok (.iand, 1) := by decide +kernel
theorem dX6_has_5 : decode cX6_has 5 = .ok (.iconst 1, 1) := by decide +kernel
theorem dX6_has_6 : decode cX6_has 6 = .ok (.if_icmp .ne 7, 3) := by decide +kernel
theorem dX6_has_9 : decode cX6_has 9 = .ok (.iconst 1, 1) := by decide +kernel
theorem dX6_has_10 : decode cX6_has 10 = .ok (.goto 4, 3) := by decide +kernel
theorem dX6_has_13 : decode cX6_has 13 = .ok (.iconst 0, 1) := by decide +kernel
theorem dX6_has_14 : decode cX6_has 14 = .ok (.ireturn, 1) := by decide +kernel
theorem dX6_many_0 : decode cX6_many 0 = .ok (.iconst 0, 1) := by decide +kernel
theorem dX6_many_1 : decode cX6_many 1 = .ok (.istore_n 1, 1) := by decide +kernel
theorem dX6_many_2 : decode cX6_many 2 = .ok (.iload_n 0, 1) := by decide +kernel
theorem dX6_many_3 : decode cX6_many 3 = .ok (.istore_n 2, 1) := by decide +kernel
theorem dX6_many_4 : decode cX6_many 4 = .ok (.iload_n 2, 1) := by decide +kernel
theorem dX6_many_5 : decode cX6_many 5 = .ok (.ifCond .eq 15, 3) := by decide +kernel
theorem dX6_many_8 : decode cX6_many 8 = .ok (.iinc 1 1, 3) := by decide +kernel
theorem dX6_many_11 : decode cX6_many 11 = .ok (.iload_n 2, 1) := by decide +kernel
theorem dX6_many_12 : decode cX6_many 12 = .ok (.iload_n 2, 1) := by decide +kernel
theorem dX6_many_13 : decode cX6_many 13 = .ok (.iconst 1, 1) := by decide +kernel
theorem dX6_many_14 : decode cX6_many 14 = .ok (.isub, 1) := by decide +kernel
theorem dX6_many_15 : decode cX6_many 15 = .ok (.iand, 1) := by decide +kernel
theorem dX6_many_16 : decode cX6_many 16 = .ok (.istore_n 2, 1) := by decide +kernel
theorem dX6_many_17 : decode cX6_many 17 = .ok (.goto (-13), 3) := by decide +kernel
theorem dX6_many_20 : decode cX6_many 20 = .ok (.iload_n 1, 1) := by decide +kernel
theorem dX6_many_21 : decode cX6_many 21 = .ok (.ireturn, 1) := by decide +kernel
theorem dX6_isTag_0 : decode cX6_isTag 0 = .ok (.iload_n 1, 1) := by decide +kernel
theorem dX6_isTag_1 : decode cX6_isTag 1 = .ok (.iconst 0, 1) := by decide +kernel
theorem dX6_isTag_2 : decode cX6_isTag 2 = .ok (.aload_n 0, 1) := by decide +kernel
theorem dX6_isTag_3 : decode cX6_isTag 3 = .ok (.getfield 57, 3) := by decide +kernel
theorem dX6_isTag_6 : decode cX6_isTag 6 = .ok (.iconst 1, 1) := by decide +kernel
theorem dX6_isTag_7 : decode cX6_isTag 7 = .ok (.isub, 1) := by decide +kernel
theorem dX6_isTag_8 : decode cX6_isTag 8 = .ok (.invokestatic 60, 3) := by decide +kernel
theorem dX6_isTag_11 : decode cX6_isTag 11 = .ok (.ireturn, 1) := by decide +kernel
theorem dX6_isThing_0 : decode cX6_isThing 0 = .ok (.iload_n 1, 1) := by decide +kernel
theorem dX6_isThing_1 : decode cX6_isThing 1 = .ok (.iconst 0, 1) := by decide +kernel
theorem dX6_isThing_2 : decode cX6_isThing 2 = .ok (.aload_n 0, 1) := by decide +kernel
theorem dX6_isThing_3 : decode cX6_isThing 3 = .ok (.getfield 64, 3) := by decide +kernel
theorem dX6_isThing_6 : decode cX6_isThing 6 = .ok (.iconst 1, 1) := by decide +kernel
theorem dX6_isThing_7 : decode cX6_isThing 7 = .ok (.isub, 1) := by decide +kernel
theorem dX6_isThing_8 : decode cX6_isThing 8 = .ok (.invokestatic 60, 3) := by decide +kernel
theorem dX6_isThing_11 : decode cX6_isThing 11 = .ok (.ireturn, 1) := by decide +kernel
theorem dX6_plain_0 : decode cX6_plain 0 = .ok (.iload_n 0, 1) := by decide +kernel
theorem dX6_plain_1 : decode cX6_plain 1 = .ok (.bipush 65, 2) := by decide +kernel
theorem dX6_plain_3 : decode cX6_plain 3 = .ok (.if_icmp .lt 20, 3) := by decide +kernel
theorem dX6_plain_6 : decode cX6_plain 6 = .ok (.iload_n 0, 1) := by decide +kernel
theorem dX6_plain_7 : decode cX6_plain 7 = .ok (.bipush 90, 2) := by decide +kernel
theorem dX6_plain_9 : decode cX6_plain 9 = .ok (.if_icmp .gt 14, 3) := by decide +kernel
theorem dX6_plain_12 : decode cX6_plain 12 = .ok (.iload_n 0, 1) := by decide +kernel
theorem dX6_plain_13 : decode cX6_plain 13 = .ok (.bipush 65, 2) := by decide +kernel
theorem dX6_plain_15 : decode cX6_plain 15 = .ok (.isub, 1) := by decide +kernel
theorem dX6_plain_16 : decode cX6_plain 16 = .ok (.bipush 97, 2) := by decide +kernel
theorem dX6_plain_18 : decode cX6_plain 18 = .ok (.iadd, 1) := by decide +kernel
theorem dX6_plain_19 : decode cX6_plain 19 = .ok (.i2c, 1) := by decide +kernel
theorem dX6_plain_20 : decode cX6_plain 20 = .ok (.goto 15, 3) := by decide +kernel
theorem dX6_plain_23 : decode cX6_plain 23 = .ok (.iload_n 0, 1) := by decide +kernel
theorem dX6_plain_24 : decode cX6_plain 24 = .ok (.bipush 45, 2) := by decide +kernel
theorem dX6_plain_26 : decode cX6_plain 26 = .ok (.if_icmp .ne 8, 3) := by decide +kernel
theorem dX6_plain_29 : decode cX6_plain 29 = .ok (.bipush 95, 2) := by decide +kernel
theorem dX6_plain_31 : decode cX6_plain 31 = .ok (.goto 4, 3) := by decide +kernel
theorem dX6_plain_34 : decode cX6_plain 34 = .ok (.iload_n 0, 1) := by decide +kernel
theorem dX6_plain_35 : decode cX6_plain 35 = .ok (.ireturn, 1) := by decide +kernel
theorem dX6_isSign_0 : decode cX6_isSign 0 = .ok (.iload_n 0, 1) := by decide +kernel
theorem dX6_isSign_1 : decode cX6_isSign 1 = .ok (.invokestatic 67, 3) := by decide +kernel
theorem dX6_isSign_4 : decode cX6_isSign 4 = .ok (.bipush 97, 2) := by decide +kernel
theorem dX6_isSign_6 : decode cX6_isSign 6 = .ok (.if_icmp .lt 12, 3) := by decide +kernel
theorem dX6_isSign_9 : decode cX6_isSign 9 = .ok (.iload_n 0, 1) := by decide +kernel
theorem dX6_isSign_10 : decode cX6_isSign 10 = .ok (.invokestatic 67, 3) := by decide +kernel
theorem dX6_isSign_13 : decode cX6_isSign 13 = .ok (.bipush 122, 2) := by decide +kernel
theorem dX6_isSign_15 : decode cX6_isSign 15 = .ok (.if_icmp .le 12, 3) := by decide +kernel
theorem dX6_isSign_18 : decode cX6_isSign 18 = .ok (.iload_n 0, 1) := by decide +kernel
theorem dX6_isSign_19 : decode cX6_isSign 19 = .ok (.invokestatic 67, 3) := by decide +kernel
theorem dX6_isSign_22 : decode cX6_isSign 22 = .ok (.bipush 95, 2) := by decide +kernel
theorem dX6_isSign_24 : decode cX6_isSign 24 = .ok (.if_icmp .ne 7, 3) := by decide +kernel
theorem dX6_isSign_27 : decode cX6_isSign 27 = .ok (.iconst 1, 1) := by decide +kernel
theorem dX6_isSign_28 : decode cX6_isSign 28 = .ok (.goto 4, 3) := by decide +kernel
theorem dX6_isSign_31 : decode cX6_isSign 31 = .ok (.iconst 0, 1) := by decide +kernel
theorem dX6_isSign_32 : decode cX6_isSign 32 = .ok (.ireturn, 1) := by decide +kernel
theorem dX6_type_0 : decode cX6_type 0 = .ok (.aload_n 0, 1) := by decide +kernel
theorem dX6_type_1 : decode cX6_type 1 = .ok (.iload_n 1, 1) := by decide +kernel
theorem dX6_type_2 : decode cX6_type 2 = .ok (.invokestatic 71, 3) := by decide +kernel
theorem dX6_type_5 : decode cX6_type 5 = .ok (.ifCond .ne 7, 3) := by decide +kernel
theorem dX6_type_8 : decode cX6_type 8 = .ok (.iconst 1, 1) := by decide +kernel
theorem dX6_type_9 : decode cX6_type 9 = .ok (.goto 17, 3) := by decide +kernel
theorem dX6_type_12 : decode cX6_type 12 = .ok (.aload_n 0, 1) := by decide +kernel
theorem dX6_type_13 : decode cX6_type 13 = .ok (.getfield 75, 3) := by decide +kernel
theorem dX6_type_16 : decode cX6_type 16 = .ok (.bipush 8, 2) := by decide +kernel
theorem dX6_type_18 : decode cX6_type 18 = .ok (.if_icmp .ne 7, 3) := by decide +kernel
theorem dX6_type_21 : decode cX6_type 21 = .ok (.iconst 2, 1) := by decide +kernel
theorem dX6_type_22 : decode cX6_type 22 = .ok (.goto 4, 3) := by decide +kernel
theorem dX6_type_25 : decode cX6_type 25 = .ok (.iconst 0, 1) := by decide +kernel
theorem dX6_type_26 : decode cX6_type 26 = .ok (.invokevirtual 78, 3) := by decide +kernel
theorem dX6_type_29 : decode cX6_type 29 = .ok (.ifCond .ne 5, 3) := by decide +kernel
theorem dX6_type_32 : decode cX6_type 32 = .ok (.iconst 0, 1) := by decide +kernel
theorem dX6_type_33 : decode cX6_type 33 = .ok (.ireturn, 1) := by decide +kernel
theorem dX6_type_34 : decode cX6_type 34 = .ok (.aload_n 0, 1) := by decide +kernel
theorem dX6_type_35 : decode cX6_type 35 = .ok (.getfield 7, 3) := by decide +kernel
theorem dX6_type_38 : decode cX6_type 38 = .ok (.aload_n 0, 1) := by decide +kernel
theorem dX6_type_39 : decode cX6_type 39 = .ok (.getfield 75, 3) := by decide +kernel
theorem dX6_type_42 : decode cX6_type 42 = .ok (.iload_n 1, 1) := by decide +kernel
theorem dX6_type_43 : decode cX6_type 43 = .ok (.castore, 1) := by decide +kernel
theorem dX6_type_44 : decode cX6_type 44 = .ok (.aload_n 0, 1) := by decide +kernel
theorem dX6_type_45 : decode cX6_type 45 = .ok (.dup, 1) := by decide +kernel
theorem dX6_type_46 : decode cX6_type 46 = .ok (.getfield 75, 3) := by decide +kernel
theorem dX6_type_49 : decode cX6_type 49 = .ok (.iconst 1, 1) := by decide +kernel
theorem dX6_type_50 : decode cX6_type 50 = .ok (.iadd, 1) := by decide +kernel
theorem dX6_type_51 : decode cX6_type 51 = .ok (.putfield 75, 3) := by decide +kernel
theorem dX6_type_54 : decode cX6_type 54 = .ok (.aload_n 0, 1) := by decide +kernel
theorem dX6_type_55 : decode cX6_type 55 = .ok (.getfield 75, 3) := by decide +kernel
theorem dX6_type_58 : decode cX6_type 58 = .ok (.ireturn, 1) := by decide +kernel
theorem dX6_isDraft_0 : decode cX6_isDraft 0 = .ok (.aload_n 0, 1) := by decide +kernel
theorem dX6_isDraft_1 : decode cX6_isDraft 1 = .ok (.getfield 16, 3) := by decide +kernel
theorem dX6_isDraft_4 : decode cX6_isDraft 4 = .ok (.iload_n 1, 1) := by decide +kernel
theorem dX6_isDraft_5 : decode cX6_isDraft 5 = .ok (.iaload, 1) := by decide +kernel
theorem dX6_isDraft_6 : decode cX6_isDraft 6 = .ok (.aload_n 0, 1) := by decide +kernel
theorem dX6_isDraft_7 : decode cX6_isDraft 7 = .ok (.getfield 75, 3) := by decide +kernel
theorem dX6_isDraft_10 : decode cX6_isDraft 10 = .ok (.if_icmp .ne 7, 3) := by decide +kernel
theorem dX6_isDraft_13 : decode cX6_isDraft 13 = .ok (.iconst 1, 1) := by decide +kernel
theorem dX6_isDraft_14 : decode cX6_isDraft 14 = .ok (.goto 4, 3) := by decide +kernel
theorem dX6_isDraft_17 : decode cX6_isDraft 17 = .ok (.iconst 0, 1) := by decide +kernel
theorem dX6_isDraft_18 : decode cX6_isDraft 18 = .ok (.istore_n 2, 1) := by decide +kernel
theorem dX6_isDraft_19 : decode cX6_isDraft 19 = .ok (.iconst 0, 1) := by decide +kernel
theorem dX6_isDraft_20 : decode cX6_isDraft 20 = .ok (.istore_n 3, 1) := by decide +kernel
theorem dX6_isDraft_21 : decode cX6_isDraft 21 = .ok (.iload_n 3, 1) := by decide +kernel
theorem dX6_isDraft_22 : decode cX6_isDraft 22 = .ok (.aload_n 0, 1) := by decide +kernel
theorem dX6_isDraft_23 : decode cX6_isDraft 23 = .ok (.getfield 75, 3) := by decide +kernel
theorem dX6_isDraft_26 : decode cX6_isDraft 26 = .ok (.if_icmp .ge 45, 3) := by decide +kernel
theorem dX6_isDraft_29 : decode cX6_isDraft 29 = .ok (.iload_n 2, 1) := by decide +kernel
theorem dX6_isDraft_30 : decode cX6_isDraft 30 = .ok (.ifCond .eq 41, 3) := by decide +kernel
theorem dX6_isDraft_33 : decode cX6_isDraft 33 = .ok (.aload_n 0, 1) := by decide +kernel
theorem dX6_isDraft_34 : decode cX6_isDraft 34 = .ok (.getfield 13, 3) := by decide +kernel
theorem dX6_isDraft_37 : decode cX6_isDraft 37 = .ok (.bipush 8, 2) := by decide +kernel
theorem dX6_isDraft_39 : decode cX6_isDraft 39 = .ok (.iload_n 1, 1) := by decide +kernel
theorem dX6_isDraft_40 : decode cX6_isDraft 40 = .ok (.imul, 1) := by decide +kernel
theorem dX6_isDraft_41 : decode cX6_isDraft 41 = .ok (.iload_n 3, 1) := by decide +kernel
theorem dX6_isDraft_42 : decode cX6_isDraft 42 = .ok (.iadd, 1) := by decide +kernel
theorem dX6_isDraft_43 : decode cX6_isDraft 43 = .ok (.caload, 1) := by decide +kernel
theorem dX6_isDraft_44 : decode cX6_isDraft 44 = .ok (.invokestatic 67, 3) := by decide +kernel
theorem dX6_isDraft_47 : decode cX6_isDraft 47 = .ok (.aload_n 0, 1) := by decide +kernel
theorem dX6_isDraft_48 : decode cX6_isDraft 48 = .ok (.getfield 7, 3) := by decide +kernel
theorem dX6_isDraft_51 : decode cX6_isDraft 51 = .ok (.iload_n 3, 1) := by decide +kernel
theorem dX6_isDraft_52 : decode cX6_isDraft 52 = .ok (.caload, 1) := by decide +kernel
theorem dX6_isDraft_53 : decode cX6_isDraft 53 = .ok (.invokestatic 67, 3) := by decide +kernel
theorem dX6_isDraft_56 : decode cX6_isDraft 56 = .ok (.if_icmp .ne 7, 3) := by decide +kernel
theorem dX6_isDraft_59 : decode cX6_isDraft 59 = .ok (.iconst 1, 1) := by decide +kernel
theorem dX6_isDraft_60 : decode cX6_isDraft 60 = .ok (.goto 4, 3) := by decide +kernel
theorem dX6_isDraft_63 : decode cX6_isDraft 63 = .ok (.iconst 0, 1) := by decide +kernel
theorem dX6_isDraft_64 : decode cX6_isDraft 64 = .ok (.istore_n 2, 1) := by decide +kernel
theorem dX6_isDraft_65 : decode cX6_isDraft 65 = .ok (.iinc 3 1, 3) := by decide +kernel
theorem dX6_isDraft_68 : decode cX6_isDraft 68 = .ok (.goto (-47), 3) := by decide +kernel
theorem dX6_isDraft_71 : decode cX6_isDraft 71 = .ok (.iload_n 2, 1) := by decide +kernel
theorem dX6_isDraft_72 : decode cX6_isDraft 72 = .ok (.ireturn, 1) := by decide +kernel
theorem dX6_enter_0 : decode cX6_enter 0 = .ok (.iconst (-1), 1) := by decide +kernel
theorem dX6_enter_1 : decode cX6_enter 1 = .ok (.istore_n 1, 1) := by decide +kernel
theorem dX6_enter_2 : decode cX6_enter 2 = .ok (.iconst 0, 1) := by decide +kernel
theorem dX6_enter_3 : decode cX6_enter 3 = .ok (.istore_n 2, 1) := by decide +kernel
theorem dX6_enter_4 : decode cX6_enter 4 = .ok (.iload_n 2, 1) := by decide +kernel
theorem dX6_enter_5 : decode cX6_enter 5 = .ok (.aload_n 0, 1) := by decide +kernel
theorem dX6_enter_6 : decode cX6_enter 6 = .ok (.getfield 57, 3) := by decide +kernel
theorem dX6_enter_9 : decode cX6_enter 9 = .ok (.if_icmp .ge 23, 3) := by decide +kernel
theorem dX6_enter_12 : decode cX6_enter 12 = .ok (.aload_n 0, 1) := by decide +kernel
theorem dX6_enter_13 : decode cX6_enter 13 = .ok (.iload_n 2, 1) := by decide +kernel
theorem dX6_enter_14 : decode cX6_enter 14 = .ok (.invokevirtual 82, 3) := by decide +kernel
theorem dX6_enter_17 : decode cX6_enter 17 = .ok (.ifCond .eq 7, 3) := by decide +kernel
theorem dX6_enter_20 : decode cX6_enter 20 = .ok (.iload_n 2, 1) := by decide +kernel
theorem dX6_enter_21 : decode cX6_enter 21 = .ok (.goto 4, 3) := by decide +kernel
theorem dX6_enter_24 : decode cX6_enter 24 = .ok (.iload_n 1, 1) := by decide +kernel
theorem dX6_enter_25 : decode cX6_enter 25 = .ok (.istore_n 1, 1) := by decide +kernel
theorem dX6_enter_26 : decode cX6_enter 26 = .ok (.iinc 2 1, 3) := by decide +kernel
theorem dX6_enter_29 : decode cX6_enter 29 = .ok (.goto (-25), 3) := by decide +kernel
theorem dX6_enter_32 : decode cX6_enter 32 = .ok (.aload_n 0, 1) := by decide +kernel
theorem dX6_enter_33 : decode cX6_enter 33 = .ok (.aload_n 0, 1) := by decide +kernel
theorem dX6_enter_34 : decode cX6_enter 34 = .ok (.getfield 75, 3) := by decide +kernel
theorem dX6_enter_37 : decode cX6_enter 37 = .ok (.ifCond .eq 17, 3) := by decide +kernel
theorem dX6_enter_40 : decode cX6_enter 40 = .ok (.iload_n 1, 1) := by decide +kernel
theorem dX6_enter_41 : decode cX6_enter 41 = .ok (.iconst (-1), 1) := by decide +kernel
theorem dX6_enter_42 : decode cX6_enter 42 = .ok (.if_icmp .ne 16, 3) := by decide +kernel
theorem dX6_enter_45 : decode cX6_enter 45 = .ok (.aload_n 0, 1) := by decide +kernel
theorem dX6_enter_46 : decode cX6_enter 46 = .ok (.getfield 57, 3) := by decide +kernel
theorem dX6_enter_49 : decode cX6_enter 49 = .ok (.bipush 24, 2) := by decide +kernel
theorem dX6_enter_51 : decode cX6_enter 51 = .ok (.if_icmp .ne 7, 3) := by decide +kernel
theorem dX6_enter_54 : decode cX6_enter 54 = .ok (.iconst 1, 1) := by decide +kernel
theorem dX6_enter_55 : decode cX6_enter 55 = .ok (.goto 4, 3) := by decide +kernel
theorem dX6_enter_58 : decode cX6_enter 58 = .ok (.iconst 0, 1) := by decide +kernel
theorem dX6_enter_59 : decode cX6_enter 59 = .ok (.invokevirtual 78, 3) := by decide +kernel
theorem dX6_enter_62 : decode cX6_enter 62 = .ok (.ifCond .ne 5, 3) := by decide +kernel
theorem dX6_enter_65 : decode cX6_enter 65 = .ok (.iconst 0, 1) := by decide +kernel
theorem dX6_enter_66 : decode cX6_enter 66 = .ok (.ireturn, 1) := by decide +kernel
theorem dX6_enter_67 : decode cX6_enter 67 = .ok (.iload_n 1, 1) := by decide +kernel
theorem dX6_enter_68 : decode cX6_enter 68 = .ok (.iconst (-1), 1) := by decide +kernel
theorem dX6_enter_69 : decode cX6_enter 69 = .ok (.if_icmp .ne 67, 3) := by decide +kernel
theorem dX6_enter_72 : decode cX6_enter 72 = .ok (.iconst 0, 1) := by decide +kernel
theorem dX6_enter_73 : decode cX6_enter 73 = .ok (.istore_n 2, 1) := by decide +kernel
theorem dX6_enter_74 : decode cX6_enter 74 = .ok (.iload_n 2, 1) := by decide +kernel
theorem dX6_enter_75 : decode cX6_enter 75 = .ok (.aload_n 0, 1) := by decide +kernel
theorem dX6_enter_76 : decode cX6_enter 76 = .ok (.getfield 75, 3) := by decide +kernel
theorem dX6_enter_79 : decode cX6_enter 79 = .ok (.if_icmp .ge 29, 3) := by decide +kernel
theorem dX6_enter_82 : decode cX6_enter 82 = .ok (.aload_n 0, 1) := by decide +kernel
theorem dX6_enter_83 : decode cX6_enter 83 = .ok (.getfield 13, 3) := by decide +kernel
theorem dX6_enter_86 : decode cX6_enter 86 = .ok (.bipush 8, 2) := by decide +kernel
theorem dX6_enter_88 : decode cX6_enter 88 = .ok (.aload_n 0, 1) := by decide +kernel
theorem dX6_enter_89 : decode cX6_enter 89 = .ok (.getfield 57, 3) := by decide +kernel
theorem dX6_enter_92 : decode cX6_enter 92 = .ok (.imul, 1) := by decide +kernel
theorem dX6_enter_93 : decode cX6_enter 93 = .ok (.iload_n 2, 1) := by decide +kernel
theorem dX6_enter_94 : decode cX6_enter 94 = .ok (.iadd, 1) := by decide +kernel
theorem dX6_enter_95 : decode cX6_enter 95 = .ok (.aload_n 0, 1) := by decide +kernel
theorem dX6_enter_96 : decode cX6_enter 96 = .ok (.getfield 7, 3) := by decide +kernel
theorem dX6_enter_99 : decode cX6_enter 99 = .ok (.iload_n 2, 1) := by decide +kernel
theorem dX6_enter_100 : decode cX6_enter 100 = .ok (.caload, 1) := by decide +kernel
theorem dX6_enter_101 : decode cX6_enter 101 = .ok (.castore, 1) := by decide +kernel
theorem dX6_enter_102 : decode cX6_enter 102 = .ok (.iinc 2 1, 3) := by decide +kernel
theorem dX6_enter_105 : decode cX6_enter 105 = .ok (.goto (-31), 3) := by decide +kernel
theorem dX6_enter_108 : decode cX6_enter 108 = .ok (.aload_n 0, 1) := by decide +kernel
theorem dX6_enter_109 : decode cX6_enter 109 = .ok (.getfield 16, 3) := by decide +kernel
theorem dX6_enter_112 : decode cX6_enter 112 = .ok (.aload_n 0, 1) := by decide +kernel
theorem dX6_enter_113 : decode cX6_enter 113 = .ok (.getfield 57, 3) := by decide +kernel
theorem dX6_enter_116 : decode cX6_enter 116 = .ok (.aload_n 0, 1) := by decide +kernel
theorem dX6_enter_117 : decode cX6_enter 117 = .ok (.getfield 75, 3) := by decide +kernel
theorem dX6_enter_120 : decode cX6_enter 120 = .ok (.iastore, 1) := by decide +kernel
theorem dX6_enter_121 : decode cX6_enter 121 = .ok (.aload_n 0, 1) := by decide +kernel
theorem dX6_enter_122 : decode cX6_enter 122 = .ok (.getfield 57, 3) := by decide +kernel
theorem dX6_enter_125 : decode cX6_enter 125 = .ok (.istore_n 1, 1) := by decide +kernel
theorem dX6_enter_126 : decode cX6_enter 126 = .ok (.aload_n 0, 1) := by decide +kernel
theorem dX6_enter_127 : decode cX6_enter 127 = .ok (.dup, 1) := by decide +kernel
theorem dX6_enter_128 : decode cX6_enter 128 = .ok (.getfield 57, 3) := by decide +kernel
theorem dX6_enter_131 : decode cX6_enter 131 = .ok (.iconst 1, 1) := by decide +kernel
theorem dX6_enter_132 : decode cX6_enter 132 = .ok (.iadd, 1) := by decide +kernel
theorem dX6_enter_133 : decode cX6_enter 133 = .ok (.putfield 57, 3) := by decide +kernel
theorem dX6_enter_136 : decode cX6_enter 136 = .ok (.aload_n 0, 1) := by decide +kernel
theorem dX6_enter_137 : decode cX6_enter 137 = .ok (.iconst 0, 1) := by decide +kernel
theorem dX6_enter_138 : decode cX6_enter 138 = .ok (.putfield 75, 3) := by decide +kernel
theorem dX6_enter_141 : decode cX6_enter 141 = .ok (.iload_n 1, 1) := by decide +kernel
theorem dX6_enter_142 : decode cX6_enter 142 = .ok (.ireturn, 1) := by decide +kernel
theorem dX6_tags_0 : decode cX6_tags 0 = .ok (.aload_n 0, 1) := by decide +kernel
theorem dX6_tags_1 : decode cX6_tags 1 = .ok (.iconst 0, 1) := by decide +kernel
theorem dX6_tags_2 : decode cX6_tags 2 = .ok (.putfield 53, 3) := by decide +kernel
theorem dX6_tags_5 : decode cX6_tags 5 = .ok (.aload_n 0, 1) := by decide +kernel
theorem dX6_tags_6 : decode cX6_tags 6 = .ok (.getfield 57, 3) := by decide +kernel
theorem dX6_tags_9 : decode cX6_tags 9 = .ok (.ireturn, 1) := by decide +kernel
theorem dX6_letter_0 : decode cX6_letter 0 = .ok (.aload_n 0, 1) := by decide +kernel
theorem dX6_letter_1 : decode cX6_letter 1 = .ok (.aload_n 0, 1) := by decide +kernel
theorem dX6_letter_2 : decode cX6_letter 2 = .ok (.iload_n 1, 1) := by decide +kernel
theorem dX6_letter_3 : decode cX6_letter 3 = .ok (.invokevirtual 85, 3) := by decide +kernel
theorem dX6_letter_6 : decode cX6_letter 6 = .ok (.ifCond .eq 23, 3) := by decide +kernel
theorem dX6_letter_9 : decode cX6_letter 9 = .ok (.iload_n 2, 1) := by decide +kernel
theorem dX6_letter_10 : decode cX6_letter 10 = .ok (.iconst 0, 1) := by decide +kernel
theorem dX6_letter_11 : decode cX6_letter 11 = .ok (.aload_n 0, 1) := by decide +kernel
theorem dX6_letter_12 : decode cX6_letter 12 = .ok (.getfield 16, 3) := by decide +kernel
theorem dX6_letter_15 : decode cX6_letter 15 = .ok (.iload_n 1, 1) := by decide +kernel
theorem dX6_letter_16 : decode cX6_letter 16 = .ok (.iaload, 1) := by decide +kernel
theorem dX6_letter_17 : decode cX6_letter 17 = .ok (.iconst 1, 1) := by decide +kernel
theorem dX6_letter_18 : decode cX6_letter 18 = .ok (.isub, 1) := by decide +kernel
theorem dX6_letter_19 : decode cX6_letter 19 = .ok (.invokestatic 60, 3) := by decide +kernel
theorem dX6_letter_22 : decode cX6_letter 22 = .ok (.ifCond .eq 7, 3) := by decide +kernel
theorem dX6_letter_25 : decode cX6_letter 25 = .ok (.iconst 0, 1) := by decide +kernel
theorem dX6_letter_26 : decode cX6_letter 26 = .ok (.goto 4, 3) := by decide +kernel
theorem dX6_letter_29 : decode cX6_letter 29 = .ok (.iconst 1, 1) := by decide +kernel
theorem dX6_letter_30 : decode cX6_letter 30 = .ok (.invokevirtual 78, 3) := by decide +kernel
theorem dX6_letter_33 : decode cX6_letter 33 = .ok (.ifCond .eq 17, 3) := by decide +kernel
theorem dX6_letter_36 : decode cX6_letter 36 = .ok (.aload_n 0, 1) := by decide +kernel
theorem dX6_letter_37 : decode cX6_letter 37 = .ok (.getfield 13, 3) := by decide +kernel
theorem dX6_letter_40 : decode cX6_letter 40 = .ok (.bipush 8, 2) := by decide +kernel
theorem dX6_letter_42 : decode cX6_letter 42 = .ok (.iload_n 1, 1) := by decide +kernel
theorem dX6_letter_43 : decode cX6_letter 43 = .ok (.imul, 1) := by decide +kernel
theorem dX6_letter_44 : decode cX6_letter 44 = .ok (.iload_n 2, 1) := by decide +kernel
theorem dX6_letter_45 : decode cX6_letter 45 = .ok (.iadd, 1) := by decide +kernel
theorem dX6_letter_46 : decode cX6_letter 46 = .ok (.caload, 1) := by decide +kernel
theorem dX6_letter_47 : decode cX6_letter 47 = .ok (.goto 5, 3) := by decide +kernel
theorem dX6_letter_50 : decode cX6_letter 50 = .ok (.bipush 32, 2) := by decide +kernel
theorem dX6_letter_52 : decode cX6_letter 52 = .ok (.ireturn, 1) := by decide +kernel
theorem dX6_addThing_0 : decode cX6_addThing 0 = .ok (.aload_n 0, 1) := by decide +kernel
theorem dX6_addThing_1 : decode cX6_addThing 1 = .ok (.aload_n 0, 1) := by decide +kernel
theorem dX6_addThing_2 : decode cX6_addThing 2 = .ok (.getfield 64, 3) := by decide +kernel
theorem dX6_addThing_5 : decode cX6_addThing 5 = .ok (.bipush 20, 2) := by decide +kernel
theorem dX6_addThing_7 : decode cX6_addThing 7 = .ok (.if_icmp .ne 7, 3) := by decide +kernel
theorem dX6_addThing_10 : decode cX6_addThing 10 = .ok (.iconst 1, 1) := by decide +kernel
theorem dX6_addThing_11 : decode cX6_addThing 11 = .ok (.goto 4, 3) := by decide +kernel
theorem dX6_addThing_14 : decode cX6_addThing 14 = .ok (.iconst 0, 1) := by decide +kernel
theorem dX6_addThing_15 : decode cX6_addThing 15 = .ok (.invokevirtual 78, 3) := by decide +kernel
theorem dX6_addThing_18 : decode cX6_addThing 18 = .ok (.ifCond .ne 5, 3) := by decide +kernel
theorem dX6_addThing_21 : decode cX6_addThing 21 = .ok (.iconst 0, 1) := by decide +kernel
theorem dX6_addThing_22 : decode cX6_addThing 22 = .ok (.ireturn, 1) := by decide +kernel
theorem dX6_addThing_23 : decode cX6_addThing 23 = .ok (.aload_n 0, 1) := by decide +kernel
theorem dX6_addThing_24 : decode cX6_addThing 24 = .ok (.dup, 1) := by decide +kernel
theorem dX6_addThing_25 : decode cX6_addThing 25 = .ok (.getfield 64, 3) := by decide +kernel
theorem dX6_addThing_28 : decode cX6_addThing 28 = .ok (.iconst 1, 1) := by decide +kernel
theorem dX6_addThing_29 : decode cX6_addThing 29 = .ok (.iadd, 1) := by decide +kernel
theorem dX6_addThing_30 : decode cX6_addThing 30 = .ok (.putfield 64, 3) := by decide +kernel
theorem dX6_addThing_33 : decode cX6_addThing 33 = .ok (.aload_n 0, 1) := by decide +kernel
theorem dX6_addThing_34 : decode cX6_addThing 34 = .ok (.getfield 64, 3) := by decide +kernel
theorem dX6_addThing_37 : decode cX6_addThing 37 = .ok (.iconst 1, 1) := by decide +kernel
theorem dX6_addThing_38 : decode cX6_addThing 38 = .ok (.isub, 1) := by decide +kernel
theorem dX6_addThing_39 : decode cX6_addThing 39 = .ok (.ireturn, 1) := by decide +kernel
theorem dX6_things_0 : decode cX6_things 0 = .ok (.aload_n 0, 1) := by decide +kernel
theorem dX6_things_1 : decode cX6_things 1 = .ok (.iconst 0, 1) := by decide +kernel
theorem dX6_things_2 : decode cX6_things 2 = .ok (.putfield 53, 3) := by decide +kernel
theorem dX6_things_5 : decode cX6_things 5 = .ok (.aload_n 0, 1) := by decide +kernel
theorem dX6_things_6 : decode cX6_things 6 = .ok (.getfield 64, 3) := by decide +kernel
theorem dX6_things_9 : decode cX6_things 9 = .ok (.ireturn, 1) := by decide +kernel
theorem dX6_begins_0 : decode cX6_begins 0 = .ok (.aload_n 0, 1) := by decide +kernel
theorem dX6_begins_1 : decode cX6_begins 1 = .ok (.getfield 88, 3) := by decide +kernel
theorem dX6_begins_4 : decode cX6_begins 4 = .ok (.bipush 20, 2) := by decide +kernel
theorem dX6_begins_6 : decode cX6_begins 6 = .ok (.if_icmp .ne 77, 3) := by decide +kernel
theorem dX6_begins_9 : decode cX6_begins 9 = .ok (.aload_n 0, 1) := by decide +kernel
theorem dX6_begins_10 : decode cX6_begins 10 = .ok (.dup, 1) := by decide +kernel
theorem dX6_begins_11 : decode cX6_begins 11 = .ok (.getfield 88, 3) := by decide +kernel
theorem dX6_begins_14 : decode cX6_begins 14 = .ok (.iconst 1, 1) := by decide +kernel
theorem dX6_begins_15 : decode cX6_begins 15 = .ok (.isub, 1) := by decide +kernel
theorem dX6_begins_16 : decode cX6_begins 16 = .ok (.putfield 88, 3) := by decide +kernel
theorem dX6_begins_19 : decode cX6_begins 19 = .ok (.iconst 0, 1) := by decide +kernel
theorem dX6_begins_20 : decode cX6_begins 20 = .ok (.istore_n 1, 1) := by decide +kernel
theorem dX6_begins_21 : decode cX6_begins 21 = .ok (.iload_n 1, 1) := by decide +kernel
theorem dX6_begins_22 : decode cX6_begins 22 = .ok (.aload_n 0, 1) := by decide +kernel
theorem dX6_begins_23 : decode cX6_begins 23 = .ok (.getfield 88, 3) := by decide +kernel
theorem dX6_begins_26 : decode cX6_begins 26 = .ok (.if_icmp .ge 23, 3) := by decide +kernel
theorem dX6_begins_29 : decode cX6_begins 29 = .ok (.aload_n 0, 1) := by decide +kernel
theorem dX6_begins_30 : decode cX6_begins 30 = .ok (.getfield 47, 3) := by decide +kernel
theorem dX6_begins_33 : decode cX6_begins 33 = .ok (.iload_n 1, 1) := by decide +kernel
theorem dX6_begins_34 : decode cX6_begins 34 = .ok (.aload_n 0, 1) := by decide +kernel
theorem dX6_begins_35 : decode cX6_begins 35 = .ok (.getfield 47, 3) := by decide +kernel
theorem dX6_begins_38 : decode cX6_begins 38 = .ok (.iload_n 1, 1) := by decide +kernel
theorem dX6_begins_39 : decode cX6_begins 39 = .ok (.iconst 1, 1) := by decide +kernel
theorem dX6_begins_40 : decode cX6_begins 40 = .ok (.iadd, 1) := by decide +kernel
theorem dX6_begins_41 : decode cX6_begins 41 = .ok (.iaload, 1) := by decide +kernel
theorem dX6_begins_42 : decode cX6_begins 42 = .ok (.iastore, 1) := by decide +kernel
theorem dX6_begins_43 : decode cX6_begins 43 = .ok (.iinc 1 1, 3) := by decide +kernel
theorem dX6_begins_46 : decode cX6_begins 46 = .ok (.goto (-25), 3) := by decide +kernel
theorem dX6_begins_49 : decode cX6_begins 49 = .ok (.iconst 0, 1) := by decide +kernel
theorem dX6_begins_50 : decode cX6_begins 50 = .ok (.istore_n 1, 1) := by decide +kernel
theorem dX6_begins_51 : decode cX6_begins 51 = .ok (.iload_n 1, 1) := by decide +kernel
theorem dX6_begins_52 : decode cX6_begins 52 = .ok (.bipush 20, 2) := by decide +kernel
theorem dX6_begins_54 : decode cX6_begins 54 = .ok (.aload_n 0, 1) := by decide +kernel
theorem dX6_begins_55 : decode cX6_begins 55 = .ok (.getfield 88, 3) := by decide +kernel
theorem dX6_begins_58 : decode cX6_begins 58 = .ok (.imul, 1) := by decide +kernel
theorem dX6_begins_59 : decode cX6_begins 59 = .ok (.if_icmp .ge 24, 3) := by decide +kernel
theorem dX6_begins_62 : decode cX6_begins 62 = .ok (.aload_n 0, 1) := by decide +kernel
theorem dX6_begins_63 : decode cX6_begins 63 = .ok (.getfield 50, 3) := by decide +kernel
theorem dX6_begins_66 : decode cX6_begins 66 = .ok (.iload_n 1, 1) := by decide +kernel
theorem dX6_begins_67 : decode cX6_begins 67 = .ok (.aload_n 0, 1) := by decide +kernel
theorem dX6_begins_68 : decode cX6_begins 68 = .ok (.getfield 50, 3) := by decide +kernel
theorem dX6_begins_71 : decode cX6_begins 71 = .ok (.iload_n 1, 1) := by decide +kernel
theorem dX6_begins_72 : decode cX6_begins 72 = .ok (.bipush 20, 2) := by decide +kernel
theorem dX6_begins_74 : decode cX6_begins 74 = .ok (.iadd, 1) := by decide +kernel
theorem dX6_begins_75 : decode cX6_begins 75 = .ok (.iaload, 1) := by decide +kernel
theorem dX6_begins_76 : decode cX6_begins 76 = .ok (.iastore, 1) := by decide +kernel
theorem dX6_begins_77 : decode cX6_begins 77 = .ok (.iinc 1 1, 3) := by decide +kernel
theorem dX6_begins_80 : decode cX6_begins 80 = .ok (.goto (-29), 3) := by decide +kernel
theorem dX6_begins_83 : decode cX6_begins 83 = .ok (.aload_n 0, 1) := by decide +kernel
theorem dX6_begins_84 : decode cX6_begins 84 = .ok (.getfield 47, 3) := by decide +kernel
theorem dX6_begins_87 : decode cX6_begins 87 = .ok (.aload_n 0, 1) := by decide +kernel
theorem dX6_begins_88 : decode cX6_begins 88 = .ok (.getfield 88, 3) := by decide +kernel
theorem dX6_begins_91 : decode cX6_begins 91 = .ok (.iconst 0, 1) := by decide +kernel
theorem dX6_begins_92 : decode cX6_begins 92 = .ok (.iastore, 1) := by decide +kernel
theorem dX6_begins_93 : decode cX6_begins 93 = .ok (.aload_n 0, 1) := by decide +kernel
theorem dX6_begins_94 : decode cX6_begins 94 = .ok (.dup, 1) := by decide +kernel
theorem dX6_begins_95 : decode cX6_begins 95 = .ok (.getfield 88, 3) := by decide +kernel
theorem dX6_begins_98 : decode cX6_begins 98 = .ok (.iconst 1, 1) := by decide +kernel
theorem dX6_begins_99 : decode cX6_begins 99 = .ok (.iadd, 1) := by decide +kernel
theorem dX6_begins_100 : decode cX6_begins 100 = .ok (.putfield 88, 3) := by decide +kernel
theorem dX6_begins_103 : decode cX6_begins 103 = .ok (.return_, 1) := by decide +kernel
theorem dX6_sets_0 : decode cX6_sets 0 = .ok (.aload_n 0, 1) := by decide +kernel
theorem dX6_sets_1 : decode cX6_sets 1 = .ok (.getfield 50, 3) := by decide +kernel
theorem dX6_sets_4 : decode cX6_sets 4 = .ok (.bipush 20, 2) := by decide +kernel
theorem dX6_sets_6 : decode cX6_sets 6 = .ok (.aload_n 0, 1) := by decide +kernel
theorem dX6_sets_7 : decode cX6_sets 7 = .ok (.getfield 88, 3) := by decide +kernel
theorem dX6_sets_10 : decode cX6_sets 10 = .ok (.iconst 1, 1) := by decide +kernel
theorem dX6_sets_11 : decode cX6_sets 11 = .ok (.isub, 1) := by decide +kernel
theorem dX6_sets_12 : decode cX6_sets 12 = .ok (.imul, 1) := by decide +kernel
theorem dX6_sets_13 : decode cX6_sets 13 = .ok (.iload_n 1, 1) := by decide +kernel
theorem dX6_sets_14 : decode cX6_sets 14 = .ok (.iadd, 1) := by decide +kernel
theorem dX6_sets_15 : decode cX6_sets 15 = .ok (.aload_n 0, 1) := by decide +kernel
theorem dX6_sets_16 : decode cX6_sets 16 = .ok (.getfield 26, 3) := by decide +kernel
theorem dX6_sets_19 : decode cX6_sets 19 = .ok (.iload_n 1, 1) := by decide +kernel
theorem dX6_sets_20 : decode cX6_sets 20 = .ok (.iaload, 1) := by decide +kernel
theorem dX6_sets_21 : decode cX6_sets 21 = .ok (.iastore, 1) := by decide +kernel
theorem dX6_sets_22 : decode cX6_sets 22 = .ok (.aload_n 0, 1) := by decide +kernel
theorem dX6_sets_23 : decode cX6_sets 23 = .ok (.getfield 47, 3) := by decide +kernel
theorem dX6_sets_26 : decode cX6_sets 26 = .ok (.aload_n 0, 1) := by decide +kernel
theorem dX6_sets_27 : decode cX6_sets 27 = .ok (.getfield 88, 3) := by decide +kernel
theorem dX6_sets_30 : decode cX6_sets 30 = .ok (.iconst 1, 1) := by decide +kernel
theorem dX6_sets_31 : decode cX6_sets 31 = .ok (.isub, 1) := by decide +kernel
theorem dX6_sets_32 : decode cX6_sets 32 = .ok (.dup2, 1) := by decide +kernel
theorem dX6_sets_33 : decode cX6_sets 33 = .ok (.iaload, 1) := by decide +kernel
theorem dX6_sets_34 : decode cX6_sets 34 = .ok (.iconst 1, 1) := by decide +kernel
theorem dX6_sets_35 : decode cX6_sets 35 = .ok (.iload_n 1, 1) := by decide +kernel
theorem dX6_sets_36 : decode cX6_sets 36 = .ok (.ishl, 1) := by decide +kernel
theorem dX6_sets_37 : decode cX6_sets 37 = .ok (.ior, 1) := by decide +kernel
theorem dX6_sets_38 : decode cX6_sets 38 = .ok (.iastore, 1) := by decide +kernel
theorem dX6_sets_39 : decode cX6_sets 39 = .ok (.aload_n 0, 1) := by decide +kernel
theorem dX6_sets_40 : decode cX6_sets 40 = .ok (.getfield 26, 3) := by decide +kernel
theorem dX6_sets_43 : decode cX6_sets 43 = .ok (.iload_n 1, 1) := by decide +kernel
theorem dX6_sets_44 : decode cX6_sets 44 = .ok (.iload_n 2, 1) := by decide +kernel
theorem dX6_sets_45 : decode cX6_sets 45 = .ok (.iastore, 1) := by decide +kernel
theorem dX6_sets_46 : decode cX6_sets 46 = .ok (.return_, 1) := by decide +kernel
theorem dX6_setsOne_0 : decode cX6_setsOne 0 = .ok (.aload_n 0, 1) := by decide +kernel
theorem dX6_setsOne_1 : decode cX6_setsOne 1 = .ok (.getfield 26, 3) := by decide +kernel
theorem dX6_setsOne_4 : decode cX6_setsOne 4 = .ok (.iload_n 1, 1) := by decide +kernel
theorem dX6_setsOne_5 : decode cX6_setsOne 5 = .ok (.iaload, 1) := by decide +kernel
theorem dX6_setsOne_6 : decode cX6_setsOne 6 = .ok (.iload_n 2, 1) := by decide +kernel
theorem dX6_setsOne_7 : decode cX6_setsOne 7 = .ok (.if_icmp .eq 7, 3) := by decide +kernel
theorem dX6_setsOne_10 : decode cX6_setsOne 10 = .ok (.iconst 1, 1) := by decide +kernel
theorem dX6_setsOne_11 : decode cX6_setsOne 11 = .ok (.goto 4, 3) := by decide +kernel
theorem dX6_setsOne_14 : decode cX6_setsOne 14 = .ok (.iconst 0, 1) := by decide +kernel
theorem dX6_setsOne_15 : decode cX6_setsOne 15 = .ok (.istore_n 3, 1) := by decide +kernel
theorem dX6_setsOne_16 : decode cX6_setsOne 16 = .ok (.iload_n 3, 1) := by decide +kernel
theorem dX6_setsOne_17 : decode cX6_setsOne 17 = .ok (.ifCond .eq 13, 3) := by decide +kernel
theorem dX6_setsOne_20 : decode cX6_setsOne 20 = .ok (.aload_n 0, 1) := by decide +kernel
theorem dX6_setsOne_21 : decode cX6_setsOne 21 = .ok (.invokevirtual 91, 3) := by decide +kernel
theorem dX6_setsOne_24 : decode cX6_setsOne 24 = .ok (.aload_n 0, 1) := by decide +kernel
theorem dX6_setsOne_25 : decode cX6_setsOne 25 = .ok (.iload_n 1, 1) := by decide +kernel
theorem dX6_setsOne_26 : decode cX6_setsOne 26 = .ok (.iload_n 2, 1) := by decide +kernel
theorem dX6_setsOne_27 : decode cX6_setsOne 27 = .ok (.invokevirtual 94, 3) := by decide +kernel
theorem dX6_setsOne_30 : decode cX6_setsOne 30 = .ok (.iload_n 3, 1) := by decide +kernel
theorem dX6_setsOne_31 : decode cX6_setsOne 31 = .ok (.ireturn, 1) := by decide +kernel
theorem dX6_areThere_0 : decode cX6_areThere 0 = .ok (.aload_n 0, 1) := by decide +kernel
theorem dX6_areThere_1 : decode cX6_areThere 1 = .ok (.aload_n 0, 1) := by decide +kernel
theorem dX6_areThere_2 : decode cX6_areThere 2 = .ok (.iload_n 1, 1) := by decide +kernel
theorem dX6_areThere_3 : decode cX6_areThere 3 = .ok (.invokevirtual 98, 3) := by decide +kernel
theorem dX6_areThere_6 : decode cX6_areThere 6 = .ok (.ifCond .eq 15, 3) := by decide +kernel
theorem dX6_areThere_9 : decode cX6_areThere 9 = .ok (.aload_n 0, 1) := by decide +kernel
theorem dX6_areThere_10 : decode cX6_areThere 10 = .ok (.iload_n 2, 1) := by decide +kernel
theorem dX6_areThere_11 : decode cX6_areThere 11 = .ok (.invokevirtual 85, 3) := by decide +kernel
theorem dX6_areThere_14 : decode cX6_areThere 14 = .ok (.ifCond .eq 7, 3) := by decide +kernel
theorem dX6_areThere_17 : decode cX6_areThere 17 = .ok (.iconst 0, 1) := by decide +kernel
theorem dX6_areThere_18 : decode cX6_areThere 18 = .ok (.goto 4, 3) := by decide +kernel
theorem dX6_areThere_21 : decode cX6_areThere 21 = .ok (.iconst 1, 1) := by decide +kernel
theorem dX6_areThere_22 : decode cX6_areThere 22 = .ok (.invokevirtual 78, 3) := by decide +kernel
theorem dX6_areThere_25 : decode cX6_areThere 25 = .ok (.ireturn, 1) := by decide +kernel
theorem dX6_tag_0 : decode cX6_tag 0 = .ok (.aload_n 0, 1) := by decide +kernel
theorem dX6_tag_1 : decode cX6_tag 1 = .ok (.iload_n 1, 1) := by decide +kernel
theorem dX6_tag_2 : decode cX6_tag 2 = .ok (.iload_n 2, 1) := by decide +kernel
theorem dX6_tag_3 : decode cX6_tag 3 = .ok (.invokevirtual 101, 3) := by decide +kernel
theorem dX6_tag_6 : decode cX6_tag 6 = .ok (.ifCond .eq 25, 3) := by decide +kernel
theorem dX6_tag_9 : decode cX6_tag 9 = .ok (.aload_n 0, 1) := by decide +kernel
theorem dX6_tag_10 : decode cX6_tag 10 = .ok (.iload_n 1, 1) := by decide +kernel
theorem dX6_tag_11 : decode cX6_tag 11 = .ok (.aload_n 0, 1) := by decide +kernel
theorem dX6_tag_12 : decode cX6_tag 12 = .ok (.getfield 26, 3) := by decide +kernel
theorem dX6_tag_15 : decode cX6_tag 15 = .ok (.iload_n 1, 1) := by decide +kernel
theorem dX6_tag_16 : decode cX6_tag 16 = .ok (.iaload, 1) := by decide +kernel
theorem dX6_tag_17 : decode cX6_tag 17 = .ok (.iconst 1, 1) := by decide +kernel
theorem dX6_tag_18 : decode cX6_tag 18 = .ok (.iload_n 2, 1) := by decide +kernel
theorem dX6_tag_19 : decode cX6_tag 19 = .ok (.ishl, 1) := by decide +kernel
theorem dX6_tag_20 : decode cX6_tag 20 = .ok (.ior, 1) := by decide +kernel
theorem dX6_tag_21 : decode cX6_tag 21 = .ok (.invokevirtual 105, 3) := by decide +kernel
theorem dX6_tag_24 : decode cX6_tag 24 = .ok (.ifCond .eq 7, 3) := by decide +kernel
theorem dX6_tag_27 : decode cX6_tag 27 = .ok (.iconst 1, 1) := by decide +kernel
theorem dX6_tag_28 : decode cX6_tag 28 = .ok (.goto 4, 3) := by decide +kernel
theorem dX6_tag_31 : decode cX6_tag 31 = .ok (.iconst 0, 1) := by decide +kernel
theorem dX6_tag_32 : decode cX6_tag 32 = .ok (.ireturn, 1) := by decide +kernel
theorem dX6_untag_0 : decode cX6_untag 0 = .ok (.aload_n 0, 1) := by decide +kernel
theorem dX6_untag_1 : decode cX6_untag 1 = .ok (.iload_n 1, 1) := by decide +kernel
theorem dX6_untag_2 : decode cX6_untag 2 = .ok (.iload_n 2, 1) := by decide +kernel
theorem dX6_untag_3 : decode cX6_untag 3 = .ok (.invokevirtual 101, 3) := by decide +kernel
theorem dX6_untag_6 : decode cX6_untag 6 = .ok (.ifCond .eq 27, 3) := by decide +kernel
theorem dX6_untag_9 : decode cX6_untag 9 = .ok (.aload_n 0, 1) := by decide +kernel
theorem dX6_untag_10 : decode cX6_untag 10 = .ok (.iload_n 1, 1) := by decide +kernel
theorem dX6_untag_11 : decode cX6_untag 11 = .ok (.aload_n 0, 1) := by decide +kernel
theorem dX6_untag_12 : decode cX6_untag 12 = .ok (.getfield 26, 3) := by decide +kernel
theorem dX6_untag_15 : decode cX6_untag 15 = .ok (.iload_n 1, 1) := by decide +kernel
theorem dX6_untag_16 : decode cX6_untag 16 = .ok (.iaload, 1) := by decide +kernel
theorem dX6_untag_17 : decode cX6_untag 17 = .ok (.iconst 1, 1) := by decide +kernel
theorem dX6_untag_18 : decode cX6_untag 18 = .ok (.iload_n 2, 1) := by decide +kernel
theorem dX6_untag_19 : decode cX6_untag 19 = .ok (.ishl, 1) := by decide +kernel
theorem dX6_untag_20 : decode cX6_untag 20 = .ok (.iconst (-1), 1) := by decide +kernel
theorem dX6_untag_21 : decode cX6_untag 21 = .ok (.ixor, 1) := by decide +kernel
theorem dX6_untag_22 : decode cX6_untag 22 = .ok (.iand, 1) := by decide +kernel
theorem dX6_untag_23 : decode cX6_untag 23 = .ok (.invokevirtual 105, 3) := by decide +kernel
theorem dX6_untag_26 : decode cX6_untag 26 = .ok (.ifCond .eq 7, 3) := by decide +kernel
theorem dX6_untag_29 : decode cX6_untag 29 = .ok (.iconst 1, 1) := by decide +kernel
theorem dX6_untag_30 : decode cX6_untag 30 = .ok (.goto 4, 3) := by decide +kernel
theorem dX6_untag_33 : decode cX6_untag 33 = .ok (.iconst 0, 1) := by decide +kernel
theorem dX6_untag_34 : decode cX6_untag 34 = .ok (.ireturn, 1) := by decide +kernel
theorem dX6_edited_0 : decode cX6_edited 0 = .ok (.aload_n 0, 1) := by decide +kernel
theorem dX6_edited_1 : decode cX6_edited 1 = .ok (.getfield 26, 3) := by decide +kernel
theorem dX6_edited_4 : decode cX6_edited 4 = .ok (.iload_n 2, 1) := by decide +kernel
theorem dX6_edited_5 : decode cX6_edited 5 = .ok (.iaload, 1) := by decide +kernel
theorem dX6_edited_6 : decode cX6_edited 6 = .ok (.istore 5, 2) := by decide +kernel
theorem dX6_edited_8 : decode cX6_edited 8 = .ok (.iload_n 1, 1) := by decide +kernel
theorem dX6_edited_9 : decode cX6_edited 9 = .ok (.iconst 2, 1) := by decide +kernel
theorem dX6_edited_10 : decode cX6_edited 10 = .ok (.if_icmp .ne 31, 3) := by decide +kernel
theorem dX6_edited_13 : decode cX6_edited 13 = .ok (.iload 5, 2) := by decide +kernel
theorem dX6_edited_15 : decode cX6_edited 15 = .ok (.iload_n 3, 1) := by decide +kernel
theorem dX6_edited_16 : decode cX6_edited 16 = .ok (.invokestatic 108, 3) := by decide +kernel
theorem dX6_edited_19 : decode cX6_edited 19 = .ok (.ifCond .eq 19, 3) := by decide +kernel
theorem dX6_edited_22 : decode cX6_edited 22 = .ok (.iload 5, 2) := by decide +kernel
theorem dX6_edited_24 : decode cX6_edited 24 = .ok (.iconst 1, 1) := by decide +kernel
theorem dX6_edited_25 : decode cX6_edited 25 = .ok (.iload_n 3, 1) := by decide +kernel
theorem dX6_edited_26 : decode cX6_edited 26 = .ok (.ishl, 1) := by decide +kernel
theorem dX6_edited_27 : decode cX6_edited 27 = .ok (.iconst (-1), 1) := by decide +kernel
theorem dX6_edited_28 : decode cX6_edited 28 = .ok (.ixor, 1) := by decide +kernel
theorem dX6_edited_29 : decode cX6_edited 29 = .ok (.iand, 1) := by decide +kernel
theorem dX6_edited_30 : decode cX6_edited 30 = .ok (.iconst 1, 1) := by decide +kernel
theorem dX6_edited_31 : decode cX6_edited 31 = .ok (.iload 4, 2) := by decide +kernel
theorem dX6_edited_33 : decode cX6_edited 33 = .ok (.ishl, 1) := by decide +kernel
theorem dX6_edited_34 : decode cX6_edited 34 = .ok (.ior, 1) := by decide +kernel
theorem dX6_edited_35 : decode cX6_edited 35 = .ok (.goto 5, 3) := by decide +kernel
theorem dX6_edited_38 : decode cX6_edited 38 = .ok (.iload 5, 2) := by decide +kernel
theorem dX6_edited_40 : decode cX6_edited 40 = .ok (.ireturn, 1) := by decide +kernel
theorem dX6_edited_41 : decode cX6_edited 41 = .ok (.aload_n 0, 1) := by decide +kernel
theorem dX6_edited_42 : decode cX6_edited 42 = .ok (.iload_n 2, 1) := by decide +kernel
theorem dX6_edited_43 : decode cX6_edited 43 = .ok (.invokevirtual 111, 3) := by decide +kernel
theorem dX6_edited_46 : decode cX6_edited 46 = .ok (.aload_n 0, 1) := by decide +kernel
theorem dX6_edited_47 : decode cX6_edited 47 = .ok (.iload_n 3, 1) := by decide +kernel
theorem dX6_edited_48 : decode cX6_edited 48 = .ok (.invokevirtual 115, 3) := by decide +kernel
theorem dX6_edited_51 : decode cX6_edited 51 = .ok (.invokestatic 108, 3) := by decide +kernel
theorem dX6_edited_54 : decode cX6_edited 54 = .ok (.istore 6, 2) := by decide +kernel
theorem dX6_edited_56 : decode cX6_edited 56 = .ok (.iload 6, 2) := by decide +kernel
theorem dX6_edited_58 : decode cX6_edited 58 = .ok (.ifCond .ne 8, 3) := by decide +kernel
theorem dX6_edited_61 : decode cX6_edited 61 = .ok (.iload 5, 2) := by decide +kernel
theorem dX6_edited_63 : decode cX6_edited 63 = .ok (.goto 26, 3) := by decide +kernel
theorem dX6_edited_66 : decode cX6_edited 66 = .ok (.iload_n 1, 1) := by decide +kernel
theorem dX6_edited_67 : decode cX6_edited 67 = .ok (.ifCond .ne 13, 3) := by decide +kernel
theorem dX6_edited_70 : decode cX6_edited 70 = .ok (.iload 5, 2) := by decide +kernel
theorem dX6_edited_72 : decode cX6_edited 72 = .ok (.iconst 1, 1) := by decide +kernel
theorem dX6_edited_73 : decode cX6_edited 73 = .ok (.iload 4, 2) := by decide +kernel
theorem dX6_edited_75 : decode cX6_edited 75 = .ok (.ishl, 1) := by decide +kernel
theorem dX6_edited_76 : decode cX6_edited 76 = .ok (.ior, 1) := by decide +kernel
theorem dX6_edited_77 : decode cX6_edited 77 = .ok (.goto 12, 3) := by decide +kernel
theorem dX6_edited_80 : decode cX6_edited 80 = .ok (.iload 5, 2) := by decide +kernel
theorem dX6_edited_82 : decode cX6_edited 82 = .ok (.iconst 1, 1) := by decide +kernel
theorem dX6_edited_83 : decode cX6_edited 83 = .ok (.iload 4, 2) := by decide +kernel
theorem dX6_edited_85 : decode cX6_edited 85 = .ok (.ishl, 1) := by decide +kernel
theorem dX6_edited_86 : decode cX6_edited 86 = .ok (.iconst (-1), 1) := by decide +kernel
theorem dX6_edited_87 : decode cX6_edited 87 = .ok (.ixor, 1) := by decide +kernel
theorem dX6_edited_88 : decode cX6_edited 88 = .ok (.iand, 1) := by decide +kernel
theorem dX6_edited_89 : decode cX6_edited 89 = .ok (.ireturn, 1) := by decide +kernel
theorem dX6_mass_0 : decode cX6_mass 0 = .ok (.aload_n 0, 1) := by decide +kernel
theorem dX6_mass_1 : decode cX6_mass 1 = .ok (.aload_n 0, 1) := by decide +kernel
theorem dX6_mass_2 : decode cX6_mass 2 = .ok (.iload_n 2, 1) := by decide +kernel
theorem dX6_mass_3 : decode cX6_mass 3 = .ok (.invokevirtual 85, 3) := by decide +kernel
theorem dX6_mass_6 : decode cX6_mass 6 = .ok (.ifCond .eq 11, 3) := by decide +kernel
theorem dX6_mass_9 : decode cX6_mass 9 = .ok (.aload_n 0, 1) := by decide +kernel
theorem dX6_mass_10 : decode cX6_mass 10 = .ok (.iload_n 3, 1) := by decide +kernel
theorem dX6_mass_11 : decode cX6_mass 11 = .ok (.invokevirtual 85, 3) := by decide +kernel
theorem dX6_mass_14 : decode cX6_mass 14 = .ok (.ifCond .ne 7, 3) := by decide +kernel
theorem dX6_mass_17 : decode cX6_mass 17 = .ok (.iconst 1, 1) := by decide +kernel
theorem dX6_mass_18 : decode cX6_mass 18 = .ok (.goto 17, 3) := by decide +kernel
theorem dX6_mass_21 : decode cX6_mass 21 = .ok (.iload_n 1, 1) := by decide +kernel
theorem dX6_mass_22 : decode cX6_mass 22 = .ok (.iconst 0, 1) := by decide +kernel
theorem dX6_mass_23 : decode cX6_mass 23 = .ok (.iconst 2, 1) := by decide +kernel
theorem dX6_mass_24 : decode cX6_mass 24 = .ok (.invokestatic 60, 3) := by decide +kernel
theorem dX6_mass_27 : decode cX6_mass 27 = .ok (.ifCond .eq 7, 3) := by decide +kernel
theorem dX6_mass_30 : decode cX6_mass 30 = .ok (.iconst 0, 1) := by decide +kernel
theorem dX6_mass_31 : decode cX6_mass 31 = .ok (.goto 4, 3) := by decide +kernel
theorem dX6_mass_34 : decode cX6_mass 34 = .ok (.iconst 2, 1) := by decide +kernel
theorem dX6_mass_35 : decode cX6_mass 35 = .ok (.invokevirtual 78, 3) := by decide +kernel
theorem dX6_mass_38 : decode cX6_mass 38 = .ok (.ifCond .ne 5, 3) := by decide +kernel
theorem dX6_mass_41 : decode cX6_mass 41 = .ok (.iconst 0, 1) := by decide +kernel
theorem dX6_mass_42 : decode cX6_mass 42 = .ok (.ireturn, 1) := by decide +kernel
theorem dX6_mass_43 : decode cX6_mass 43 = .ok (.iconst 0, 1) := by decide +kernel
theorem dX6_mass_44 : decode cX6_mass 44 = .ok (.istore 4, 2) := by decide +kernel
theorem dX6_mass_46 : decode cX6_mass 46 = .ok (.iconst 0, 1) := by decide +kernel
theorem dX6_mass_47 : decode cX6_mass 47 = .ok (.istore 5, 2) := by decide +kernel
theorem dX6_mass_49 : decode cX6_mass 49 = .ok (.iload 5, 2) := by decide +kernel
theorem dX6_mass_51 : decode cX6_mass 51 = .ok (.aload_n 0, 1) := by decide +kernel
theorem dX6_mass_52 : decode cX6_mass 52 = .ok (.getfield 64, 3) := by decide +kernel
theorem dX6_mass_55 : decode cX6_mass 55 = .ok (.if_icmp .ge 52, 3) := by decide +kernel
theorem dX6_mass_58 : decode cX6_mass 58 = .ok (.aload_n 0, 1) := by decide +kernel
theorem dX6_mass_59 : decode cX6_mass 59 = .ok (.iload_n 1, 1) := by decide +kernel
theorem dX6_mass_60 : decode cX6_mass 60 = .ok (.iload 5, 2) := by decide +kernel
theorem dX6_mass_62 : decode cX6_mass 62 = .ok (.iload_n 2, 1) := by decide +kernel
theorem dX6_mass_63 : decode cX6_mass 63 = .ok (.iload_n 3, 1) := by decide +kernel
theorem dX6_mass_64 : decode cX6_mass 64 = .ok (.invokevirtual 118, 3) := by decide +kernel
theorem dX6_mass_67 : decode cX6_mass 67 = .ok (.istore 6, 2) := by decide +kernel
theorem dX6_mass_69 : decode cX6_mass 69 = .ok (.iload 6, 2) := by decide +kernel
theorem dX6_mass_71 : decode cX6_mass 71 = .ok (.aload_n 0, 1) := by decide +kernel
theorem dX6_mass_72 : decode cX6_mass 72 = .ok (.getfield 26, 3) := by decide +kernel
theorem dX6_mass_75 : decode cX6_mass 75 = .ok (.iload 5, 2) := by decide +kernel
theorem dX6_mass_77 : decode cX6_mass 77 = .ok (.iaload, 1) := by decide +kernel
theorem dX6_mass_78 : decode cX6_mass 78 = .ok (.if_icmp .eq 23, 3) := by decide +kernel
theorem dX6_mass_81 : decode cX6_mass 81 = .ok (.iload 4, 2) := by decide +kernel
theorem dX6_mass_83 : decode cX6_mass 83 = .ok (.ifCond .ne 7, 3) := by decide +kernel
theorem dX6_mass_86 : decode cX6_mass 86 = .ok (.aload_n 0, 1) := by decide +kernel
theorem dX6_mass_87 : decode cX6_mass 87 = .ok (.invokevirtual 91, 3) := by decide +kernel
theorem dX6_mass_90 : decode cX6_mass 90 = .ok (.aload_n 0, 1) := by decide +kernel
theorem dX6_mass_91 : decode cX6_mass 91 = .ok (.iload 5, 2) := by decide +kernel
theorem dX6_mass_93 : decode cX6_mass 93 = .ok (.iload 6, 2) := by decide +kernel
theorem dX6_mass_95 : decode cX6_mass 95 = .ok (.invokevirtual 94, 3) := by decide +kernel
theorem dX6_mass_98 : decode cX6_mass 98 = .ok (.iinc 4 1, 3) := by decide +kernel
theorem dX6_mass_101 : decode cX6_mass 101 = .ok (.iinc 5 1, 3) := by decide +kernel
theorem dX6_mass_104 : decode cX6_mass 104 = .ok (.goto (-55), 3) := by decide +kernel
theorem dX6_mass_107 : decode cX6_mass 107 = .ok (.iload 4, 2) := by decide +kernel
theorem dX6_mass_109 : decode cX6_mass 109 = .ok (.ireturn, 1) := by decide +kernel
theorem dX6_undo_0 : decode cX6_undo 0 = .ok (.aload_n 0, 1) := by decide +kernel
theorem dX6_undo_1 : decode cX6_undo 1 = .ok (.aload_n 0, 1) := by decide +kernel
theorem dX6_undo_2 : decode cX6_undo 2 = .ok (.getfield 88, 3) := by decide +kernel
theorem dX6_undo_5 : decode cX6_undo 5 = .ok (.ifCond .ne 7, 3) := by decide +kernel
theorem dX6_undo_8 : decode cX6_undo 8 = .ok (.iconst 1, 1) := by decide +kernel
theorem dX6_undo_9 : decode cX6_undo 9 = .ok (.goto 4, 3) := by decide +kernel
theorem dX6_undo_12 : decode cX6_undo 12 = .ok (.iconst 0, 1) := by decide +kernel
theorem dX6_undo_13 : decode cX6_undo 13 = .ok (.invokevirtual 78, 3) := by decide +kernel
theorem dX6_undo_16 : decode cX6_undo 16 = .ok (.ifCond .ne 5, 3) := by decide +kernel
theorem dX6_undo_19 : decode cX6_undo 19 = .ok (.iconst 0, 1) := by decide +kernel
theorem dX6_undo_20 : decode cX6_undo 20 = .ok (.ireturn, 1) := by decide +kernel
theorem dX6_undo_21 : decode cX6_undo 21 = .ok (.aload_n 0, 1) := by decide +kernel
theorem dX6_undo_22 : decode cX6_undo 22 = .ok (.dup, 1) := by decide +kernel
theorem dX6_undo_23 : decode cX6_undo 23 = .ok (.getfield 88, 3) := by decide +kernel
theorem dX6_undo_26 : decode cX6_undo 26 = .ok (.iconst 1, 1) := by decide +kernel
theorem dX6_undo_27 : decode cX6_undo 27 = .ok (.isub, 1) := by decide +kernel
theorem dX6_undo_28 : decode cX6_undo 28 = .ok (.putfield 88, 3) := by decide +kernel
theorem dX6_undo_31 : decode cX6_undo 31 = .ok (.iconst 0, 1) := by decide +kernel
theorem dX6_undo_32 : decode cX6_undo 32 = .ok (.istore_n 1, 1) := by decide +kernel
theorem dX6_undo_33 : decode cX6_undo 33 = .ok (.iload_n 1, 1) := by decide +kernel
theorem dX6_undo_34 : decode cX6_undo 34 = .ok (.bipush 20, 2) := by decide +kernel
theorem dX6_undo_36 : decode cX6_undo 36 = .ok (.if_icmp .ge 54, 3) := by decide +kernel
theorem dX6_undo_39 : decode cX6_undo 39 = .ok (.aload_n 0, 1) := by decide +kernel
theorem dX6_undo_40 : decode cX6_undo 40 = .ok (.getfield 26, 3) := by decide +kernel
theorem dX6_undo_43 : decode cX6_undo 43 = .ok (.iload_n 1, 1) := by decide +kernel
theorem dX6_undo_44 : decode cX6_undo 44 = .ok (.aload_n 0, 1) := by decide +kernel
theorem dX6_undo_45 : decode cX6_undo 45 = .ok (.getfield 47, 3) := by decide +kernel
theorem dX6_undo_48 : decode cX6_undo 48 = .ok (.aload_n 0, 1) := by decide +kernel
theorem dX6_undo_49 : decode cX6_undo 49 = .ok (.getfield 88, 3) := by decide +kernel
theorem dX6_undo_52 : decode cX6_undo 52 = .ok (.iaload, 1) := by decide +kernel
theorem dX6_undo_53 : decode cX6_undo 53 = .ok (.iload_n 1, 1) := by decide +kernel
theorem dX6_undo_54 : decode cX6_undo 54 = .ok (.invokestatic 108, 3) := by decide +kernel
theorem dX6_undo_57 : decode cX6_undo 57 = .ok (.ifCond .eq 20, 3) := by decide +kernel
theorem dX6_undo_60 : decode cX6_undo 60 = .ok (.aload_n 0, 1) := by decide +kernel
theorem dX6_undo_61 : decode cX6_undo 61 = .ok (.getfield 50, 3) := by decide +kernel
theorem dX6_undo_64 : decode cX6_undo 64 = .ok (.bipush 20, 2) := by decide +kernel
theorem dX6_undo_66 : decode cX6_undo 66 = .ok (.aload_n 0, 1) := by decide +kernel
theorem dX6_undo_67 : decode cX6_undo 67 = .ok (.getfield 88, 3) := by decide +kernel
theorem dX6_undo_70 : decode cX6_undo 70 = .ok (.imul, 1) := by decide +kernel
theorem dX6_undo_71 : decode cX6_undo 71 = .ok (.iload_n 1, 1) := by decide +kernel
theorem dX6_undo_72 : decode cX6_undo 72 = .ok (.iadd, 1) := by decide +kernel
theorem dX6_undo_73 : decode cX6_undo 73 = .ok (.iaload, 1) := by decide +kernel
theorem dX6_undo_74 : decode cX6_undo 74 = .ok (.goto 9, 3) := by decide +kernel
theorem dX6_undo_77 : decode cX6_undo 77 = .ok (.aload_n 0, 1) := by decide +kernel
theorem dX6_undo_78 : decode cX6_undo 78 = .ok (.getfield 26, 3) := by decide +kernel
theorem dX6_undo_81 : decode cX6_undo 81 = .ok (.iload_n 1, 1) := by decide +kernel
theorem dX6_undo_82 : decode cX6_undo 82 = .ok (.iaload, 1) := by decide +kernel
theorem dX6_undo_83 : decode cX6_undo 83 = .ok (.iastore, 1) := by decide +kernel
theorem dX6_undo_84 : decode cX6_undo 84 = .ok (.iinc 1 1, 3) := by decide +kernel
theorem dX6_undo_87 : decode cX6_undo 87 = .ok (.goto (-54), 3) := by decide +kernel
theorem dX6_undo_90 : decode cX6_undo 90 = .ok (.aload_n 0, 1) := by decide +kernel
theorem dX6_undo_91 : decode cX6_undo 91 = .ok (.getfield 47, 3) := by decide +kernel
theorem dX6_undo_94 : decode cX6_undo 94 = .ok (.aload_n 0, 1) := by decide +kernel
theorem dX6_undo_95 : decode cX6_undo 95 = .ok (.getfield 88, 3) := by decide +kernel
theorem dX6_undo_98 : decode cX6_undo 98 = .ok (.iaload, 1) := by decide +kernel
theorem dX6_undo_99 : decode cX6_undo 99 = .ok (.invokestatic 122, 3) := by decide +kernel
theorem dX6_undo_102 : decode cX6_undo 102 = .ok (.ireturn, 1) := by decide +kernel
theorem dX6_kept_0 : decode cX6_kept 0 = .ok (.aload_n 0, 1) := by decide +kernel
theorem dX6_kept_1 : decode cX6_kept 1 = .ok (.iconst 0, 1) := by decide +kernel
theorem dX6_kept_2 : decode cX6_kept 2 = .ok (.putfield 53, 3) := by decide +kernel
theorem dX6_kept_5 : decode cX6_kept 5 = .ok (.aload_n 0, 1) := by decide +kernel
theorem dX6_kept_6 : decode cX6_kept 6 = .ok (.getfield 88, 3) := by decide +kernel
theorem dX6_kept_9 : decode cX6_kept 9 = .ok (.ireturn, 1) := by decide +kernel
theorem dX6_hand_0 : decode cX6_hand 0 = .ok (.aload_n 0, 1) := by decide +kernel
theorem dX6_hand_1 : decode cX6_hand 1 = .ok (.aload_n 0, 1) := by decide +kernel
theorem dX6_hand_2 : decode cX6_hand 2 = .ok (.iload_n 1, 1) := by decide +kernel
theorem dX6_hand_3 : decode cX6_hand 3 = .ok (.invokevirtual 98, 3) := by decide +kernel
theorem dX6_hand_6 : decode cX6_hand 6 = .ok (.ifCond .eq 7, 3) := by decide +kernel
theorem dX6_hand_9 : decode cX6_hand 9 = .ok (.iconst 0, 1) := by decide +kernel
theorem dX6_hand_10 : decode cX6_hand 10 = .ok (.goto 4, 3) := by decide +kernel
theorem dX6_hand_13 : decode cX6_hand 13 = .ok (.iconst 1, 1) := by decide +kernel
theorem dX6_hand_14 : decode cX6_hand 14 = .ok (.invokevirtual 78, 3) := by decide +kernel
theorem dX6_hand_17 : decode cX6_hand 17 = .ok (.ifCond .eq 12, 3) := by decide +kernel
theorem dX6_hand_20 : decode cX6_hand 20 = .ok (.aload_n 0, 1) := by decide +kernel
theorem dX6_hand_21 : decode cX6_hand 21 = .ok (.getfield 26, 3) := by decide +kernel
theorem dX6_hand_24 : decode cX6_hand 24 = .ok (.iload_n 1, 1) := by decide +kernel
theorem dX6_hand_25 : decode cX6_hand 25 = .ok (.iaload, 1) := by decide +kernel
theorem dX6_hand_26 : decode cX6_hand 26 = .ok (.goto 4, 3) := by decide +kernel
theorem dX6_hand_29 : decode cX6_hand 29 = .ok (.iconst 0, 1) := by decide +kernel
theorem dX6_hand_30 : decode cX6_hand 30 = .ok (.ireturn, 1) := by decide +kernel
theorem dX6_endOf_0 : decode cX6_endOf 0 = .ok (.iload_n 1, 1) := by decide +kernel
theorem dX6_endOf_1 : decode cX6_endOf 1 = .ok (.istore_n 2, 1) := by decide +kernel
theorem dX6_endOf_2 : decode cX6_endOf 2 = .ok (.aload_n 0, 1) := by decide +kernel
theorem dX6_endOf_3 : decode cX6_endOf 3 = .ok (.getfield 20, 3) := by decide +kernel
theorem dX6_endOf_6 : decode cX6_endOf 6 = .ok (.iload_n 2, 1) := by decide +kernel
theorem dX6_endOf_7 : decode cX6_endOf 7 = .ok (.iaload, 1) := by decide +kernel
theorem dX6_endOf_8 : decode cX6_endOf 8 = .ok (.iconst (-1), 1) := by decide +kernel
theorem dX6_endOf_9 : decode cX6_endOf 9 = .ok (.if_icmp .eq 13, 3) := by decide +kernel
theorem dX6_endOf_12 : decode cX6_endOf 12 = .ok (.aload_n 0, 1) := by decide +kernel
theorem dX6_endOf_13 : decode cX6_endOf 13 = .ok (.getfield 20, 3) := by decide +kernel
theorem dX6_endOf_16 : decode cX6_endOf 16 = .ok (.iload_n 2, 1) := by decide +kernel
theorem dX6_endOf_17 : decode cX6_endOf 17 = .ok (.iaload, 1) := by decide +kernel
theorem dX6_endOf_18 : decode cX6_endOf 18 = .ok (.istore_n 2, 1) := by decide +kernel
theorem dX6_endOf_19 : decode cX6_endOf 19 = .ok (.goto (-17), 3) := by decide +kernel
theorem dX6_endOf_22 : decode cX6_endOf 22 = .ok (.iload_n 2, 1) := by decide +kernel
theorem dX6_endOf_23 : decode cX6_endOf 23 = .ok (.ireturn, 1) := by decide +kernel
theorem dX6_endsOf_0 : decode cX6_endsOf 0 = .ok (.iconst 0, 1) := by decide +kernel
theorem dX6_endsOf_1 : decode cX6_endsOf 1 = .ok (.istore_n 2, 1) := by decide +kernel
theorem dX6_endsOf_2 : decode cX6_endsOf 2 = .ok (.iconst 0, 1) := by decide +kernel
theorem dX6_endsOf_3 : decode cX6_endsOf 3 = .ok (.istore_n 3, 1) := by decide +kernel
theorem dX6_endsOf_4 : decode cX6_endsOf 4 = .ok (.iload_n 3, 1) := by decide +kernel
theorem dX6_endsOf_5 : decode cX6_endsOf 5 = .ok (.aload_n 0, 1) := by decide +kernel
theorem dX6_endsOf_6 : decode cX6_endsOf 6 = .ok (.getfield 57, 3) := by decide +kernel
theorem dX6_endsOf_9 : decode cX6_endsOf 9 = .ok (.if_icmp .ge 31, 3) := by decide +kernel
theorem dX6_endsOf_12 : decode cX6_endsOf 12 = .ok (.iload_n 2, 1) := by decide +kernel
theorem dX6_endsOf_13 : decode cX6_endsOf 13 = .ok (.iload_n 1, 1) := by decide +kernel
theorem dX6_endsOf_14 : decode cX6_endsOf 14 = .ok (.iload_n 3, 1) := by decide +kernel
theorem dX6_endsOf_15 : decode cX6_endsOf 15 = .ok (.invokestatic 108, 3) := by decide +kernel
theorem dX6_endsOf_18 : decode cX6_endsOf 18 = .ok (.ifCond .eq 13, 3) := by decide +kernel
theorem dX6_endsOf_21 : decode cX6_endsOf 21 = .ok (.iconst 1, 1) := by decide +kernel
theorem dX6_endsOf_22 : decode cX6_endsOf 22 = .ok (.aload_n 0, 1) := by decide +kernel
theorem dX6_endsOf_23 : decode cX6_endsOf 23 = .ok (.iload_n 3, 1) := by decide +kernel
theorem dX6_endsOf_24 : decode cX6_endsOf 24 = .ok (.invokevirtual 115, 3) := by decide +kernel
theorem dX6_endsOf_27 : decode cX6_endsOf 27 = .ok (.ishl, 1) := by decide +kernel
theorem dX6_endsOf_28 : decode cX6_endsOf 28 = .ok (.goto 4, 3) := by decide +kernel
theorem dX6_endsOf_31 : decode cX6_endsOf 31 = .ok (.iconst 0, 1) := by decide +kernel
theorem dX6_endsOf_32 : decode cX6_endsOf 32 = .ok (.ior, 1) := by decide +kernel
theorem dX6_endsOf_33 : decode cX6_endsOf 33 = .ok (.istore_n 2, 1) := by decide +kernel
theorem dX6_endsOf_34 : decode cX6_endsOf 34 = .ok (.iinc 3 1, 3) := by decide +kernel
theorem dX6_endsOf_37 : decode cX6_endsOf 37 = .ok (.goto (-33), 3) := by decide +kernel
theorem dX6_endsOf_40 : decode cX6_endsOf 40 = .ok (.iload_n 2, 1) := by decide +kernel
theorem dX6_endsOf_41 : decode cX6_endsOf 41 = .ok (.ireturn, 1) := by decide +kernel
theorem dX6_onward_0 : decode cX6_onward 0 = .ok (.iconst 0, 1) := by decide +kernel
theorem dX6_onward_1 : decode cX6_onward 1 = .ok (.istore_n 2, 1) := by decide +kernel
theorem dX6_onward_2 : decode cX6_onward 2 = .ok (.iconst 0, 1) := by decide +kernel
theorem dX6_onward_3 : decode cX6_onward 3 = .ok (.istore_n 3, 1) := by decide +kernel
theorem dX6_onward_4 : decode cX6_onward 4 = .ok (.iload_n 3, 1) := by decide +kernel
theorem dX6_onward_5 : decode cX6_onward 5 = .ok (.aload_n 0, 1) := by decide +kernel
theorem dX6_onward_6 : decode cX6_onward 6 = .ok (.getfield 57, 3) := by decide +kernel
theorem dX6_onward_9 : decode cX6_onward 9 = .ok (.if_icmp .ge 38, 3) := by decide +kernel
theorem dX6_onward_12 : decode cX6_onward 12 = .ok (.iload_n 2, 1) := by decide +kernel
theorem dX6_onward_13 : decode cX6_onward 13 = .ok (.iload_n 1, 1) := by decide +kernel
theorem dX6_onward_14 : decode cX6_onward 14 = .ok (.aload_n 0, 1) := by decide +kernel
theorem dX6_onward_15 : decode cX6_onward 15 = .ok (.iload_n 3, 1) := by decide +kernel
theorem dX6_onward_16 : decode cX6_onward 16 = .ok (.invokevirtual 115, 3) := by decide +kernel
theorem dX6_onward_19 : decode cX6_onward 19 = .ok (.invokestatic 108, 3) := by decide +kernel
theorem dX6_onward_22 : decode cX6_onward 22 = .ok (.ifCond .eq 16, 3) := by decide +kernel
theorem dX6_onward_25 : decode cX6_onward 25 = .ok (.aload_n 0, 1) := by decide +kernel
theorem dX6_onward_26 : decode cX6_onward 26 = .ok (.aload_n 0, 1) := by decide +kernel
theorem dX6_onward_27 : decode cX6_onward 27 = .ok (.getfield 23, 3) := by decide +kernel
theorem dX6_onward_30 : decode cX6_onward 30 = .ok (.iload_n 3, 1) := by decide +kernel
theorem dX6_onward_31 : decode cX6_onward 31 = .ok (.iaload, 1) := by decide +kernel
theorem dX6_onward_32 : decode cX6_onward 32 = .ok (.invokevirtual 125, 3) := by decide +kernel
theorem dX6_onward_35 : decode cX6_onward 35 = .ok (.goto 4, 3) := by decide +kernel
theorem dX6_onward_38 : decode cX6_onward 38 = .ok (.iconst 0, 1) := by decide +kernel
theorem dX6_onward_39 : decode cX6_onward 39 = .ok (.ior, 1) := by decide +kernel
theorem dX6_onward_40 : decode cX6_onward 40 = .ok (.istore_n 2, 1) := by decide +kernel
theorem dX6_onward_41 : decode cX6_onward 41 = .ok (.iinc 3 1, 3) := by decide +kernel
theorem dX6_onward_44 : decode cX6_onward 44 = .ok (.goto (-40), 3) := by decide +kernel
theorem dX6_onward_47 : decode cX6_onward 47 = .ok (.iload_n 2, 1) := by decide +kernel
theorem dX6_onward_48 : decode cX6_onward 48 = .ok (.ireturn, 1) := by decide +kernel
theorem dX6_closed_0 : decode cX6_closed 0 = .ok (.iload_n 1, 1) := by decide +kernel
theorem dX6_closed_1 : decode cX6_closed 1 = .ok (.istore_n 2, 1) := by decide +kernel
theorem dX6_closed_2 : decode cX6_closed 2 = .ok (.iconst 0, 1) := by decide +kernel
theorem dX6_closed_3 : decode cX6_closed 3 = .ok (.istore_n 3, 1) := by decide +kernel
theorem dX6_closed_4 : decode cX6_closed 4 = .ok (.iload_n 2, 1) := by decide +kernel
theorem dX6_closed_5 : decode cX6_closed 5 = .ok (.iload_n 3, 1) := by decide +kernel
theorem dX6_closed_6 : decode cX6_closed 6 = .ok (.if_icmp .eq 16, 3) := by decide +kernel
theorem dX6_closed_9 : decode cX6_closed 9 = .ok (.iload_n 2, 1) := by decide +kernel
theorem dX6_closed_10 : decode cX6_closed 10 = .ok (.istore_n 3, 1) := by decide +kernel
theorem dX6_closed_11 : decode cX6_closed 11 = .ok (.iload_n 2, 1) := by decide +kernel
theorem dX6_closed_12 : decode cX6_closed 12 = .ok (.aload_n 0, 1) := by decide +kernel
theorem dX6_closed_13 : decode cX6_closed 13 = .ok (.iload_n 2, 1) := by decide +kernel
theorem dX6_closed_14 : decode cX6_closed 14 = .ok (.invokevirtual 128, 3) := by decide +kernel
theorem dX6_closed_17 : decode cX6_closed 17 = .ok (.ior, 1) := by decide +kernel
theorem dX6_closed_18 : decode cX6_closed 18 = .ok (.istore_n 2, 1) := by decide +kernel
theorem dX6_closed_19 : decode cX6_closed 19 = .ok (.goto (-15), 3) := by decide +kernel
theorem dX6_closed_22 : decode cX6_closed 22 = .ok (.iload_n 2, 1) := by decide +kernel
theorem dX6_closed_23 : decode cX6_closed 23 = .ok (.ireturn, 1) := by decide +kernel
theorem dX6_hasCircle_0 : decode cX6_hasCircle 0 = .ok (.iconst 0, 1) := by decide +kernel
theorem dX6_hasCircle_1 : decode cX6_hasCircle 1 = .ok (.istore_n 1, 1) := by decide +kernel
theorem dX6_hasCircle_2 : decode cX6_hasCircle 2 = .ok (.iload_n 1, 1) := by decide +kernel
theorem dX6_hasCircle_3 : decode cX6_hasCircle 3 = .ok (.aload_n 0, 1) := by decide +kernel
theorem dX6_hasCircle_4 : decode cX6_hasCircle 4 = .ok (.getfield 57, 3) := by decide +kernel
theorem dX6_hasCircle_7 : decode cX6_hasCircle 7 = .ok (.if_icmp .ge 39, 3) := by decide +kernel
theorem dX6_hasCircle_10 : decode cX6_hasCircle 10 = .ok (.aload_n 0, 1) := by decide +kernel
theorem dX6_hasCircle_11 : decode cX6_hasCircle 11 = .ok (.getfield 20, 3) := by decide +kernel
theorem dX6_hasCircle_14 : decode cX6_hasCircle 14 = .ok (.iload_n 1, 1) := by decide +kernel
theorem dX6_hasCircle_15 : decode cX6_hasCircle 15 = .ok (.iaload, 1) := by decide +kernel
theorem dX6_hasCircle_16 : decode cX6_hasCircle 16 = .ok (.iconst (-1), 1) := by decide +kernel
theorem dX6_hasCircle_17 : decode cX6_hasCircle 17 = .ok (.if_icmp .ne 23, 3) := by decide +kernel
theorem dX6_hasCircle_20 : decode cX6_hasCircle 20 = .ok (.aload_n 0, 1) := by decide +kernel
theorem dX6_hasCircle_21 : decode cX6_hasCircle 21 = .ok (.aload_n 0, 1) := by decide +kernel
theorem dX6_hasCircle_22 : decode cX6_hasCircle 22 = .ok (.iconst 1, 1) := by decide +kernel
theorem dX6_hasCircle_23 : decode cX6_hasCircle 23 = .ok (.iload_n 1, 1) := by decide +kernel
theorem dX6_hasCircle_24 : decode cX6_hasCircle 24 = .ok (.ishl, 1) := by decide +kernel
theorem dX6_hasCircle_25 : decode cX6_hasCircle 25 = .ok (.invokevirtual 128, 3) := by decide +kernel
theorem dX6_hasCircle_28 : decode cX6_hasCircle 28 = .ok (.invokevirtual 131, 3) := by decide +kernel
theorem dX6_hasCircle_31 : decode cX6_hasCircle 31 = .ok (.iload_n 1, 1) := by decide +kernel
theorem dX6_hasCircle_32 : decode cX6_hasCircle 32 = .ok (.invokestatic 108, 3) := by decide +kernel
theorem dX6_hasCircle_35 : decode cX6_hasCircle 35 = .ok (.ifCond .eq 5, 3) := by decide +kernel
theorem dX6_hasCircle_38 : decode cX6_hasCircle 38 = .ok (.iconst 1, 1) := by decide +kernel
theorem dX6_hasCircle_39 : decode cX6_hasCircle 39 = .ok (.ireturn, 1) := by decide +kernel
theorem dX6_hasCircle_40 : decode cX6_hasCircle 40 = .ok (.iinc 1 1, 3) := by decide +kernel
theorem dX6_hasCircle_43 : decode cX6_hasCircle 43 = .ok (.goto (-41), 3) := by decide +kernel
theorem dX6_hasCircle_46 : decode cX6_hasCircle 46 = .ok (.iconst 0, 1) := by decide +kernel
theorem dX6_hasCircle_47 : decode cX6_hasCircle 47 = .ok (.ireturn, 1) := by decide +kernel
theorem dX6_does_0 : decode cX6_does 0 = .ok (.aload_n 0, 1) := by decide +kernel
theorem dX6_does_1 : decode cX6_does 1 = .ok (.getfield 20, 3) := by decide +kernel
theorem dX6_does_4 : decode cX6_does 4 = .ok (.iload_n 2, 1) := by decide +kernel
theorem dX6_does_5 : decode cX6_does 5 = .ok (.iload_n 1, 1) := by decide +kernel
theorem dX6_does_6 : decode cX6_does 6 = .ok (.ifCond .ne 7, 3) := by decide +kernel
theorem dX6_does_9 : decode cX6_does 9 = .ok (.iload_n 3, 1) := by decide +kernel
theorem dX6_does_10 : decode cX6_does 10 = .ok (.goto 18, 3) := by decide +kernel
theorem dX6_does_13 : decode cX6_does 13 = .ok (.iload_n 1, 1) := by decide +kernel
theorem dX6_does_14 : decode cX6_does 14 = .ok (.iconst 2, 1) := by decide +kernel
theorem dX6_does_15 : decode cX6_does 15 = .ok (.if_icmp .ne 7, 3) := by decide +kernel
theorem dX6_does_18 : decode cX6_does 18 = .ok (.iconst (-1), 1) := by decide +kernel
theorem dX6_does_19 : decode cX6_does 19 = .ok (.goto 9, 3) := by decide +kernel
theorem dX6_does_22 : decode cX6_does 22 = .ok (.aload_n 0, 1) := by decide +kernel
theorem dX6_does_23 : decode cX6_does 23 = .ok (.getfield 20, 3) := by decide +kernel
theorem dX6_does_26 : decode cX6_does 26 = .ok (.iload_n 2, 1) := by decide +kernel
theorem dX6_does_27 : decode cX6_does 27 = .ok (.iaload, 1) := by decide +kernel
theorem dX6_does_28 : decode cX6_does 28 = .ok (.iastore, 1) := by decide +kernel
theorem dX6_does_29 : decode cX6_does 29 = .ok (.aload_n 0, 1) := by decide +kernel
theorem dX6_does_30 : decode cX6_does 30 = .ok (.getfield 23, 3) := by decide +kernel
theorem dX6_does_33 : decode cX6_does 33 = .ok (.iload_n 2, 1) := by decide +kernel
theorem dX6_does_34 : decode cX6_does 34 = .ok (.iload_n 1, 1) := by decide +kernel
theorem dX6_does_35 : decode cX6_does 35 = .ok (.iconst 1, 1) := by decide +kernel
theorem dX6_does_36 : decode cX6_does 36 = .ok (.if_icmp .ne 16, 3) := by decide +kernel
theorem dX6_does_39 : decode cX6_does 39 = .ok (.aload_n 0, 1) := by decide +kernel
theorem dX6_does_40 : decode cX6_does 40 = .ok (.getfield 23, 3) := by decide +kernel
theorem dX6_does_43 : decode cX6_does 43 = .ok (.iload_n 2, 1) := by decide +kernel
theorem dX6_does_44 : decode cX6_does 44 = .ok (.iaload, 1) := by decide +kernel
theorem dX6_does_45 : decode cX6_does 45 = .ok (.iconst 1, 1) := by decide +kernel
theorem dX6_does_46 : decode cX6_does 46 = .ok (.iload_n 3, 1) := by decide +kernel
theorem dX6_does_47 : decode cX6_does 47 = .ok (.ishl, 1) := by decide +kernel
theorem dX6_does_48 : decode cX6_does 48 = .ok (.ior, 1) := by decide +kernel
theorem dX6_does_49 : decode cX6_does 49 = .ok (.goto 29, 3) := by decide +kernel
theorem dX6_does_52 : decode cX6_does 52 = .ok (.iload_n 1, 1) := by decide +kernel
theorem dX6_does_53 : decode cX6_does 53 = .ok (.iconst 3, 1) := by decide +kernel
theorem dX6_does_54 : decode cX6_does 54 = .ok (.if_icmp .ne 18, 3) := by decide +kernel
theorem dX6_does_57 : decode cX6_does 57 = .ok (.aload_n 0, 1) := by decide +kernel
theorem dX6_does_58 : decode cX6_does 58 = .ok (.getfield 23, 3) := by decide +kernel
theorem dX6_does_61 : decode cX6_does 61 = .ok (.iload_n 2, 1) := by decide +kernel
theorem dX6_does_62 : decode cX6_does 62 = .ok (.iaload, 1) := by decide +kernel
theorem dX6_does_63 : decode cX6_does 63 = .ok (.iconst 1, 1) := by decide +kernel
theorem dX6_does_64 : decode cX6_does 64 = .ok (.iload_n 3, 1) := by decide +kernel
theorem dX6_does_65 : decode cX6_does 65 = .ok (.ishl, 1) := by decide +kernel
theorem dX6_does_66 : decode cX6_does 66 = .ok (.iconst (-1), 1) := by decide +kernel
theorem dX6_does_67 : decode cX6_does 67 = .ok (.ixor, 1) := by decide +kernel
theorem dX6_does_68 : decode cX6_does 68 = .ok (.iand, 1) := by decide +kernel
theorem dX6_does_69 : decode cX6_does 69 = .ok (.goto 9, 3) := by decide +kernel
theorem dX6_does_72 : decode cX6_does 72 = .ok (.aload_n 0, 1) := by decide +kernel
theorem dX6_does_73 : decode cX6_does 73 = .ok (.getfield 23, 3) := by decide +kernel
theorem dX6_does_76 : decode cX6_does 76 = .ok (.iload_n 2, 1) := by decide +kernel
theorem dX6_does_77 : decode cX6_does 77 = .ok (.iaload, 1) := by decide +kernel
theorem dX6_does_78 : decode cX6_does 78 = .ok (.iastore, 1) := by decide +kernel
theorem dX6_does_79 : decode cX6_does 79 = .ok (.return_, 1) := by decide +kernel
theorem dX6_may_0 : decode cX6_may 0 = .ok (.iload_n 1, 1) := by decide +kernel
theorem dX6_may_1 : decode cX6_may 1 = .ok (.iconst 2, 1) := by decide +kernel
theorem dX6_may_2 : decode cX6_may 2 = .ok (.if_icmp .ne 19, 3) := by decide +kernel
theorem dX6_may_5 : decode cX6_may 5 = .ok (.aload_n 0, 1) := by decide +kernel
theorem dX6_may_6 : decode cX6_may 6 = .ok (.getfield 20, 3) := by decide +kernel
theorem dX6_may_9 : decode cX6_may 9 = .ok (.iload_n 2, 1) := by decide +kernel
theorem dX6_may_10 : decode cX6_may 10 = .ok (.iaload, 1) := by decide +kernel
theorem dX6_may_11 : decode cX6_may 11 = .ok (.iload_n 3, 1) := by decide +kernel
theorem dX6_may_12 : decode cX6_may 12 = .ok (.if_icmp .ne 7, 3) := by decide +kernel
theorem dX6_may_15 : decode cX6_may 15 = .ok (.iconst 1, 1) := by decide +kernel
theorem dX6_may_16 : decode cX6_may 16 = .ok (.goto 4, 3) := by decide +kernel
theorem dX6_may_19 : decode cX6_may 19 = .ok (.iconst 0, 1) := by decide +kernel
theorem dX6_may_20 : decode cX6_may 20 = .ok (.ireturn, 1) := by decide +kernel
theorem dX6_may_21 : decode cX6_may 21 = .ok (.iload_n 1, 1) := by decide +kernel
theorem dX6_may_22 : decode cX6_may 22 = .ok (.iconst 3, 1) := by decide +kernel
theorem dX6_may_23 : decode cX6_may 23 = .ok (.if_icmp .ne 14, 3) := by decide +kernel
theorem dX6_may_26 : decode cX6_may 26 = .ok (.aload_n 0, 1) := by decide +kernel
theorem dX6_may_27 : decode cX6_may 27 = .ok (.getfield 23, 3) := by decide +kernel
theorem dX6_may_30 : decode cX6_may 30 = .ok (.iload_n 2, 1) := by decide +kernel
theorem dX6_may_31 : decode cX6_may 31 = .ok (.iaload, 1) := by decide +kernel
theorem dX6_may_32 : decode cX6_may 32 = .ok (.iload_n 3, 1) := by decide +kernel
theorem dX6_may_33 : decode cX6_may 33 = .ok (.invokestatic 108, 3) := by decide +kernel
theorem dX6_may_36 : decode cX6_may 36 = .ok (.ireturn, 1) := by decide +kernel
theorem dX6_may_37 : decode cX6_may 37 = .ok (.iload_n 1, 1) := by decide +kernel
theorem dX6_may_38 : decode cX6_may 38 = .ok (.ifCond .ne 25, 3) := by decide +kernel
theorem dX6_may_41 : decode cX6_may 41 = .ok (.aload_n 0, 1) := by decide +kernel
theorem dX6_may_42 : decode cX6_may 42 = .ok (.getfield 20, 3) := by decide +kernel
theorem dX6_may_45 : decode cX6_may 45 = .ok (.iload_n 2, 1) := by decide +kernel
theorem dX6_may_46 : decode cX6_may 46 = .ok (.iaload, 1) := by decide +kernel
theorem dX6_may_47 : decode cX6_may 47 = .ok (.iconst (-1), 1) := by decide +kernel
theorem dX6_may_48 : decode cX6_may 48 = .ok (.if_icmp .ne 28, 3) := by decide +kernel
theorem dX6_may_51 : decode cX6_may 51 = .ok (.aload_n 0, 1) := by decide +kernel
theorem dX6_may_52 : decode cX6_may 52 = .ok (.iload_n 3, 1) := by decide +kernel
theorem dX6_may_53 : decode cX6_may 53 = .ok (.invokevirtual 115, 3) := by decide +kernel
theorem dX6_may_56 : decode cX6_may 56 = .ok (.iload_n 2, 1) := by decide +kernel
theorem dX6_may_57 : decode cX6_may 57 = .ok (.if_icmp .ne 21, 3) := by decide +kernel
theorem dX6_may_60 : decode cX6_may 60 = .ok (.goto 16, 3) := by decide +kernel
theorem dX6_may_63 : decode cX6_may 63 = .ok (.aload_n 0, 1) := by decide +kernel
theorem dX6_may_64 : decode cX6_may 64 = .ok (.getfield 23, 3) := by decide +kernel
theorem dX6_may_67 : decode cX6_may 67 = .ok (.iload_n 2, 1) := by decide +kernel
theorem dX6_may_68 : decode cX6_may 68 = .ok (.iaload, 1) := by decide +kernel
theorem dX6_may_69 : decode cX6_may 69 = .ok (.iload_n 3, 1) := by decide +kernel
theorem dX6_may_70 : decode cX6_may 70 = .ok (.invokestatic 108, 3) := by decide +kernel
theorem dX6_may_73 : decode cX6_may 73 = .ok (.ifCond .eq 5, 3) := by decide +kernel
theorem dX6_may_76 : decode cX6_may 76 = .ok (.iconst 0, 1) := by decide +kernel
theorem dX6_may_77 : decode cX6_may 77 = .ok (.ireturn, 1) := by decide +kernel
theorem dX6_may_78 : decode cX6_may 78 = .ok (.aload_n 0, 1) := by decide +kernel
theorem dX6_may_79 : decode cX6_may 79 = .ok (.iload_n 1, 1) := by decide +kernel
theorem dX6_may_80 : decode cX6_may 80 = .ok (.iload_n 2, 1) := by decide +kernel
theorem dX6_may_81 : decode cX6_may 81 = .ok (.iload_n 3, 1) := by decide +kernel
theorem dX6_may_82 : decode cX6_may 82 = .ok (.invokevirtual 134, 3) := by decide +kernel
theorem dX6_may_85 : decode cX6_may 85 = .ok (.aload_n 0, 1) := by decide +kernel
theorem dX6_may_86 : decode cX6_may 86 = .ok (.invokevirtual 138, 3) := by decide +kernel
theorem dX6_may_89 : decode cX6_may 89 = .ok (.ifCond .ne 7, 3) := by decide +kernel
theorem dX6_may_92 : decode cX6_may 92 = .ok (.iconst 1, 1) := by decide +kernel
theorem dX6_may_93 : decode cX6_may 93 = .ok (.goto 4, 3) := by decide +kernel
theorem dX6_may_96 : decode cX6_may 96 = .ok (.iconst 0, 1) := by decide +kernel
theorem dX6_may_97 : decode cX6_may 97 = .ok (.istore 4, 2) := by decide +kernel
theorem dX6_may_99 : decode cX6_may 99 = .ok (.aload_n 0, 1) := by decide +kernel
theorem dX6_may_100 : decode cX6_may 100 = .ok (.iload_n 1, 1) := by decide +kernel
theorem dX6_may_101 : decode cX6_may 101 = .ok (.iconst 2, 1) := by decide +kernel
theorem dX6_may_102 : decode cX6_may 102 = .ok (.iadd, 1) := by decide +kernel
theorem dX6_may_103 : decode cX6_may 103 = .ok (.iload_n 2, 1) := by decide +kernel
theorem dX6_may_104 : decode cX6_may 104 = .ok (.iload_n 3, 1) := by decide +kernel
theorem dX6_may_105 : decode cX6_may 105 = .ok (.invokevirtual 134, 3) := by decide +kernel
theorem dX6_may_108 : decode cX6_may 108 = .ok (.iload 4, 2) := by decide +kernel
theorem dX6_may_110 : decode cX6_may 110 = .ok (.ireturn, 1) := by decide +kernel
theorem dX6_ask_0 : decode cX6_ask 0 = .ok (.aload_n 0, 1) := by decide +kernel
theorem dX6_ask_1 : decode cX6_ask 1 = .ok (.iload_n 2, 1) := by decide +kernel
theorem dX6_ask_2 : decode cX6_ask 2 = .ok (.invokevirtual 85, 3) := by decide +kernel
theorem dX6_ask_5 : decode cX6_ask 5 = .ok (.ifCond .eq 15, 3) := by decide +kernel
theorem dX6_ask_8 : decode cX6_ask 8 = .ok (.aload_n 0, 1) := by decide +kernel
theorem dX6_ask_9 : decode cX6_ask 9 = .ok (.iload_n 3, 1) := by decide +kernel
theorem dX6_ask_10 : decode cX6_ask 10 = .ok (.invokevirtual 85, 3) := by decide +kernel
theorem dX6_ask_13 : decode cX6_ask 13 = .ok (.ifCond .eq 7, 3) := by decide +kernel
theorem dX6_ask_16 : decode cX6_ask 16 = .ok (.iconst 1, 1) := by decide +kernel
theorem dX6_ask_17 : decode cX6_ask 17 = .ok (.goto 4, 3) := by decide +kernel
theorem dX6_ask_20 : decode cX6_ask 20 = .ok (.iconst 0, 1) := by decide +kernel
theorem dX6_ask_21 : decode cX6_ask 21 = .ok (.istore 4, 2) := by decide +kernel
theorem dX6_ask_23 : decode cX6_ask 23 = .ok (.aload_n 0, 1) := by decide +kernel
theorem dX6_ask_24 : decode cX6_ask 24 = .ok (.iload 4, 2) := by decide +kernel
theorem dX6_ask_26 : decode cX6_ask 26 = .ok (.ifCond .ne 7, 3) := by decide +kernel
theorem dX6_ask_29 : decode cX6_ask 29 = .ok (.iconst 1, 1) := by decide +kernel
theorem dX6_ask_30 : decode cX6_ask 30 = .ok (.goto 35, 3) := by decide +kernel
theorem dX6_ask_33 : decode cX6_ask 33 = .ok (.iload_n 1, 1) := by decide +kernel
theorem dX6_ask_34 : decode cX6_ask 34 = .ok (.iconst 0, 1) := by decide +kernel
theorem dX6_ask_35 : decode cX6_ask 35 = .ok (.iconst 3, 1) := by decide +kernel
theorem dX6_ask_36 : decode cX6_ask 36 = .ok (.invokestatic 60, 3) := by decide +kernel
theorem dX6_ask_39 : decode cX6_ask 39 = .ok (.ifCond .eq 8, 3) := by decide +kernel
theorem dX6_ask_42 : decode cX6_ask 42 = .ok (.iload_n 2, 1) := by decide +kernel
theorem dX6_ask_43 : decode cX6_ask 43 = .ok (.iload_n 3, 1) := by decide +kernel
theorem dX6_ask_44 : decode cX6_ask 44 = .ok (.if_icmp .ne 7, 3) := by decide +kernel
theorem dX6_ask_47 : decode cX6_ask 47 = .ok (.iconst 2, 1) := by decide +kernel
theorem dX6_ask_48 : decode cX6_ask 48 = .ok (.goto 17, 3) := by decide +kernel
theorem dX6_ask_51 : decode cX6_ask 51 = .ok (.aload_n 0, 1) := by decide +kernel
theorem dX6_ask_52 : decode cX6_ask 52 = .ok (.getfield 142, 3) := by decide +kernel
theorem dX6_ask_55 : decode cX6_ask 55 = .ok (.bipush 40, 2) := by decide +kernel
theorem dX6_ask_57 : decode cX6_ask 57 = .ok (.if_icmp .ne 7, 3) := by decide +kernel
theorem dX6_ask_60 : decode cX6_ask 60 = .ok (.iconst 3, 1) := by decide +kernel
theorem dX6_ask_61 : decode cX6_ask 61 = .ok (.goto 4, 3) := by decide +kernel
theorem dX6_ask_64 : decode cX6_ask 64 = .ok (.iconst 0, 1) := by decide +kernel
theorem dX6_ask_65 : decode cX6_ask 65 = .ok (.invokevirtual 78, 3) := by decide +kernel
theorem dX6_ask_68 : decode cX6_ask 68 = .ok (.ifCond .ne 5, 3) := by decide +kernel
theorem dX6_ask_71 : decode cX6_ask 71 = .ok (.iconst 0, 1) := by decide +kernel
theorem dX6_ask_72 : decode cX6_ask 72 = .ok (.ireturn, 1) := by decide +kernel
theorem dX6_ask_73 : decode cX6_ask 73 = .ok (.aload_n 0, 1) := by decide +kernel
theorem dX6_ask_74 : decode cX6_ask 74 = .ok (.getfield 29, 3) := by decide +kernel
theorem dX6_ask_77 : decode cX6_ask 77 = .ok (.aload_n 0, 1) := by decide +kernel
theorem dX6_ask_78 : decode cX6_ask 78 = .ok (.getfield 142, 3) := by decide +kernel
theorem dX6_ask_81 : decode cX6_ask 81 = .ok (.iload_n 1, 1) := by decide +kernel
theorem dX6_ask_82 : decode cX6_ask 82 = .ok (.iastore, 1) := by decide +kernel
theorem dX6_ask_83 : decode cX6_ask 83 = .ok (.aload_n 0, 1) := by decide +kernel
theorem dX6_ask_84 : decode cX6_ask 84 = .ok (.getfield 32, 3) := by decide +kernel
theorem dX6_ask_87 : decode cX6_ask 87 = .ok (.aload_n 0, 1) := by decide +kernel
theorem dX6_ask_88 : decode cX6_ask 88 = .ok (.getfield 142, 3) := by decide +kernel
theorem dX6_ask_91 : decode cX6_ask 91 = .ok (.iload_n 2, 1) := by decide +kernel
theorem dX6_ask_92 : decode cX6_ask 92 = .ok (.iastore, 1) := by decide +kernel
theorem dX6_ask_93 : decode cX6_ask 93 = .ok (.aload_n 0, 1) := by decide +kernel
theorem dX6_ask_94 : decode cX6_ask 94 = .ok (.getfield 35, 3) := by decide +kernel
theorem dX6_ask_97 : decode cX6_ask 97 = .ok (.aload_n 0, 1) := by decide +kernel
theorem dX6_ask_98 : decode cX6_ask 98 = .ok (.getfield 142, 3) := by decide +kernel
theorem dX6_ask_101 : decode cX6_ask 101 = .ok (.iload_n 3, 1) := by decide +kernel
theorem dX6_ask_102 : decode cX6_ask 102 = .ok (.iastore, 1) := by decide +kernel
theorem dX6_ask_103 : decode cX6_ask 103 = .ok (.aload_n 0, 1) := by decide +kernel
theorem dX6_ask_104 : decode cX6_ask 104 = .ok (.dup, 1) := by decide +kernel
theorem dX6_ask_105 : decode cX6_ask 105 = .ok (.getfield 142, 3) := by decide +kernel
theorem dX6_ask_108 : decode cX6_ask 108 = .ok (.iconst 1, 1) := by decide +kernel
theorem dX6_ask_109 : decode cX6_ask 109 = .ok (.iadd, 1) := by decide +kernel
theorem dX6_ask_110 : decode cX6_ask 110 = .ok (.putfield 142, 3) := by decide +kernel
theorem dX6_ask_113 : decode cX6_ask 113 = .ok (.aload_n 0, 1) := by decide +kernel
theorem dX6_ask_114 : decode cX6_ask 114 = .ok (.getfield 142, 3) := by decide +kernel
theorem dX6_ask_117 : decode cX6_ask 117 = .ok (.iconst 1, 1) := by decide +kernel
theorem dX6_ask_118 : decode cX6_ask 118 = .ok (.isub, 1) := by decide +kernel
theorem dX6_ask_119 : decode cX6_ask 119 = .ok (.ireturn, 1) := by decide +kernel
theorem dX6_isRequest_0 : decode cX6_isRequest 0 = .ok (.iload_n 1, 1) := by decide +kernel
theorem dX6_isRequest_1 : decode cX6_isRequest 1 = .ok (.iconst 0, 1) := by decide +kernel
theorem dX6_isRequest_2 : decode cX6_isRequest 2 = .ok (.aload_n 0, 1) := by decide +kernel
theorem dX6_isRequest_3 : decode cX6_isRequest 3 = .ok (.getfield 142, 3) := by decide +kernel
theorem dX6_isRequest_6 : decode cX6_isRequest 6 = .ok (.iconst 1, 1) := by decide +kernel
theorem dX6_isRequest_7 : decode cX6_isRequest 7 = .ok (.isub, 1) := by decide +kernel
theorem dX6_isRequest_8 : decode cX6_isRequest 8 = .ok (.invokestatic 60, 3) := by decide +kernel
theorem dX6_isRequest_11 : decode cX6_isRequest 11 = .ok (.ireturn, 1) := by decide +kernel
theorem dX6_could_0 : decode cX6_could 0 = .ok (.aload_n 0, 1) := by decide +kernel
theorem dX6_could_1 : decode cX6_could 1 = .ok (.getfield 44, 3) := by decide +kernel
theorem dX6_could_4 : decode cX6_could 4 = .ok (.iload_n 1, 1) := by decide +kernel
theorem dX6_could_5 : decode cX6_could 5 = .ok (.iaload, 1) := by decide +kernel
theorem dX6_could_6 : decode cX6_could 6 = .ok (.ifCond .ne 32, 3) := by decide +kernel
theorem dX6_could_9 : decode cX6_could 9 = .ok (.aload_n 0, 1) := by decide +kernel
theorem dX6_could_10 : decode cX6_could 10 = .ok (.aload_n 0, 1) := by decide +kernel
theorem dX6_could_11 : decode cX6_could 11 = .ok (.getfield 29, 3) := by decide +kernel
theorem dX6_could_14 : decode cX6_could 14 = .ok (.iload_n 1, 1) := by decide +kernel
theorem dX6_could_15 : decode cX6_could 15 = .ok (.iaload, 1) := by decide +kernel
theorem dX6_could_16 : decode cX6_could 16 = .ok (.aload_n 0, 1) := by decide +kernel
theorem dX6_could_17 : decode cX6_could 17 = .ok (.getfield 32, 3) := by decide +kernel
theorem dX6_could_20 : decode cX6_could 20 = .ok (.iload_n 1, 1) := by decide +kernel
theorem dX6_could_21 : decode cX6_could 21 = .ok (.iaload, 1) := by decide +kernel
theorem dX6_could_22 : decode cX6_could 22 = .ok (.aload_n 0, 1) := by decide +kernel
theorem dX6_could_23 : decode cX6_could 23 = .ok (.getfield 35, 3) := by decide +kernel
theorem dX6_could_26 : decode cX6_could 26 = .ok (.iload_n 1, 1) := by decide +kernel
theorem dX6_could_27 : decode cX6_could 27 = .ok (.iaload, 1) := by decide +kernel
theorem dX6_could_28 : decode cX6_could 28 = .ok (.invokevirtual 145, 3) := by decide +kernel
theorem dX6_could_31 : decode cX6_could 31 = .ok (.ifCond .eq 7, 3) := by decide +kernel
theorem dX6_could_34 : decode cX6_could 34 = .ok (.iconst 1, 1) := by decide +kernel
theorem dX6_could_35 : decode cX6_could 35 = .ok (.goto 4, 3) := by decide +kernel
theorem dX6_could_38 : decode cX6_could 38 = .ok (.iconst 0, 1) := by decide +kernel
theorem dX6_could_39 : decode cX6_could 39 = .ok (.ireturn, 1) := by decide +kernel
theorem dX6_vote_0 : decode cX6_vote 0 = .ok (.aload_n 0, 1) := by decide +kernel
theorem dX6_vote_1 : decode cX6_vote 1 = .ok (.iload_n 1, 1) := by decide +kernel
theorem dX6_vote_2 : decode cX6_vote 2 = .ok (.invokevirtual 148, 3) := by decide +kernel
theorem dX6_vote_5 : decode cX6_vote 5 = .ok (.istore 4, 2) := by decide +kernel
theorem dX6_vote_7 : decode cX6_vote 7 = .ok (.aload_n 0, 1) := by decide +kernel
theorem dX6_vote_8 : decode cX6_vote 8 = .ok (.iload 4, 2) := by decide +kernel
theorem dX6_vote_10 : decode cX6_vote 10 = .ok (.ifCond .ne 7, 3) := by decide +kernel
theorem dX6_vote_13 : decode cX6_vote 13 = .ok (.iconst 1, 1) := by decide +kernel
theorem dX6_vote_14 : decode cX6_vote 14 = .ok (.goto 31, 3) := by decide +kernel
theorem dX6_vote_17 : decode cX6_vote 17 = .ok (.iload_n 2, 1) := by decide +kernel
theorem dX6_vote_18 : decode cX6_vote 18 = .ok (.iconst 0, 1) := by decide +kernel
theorem dX6_vote_19 : decode cX6_vote 19 = .ok (.bipush 9, 2) := by decide +kernel
theorem dX6_vote_21 : decode cX6_vote 21 = .ok (.invokestatic 60, 3) := by decide +kernel
theorem dX6_vote_24 : decode cX6_vote 24 = .ok (.ifCond .ne 7, 3) := by decide +kernel
theorem dX6_vote_27 : decode cX6_vote 27 = .ok (.iconst 2, 1) := by decide +kernel
theorem dX6_vote_28 : decode cX6_vote 28 = .ok (.goto 17, 3) := by decide +kernel
theorem dX6_vote_31 : decode cX6_vote 31 = .ok (.aload_n 0, 1) := by decide +kernel
theorem dX6_vote_32 : decode cX6_vote 32 = .ok (.getfield 44, 3) := by decide +kernel
theorem dX6_vote_35 : decode cX6_vote 35 = .ok (.iload_n 1, 1) := by decide +kernel
theorem dX6_vote_36 : decode cX6_vote 36 = .ok (.iaload, 1) := by decide +kernel
theorem dX6_vote_37 : decode cX6_vote 37 = .ok (.ifCond .ne 7, 3) := by decide +kernel
theorem dX6_vote_40 : decode cX6_vote 40 = .ok (.iconst 0, 1) := by decide +kernel
theorem dX6_vote_41 : decode cX6_vote 41 = .ok (.goto 4, 3) := by decide +kernel
theorem dX6_vote_44 : decode cX6_vote 44 = .ok (.iconst 3, 1) := by decide +kernel
theorem dX6_vote_45 : decode cX6_vote 45 = .ok (.invokevirtual 78, 3) := by decide +kernel
theorem dX6_vote_48 : decode cX6_vote 48 = .ok (.ifCond .ne 5, 3) := by decide +kernel
theorem dX6_vote_51 : decode cX6_vote 51 = .ok (.iconst 0, 1) := by decide +kernel
theorem dX6_vote_52 : decode cX6_vote 52 = .ok (.ireturn, 1) := by decide +kernel
theorem dX6_vote_53 : decode cX6_vote 53 = .ok (.iconst 1, 1) := by decide +kernel
theorem dX6_vote_54 : decode cX6_vote 54 = .ok (.iload_n 2, 1) := by decide +kernel
theorem dX6_vote_55 : decode cX6_vote 55 = .ok (.ishl, 1) := by decide +kernel
theorem dX6_vote_56 : decode cX6_vote 56 = .ok (.istore 5, 2) := by decide +kernel
theorem dX6_vote_58 : decode cX6_vote 58 = .ok (.aload_n 0, 1) := by decide +kernel
theorem dX6_vote_59 : decode cX6_vote 59 = .ok (.getfield 38, 3) := by decide +kernel
theorem dX6_vote_62 : decode cX6_vote 62 = .ok (.iload_n 1, 1) := by decide +kernel
theorem dX6_vote_63 : decode cX6_vote 63 = .ok (.iload_n 3, 1) := by decide +kernel
theorem dX6_vote_64 : decode cX6_vote 64 = .ok (.ifCond .eq 15, 3) := by decide +kernel
theorem dX6_vote_67 : decode cX6_vote 67 = .ok (.aload_n 0, 1) := by decide +kernel
theorem dX6_vote_68 : decode cX6_vote 68 = .ok (.getfield 38, 3) := by decide +kernel
theorem dX6_vote_71 : decode cX6_vote 71 = .ok (.iload_n 1, 1) := by decide +kernel
theorem dX6_vote_72 : decode cX6_vote 72 = .ok (.iaload, 1) := by decide +kernel
theorem dX6_vote_73 : decode cX6_vote 73 = .ok (.iload 5, 2) := by decide +kernel
theorem dX6_vote_75 : decode cX6_vote 75 = .ok (.ior, 1) := by decide +kernel
theorem dX6_vote_76 : decode cX6_vote 76 = .ok (.goto 14, 3) := by decide +kernel
theorem dX6_vote_79 : decode cX6_vote 79 = .ok (.aload_n 0, 1) := by decide +kernel
theorem dX6_vote_80 : decode cX6_vote 80 = .ok (.getfield 38, 3) := by decide +kernel
theorem dX6_vote_83 : decode cX6_vote 83 = .ok (.iload_n 1, 1) := by decide +kernel
theorem dX6_vote_84 : decode cX6_vote 84 = .ok (.iaload, 1) := by decide +kernel
theorem dX6_vote_85 : decode cX6_vote 85 = .ok (.iload 5, 2) := by decide +kernel
theorem dX6_vote_87 : decode cX6_vote 87 = .ok (.iconst (-1), 1) := by decide +kernel
theorem dX6_vote_88 : decode cX6_vote 88 = .ok (.ixor, 1) := by decide +kernel
theorem dX6_vote_89 : decode cX6_vote 89 = .ok (.iand, 1) := by decide +kernel
theorem dX6_vote_90 : decode cX6_vote 90 = .ok (.iastore, 1) := by decide +kernel
theorem dX6_vote_91 : decode cX6_vote 91 = .ok (.aload_n 0, 1) := by decide +kernel
theorem dX6_vote_92 : decode cX6_vote 92 = .ok (.getfield 41, 3) := by decide +kernel
theorem dX6_vote_95 : decode cX6_vote 95 = .ok (.iload_n 1, 1) := by decide +kernel
theorem dX6_vote_96 : decode cX6_vote 96 = .ok (.iload_n 3, 1) := by decide +kernel
theorem dX6_vote_97 : decode cX6_vote 97 = .ok (.ifCond .eq 17, 3) := by decide +kernel
theorem dX6_vote_100 : decode cX6_vote 100 = .ok (.aload_n 0, 1) := by decide +kernel
theorem dX6_vote_101 : decode cX6_vote 101 = .ok (.getfield 41, 3) := by decide +kernel
theorem dX6_vote_104 : decode cX6_vote 104 = .ok (.iload_n 1, 1) := by decide +kernel
theorem dX6_vote_105 : decode cX6_vote 105 = .ok (.iaload, 1) := by decide +kernel
theorem dX6_vote_106 : decode cX6_vote 106 = .ok (.iload 5, 2) := by decide +kernel
theorem dX6_vote_108 : decode cX6_vote 108 = .ok (.iconst (-1), 1) := by decide +kernel
theorem dX6_vote_109 : decode cX6_vote 109 = .ok (.ixor, 1) := by decide +kernel
theorem dX6_vote_110 : decode cX6_vote 110 = .ok (.iand, 1) := by decide +kernel
theorem dX6_vote_111 : decode cX6_vote 111 = .ok (.goto 12, 3) := by decide +kernel
theorem dX6_vote_114 : decode cX6_vote 114 = .ok (.aload_n 0, 1) := by decide +kernel
theorem dX6_vote_115 : decode cX6_vote 115 = .ok (.getfield 41, 3) := by decide +kernel
theorem dX6_vote_118 : decode cX6_vote 118 = .ok (.iload_n 1, 1) := by decide +kernel
theorem dX6_vote_119 : decode cX6_vote 119 = .ok (.iaload, 1) := by decide +kernel
theorem dX6_vote_120 : decode cX6_vote 120 = .ok (.iload 5, 2) := by decide +kernel
theorem dX6_vote_122 : decode cX6_vote 122 = .ok (.ior, 1) := by decide +kernel
theorem dX6_vote_123 : decode cX6_vote 123 = .ok (.iastore, 1) := by decide +kernel
theorem dX6_vote_124 : decode cX6_vote 124 = .ok (.aload_n 0, 1) := by decide +kernel
theorem dX6_vote_125 : decode cX6_vote 125 = .ok (.getfield 38, 3) := by decide +kernel
theorem dX6_vote_128 : decode cX6_vote 128 = .ok (.iload_n 1, 1) := by decide +kernel
theorem dX6_vote_129 : decode cX6_vote 129 = .ok (.iaload, 1) := by decide +kernel
theorem dX6_vote_130 : decode cX6_vote 130 = .ok (.invokestatic 122, 3) := by decide +kernel
theorem dX6_vote_133 : decode cX6_vote 133 = .ok (.aload_n 0, 1) := by decide +kernel
theorem dX6_vote_134 : decode cX6_vote 134 = .ok (.getfield 41, 3) := by decide +kernel
theorem dX6_vote_137 : decode cX6_vote 137 = .ok (.iload_n 1, 1) := by decide +kernel
theorem dX6_vote_138 : decode cX6_vote 138 = .ok (.iaload, 1) := by decide +kernel
theorem dX6_vote_139 : decode cX6_vote 139 = .ok (.invokestatic 122, 3) := by decide +kernel
theorem dX6_vote_142 : decode cX6_vote 142 = .ok (.isub, 1) := by decide +kernel
theorem dX6_vote_143 : decode cX6_vote 143 = .ok (.istore 6, 2) := by decide +kernel
theorem dX6_vote_145 : decode cX6_vote 145 = .ok (.iload 6, 2) := by decide +kernel
theorem dX6_vote_147 : decode cX6_vote 147 = .ok (.iconst 3, 1) := by decide +kernel
theorem dX6_vote_148 : decode cX6_vote 148 = .ok (.if_icmp .lt 56, 3) := by decide +kernel
theorem dX6_vote_151 : decode cX6_vote 151 = .ok (.aload_n 0, 1) := by decide +kernel
theorem dX6_vote_152 : decode cX6_vote 152 = .ok (.iload_n 1, 1) := by decide +kernel
theorem dX6_vote_153 : decode cX6_vote 153 = .ok (.invokevirtual 151, 3) := by decide +kernel
theorem dX6_vote_156 : decode cX6_vote 156 = .ok (.istore 7, 2) := by decide +kernel
theorem dX6_vote_158 : decode cX6_vote 158 = .ok (.aload_n 0, 1) := by decide +kernel
theorem dX6_vote_159 : decode cX6_vote 159 = .ok (.getfield 44, 3) := by decide +kernel
theorem dX6_vote_162 : decode cX6_vote 162 = .ok (.iload_n 1, 1) := by decide +kernel
theorem dX6_vote_163 : decode cX6_vote 163 = .ok (.iload 7, 2) := by decide +kernel
theorem dX6_vote_165 : decode cX6_vote 165 = .ok (.ifCond .eq 7, 3) := by decide +kernel
theorem dX6_vote_168 : decode cX6_vote 168 = .ok (.iconst 1, 1) := by decide +kernel
theorem dX6_vote_169 : decode cX6_vote 169 = .ok (.goto 4, 3) := by decide +kernel
theorem dX6_vote_172 : decode cX6_vote 172 = .ok (.iconst 2, 1) := by decide +kernel
theorem dX6_vote_173 : decode cX6_vote 173 = .ok (.iastore, 1) := by decide +kernel
theorem dX6_vote_174 : decode cX6_vote 174 = .ok (.iload 7, 2) := by decide +kernel
theorem dX6_vote_176 : decode cX6_vote 176 = .ok (.ifCond .eq 25, 3) := by decide +kernel
theorem dX6_vote_179 : decode cX6_vote 179 = .ok (.aload_n 0, 1) := by decide +kernel
theorem dX6_vote_180 : decode cX6_vote 180 = .ok (.aload_n 0, 1) := by decide +kernel
theorem dX6_vote_181 : decode cX6_vote 181 = .ok (.getfield 29, 3) := by decide +kernel
theorem dX6_vote_184 : decode cX6_vote 184 = .ok (.iload_n 1, 1) := by decide +kernel
theorem dX6_vote_185 : decode cX6_vote 185 = .ok (.iaload, 1) := by decide +kernel
theorem dX6_vote_186 : decode cX6_vote 186 = .ok (.aload_n 0, 1) := by decide +kernel
theorem dX6_vote_187 : decode cX6_vote 187 = .ok (.getfield 32, 3) := by decide +kernel
theorem dX6_vote_190 : decode cX6_vote 190 = .ok (.iload_n 1, 1) := by decide +kernel
theorem dX6_vote_191 : decode cX6_vote 191 = .ok (.iaload, 1) := by decide +kernel
theorem dX6_vote_192 : decode cX6_vote 192 = .ok (.aload_n 0, 1) := by decide +kernel
theorem dX6_vote_193 : decode cX6_vote 193 = .ok (.getfield 35, 3) := by decide +kernel
theorem dX6_vote_196 : decode cX6_vote 196 = .ok (.iload_n 1, 1) := by decide +kernel
theorem dX6_vote_197 : decode cX6_vote 197 = .ok (.iaload, 1) := by decide +kernel
theorem dX6_vote_198 : decode cX6_vote 198 = .ok (.invokevirtual 134, 3) := by decide +kernel
theorem dX6_vote_201 : decode cX6_vote 201 = .ok (.goto 17, 3) := by decide +kernel
theorem dX6_vote_204 : decode cX6_vote 204 = .ok (.iload 6, 2) := by decide +kernel
theorem dX6_vote_206 : decode cX6_vote 206 = .ok (.bipush (-3), 2) := by decide +kernel
theorem dX6_vote_208 : decode cX6_vote 208 = .ok (.if_icmp .gt 10, 3) := by decide +kernel
theorem dX6_vote_211 : decode cX6_vote 211 = .ok (.aload_n 0, 1) := by decide +kernel
theorem dX6_vote_212 : decode cX6_vote 212 = .ok (.getfield 44, 3) := by decide +kernel
theorem dX6_vote_215 : decode cX6_vote 215 = .ok (.iload_n 1, 1) := by decide +kernel
theorem dX6_vote_216 : decode cX6_vote 216 = .ok (.iconst 2, 1) := by decide +kernel
theorem dX6_vote_217 : decode cX6_vote 217 = .ok (.iastore, 1) := by decide +kernel
theorem dX6_vote_218 : decode cX6_vote 218 = .ok (.aload_n 0, 1) := by decide +kernel
theorem dX6_vote_219 : decode cX6_vote 219 = .ok (.getfield 44, 3) := by decide +kernel
theorem dX6_vote_222 : decode cX6_vote 222 = .ok (.iload_n 1, 1) := by decide +kernel
theorem dX6_vote_223 : decode cX6_vote 223 = .ok (.iaload, 1) := by decide +kernel
theorem dX6_vote_224 : decode cX6_vote 224 = .ok (.ireturn, 1) := by decide +kernel
theorem dX6_standing_0 : decode cX6_standing 0 = .ok (.aload_n 0, 1) := by decide +kernel
theorem dX6_standing_1 : decode cX6_standing 1 = .ok (.aload_n 0, 1) := by decide +kernel
theorem dX6_standing_2 : decode cX6_standing 2 = .ok (.iload_n 1, 1) := by decide +kernel
theorem dX6_standing_3 : decode cX6_standing 3 = .ok (.invokevirtual 148, 3) := by decide +kernel
theorem dX6_standing_6 : decode cX6_standing 6 = .ok (.ifCond .eq 7, 3) := by decide +kernel
theorem dX6_standing_9 : decode cX6_standing 9 = .ok (.iconst 0, 1) := by decide +kernel
theorem dX6_standing_10 : decode cX6_standing 10 = .ok (.goto 4, 3) := by decide +kernel
theorem dX6_standing_13 : decode cX6_standing 13 = .ok (.iconst 1, 1) := by decide +kernel
theorem dX6_standing_14 : decode cX6_standing 14 = .ok (.invokevirtual 78, 3) := by decide +kernel
theorem dX6_standing_17 : decode cX6_standing 17 = .ok (.ifCond .eq 12, 3) := by decide +kernel
theorem dX6_standing_20 : decode cX6_standing 20 = .ok (.aload_n 0, 1) := by decide +kernel
theorem dX6_standing_21 : decode cX6_standing 21 = .ok (.getfield 44, 3) := by decide +kernel
theorem dX6_standing_24 : decode cX6_standing 24 = .ok (.iload_n 1, 1) := by decide +kernel
theorem dX6_standing_25 : decode cX6_standing 25 = .ok (.iaload, 1) := by decide +kernel
theorem dX6_standing_26 : decode cX6_standing 26 = .ok (.goto 4, 3) := by decide +kernel
theorem dX6_standing_29 : decode cX6_standing 29 = .ok (.iconst 0, 1) := by decide +kernel
theorem dX6_standing_30 : decode cX6_standing 30 = .ok (.ireturn, 1) := by decide +kernel
theorem dX6_couldPass_0 : decode cX6_couldPass 0 = .ok (.aload_n 0, 1) := by decide +kernel
theorem dX6_couldPass_1 : decode cX6_couldPass 1 = .ok (.aload_n 0, 1) := by decide +kernel
theorem dX6_couldPass_2 : decode cX6_couldPass 2 = .ok (.iload_n 1, 1) := by decide +kernel
theorem dX6_couldPass_3 : decode cX6_couldPass 3 = .ok (.invokevirtual 148, 3) := by decide +kernel
theorem dX6_couldPass_6 : decode cX6_couldPass 6 = .ok (.ifCond .eq 7, 3) := by decide +kernel
theorem dX6_couldPass_9 : decode cX6_couldPass 9 = .ok (.iconst 0, 1) := by decide +kernel
theorem dX6_couldPass_10 : decode cX6_couldPass 10 = .ok (.goto 4, 3) := by decide +kernel
theorem dX6_couldPass_13 : decode cX6_couldPass 13 = .ok (.iconst 1, 1) := by decide +kernel
theorem dX6_couldPass_14 : decode cX6_couldPass 14 = .ok (.invokevirtual 78, 3) := by decide +kernel
theorem dX6_couldPass_17 : decode cX6_couldPass 17 = .ok (.ifCond .eq 15, 3) := by decide +kernel
theorem dX6_couldPass_20 : decode cX6_couldPass 20 = .ok (.aload_n 0, 1) := by decide +kernel
theorem dX6_couldPass_21 : decode cX6_couldPass 21 = .ok (.iload_n 1, 1) := by decide +kernel
theorem dX6_couldPass_22 : decode cX6_couldPass 22 = .ok (.invokevirtual 151, 3) := by decide +kernel
theorem dX6_couldPass_25 : decode cX6_couldPass 25 = .ok (.ifCond .eq 7, 3) := by decide +kernel
theorem dX6_couldPass_28 : decode cX6_couldPass 28 = .ok (.iconst 1, 1) := by decide +kernel
theorem dX6_couldPass_29 : decode cX6_couldPass 29 = .ok (.goto 4, 3) := by decide +kernel
theorem dX6_couldPass_32 : decode cX6_couldPass 32 = .ok (.iconst 0, 1) := by decide +kernel
theorem dX6_couldPass_33 : decode cX6_couldPass 33 = .ok (.ireturn, 1) := by decide +kernel
theorem dX6_couldBehind_0 : decode cX6_couldBehind 0 = .ok (.aload_n 0, 1) := by decide +kernel
theorem dX6_couldBehind_1 : decode cX6_couldBehind 1 = .ok (.getfield 29, 3) := by decide +kernel
theorem dX6_couldBehind_4 : decode cX6_couldBehind 4 = .ok (.iload_n 2, 1) := by decide +kernel
theorem dX6_couldBehind_5 : decode cX6_couldBehind 5 = .ok (.iaload, 1) := by decide +kernel
theorem dX6_couldBehind_6 : decode cX6_couldBehind 6 = .ok (.istore_n 3, 1) := by decide +kernel
theorem dX6_couldBehind_7 : decode cX6_couldBehind 7 = .ok (.aload_n 0, 1) := by decide +kernel
theorem dX6_couldBehind_8 : decode cX6_couldBehind 8 = .ok (.iload_n 3, 1) := by decide +kernel
theorem dX6_couldBehind_9 : decode cX6_couldBehind 9 = .ok (.aload_n 0, 1) := by decide +kernel
theorem dX6_couldBehind_10 : decode cX6_couldBehind 10 = .ok (.getfield 32, 3) := by decide +kernel
theorem dX6_couldBehind_13 : decode cX6_couldBehind 13 = .ok (.iload_n 2, 1) := by decide +kernel
theorem dX6_couldBehind_14 : decode cX6_couldBehind 14 = .ok (.iaload, 1) := by decide +kernel
theorem dX6_couldBehind_15 : decode cX6_couldBehind 15 = .ok (.aload_n 0, 1) := by decide +kernel
theorem dX6_couldBehind_16 : decode cX6_couldBehind 16 = .ok (.getfield 35, 3) := by decide +kernel
theorem dX6_couldBehind_19 : decode cX6_couldBehind 19 = .ok (.iload_n 2, 1) := by decide +kernel
theorem dX6_couldBehind_20 : decode cX6_couldBehind 20 = .ok (.iaload, 1) := by decide +kernel
theorem dX6_couldBehind_21 : decode cX6_couldBehind 21 = .ok (.invokevirtual 134, 3) := by decide +kernel
theorem dX6_couldBehind_24 : decode cX6_couldBehind 24 = .ok (.aload_n 0, 1) := by decide +kernel
theorem dX6_couldBehind_25 : decode cX6_couldBehind 25 = .ok (.iload_n 1, 1) := by decide +kernel
theorem dX6_couldBehind_26 : decode cX6_couldBehind 26 = .ok (.invokevirtual 151, 3) := by decide +kernel
theorem dX6_couldBehind_29 : decode cX6_couldBehind 29 = .ok (.istore 4, 2) := by decide +kernel
theorem dX6_couldBehind_31 : decode cX6_couldBehind 31 = .ok (.aload_n 0, 1) := by decide +kernel
theorem dX6_couldBehind_32 : decode cX6_couldBehind 32 = .ok (.iload_n 3, 1) := by decide +kernel
theorem dX6_couldBehind_33 : decode cX6_couldBehind 33 = .ok (.iconst 2, 1) := by decide +kernel
theorem dX6_couldBehind_34 : decode cX6_couldBehind 34 = .ok (.if_icmp .ge 9, 3) := by decide +kernel
theorem dX6_couldBehind_37 : decode cX6_couldBehind 37 = .ok (.iload_n 3, 1) := by decide +kernel
theorem dX6_couldBehind_38 : decode cX6_couldBehind 38 = .ok (.iconst 2, 1) := by decide +kernel
theorem dX6_couldBehind_39 : decode cX6_couldBehind 39 = .ok (.iadd, 1) := by decide +kernel
theorem dX6_couldBehind_40 : decode cX6_couldBehind 40 = .ok (.goto 6, 3) := by decide +kernel
theorem dX6_couldBehind_43 : decode cX6_couldBehind 43 = .ok (.iload_n 3, 1) := by decide +kernel
theorem dX6_couldBehind_44 : decode cX6_couldBehind 44 = .ok (.iconst 2, 1) := by decide +kernel
theorem dX6_couldBehind_45 : decode cX6_couldBehind 45 = .ok (.isub, 1) := by decide +kernel
theorem dX6_couldBehind_46 : decode cX6_couldBehind 46 = .ok (.aload_n 0, 1) := by decide +kernel
theorem dX6_couldBehind_47 : decode cX6_couldBehind 47 = .ok (.getfield 32, 3) := by decide +kernel
theorem dX6_couldBehind_50 : decode cX6_couldBehind 50 = .ok (.iload_n 2, 1) := by decide +kernel
theorem dX6_couldBehind_51 : decode cX6_couldBehind 51 = .ok (.iaload, 1) := by decide +kernel
theorem dX6_couldBehind_52 : decode cX6_couldBehind 52 = .ok (.aload_n 0, 1) := by decide +kernel
theorem dX6_couldBehind_53 : decode cX6_couldBehind 53 = .ok (.getfield 35, 3) := by decide +kernel
theorem dX6_couldBehind_56 : decode cX6_couldBehind 56 = .ok (.iload_n 2, 1) := by decide +kernel
theorem dX6_couldBehind_57 : decode cX6_couldBehind 57 = .ok (.iaload, 1) := by decide +kernel
theorem dX6_couldBehind_58 : decode cX6_couldBehind 58 = .ok (.invokevirtual 134, 3) := by decide +kernel
theorem dX6_couldBehind_61 : decode cX6_couldBehind 61 = .ok (.iload 4, 2) := by decide +kernel
theorem dX6_couldBehind_63 : decode cX6_couldBehind 63 = .ok (.ireturn, 1) := by decide +kernel
theorem dX6_clashes_0 : decode cX6_clashes 0 = .ok (.aload_n 0, 1) := by decide +kernel
theorem dX6_clashes_1 : decode cX6_clashes 1 = .ok (.aload_n 0, 1) := by decide +kernel
theorem dX6_clashes_2 : decode cX6_clashes 2 = .ok (.iload_n 1, 1) := by decide +kernel
theorem dX6_clashes_3 : decode cX6_clashes 3 = .ok (.invokevirtual 148, 3) := by decide +kernel
theorem dX6_clashes_6 : decode cX6_clashes 6 = .ok (.ifCond .eq 7, 3) := by decide +kernel
theorem dX6_clashes_9 : decode cX6_clashes 9 = .ok (.iconst 0, 1) := by decide +kernel
theorem dX6_clashes_10 : decode cX6_clashes 10 = .ok (.goto 4, 3) := by decide +kernel
theorem dX6_clashes_13 : decode cX6_clashes 13 = .ok (.iconst 1, 1) := by decide +kernel
theorem dX6_clashes_14 : decode cX6_clashes 14 = .ok (.invokevirtual 78, 3) := by decide +kernel
theorem dX6_clashes_17 : decode cX6_clashes 17 = .ok (.ifCond .ne 5, 3) := by decide +kernel
theorem dX6_clashes_20 : decode cX6_clashes 20 = .ok (.iconst 0, 1) := by decide +kernel
theorem dX6_clashes_21 : decode cX6_clashes 21 = .ok (.ireturn, 1) := by decide +kernel
theorem dX6_clashes_22 : decode cX6_clashes 22 = .ok (.iconst 0, 1) := by decide +kernel
theorem dX6_clashes_23 : decode cX6_clashes 23 = .ok (.istore_n 2, 1) := by decide +kernel
theorem dX6_clashes_24 : decode cX6_clashes 24 = .ok (.aload_n 0, 1) := by decide +kernel
theorem dX6_clashes_25 : decode cX6_clashes 25 = .ok (.iload_n 1, 1) := by decide +kernel
theorem dX6_clashes_26 : decode cX6_clashes 26 = .ok (.invokevirtual 151, 3) := by decide +kernel
theorem dX6_clashes_29 : decode cX6_clashes 29 = .ok (.istore_n 3, 1) := by decide +kernel
theorem dX6_clashes_30 : decode cX6_clashes 30 = .ok (.iconst 0, 1) := by decide +kernel
theorem dX6_clashes_31 : decode cX6_clashes 31 = .ok (.istore 4, 2) := by decide +kernel
theorem dX6_clashes_33 : decode cX6_clashes 33 = .ok (.iload 4, 2) := by decide +kernel
theorem dX6_clashes_35 : decode cX6_clashes 35 = .ok (.aload_n 0, 1) := by decide +kernel
theorem dX6_clashes_36 : decode cX6_clashes 36 = .ok (.getfield 142, 3) := by decide +kernel
theorem dX6_clashes_39 : decode cX6_clashes 39 = .ok (.if_icmp .ge 68, 3) := by decide +kernel
theorem dX6_clashes_42 : decode cX6_clashes 42 = .ok (.iload_n 3, 1) := by decide +kernel
theorem dX6_clashes_43 : decode cX6_clashes 43 = .ok (.ifCond .eq 64, 3) := by decide +kernel
theorem dX6_clashes_46 : decode cX6_clashes 46 = .ok (.iload 4, 2) := by decide +kernel
theorem dX6_clashes_48 : decode cX6_clashes 48 = .ok (.iload_n 1, 1) := by decide +kernel
theorem dX6_clashes_49 : decode cX6_clashes 49 = .ok (.if_icmp .eq 16, 3) := by decide +kernel
theorem dX6_clashes_52 : decode cX6_clashes 52 = .ok (.aload_n 0, 1) := by decide +kernel
theorem dX6_clashes_53 : decode cX6_clashes 53 = .ok (.iload 4, 2) := by decide +kernel
theorem dX6_clashes_55 : decode cX6_clashes 55 = .ok (.invokevirtual 151, 3) := by decide +kernel
theorem dX6_clashes_58 : decode cX6_clashes 58 = .ok (.ifCond .eq 7, 3) := by decide +kernel
theorem dX6_clashes_61 : decode cX6_clashes 61 = .ok (.iconst 1, 1) := by decide +kernel
theorem dX6_clashes_62 : decode cX6_clashes 62 = .ok (.goto 4, 3) := by decide +kernel
theorem dX6_clashes_65 : decode cX6_clashes 65 = .ok (.iconst 0, 1) := by decide +kernel
theorem dX6_clashes_66 : decode cX6_clashes 66 = .ok (.istore 5, 2) := by decide +kernel
theorem dX6_clashes_68 : decode cX6_clashes 68 = .ok (.iload_n 2, 1) := by decide +kernel
theorem dX6_clashes_69 : decode cX6_clashes 69 = .ok (.iload 5, 2) := by decide +kernel
theorem dX6_clashes_71 : decode cX6_clashes 71 = .ok (.ifCond .eq 27, 3) := by decide +kernel
theorem dX6_clashes_74 : decode cX6_clashes 74 = .ok (.aload_n 0, 1) := by decide +kernel
theorem dX6_clashes_75 : decode cX6_clashes 75 = .ok (.iload_n 1, 1) := by decide +kernel
theorem dX6_clashes_76 : decode cX6_clashes 76 = .ok (.iload 4, 2) := by decide +kernel
theorem dX6_clashes_78 : decode cX6_clashes 78 = .ok (.invokevirtual 154, 3) := by decide +kernel
theorem dX6_clashes_81 : decode cX6_clashes 81 = .ok (.ifCond .eq 13, 3) := by decide +kernel
theorem dX6_clashes_84 : decode cX6_clashes 84 = .ok (.aload_n 0, 1) := by decide +kernel
theorem dX6_clashes_85 : decode cX6_clashes 85 = .ok (.iload 4, 2) := by decide +kernel
theorem dX6_clashes_87 : decode cX6_clashes 87 = .ok (.iload_n 1, 1) := by decide +kernel
theorem dX6_clashes_88 : decode cX6_clashes 88 = .ok (.invokevirtual 154, 3) := by decide +kernel
theorem dX6_clashes_91 : decode cX6_clashes 91 = .ok (.ifCond .ne 7, 3) := by decide +kernel
theorem dX6_clashes_94 : decode cX6_clashes 94 = .ok (.iconst 1, 1) := by decide +kernel
theorem dX6_clashes_95 : decode cX6_clashes 95 = .ok (.goto 4, 3) := by decide +kernel
theorem dX6_clashes_98 : decode cX6_clashes 98 = .ok (.iconst 0, 1) := by decide +kernel
theorem dX6_clashes_99 : decode cX6_clashes 99 = .ok (.iadd, 1) := by decide +kernel
theorem dX6_clashes_100 : decode cX6_clashes 100 = .ok (.istore_n 2, 1) := by decide +kernel
theorem dX6_clashes_101 : decode cX6_clashes 101 = .ok (.iinc 4 1, 3) := by decide +kernel
theorem dX6_clashes_104 : decode cX6_clashes 104 = .ok (.goto (-71), 3) := by decide +kernel
theorem dX6_clashes_107 : decode cX6_clashes 107 = .ok (.iload_n 2, 1) := by decide +kernel
theorem dX6_clashes_108 : decode cX6_clashes 108 = .ok (.ireturn, 1) := by decide +kernel
theorem dX6_alias_0 : decode cX6_alias 0 = .ok (.aload_n 0, 1) := by decide +kernel
theorem dX6_alias_1 : decode cX6_alias 1 = .ok (.aload_n 0, 1) := by decide +kernel
theorem dX6_alias_2 : decode cX6_alias 2 = .ok (.iload_n 1, 1) := by decide +kernel
theorem dX6_alias_3 : decode cX6_alias 3 = .ok (.invokevirtual 85, 3) := by decide +kernel
theorem dX6_alias_6 : decode cX6_alias 6 = .ok (.ifCond .eq 7, 3) := by decide +kernel
theorem dX6_alias_9 : decode cX6_alias 9 = .ok (.iconst 0, 1) := by decide +kernel
theorem dX6_alias_10 : decode cX6_alias 10 = .ok (.goto 4, 3) := by decide +kernel
theorem dX6_alias_13 : decode cX6_alias 13 = .ok (.iconst 1, 1) := by decide +kernel
theorem dX6_alias_14 : decode cX6_alias 14 = .ok (.invokevirtual 78, 3) := by decide +kernel
theorem dX6_alias_17 : decode cX6_alias 17 = .ok (.ifCond .eq 12, 3) := by decide +kernel
theorem dX6_alias_20 : decode cX6_alias 20 = .ok (.aload_n 0, 1) := by decide +kernel
theorem dX6_alias_21 : decode cX6_alias 21 = .ok (.getfield 20, 3) := by decide +kernel
theorem dX6_alias_24 : decode cX6_alias 24 = .ok (.iload_n 1, 1) := by decide +kernel
theorem dX6_alias_25 : decode cX6_alias 25 = .ok (.iaload, 1) := by decide +kernel
theorem dX6_alias_26 : decode cX6_alias 26 = .ok (.goto 4, 3) := by decide +kernel
theorem dX6_alias_29 : decode cX6_alias 29 = .ok (.iconst 0, 1) := by decide +kernel
theorem dX6_alias_30 : decode cX6_alias 30 = .ok (.ireturn, 1) := by decide +kernel
theorem dX6_end_0 : decode cX6_end 0 = .ok (.aload_n 0, 1) := by decide +kernel
theorem dX6_end_1 : decode cX6_end 1 = .ok (.aload_n 0, 1) := by decide +kernel
theorem dX6_end_2 : decode cX6_end 2 = .ok (.iload_n 1, 1) := by decide +kernel
theorem dX6_end_3 : decode cX6_end 3 = .ok (.invokevirtual 85, 3) := by decide +kernel
theorem dX6_end_6 : decode cX6_end 6 = .ok (.ifCond .eq 7, 3) := by decide +kernel
theorem dX6_end_9 : decode cX6_end 9 = .ok (.iconst 0, 1) := by decide +kernel
theorem dX6_end_10 : decode cX6_end 10 = .ok (.goto 4, 3) := by decide +kernel
theorem dX6_end_13 : decode cX6_end 13 = .ok (.iconst 1, 1) := by decide +kernel
theorem dX6_end_14 : decode cX6_end 14 = .ok (.invokevirtual 78, 3) := by decide +kernel
theorem dX6_end_17 : decode cX6_end 17 = .ok (.ifCond .eq 11, 3) := by decide +kernel
theorem dX6_end_20 : decode cX6_end 20 = .ok (.aload_n 0, 1) := by decide +kernel
theorem dX6_end_21 : decode cX6_end 21 = .ok (.iload_n 1, 1) := by decide +kernel
theorem dX6_end_22 : decode cX6_end 22 = .ok (.invokevirtual 115, 3) := by decide +kernel
theorem dX6_end_25 : decode cX6_end 25 = .ok (.goto 4, 3) := by decide +kernel
theorem dX6_end_28 : decode cX6_end 28 = .ok (.iconst 0, 1) := by decide +kernel
theorem dX6_end_29 : decode cX6_end 29 = .ok (.ireturn, 1) := by decide +kernel
theorem dX6_implies_0 : decode cX6_implies 0 = .ok (.aload_n 0, 1) := by decide +kernel
theorem dX6_implies_1 : decode cX6_implies 1 = .ok (.aload_n 0, 1) := by decide +kernel
theorem dX6_implies_2 : decode cX6_implies 2 = .ok (.iload_n 1, 1) := by decide +kernel
theorem dX6_implies_3 : decode cX6_implies 3 = .ok (.invokevirtual 85, 3) := by decide +kernel
theorem dX6_implies_6 : decode cX6_implies 6 = .ok (.ifCond .eq 15, 3) := by decide +kernel
theorem dX6_implies_9 : decode cX6_implies 9 = .ok (.aload_n 0, 1) := by decide +kernel
theorem dX6_implies_10 : decode cX6_implies 10 = .ok (.iload_n 2, 1) := by decide +kernel
theorem dX6_implies_11 : decode cX6_implies 11 = .ok (.invokevirtual 85, 3) := by decide +kernel
theorem dX6_implies_14 : decode cX6_implies 14 = .ok (.ifCond .eq 7, 3) := by decide +kernel
theorem dX6_implies_17 : decode cX6_implies 17 = .ok (.iconst 0, 1) := by decide +kernel
theorem dX6_implies_18 : decode cX6_implies 18 = .ok (.goto 4, 3) := by decide +kernel
theorem dX6_implies_21 : decode cX6_implies 21 = .ok (.iconst 1, 1) := by decide +kernel
theorem dX6_implies_22 : decode cX6_implies 22 = .ok (.invokevirtual 78, 3) := by decide +kernel
theorem dX6_implies_25 : decode cX6_implies 25 = .ok (.ifCond .eq 20, 3) := by decide +kernel
theorem dX6_implies_28 : decode cX6_implies 28 = .ok (.aload_n 0, 1) := by decide +kernel
theorem dX6_implies_29 : decode cX6_implies 29 = .ok (.getfield 23, 3) := by decide +kernel
theorem dX6_implies_32 : decode cX6_implies 32 = .ok (.iload_n 1, 1) := by decide +kernel
theorem dX6_implies_33 : decode cX6_implies 33 = .ok (.iaload, 1) := by decide +kernel
theorem dX6_implies_34 : decode cX6_implies 34 = .ok (.iload_n 2, 1) := by decide +kernel
theorem dX6_implies_35 : decode cX6_implies 35 = .ok (.invokestatic 108, 3) := by decide +kernel
theorem dX6_implies_38 : decode cX6_implies 38 = .ok (.ifCond .eq 7, 3) := by decide +kernel
theorem dX6_implies_41 : decode cX6_implies 41 = .ok (.iconst 1, 1) := by decide +kernel
theorem dX6_implies_42 : decode cX6_implies 42 = .ok (.goto 4, 3) := by decide +kernel
theorem dX6_implies_45 : decode cX6_implies 45 = .ok (.iconst 0, 1) := by decide +kernel
theorem dX6_implies_46 : decode cX6_implies 46 = .ok (.ireturn, 1) := by decide +kernel
theorem dX6_shownOf_0 : decode cX6_shownOf 0 = .ok (.aload_n 0, 1) := by decide +kernel
theorem dX6_shownOf_1 : decode cX6_shownOf 1 = .ok (.aload_n 0, 1) := by decide +kernel
theorem dX6_shownOf_2 : decode cX6_shownOf 2 = .ok (.aload_n 0, 1) := by decide +kernel
theorem dX6_shownOf_3 : decode cX6_shownOf 3 = .ok (.getfield 26, 3) := by decide +kernel
theorem dX6_shownOf_6 : decode cX6_shownOf 6 = .ok (.iload_n 1, 1) := by decide +kernel
theorem dX6_shownOf_7 : decode cX6_shownOf 7 = .ok (.iaload, 1) := by decide +kernel
theorem dX6_shownOf_8 : decode cX6_shownOf 8 = .ok (.invokevirtual 125, 3) := by decide +kernel
theorem dX6_shownOf_11 : decode cX6_shownOf 11 = .ok (.invokevirtual 131, 3) := by decide +kernel
theorem dX6_shownOf_14 : decode cX6_shownOf 14 = .ok (.ireturn, 1) := by decide +kernel
theorem dX6_shown_0 : decode cX6_shown 0 = .ok (.aload_n 0, 1) := by decide +kernel
theorem dX6_shown_1 : decode cX6_shown 1 = .ok (.aload_n 0, 1) := by decide +kernel
theorem dX6_shown_2 : decode cX6_shown 2 = .ok (.iload_n 1, 1) := by decide +kernel
theorem dX6_shown_3 : decode cX6_shown 3 = .ok (.invokevirtual 98, 3) := by decide +kernel
theorem dX6_shown_6 : decode cX6_shown 6 = .ok (.ifCond .eq 7, 3) := by decide +kernel
theorem dX6_shown_9 : decode cX6_shown 9 = .ok (.iconst 0, 1) := by decide +kernel
theorem dX6_shown_10 : decode cX6_shown 10 = .ok (.goto 4, 3) := by decide +kernel
theorem dX6_shown_13 : decode cX6_shown 13 = .ok (.iconst 1, 1) := by decide +kernel
theorem dX6_shown_14 : decode cX6_shown 14 = .ok (.invokevirtual 78, 3) := by decide +kernel
theorem dX6_shown_17 : decode cX6_shown 17 = .ok (.ifCond .eq 11, 3) := by decide +kernel
theorem dX6_shown_20 : decode cX6_shown 20 = .ok (.aload_n 0, 1) := by decide +kernel
theorem dX6_shown_21 : decode cX6_shown 21 = .ok (.iload_n 1, 1) := by decide +kernel
theorem dX6_shown_22 : decode cX6_shown 22 = .ok (.invokevirtual 111, 3) := by decide +kernel
theorem dX6_shown_25 : decode cX6_shown 25 = .ok (.goto 4, 3) := by decide +kernel
theorem dX6_shown_28 : decode cX6_shown 28 = .ok (.iconst 0, 1) := by decide +kernel
theorem dX6_shown_29 : decode cX6_shown 29 = .ok (.ireturn, 1) := by decide +kernel
theorem dX6_shownByHand_0 : decode cX6_shownByHand 0 = .ok (.aload_n 0, 1) := by decide +kernel
theorem dX6_shownByHand_1 : decode cX6_shownByHand 1 = .ok (.aload_n 0, 1) := by decide +kernel
theorem dX6_shownByHand_2 : decode cX6_shownByHand 2 = .ok (.iload_n 1, 1) := by decide +kernel
theorem dX6_shownByHand_3 : decode cX6_shownByHand 3 = .ok (.invokevirtual 98, 3) := by decide +kernel
theorem dX6_shownByHand_6 : decode cX6_shownByHand 6 = .ok (.ifCond .eq 7, 3) := by decide +kernel
theorem dX6_shownByHand_9 : decode cX6_shownByHand 9 = .ok (.iconst 0, 1) := by decide +kernel
theorem dX6_shownByHand_10 : decode cX6_shownByHand 10 = .ok (.goto 4, 3) := by decide +kernel
theorem dX6_shownByHand_13 : decode cX6_shownByHand 13 = .ok (.iconst 1, 1) := by decide +kernel
theorem dX6_shownByHand_14 : decode cX6_shownByHand 14 = .ok (.invokevirtual 78, 3) := by decide +kernel
theorem dX6_shownByHand_17 : decode cX6_shownByHand 17 = .ok (.ifCond .eq 11, 3) := by decide +kernel
theorem dX6_shownByHand_20 : decode cX6_shownByHand 20 = .ok (.aload_n 0, 1) := by decide +kernel
theorem dX6_shownByHand_21 : decode cX6_shownByHand 21 = .ok (.iload_n 1, 1) := by decide +kernel
theorem dX6_shownByHand_22 : decode cX6_shownByHand 22 = .ok (.invokevirtual 111, 3) := by decide +kernel
theorem dX6_shownByHand_25 : decode cX6_shownByHand 25 = .ok (.goto 4, 3) := by decide +kernel
theorem dX6_shownByHand_28 : decode cX6_shownByHand 28 = .ok (.iconst 0, 1) := by decide +kernel
theorem dX6_shownByHand_29 : decode cX6_shownByHand 29 = .ok (.ireturn, 1) := by decide +kernel
theorem dX6_users_0 : decode cX6_users 0 = .ok (.aload_n 0, 1) := by decide +kernel
theorem dX6_users_1 : decode cX6_users 1 = .ok (.aload_n 0, 1) := by decide +kernel
theorem dX6_users_2 : decode cX6_users 2 = .ok (.iload_n 1, 1) := by decide +kernel
theorem dX6_users_3 : decode cX6_users 3 = .ok (.invokevirtual 85, 3) := by decide +kernel
theorem dX6_users_6 : decode cX6_users 6 = .ok (.ifCond .eq 7, 3) := by decide +kernel
theorem dX6_users_9 : decode cX6_users 9 = .ok (.iconst 0, 1) := by decide +kernel
theorem dX6_users_10 : decode cX6_users 10 = .ok (.goto 4, 3) := by decide +kernel
theorem dX6_users_13 : decode cX6_users 13 = .ok (.iconst 1, 1) := by decide +kernel
theorem dX6_users_14 : decode cX6_users 14 = .ok (.invokevirtual 78, 3) := by decide +kernel
theorem dX6_users_17 : decode cX6_users 17 = .ok (.ifCond .ne 5, 3) := by decide +kernel
theorem dX6_users_20 : decode cX6_users 20 = .ok (.iconst 0, 1) := by decide +kernel
theorem dX6_users_21 : decode cX6_users 21 = .ok (.ireturn, 1) := by decide +kernel
theorem dX6_users_22 : decode cX6_users 22 = .ok (.iconst 0, 1) := by decide +kernel
theorem dX6_users_23 : decode cX6_users 23 = .ok (.istore_n 2, 1) := by decide +kernel
theorem dX6_users_24 : decode cX6_users 24 = .ok (.iconst 0, 1) := by decide +kernel
theorem dX6_users_25 : decode cX6_users 25 = .ok (.istore_n 3, 1) := by decide +kernel
theorem dX6_users_26 : decode cX6_users 26 = .ok (.iload_n 3, 1) := by decide +kernel
theorem dX6_users_27 : decode cX6_users 27 = .ok (.aload_n 0, 1) := by decide +kernel
theorem dX6_users_28 : decode cX6_users 28 = .ok (.getfield 64, 3) := by decide +kernel
theorem dX6_users_31 : decode cX6_users 31 = .ok (.if_icmp .ge 29, 3) := by decide +kernel
theorem dX6_users_34 : decode cX6_users 34 = .ok (.iload_n 2, 1) := by decide +kernel
theorem dX6_users_35 : decode cX6_users 35 = .ok (.aload_n 0, 1) := by decide +kernel
theorem dX6_users_36 : decode cX6_users 36 = .ok (.iload_n 3, 1) := by decide +kernel
theorem dX6_users_37 : decode cX6_users 37 = .ok (.invokevirtual 111, 3) := by decide +kernel
theorem dX6_users_40 : decode cX6_users 40 = .ok (.iload_n 1, 1) := by decide +kernel
theorem dX6_users_41 : decode cX6_users 41 = .ok (.invokestatic 108, 3) := by decide +kernel
theorem dX6_users_44 : decode cX6_users 44 = .ok (.ifCond .eq 7, 3) := by decide +kernel
theorem dX6_users_47 : decode cX6_users 47 = .ok (.iconst 1, 1) := by decide +kernel
theorem dX6_users_48 : decode cX6_users 48 = .ok (.goto 4, 3) := by decide +kernel
theorem dX6_users_51 : decode cX6_users 51 = .ok (.iconst 0, 1) := by decide +kernel
theorem dX6_users_52 : decode cX6_users 52 = .ok (.iadd, 1) := by decide +kernel
theorem dX6_users_53 : decode cX6_users 53 = .ok (.istore_n 2, 1) := by decide +kernel
theorem dX6_users_54 : decode cX6_users 54 = .ok (.iinc 3 1, 3) := by decide +kernel
theorem dX6_users_57 : decode cX6_users 57 = .ok (.goto (-31), 3) := by decide +kernel
theorem dX6_users_60 : decode cX6_users 60 = .ok (.iload_n 2, 1) := by decide +kernel
theorem dX6_users_61 : decode cX6_users 61 = .ok (.ireturn, 1) := by decide +kernel
theorem dX6_far_0 : decode cX6_far 0 = .ok (.iconst 1, 1) := by decide +kernel
theorem dX6_far_1 : decode cX6_far 1 = .ok (.iload_n 1, 1) := by decide +kernel
theorem dX6_far_2 : decode cX6_far 2 = .ok (.ishl, 1) := by decide +kernel
theorem dX6_far_3 : decode cX6_far 3 = .ok (.istore_n 3, 1) := by decide +kernel
theorem dX6_far_4 : decode cX6_far 4 = .ok (.iconst 0, 1) := by decide +kernel
theorem dX6_far_5 : decode cX6_far 5 = .ok (.istore 4, 2) := by decide +kernel
theorem dX6_far_7 : decode cX6_far 7 = .ok (.iload_n 3, 1) := by decide +kernel
theorem dX6_far_8 : decode cX6_far 8 = .ok (.iload_n 2, 1) := by decide +kernel
theorem dX6_far_9 : decode cX6_far 9 = .ok (.invokestatic 108, 3) := by decide +kernel
theorem dX6_far_12 : decode cX6_far 12 = .ok (.ifCond .ne 24, 3) := by decide +kernel
theorem dX6_far_15 : decode cX6_far 15 = .ok (.iload 4, 2) := by decide +kernel
theorem dX6_far_17 : decode cX6_far 17 = .ok (.bipush 24, 2) := by decide +kernel
theorem dX6_far_19 : decode cX6_far 19 = .ok (.if_icmp .gt 17, 3) := by decide +kernel
theorem dX6_far_22 : decode cX6_far 22 = .ok (.iload_n 3, 1) := by decide +kernel
theorem dX6_far_23 : decode cX6_far 23 = .ok (.aload_n 0, 1) := by decide +kernel
theorem dX6_far_24 : decode cX6_far 24 = .ok (.iload_n 3, 1) := by decide +kernel
theorem dX6_far_25 : decode cX6_far 25 = .ok (.invokevirtual 128, 3) := by decide +kernel
theorem dX6_far_28 : decode cX6_far 28 = .ok (.ior, 1) := by decide +kernel
theorem dX6_far_29 : decode cX6_far 29 = .ok (.istore_n 3, 1) := by decide +kernel
theorem dX6_far_30 : decode cX6_far 30 = .ok (.iinc 4 1, 3) := by decide +kernel
theorem dX6_far_33 : decode cX6_far 33 = .ok (.goto (-26), 3) := by decide +kernel
theorem dX6_far_36 : decode cX6_far 36 = .ok (.iload 4, 2) := by decide +kernel
theorem dX6_far_38 : decode cX6_far 38 = .ok (.ireturn, 1) := by decide +kernel
theorem dX6_reason_0 : decode cX6_reason 0 = .ok (.aload_n 0, 1) := by decide +kernel
theorem dX6_reason_1 : decode cX6_reason 1 = .ok (.iload_n 1, 1) := by decide +kernel
theorem dX6_reason_2 : decode cX6_reason 2 = .ok (.iload_n 2, 1) := by decide +kernel
theorem dX6_reason_3 : decode cX6_reason 3 = .ok (.invokevirtual 101, 3) := by decide +kernel
theorem dX6_reason_6 : decode cX6_reason 6 = .ok (.ifCond .eq 15, 3) := by decide +kernel
theorem dX6_reason_9 : decode cX6_reason 9 = .ok (.aload_n 0, 1) := by decide +kernel
theorem dX6_reason_10 : decode cX6_reason 10 = .ok (.iload_n 1, 1) := by decide +kernel
theorem dX6_reason_11 : decode cX6_reason 11 = .ok (.invokevirtual 111, 3) := by decide +kernel
theorem dX6_reason_14 : decode cX6_reason 14 = .ok (.iload_n 2, 1) := by decide +kernel
theorem dX6_reason_15 : decode cX6_reason 15 = .ok (.invokestatic 108, 3) := by decide +kernel
theorem dX6_reason_18 : decode cX6_reason 18 = .ok (.ifCond .ne 16, 3) := by decide +kernel
theorem dX6_reason_21 : decode cX6_reason 21 = .ok (.aload_n 0, 1) := by decide +kernel
theorem dX6_reason_22 : decode cX6_reason 22 = .ok (.getfield 53, 3) := by decide +kernel
theorem dX6_reason_25 : decode cX6_reason 25 = .ok (.ifCond .ne 7, 3) := by decide +kernel
theorem dX6_reason_28 : decode cX6_reason 28 = .ok (.iconst (-1), 1) := by decide +kernel
theorem dX6_reason_29 : decode cX6_reason 29 = .ok (.goto 4, 3) := by decide +kernel
theorem dX6_reason_32 : decode cX6_reason 32 = .ok (.iconst 0, 1) := by decide +kernel
theorem dX6_reason_33 : decode cX6_reason 33 = .ok (.ireturn, 1) := by decide +kernel
theorem dX6_reason_34 : decode cX6_reason 34 = .ok (.iconst (-1), 1) := by decide +kernel
theorem dX6_reason_35 : decode cX6_reason 35 = .ok (.istore_n 3, 1) := by decide +kernel
theorem dX6_reason_36 : decode cX6_reason 36 = .ok (.iconst 0, 1) := by decide +kernel
theorem dX6_reason_37 : decode cX6_reason 37 = .ok (.istore 4, 2) := by decide +kernel
theorem dX6_reason_39 : decode cX6_reason 39 = .ok (.iload 4, 2) := by decide +kernel
theorem dX6_reason_41 : decode cX6_reason 41 = .ok (.aload_n 0, 1) := by decide +kernel
theorem dX6_reason_42 : decode cX6_reason 42 = .ok (.getfield 57, 3) := by decide +kernel
theorem dX6_reason_45 : decode cX6_reason 45 = .ok (.if_icmp .ge 87, 3) := by decide +kernel
theorem dX6_reason_48 : decode cX6_reason 48 = .ok (.aload_n 0, 1) := by decide +kernel
theorem dX6_reason_49 : decode cX6_reason 49 = .ok (.getfield 26, 3) := by decide +kernel
theorem dX6_reason_52 : decode cX6_reason 52 = .ok (.iload_n 1, 1) := by decide +kernel
theorem dX6_reason_53 : decode cX6_reason 53 = .ok (.iaload, 1) := by decide +kernel
theorem dX6_reason_54 : decode cX6_reason 54 = .ok (.iload 4, 2) := by decide +kernel
theorem dX6_reason_56 : decode cX6_reason 56 = .ok (.invokestatic 108, 3) := by decide +kernel
theorem dX6_reason_59 : decode cX6_reason 59 = .ok (.ifCond .eq 17, 3) := by decide +kernel
theorem dX6_reason_62 : decode cX6_reason 62 = .ok (.aload_n 0, 1) := by decide +kernel
theorem dX6_reason_63 : decode cX6_reason 63 = .ok (.aload_n 0, 1) := by decide +kernel
theorem dX6_reason_64 : decode cX6_reason 64 = .ok (.iload 4, 2) := by decide +kernel
theorem dX6_reason_66 : decode cX6_reason 66 = .ok (.invokevirtual 115, 3) := by decide +kernel
theorem dX6_reason_69 : decode cX6_reason 69 = .ok (.iload_n 2, 1) := by decide +kernel
theorem dX6_reason_70 : decode cX6_reason 70 = .ok (.invokevirtual 157, 3) := by decide +kernel
theorem dX6_reason_73 : decode cX6_reason 73 = .ok (.goto 5, 3) := by decide +kernel
theorem dX6_reason_76 : decode cX6_reason 76 = .ok (.bipush 25, 2) := by decide +kernel
theorem dX6_reason_78 : decode cX6_reason 78 = .ok (.istore 5, 2) := by decide +kernel
theorem dX6_reason_80 : decode cX6_reason 80 = .ok (.iload 5, 2) := by decide +kernel
theorem dX6_reason_82 : decode cX6_reason 82 = .ok (.bipush 24, 2) := by decide +kernel
theorem dX6_reason_84 : decode cX6_reason 84 = .ok (.if_icmp .gt 21, 3) := by decide +kernel
theorem dX6_reason_87 : decode cX6_reason 87 = .ok (.iload_n 3, 1) := by decide +kernel
theorem dX6_reason_88 : decode cX6_reason 88 = .ok (.iconst (-1), 1) := by decide +kernel
theorem dX6_reason_89 : decode cX6_reason 89 = .ok (.if_icmp .eq 12, 3) := by decide +kernel
theorem dX6_reason_92 : decode cX6_reason 92 = .ok (.iload 5, 2) := by decide +kernel
theorem dX6_reason_94 : decode cX6_reason 94 = .ok (.iload_n 3, 1) := by decide +kernel
theorem dX6_reason_95 : decode cX6_reason 95 = .ok (.bipush 100, 2) := by decide +kernel
theorem dX6_reason_97 : decode cX6_reason 97 = .ok (.idiv, 1) := by decide +kernel
theorem dX6_reason_98 : decode cX6_reason 98 = .ok (.if_icmp .ge 7, 3) := by decide +kernel
theorem dX6_reason_101 : decode cX6_reason 101 = .ok (.iconst 1, 1) := by decide +kernel
theorem dX6_reason_102 : decode cX6_reason 102 = .ok (.goto 4, 3) := by decide +kernel
theorem dX6_reason_105 : decode cX6_reason 105 = .ok (.iconst 0, 1) := by decide +kernel
theorem dX6_reason_106 : decode cX6_reason 106 = .ok (.istore 6, 2) := by decide +kernel
theorem dX6_reason_108 : decode cX6_reason 108 = .ok (.iload 6, 2) := by decide +kernel
theorem dX6_reason_110 : decode cX6_reason 110 = .ok (.ifCond .eq 14, 3) := by decide +kernel
theorem dX6_reason_113 : decode cX6_reason 113 = .ok (.bipush 100, 2) := by decide +kernel
theorem dX6_reason_115 : decode cX6_reason 115 = .ok (.iload 5, 2) := by decide +kernel
theorem dX6_reason_117 : decode cX6_reason 117 = .ok (.imul, 1) := by decide +kernel
theorem dX6_reason_118 : decode cX6_reason 118 = .ok (.iload 4, 2) := by decide +kernel
theorem dX6_reason_120 : decode cX6_reason 120 = .ok (.iadd, 1) := by decide +kernel
theorem dX6_reason_121 : decode cX6_reason 121 = .ok (.goto 4, 3) := by decide +kernel
theorem dX6_reason_124 : decode cX6_reason 124 = .ok (.iload_n 3, 1) := by decide +kernel
theorem dX6_reason_125 : decode cX6_reason 125 = .ok (.istore_n 3, 1) := by decide +kernel
theorem dX6_reason_126 : decode cX6_reason 126 = .ok (.iinc 4 1, 3) := by decide +kernel
theorem dX6_reason_129 : decode cX6_reason 129 = .ok (.goto (-90), 3) := by decide +kernel
theorem dX6_reason_132 : decode cX6_reason 132 = .ok (.iload_n 3, 1) := by decide +kernel
theorem dX6_reason_133 : decode cX6_reason 133 = .ok (.ireturn, 1) := by decide +kernel
theorem dX6_areSets_0 : decode cX6_areSets 0 = .ok (.iconst 1, 1) := by decide +kernel
theorem dX6_areSets_1 : decode cX6_areSets 1 = .ok (.aload_n 0, 1) := by decide +kernel
theorem dX6_areSets_2 : decode cX6_areSets 2 = .ok (.getfield 57, 3) := by decide +kernel
theorem dX6_areSets_5 : decode cX6_areSets 5 = .ok (.ishl, 1) := by decide +kernel
theorem dX6_areSets_6 : decode cX6_areSets 6 = .ok (.iconst 1, 1) := by decide +kernel
theorem dX6_areSets_7 : decode cX6_areSets 7 = .ok (.isub, 1) := by decide +kernel
theorem dX6_areSets_8 : decode cX6_areSets 8 = .ok (.istore 4, 2) := by decide +kernel
theorem dX6_areSets_10 : decode cX6_areSets 10 = .ok (.iload_n 1, 1) := by decide +kernel
theorem dX6_areSets_11 : decode cX6_areSets 11 = .ok (.iconst 0, 1) := by decide +kernel
theorem dX6_areSets_12 : decode cX6_areSets 12 = .ok (.iload 4, 2) := by decide +kernel
theorem dX6_areSets_14 : decode cX6_areSets 14 = .ok (.invokestatic 60, 3) := by decide +kernel
theorem dX6_areSets_17 : decode cX6_areSets 17 = .ok (.ifCond .eq 27, 3) := by decide +kernel
theorem dX6_areSets_20 : decode cX6_areSets 20 = .ok (.iload_n 2, 1) := by decide +kernel
theorem dX6_areSets_21 : decode cX6_areSets 21 = .ok (.iconst 0, 1) := by decide +kernel
theorem dX6_areSets_22 : decode cX6_areSets 22 = .ok (.iload 4, 2) := by decide +kernel
theorem dX6_areSets_24 : decode cX6_areSets 24 = .ok (.invokestatic 60, 3) := by decide +kernel
theorem dX6_areSets_27 : decode cX6_areSets 27 = .ok (.ifCond .eq 17, 3) := by decide +kernel
theorem dX6_areSets_30 : decode cX6_areSets 30 = .ok (.iload_n 3, 1) := by decide +kernel
theorem dX6_areSets_31 : decode cX6_areSets 31 = .ok (.iconst 0, 1) := by decide +kernel
theorem dX6_areSets_32 : decode cX6_areSets 32 = .ok (.iload 4, 2) := by decide +kernel
theorem dX6_areSets_34 : decode cX6_areSets 34 = .ok (.invokestatic 60, 3) := by decide +kernel
theorem dX6_areSets_37 : decode cX6_areSets 37 = .ok (.ifCond .eq 7, 3) := by decide +kernel
theorem dX6_areSets_40 : decode cX6_areSets 40 = .ok (.iconst 1, 1) := by decide +kernel
theorem dX6_areSets_41 : decode cX6_areSets 41 = .ok (.goto 4, 3) := by decide +kernel
theorem dX6_areSets_44 : decode cX6_areSets 44 = .ok (.iconst 0, 1) := by decide +kernel
theorem dX6_areSets_45 : decode cX6_areSets 45 = .ok (.ireturn, 1) := by decide +kernel
theorem dX6_isMatch_0 : decode cX6_isMatch 0 = .ok (.aload_n 0, 1) := by decide +kernel
theorem dX6_isMatch_1 : decode cX6_isMatch 1 = .ok (.iload_n 1, 1) := by decide +kernel
theorem dX6_isMatch_2 : decode cX6_isMatch 2 = .ok (.invokevirtual 111, 3) := by decide +kernel
theorem dX6_isMatch_5 : decode cX6_isMatch 5 = .ok (.istore 5, 2) := by decide +kernel
theorem dX6_isMatch_7 : decode cX6_isMatch 7 = .ok (.aload_n 0, 1) := by decide +kernel
theorem dX6_isMatch_8 : decode cX6_isMatch 8 = .ok (.iload_n 2, 1) := by decide +kernel
theorem dX6_isMatch_9 : decode cX6_isMatch 9 = .ok (.invokevirtual 125, 3) := by decide +kernel
theorem dX6_isMatch_12 : decode cX6_isMatch 12 = .ok (.iload 5, 2) := by decide +kernel
theorem dX6_isMatch_14 : decode cX6_isMatch 14 = .ok (.iconst (-1), 1) := by decide +kernel
theorem dX6_isMatch_15 : decode cX6_isMatch 15 = .ok (.ixor, 1) := by decide +kernel
theorem dX6_isMatch_16 : decode cX6_isMatch 16 = .ok (.iand, 1) := by decide +kernel
theorem dX6_isMatch_17 : decode cX6_isMatch 17 = .ok (.ifCond .ne 34, 3) := by decide +kernel
theorem dX6_isMatch_20 : decode cX6_isMatch 20 = .ok (.iload_n 3, 1) := by decide +kernel
theorem dX6_isMatch_21 : decode cX6_isMatch 21 = .ok (.ifCond .eq 14, 3) := by decide +kernel
theorem dX6_isMatch_24 : decode cX6_isMatch 24 = .ok (.aload_n 0, 1) := by decide +kernel
theorem dX6_isMatch_25 : decode cX6_isMatch 25 = .ok (.iload_n 3, 1) := by decide +kernel
theorem dX6_isMatch_26 : decode cX6_isMatch 26 = .ok (.invokevirtual 125, 3) := by decide +kernel
theorem dX6_isMatch_29 : decode cX6_isMatch 29 = .ok (.iload 5, 2) := by decide +kernel
theorem dX6_isMatch_31 : decode cX6_isMatch 31 = .ok (.iand, 1) := by decide +kernel
theorem dX6_isMatch_32 : decode cX6_isMatch 32 = .ok (.ifCond .eq 19, 3) := by decide +kernel
theorem dX6_isMatch_35 : decode cX6_isMatch 35 = .ok (.aload_n 0, 1) := by decide +kernel
theorem dX6_isMatch_36 : decode cX6_isMatch 36 = .ok (.iload 4, 2) := by decide +kernel
theorem dX6_isMatch_38 : decode cX6_isMatch 38 = .ok (.invokevirtual 125, 3) := by decide +kernel
theorem dX6_isMatch_41 : decode cX6_isMatch 41 = .ok (.iload 5, 2) := by decide +kernel
theorem dX6_isMatch_43 : decode cX6_isMatch 43 = .ok (.iand, 1) := by decide +kernel
theorem dX6_isMatch_44 : decode cX6_isMatch 44 = .ok (.ifCond .ne 7, 3) := by decide +kernel
theorem dX6_isMatch_47 : decode cX6_isMatch 47 = .ok (.iconst 1, 1) := by decide +kernel
theorem dX6_isMatch_48 : decode cX6_isMatch 48 = .ok (.goto 4, 3) := by decide +kernel
theorem dX6_isMatch_51 : decode cX6_isMatch 51 = .ok (.iconst 0, 1) := by decide +kernel
theorem dX6_isMatch_52 : decode cX6_isMatch 52 = .ok (.ireturn, 1) := by decide +kernel
theorem dX6_matches_0 : decode cX6_matches 0 = .ok (.iconst 0, 1) := by decide +kernel
theorem dX6_matches_1 : decode cX6_matches 1 = .ok (.istore 4, 2) := by decide +kernel
theorem dX6_matches_3 : decode cX6_matches 3 = .ok (.iconst 0, 1) := by decide +kernel
theorem dX6_matches_4 : decode cX6_matches 4 = .ok (.istore 5, 2) := by decide +kernel
theorem dX6_matches_6 : decode cX6_matches 6 = .ok (.iload 5, 2) := by decide +kernel
theorem dX6_matches_8 : decode cX6_matches 8 = .ok (.aload_n 0, 1) := by decide +kernel
theorem dX6_matches_9 : decode cX6_matches 9 = .ok (.getfield 64, 3) := by decide +kernel
theorem dX6_matches_12 : decode cX6_matches 12 = .ok (.if_icmp .ge 31, 3) := by decide +kernel
theorem dX6_matches_15 : decode cX6_matches 15 = .ok (.iload 4, 2) := by decide +kernel
theorem dX6_matches_17 : decode cX6_matches 17 = .ok (.aload_n 0, 1) := by decide +kernel
theorem dX6_matches_18 : decode cX6_matches 18 = .ok (.iload 5, 2) := by decide +kernel
theorem dX6_matches_20 : decode cX6_matches 20 = .ok (.iload_n 1, 1) := by decide +kernel
theorem dX6_matches_21 : decode cX6_matches 21 = .ok (.iload_n 2, 1) := by decide +kernel
theorem dX6_matches_22 : decode cX6_matches 22 = .ok (.iload_n 3, 1) := by decide +kernel
theorem dX6_matches_23 : decode cX6_matches 23 = .ok (.invokevirtual 161, 3) := by decide +kernel
theorem dX6_matches_26 : decode cX6_matches 26 = .ok (.ifCond .eq 7, 3) := by decide +kernel
theorem dX6_matches_29 : decode cX6_matches 29 = .ok (.iconst 1, 1) := by decide +kernel
theorem dX6_matches_30 : decode cX6_matches 30 = .ok (.goto 4, 3) := by decide +kernel
theorem dX6_matches_33 : decode cX6_matches 33 = .ok (.iconst 0, 1) := by decide +kernel
theorem dX6_matches_34 : decode cX6_matches 34 = .ok (.iadd, 1) := by decide +kernel
theorem dX6_matches_35 : decode cX6_matches 35 = .ok (.istore 4, 2) := by decide +kernel
theorem dX6_matches_37 : decode cX6_matches 37 = .ok (.iinc 5 1, 3) := by decide +kernel
theorem dX6_matches_40 : decode cX6_matches 40 = .ok (.goto (-34), 3) := by decide +kernel
theorem dX6_matches_43 : decode cX6_matches 43 = .ok (.iload 4, 2) := by decide +kernel
theorem dX6_matches_45 : decode cX6_matches 45 = .ok (.ireturn, 1) := by decide +kernel
theorem dX6_count_0 : decode cX6_count 0 = .ok (.aload_n 0, 1) := by decide +kernel
theorem dX6_count_1 : decode cX6_count 1 = .ok (.aload_n 0, 1) := by decide +kernel
theorem dX6_count_2 : decode cX6_count 2 = .ok (.iload_n 1, 1) := by decide +kernel
theorem dX6_count_3 : decode cX6_count 3 = .ok (.iload_n 2, 1) := by decide +kernel
theorem dX6_count_4 : decode cX6_count 4 = .ok (.iload_n 3, 1) := by decide +kernel
theorem dX6_count_5 : decode cX6_count 5 = .ok (.invokevirtual 165, 3) := by decide +kernel
theorem dX6_count_8 : decode cX6_count 8 = .ok (.ifCond .eq 7, 3) := by decide +kernel
theorem dX6_count_11 : decode cX6_count 11 = .ok (.iconst 0, 1) := by decide +kernel
theorem dX6_count_12 : decode cX6_count 12 = .ok (.goto 4, 3) := by decide +kernel
theorem dX6_count_15 : decode cX6_count 15 = .ok (.iconst 1, 1) := by decide +kernel
theorem dX6_count_16 : decode cX6_count 16 = .ok (.invokevirtual 78, 3) := by decide +kernel
theorem dX6_count_19 : decode cX6_count 19 = .ok (.ifCond .eq 13, 3) := by decide +kernel
theorem dX6_count_22 : decode cX6_count 22 = .ok (.aload_n 0, 1) := by decide +kernel
theorem dX6_count_23 : decode cX6_count 23 = .ok (.iload_n 1, 1) := by decide +kernel
theorem dX6_count_24 : decode cX6_count 24 = .ok (.iload_n 2, 1) := by decide +kernel
theorem dX6_count_25 : decode cX6_count 25 = .ok (.iload_n 3, 1) := by decide +kernel
theorem dX6_count_26 : decode cX6_count 26 = .ok (.invokevirtual 168, 3) := by decide +kernel
theorem dX6_count_29 : decode cX6_count 29 = .ok (.goto 4, 3) := by decide +kernel
theorem dX6_count_32 : decode cX6_count 32 = .ok (.iconst 0, 1) := by decide +kernel
theorem dX6_count_33 : decode cX6_count 33 = .ok (.ireturn, 1) := by decide +kernel
theorem dX6_match_0 : decode cX6_match 0 = .ok (.aload_n 0, 1) := by decide +kernel
theorem dX6_match_1 : decode cX6_match 1 = .ok (.iload_n 2, 1) := by decide +kernel
theorem dX6_match_2 : decode cX6_match 2 = .ok (.iload_n 3, 1) := by decide +kernel
theorem dX6_match_3 : decode cX6_match 3 = .ok (.iload 4, 2) := by decide +kernel
theorem dX6_match_5 : decode cX6_match 5 = .ok (.invokevirtual 165, 3) := by decide +kernel
theorem dX6_match_8 : decode cX6_match 8 = .ok (.istore 5, 2) := by decide +kernel
theorem dX6_match_10 : decode cX6_match 10 = .ok (.aload_n 0, 1) := by decide +kernel
theorem dX6_match_11 : decode cX6_match 11 = .ok (.iload_n 1, 1) := by decide +kernel
theorem dX6_match_12 : decode cX6_match 12 = .ok (.ifCond .ge 7, 3) := by decide +kernel
theorem dX6_match_15 : decode cX6_match 15 = .ok (.iconst 1, 1) := by decide +kernel
theorem dX6_match_16 : decode cX6_match 16 = .ok (.goto 29, 3) := by decide +kernel
theorem dX6_match_19 : decode cX6_match 19 = .ok (.iload 5, 2) := by decide +kernel
theorem dX6_match_21 : decode cX6_match 21 = .ok (.ifCond .ne 7, 3) := by decide +kernel
theorem dX6_match_24 : decode cX6_match 24 = .ok (.iconst 2, 1) := by decide +kernel
theorem dX6_match_25 : decode cX6_match 25 = .ok (.goto 20, 3) := by decide +kernel
theorem dX6_match_28 : decode cX6_match 28 = .ok (.iload_n 1, 1) := by decide +kernel
theorem dX6_match_29 : decode cX6_match 29 = .ok (.aload_n 0, 1) := by decide +kernel
theorem dX6_match_30 : decode cX6_match 30 = .ok (.iload_n 2, 1) := by decide +kernel
theorem dX6_match_31 : decode cX6_match 31 = .ok (.iload_n 3, 1) := by decide +kernel
theorem dX6_match_32 : decode cX6_match 32 = .ok (.iload 4, 2) := by decide +kernel
theorem dX6_match_34 : decode cX6_match 34 = .ok (.invokevirtual 168, 3) := by decide +kernel
theorem dX6_match_37 : decode cX6_match 37 = .ok (.if_icmp .ge 7, 3) := by decide +kernel
theorem dX6_match_40 : decode cX6_match 40 = .ok (.iconst 0, 1) := by decide +kernel
theorem dX6_match_41 : decode cX6_match 41 = .ok (.goto 4, 3) := by decide +kernel
theorem dX6_match_44 : decode cX6_match 44 = .ok (.iconst 1, 1) := by decide +kernel
theorem dX6_match_45 : decode cX6_match 45 = .ok (.invokevirtual 78, 3) := by decide +kernel
theorem dX6_match_48 : decode cX6_match 48 = .ok (.ifCond .ne 5, 3) := by decide +kernel
theorem dX6_match_51 : decode cX6_match 51 = .ok (.iconst 0, 1) := by decide +kernel
theorem dX6_match_52 : decode cX6_match 52 = .ok (.ireturn, 1) := by decide +kernel
theorem dX6_match_53 : decode cX6_match 53 = .ok (.iconst 0, 1) := by decide +kernel
theorem dX6_match_54 : decode cX6_match 54 = .ok (.istore 6, 2) := by decide +kernel
theorem dX6_match_56 : decode cX6_match 56 = .ok (.iload_n 1, 1) := by decide +kernel
theorem dX6_match_57 : decode cX6_match 57 = .ok (.istore 7, 2) := by decide +kernel
theorem dX6_match_59 : decode cX6_match 59 = .ok (.iload 7, 2) := by decide +kernel
theorem dX6_match_61 : decode cX6_match 61 = .ok (.ifCond .gt 16, 3) := by decide +kernel
theorem dX6_match_64 : decode cX6_match 64 = .ok (.aload_n 0, 1) := by decide +kernel
theorem dX6_match_65 : decode cX6_match 65 = .ok (.iload 6, 2) := by decide +kernel
theorem dX6_match_67 : decode cX6_match 67 = .ok (.iload_n 2, 1) := by decide +kernel
theorem dX6_match_68 : decode cX6_match 68 = .ok (.iload_n 3, 1) := by decide +kernel
theorem dX6_match_69 : decode cX6_match 69 = .ok (.iload 4, 2) := by decide +kernel
theorem dX6_match_71 : decode cX6_match 71 = .ok (.invokevirtual 161, 3) := by decide +kernel
theorem dX6_match_74 : decode cX6_match 74 = .ok (.ifCond .ne 32, 3) := by decide +kernel
theorem dX6_match_77 : decode cX6_match 77 = .ok (.iload 7, 2) := by decide +kernel
theorem dX6_match_79 : decode cX6_match 79 = .ok (.aload_n 0, 1) := by decide +kernel
theorem dX6_match_80 : decode cX6_match 80 = .ok (.iload 6, 2) := by decide +kernel
theorem dX6_match_82 : decode cX6_match 82 = .ok (.iload_n 2, 1) := by decide +kernel
theorem dX6_match_83 : decode cX6_match 83 = .ok (.iload_n 3, 1) := by decide +kernel
theorem dX6_match_84 : decode cX6_match 84 = .ok (.iload 4, 2) := by decide +kernel
theorem dX6_match_86 : decode cX6_match 86 = .ok (.invokevirtual 161, 3) := by decide +kernel
theorem dX6_match_89 : decode cX6_match 89 = .ok (.ifCond .eq 7, 3) := by decide +kernel
theorem dX6_match_92 : decode cX6_match 92 = .ok (.iconst 1, 1) := by decide +kernel
theorem dX6_match_93 : decode cX6_match 93 = .ok (.goto 4, 3) := by decide +kernel
theorem dX6_match_96 : decode cX6_match 96 = .ok (.iconst 0, 1) := by decide +kernel
theorem dX6_match_97 : decode cX6_match 97 = .ok (.isub, 1) := by decide +kernel
theorem dX6_match_98 : decode cX6_match 98 = .ok (.istore 7, 2) := by decide +kernel
theorem dX6_match_100 : decode cX6_match 100 = .ok (.iinc 6 1, 3) := by decide +kernel
theorem dX6_match_103 : decode cX6_match 103 = .ok (.goto (-44), 3) := by decide +kernel
theorem dX6_match_106 : decode cX6_match 106 = .ok (.iload 6, 2) := by decide +kernel
theorem dX6_match_108 : decode cX6_match 108 = .ok (.ireturn, 1) := by decide +kernel
theorem dJ6_bitCount_0f7a4_0 : decode cJ6_bitCount_0f7a4 0 = .ok (.iload_n 0, 1) := by decide +kernel
theorem dJ6_bitCount_0f7a4_1 : decode cJ6_bitCount_0f7a4 1 = .ok (.iload_n 0, 1) := by decide +kernel
theorem dJ6_bitCount_0f7a4_2 : decode cJ6_bitCount_0f7a4 2 = .ok (.iconst 1, 1) := by decide +kernel
theorem dJ6_bitCount_0f7a4_3 : decode cJ6_bitCount_0f7a4 3 = .ok (.iushr, 1) := by decide +kernel
theorem dJ6_bitCount_0f7a4_4 : decode cJ6_bitCount_0f7a4 4 = .ok (.ldc_w 265, 3) := by decide +kernel
theorem dJ6_bitCount_0f7a4_7 : decode cJ6_bitCount_0f7a4 7 = .ok (.iand, 1) := by decide +kernel
theorem dJ6_bitCount_0f7a4_8 : decode cJ6_bitCount_0f7a4 8 = .ok (.isub, 1) := by decide +kernel
theorem dJ6_bitCount_0f7a4_9 : decode cJ6_bitCount_0f7a4 9 = .ok (.istore_n 0, 1) := by decide +kernel
theorem dJ6_bitCount_0f7a4_10 : decode cJ6_bitCount_0f7a4 10 = .ok (.iload_n 0, 1) := by decide +kernel
theorem dJ6_bitCount_0f7a4_11 : decode cJ6_bitCount_0f7a4 11 = .ok (.ldc_w 266, 3) := by decide +kernel
theorem dJ6_bitCount_0f7a4_14 : decode cJ6_bitCount_0f7a4 14 = .ok (.iand, 1) := by decide +kernel
theorem dJ6_bitCount_0f7a4_15 : decode cJ6_bitCount_0f7a4 15 = .ok (.iload_n 0, 1) := by decide +kernel
theorem dJ6_bitCount_0f7a4_16 : decode cJ6_bitCount_0f7a4 16 = .ok (.iconst 2, 1) := by decide +kernel
theorem dJ6_bitCount_0f7a4_17 : decode cJ6_bitCount_0f7a4 17 = .ok (.iushr, 1) := by decide +kernel
theorem dJ6_bitCount_0f7a4_18 : decode cJ6_bitCount_0f7a4 18 = .ok (.ldc_w 266, 3) := by decide +kernel
theorem dJ6_bitCount_0f7a4_21 : decode cJ6_bitCount_0f7a4 21 = .ok (.iand, 1) := by decide +kernel
theorem dJ6_bitCount_0f7a4_22 : decode cJ6_bitCount_0f7a4 22 = .ok (.iadd, 1) := by decide +kernel
theorem dJ6_bitCount_0f7a4_23 : decode cJ6_bitCount_0f7a4 23 = .ok (.istore_n 0, 1) := by decide +kernel
theorem dJ6_bitCount_0f7a4_24 : decode cJ6_bitCount_0f7a4 24 = .ok (.iload_n 0, 1) := by decide +kernel
theorem dJ6_bitCount_0f7a4_25 : decode cJ6_bitCount_0f7a4 25 = .ok (.iload_n 0, 1) := by decide +kernel
theorem dJ6_bitCount_0f7a4_26 : decode cJ6_bitCount_0f7a4 26 = .ok (.iconst 4, 1) := by decide +kernel
theorem dJ6_bitCount_0f7a4_27 : decode cJ6_bitCount_0f7a4 27 = .ok (.iushr, 1) := by decide +kernel
theorem dJ6_bitCount_0f7a4_28 : decode cJ6_bitCount_0f7a4 28 = .ok (.iadd, 1) := by decide +kernel
theorem dJ6_bitCount_0f7a4_29 : decode cJ6_bitCount_0f7a4 29 = .ok (.ldc_w 267, 3) := by decide +kernel
theorem dJ6_bitCount_0f7a4_32 : decode cJ6_bitCount_0f7a4 32 = .ok (.iand, 1) := by decide +kernel
theorem dJ6_bitCount_0f7a4_33 : decode cJ6_bitCount_0f7a4 33 = .ok (.istore_n 0, 1) := by decide +kernel
theorem dJ6_bitCount_0f7a4_34 : decode cJ6_bitCount_0f7a4 34 = .ok (.iload_n 0, 1) := by decide +kernel
theorem dJ6_bitCount_0f7a4_35 : decode cJ6_bitCount_0f7a4 35 = .ok (.iload_n 0, 1) := by decide +kernel
theorem dJ6_bitCount_0f7a4_36 : decode cJ6_bitCount_0f7a4 36 = .ok (.bipush 8, 2) := by decide +kernel
theorem dJ6_bitCount_0f7a4_38 : decode cJ6_bitCount_0f7a4 38 = .ok (.iushr, 1) := by decide +kernel
theorem dJ6_bitCount_0f7a4_39 : decode cJ6_bitCount_0f7a4 39 = .ok (.iadd, 1) := by decide +kernel
theorem dJ6_bitCount_0f7a4_40 : decode cJ6_bitCount_0f7a4 40 = .ok (.istore_n 0, 1) := by decide +kernel
theorem dJ6_bitCount_0f7a4_41 : decode cJ6_bitCount_0f7a4 41 = .ok (.iload_n 0, 1) := by decide +kernel
theorem dJ6_bitCount_0f7a4_42 : decode cJ6_bitCount_0f7a4 42 = .ok (.iload_n 0, 1) := by decide +kernel
theorem dJ6_bitCount_0f7a4_43 : decode cJ6_bitCount_0f7a4 43 = .ok (.bipush 16, 2) := by decide +kernel
theorem dJ6_bitCount_0f7a4_45 : decode cJ6_bitCount_0f7a4 45 = .ok (.iushr, 1) := by decide +kernel
theorem dJ6_bitCount_0f7a4_46 : decode cJ6_bitCount_0f7a4 46 = .ok (.iadd, 1) := by decide +kernel
theorem dJ6_bitCount_0f7a4_47 : decode cJ6_bitCount_0f7a4 47 = .ok (.istore_n 0, 1) := by decide +kernel
theorem dJ6_bitCount_0f7a4_48 : decode cJ6_bitCount_0f7a4 48 = .ok (.iload_n 0, 1) := by decide +kernel
theorem dJ6_bitCount_0f7a4_49 : decode cJ6_bitCount_0f7a4 49 = .ok (.bipush 63, 2) := by decide +kernel
theorem dJ6_bitCount_0f7a4_51 : decode cJ6_bitCount_0f7a4 51 = .ok (.iand, 1) := by decide +kernel
theorem dJ6_bitCount_0f7a4_52 : decode cJ6_bitCount_0f7a4 52 = .ok (.ireturn, 1) := by decide +kernel
theorem dJ9_abs_0f7a4_0 : decode cJ9_abs_0f7a4 0 = .ok (.iload_n 0, 1) := by decide +kernel
theorem dJ9_abs_0f7a4_1 : decode cJ9_abs_0f7a4 1 = .ok (.ifCond .ge 8, 3) := by decide +kernel
theorem dJ9_abs_0f7a4_4 : decode cJ9_abs_0f7a4 4 = .ok (.iload_n 0, 1) := by decide +kernel
theorem dJ9_abs_0f7a4_5 : decode cJ9_abs_0f7a4 5 = .ok (.ineg, 1) := by decide +kernel
theorem dJ9_abs_0f7a4_6 : decode cJ9_abs_0f7a4 6 = .ok (.goto 4, 3) := by decide +kernel
theorem dJ9_abs_0f7a4_9 : decode cJ9_abs_0f7a4 9 = .ok (.iload_n 0, 1) := by decide +kernel
theorem dJ9_abs_0f7a4_10 : decode cJ9_abs_0f7a4 10 = .ok (.ireturn, 1) := by decide +kernel
theorem dJ9_min_7cf53_0 : decode cJ9_min_7cf53 0 = .ok (.iload_n 0, 1) := by decide +kernel
theorem dJ9_min_7cf53_1 : decode cJ9_min_7cf53 1 = .ok (.iload_n 1, 1) := by decide +kernel
theorem dJ9_min_7cf53_2 : decode cJ9_min_7cf53 2 = .ok (.if_icmp .gt 7, 3) := by decide +kernel
theorem dJ9_min_7cf53_5 : decode cJ9_min_7cf53 5 = .ok (.iload_n 0, 1) := by decide +kernel
theorem dJ9_min_7cf53_6 : decode cJ9_min_7cf53 6 = .ok (.goto 4, 3) := by decide +kernel
theorem dJ9_min_7cf53_9 : decode cJ9_min_7cf53 9 = .ok (.iload_n 1, 1) := by decide +kernel
theorem dJ9_min_7cf53_10 : decode cJ9_min_7cf53 10 = .ok (.ireturn, 1) := by decide +kernel
abbrev vwCl : List vw_C := [(RX0, TX0, 7), (RX1, TX1, 5), (RX2, TX2, 7), (RX3, TX3, 1), (RX4, TX4, 5), (RX5, TX5, 6), (RX6, TX6, 20)]
end
section
theorem dL_type_0 : decode cL_type 0 = .ok (.aload_n 2, 1) := by decide +kernel
theorem dL_type_1 : decode cL_type 1 = .ok (.iconst 0, 1) := by decide +kernel
theorem dL_type_2 : decode cL_type 2 = .ok (.aload_n 0, 1) := by decide +kernel
theorem dL_type_3 : decode cL_type 3 = .ok (.iload_n 1, 1) := by decide +kernel
theorem dL_type_4 : decode cL_type 4 = .ok (.invokevirtual 7, 3) := by decide +kernel
theorem dL_type_7 : decode cL_type 7 = .ok (.i2l, 1) := by decide +kernel
theorem dL_type_8 : decode cL_type 8 = .ok (.lastore, 1) := by decide +kernel
theorem dL_type_9 : decode cL_type 9 = .ok (.goto 9, 3) := by decide +kernel
theorem dL_type_12 : decode cL_type 12 = .ok (.astore_n 3, 1) := by decide +kernel
theorem dL_type_13 : decode cL_type 13 = .ok (.iconst 1, 1) := by decide +kernel
theorem dL_type_14 : decode cL_type 14 = .ok (.ireturn, 1) := by decide +kernel
theorem dL_type_15 : decode cL_type 15 = .ok (.astore_n 3, 1) := by decide +kernel
theorem dL_type_16 : decode cL_type 16 = .ok (.iconst 2, 1) := by decide +kernel
theorem dL_type_17 : decode cL_type 17 = .ok (.ireturn, 1) := by decide +kernel
theorem dL_type_18 : decode cL_type 18 = .ok (.iconst 0, 1) := by decide +kernel
theorem dL_type_19 : decode cL_type 19 = .ok (.ireturn, 1) := by decide +kernel
theorem dL_enter_0 : decode cL_enter 0 = .ok (.aload_n 1, 1) := by decide +kernel
theorem dL_enter_1 : decode cL_enter 1 = .ok (.iconst 0, 1) := by decide +kernel
theorem dL_enter_2 : decode cL_enter 2 = .ok (.aload_n 0, 1) := by decide +kernel
theorem dL_enter_3 : decode cL_enter 3 = .ok (.invokevirtual 17, 3) := by decide +kernel
theorem dL_enter_6 : decode cL_enter 6 = .ok (.i2l, 1) := by decide +kernel
theorem dL_enter_7 : decode cL_enter 7 = .ok (.lastore, 1) := by decide +kernel
theorem dL_enter_8 : decode cL_enter 8 = .ok (.goto 6, 3) := by decide +kernel
theorem dL_enter_11 : decode cL_enter 11 = .ok (.astore_n 2, 1) := by decide +kernel
theorem dL_enter_12 : decode cL_enter 12 = .ok (.iconst 1, 1) := by decide +kernel
theorem dL_enter_13 : decode cL_enter 13 = .ok (.ireturn, 1) := by decide +kernel
theorem dL_enter_14 : decode cL_enter 14 = .ok (.iconst 0, 1) := by decide +kernel
theorem dL_enter_15 : decode cL_enter 15 = .ok (.ireturn, 1) := by decide +kernel
theorem dL_letter_0 : decode cL_letter 0 = .ok (.aload_n 3, 1) := by decide +kernel
theorem dL_letter_1 : decode cL_letter 1 = .ok (.iconst 0, 1) := by decide +kernel
theorem dL_letter_2 : decode cL_letter 2 = .ok (.aload_n 0, 1) := by decide +kernel
theorem dL_letter_3 : decode cL_letter 3 = .ok (.iload_n 1, 1) := by decide +kernel
theorem dL_letter_4 : decode cL_letter 4 = .ok (.iload_n 2, 1) := by decide +kernel
theorem dL_letter_5 : decode cL_letter 5 = .ok (.invokevirtual 21, 3) := by decide +kernel
theorem dL_letter_8 : decode cL_letter 8 = .ok (.i2l, 1) := by decide +kernel
theorem dL_letter_9 : decode cL_letter 9 = .ok (.lastore, 1) := by decide +kernel
theorem dL_letter_10 : decode cL_letter 10 = .ok (.goto 7, 3) := by decide +kernel
theorem dL_letter_13 : decode cL_letter 13 = .ok (.astore 4, 2) := by decide +kernel
theorem dL_letter_15 : decode cL_letter 15 = .ok (.iconst 1, 1) := by decide +kernel
theorem dL_letter_16 : decode cL_letter 16 = .ok (.ireturn, 1) := by decide +kernel
theorem dL_letter_17 : decode cL_letter 17 = .ok (.iconst 0, 1) := by decide +kernel
theorem dL_letter_18 : decode cL_letter 18 = .ok (.ireturn, 1) := by decide +kernel
theorem dL_addThing_0 : decode cL_addThing 0 = .ok (.aload_n 1, 1) := by decide +kernel
theorem dL_addThing_1 : decode cL_addThing 1 = .ok (.iconst 0, 1) := by decide +kernel
theorem dL_addThing_2 : decode cL_addThing 2 = .ok (.aload_n 0, 1) := by decide +kernel
theorem dL_addThing_3 : decode cL_addThing 3 = .ok (.invokevirtual 27, 3) := by decide +kernel
theorem dL_addThing_6 : decode cL_addThing 6 = .ok (.i2l, 1) := by decide +kernel
theorem dL_addThing_7 : decode cL_addThing 7 = .ok (.lastore, 1) := by decide +kernel
theorem dL_addThing_8 : decode cL_addThing 8 = .ok (.goto 6, 3) := by decide +kernel
theorem dL_addThing_11 : decode cL_addThing 11 = .ok (.astore_n 2, 1) := by decide +kernel
theorem dL_addThing_12 : decode cL_addThing 12 = .ok (.iconst 1, 1) := by decide +kernel
theorem dL_addThing_13 : decode cL_addThing 13 = .ok (.ireturn, 1) := by decide +kernel
theorem dL_addThing_14 : decode cL_addThing 14 = .ok (.iconst 0, 1) := by decide +kernel
theorem dL_addThing_15 : decode cL_addThing 15 = .ok (.ireturn, 1) := by decide +kernel
theorem dL_tag_0 : decode cL_tag 0 = .ok (.aload_n 3, 1) := by decide +kernel
theorem dL_tag_1 : decode cL_tag 1 = .ok (.iconst 0, 1) := by decide +kernel
theorem dL_tag_2 : decode cL_tag 2 = .ok (.aload_n 0, 1) := by decide +kernel
theorem dL_tag_3 : decode cL_tag 3 = .ok (.iload_n 1, 1) := by decide +kernel
theorem dL_tag_4 : decode cL_tag 4 = .ok (.iload_n 2, 1) := by decide +kernel
theorem dL_tag_5 : decode cL_tag 5 = .ok (.invokevirtual 30, 3) := by decide +kernel
theorem dL_tag_8 : decode cL_tag 8 = .ok (.ifCond .eq 7, 3) := by decide +kernel
theorem dL_tag_11 : decode cL_tag 11 = .ok (.lconst 1, 1) := by decide +kernel
theorem dL_tag_12 : decode cL_tag 12 = .ok (.goto 4, 3) := by decide +kernel
theorem dL_tag_15 : decode cL_tag 15 = .ok (.lconst 0, 1) := by decide +kernel
theorem dL_tag_16 : decode cL_tag 16 = .ok (.lastore, 1) := by decide +kernel
theorem dL_tag_17 : decode cL_tag 17 = .ok (.goto 7, 3) := by decide +kernel
theorem dL_tag_20 : decode cL_tag 20 = .ok (.astore 4, 2) := by decide +kernel
theorem dL_tag_22 : decode cL_tag 22 = .ok (.iconst 1, 1) := by decide +kernel
theorem dL_tag_23 : decode cL_tag 23 = .ok (.ireturn, 1) := by decide +kernel
theorem dL_tag_24 : decode cL_tag 24 = .ok (.iconst 0, 1) := by decide +kernel
theorem dL_tag_25 : decode cL_tag 25 = .ok (.ireturn, 1) := by decide +kernel
theorem dL_untag_0 : decode cL_untag 0 = .ok (.aload_n 3, 1) := by decide +kernel
theorem dL_untag_1 : decode cL_untag 1 = .ok (.iconst 0, 1) := by decide +kernel
theorem dL_untag_2 : decode cL_untag 2 = .ok (.aload_n 0, 1) := by decide +kernel
theorem dL_untag_3 : decode cL_untag 3 = .ok (.iload_n 1, 1) := by decide +kernel
theorem dL_untag_4 : decode cL_untag 4 = .ok (.iload_n 2, 1) := by decide +kernel
theorem dL_untag_5 : decode cL_untag 5 = .ok (.invokevirtual 34, 3) := by decide +kernel
theorem dL_untag_8 : decode cL_untag 8 = .ok (.ifCond .eq 7, 3) := by decide +kernel
theorem dL_untag_11 : decode cL_untag 11 = .ok (.lconst 1, 1) := by decide +kernel
theorem dL_untag_12 : decode cL_untag 12 = .ok (.goto 4, 3) := by decide +kernel
theorem dL_untag_15 : decode cL_untag 15 = .ok (.lconst 0, 1) := by decide +kernel
theorem dL_untag_16 : decode cL_untag 16 = .ok (.lastore, 1) := by decide +kernel
theorem dL_untag_17 : decode cL_untag 17 = .ok (.goto 7, 3) := by decide +kernel
theorem dL_untag_20 : decode cL_untag 20 = .ok (.astore 4, 2) := by decide +kernel
theorem dL_untag_22 : decode cL_untag 22 = .ok (.iconst 1, 1) := by decide +kernel
theorem dL_untag_23 : decode cL_untag 23 = .ok (.ireturn, 1) := by decide +kernel
theorem dL_untag_24 : decode cL_untag 24 = .ok (.iconst 0, 1) := by decide +kernel
theorem dL_untag_25 : decode cL_untag 25 = .ok (.ireturn, 1) := by decide +kernel
theorem dL_mass_0 : decode cL_mass 0 = .ok (.aload 4, 2) := by decide +kernel
theorem dL_mass_2 : decode cL_mass 2 = .ok (.iconst 0, 1) := by decide +kernel
theorem dL_mass_3 : decode cL_mass 3 = .ok (.aload_n 0, 1) := by decide +kernel
theorem dL_mass_4 : decode cL_mass 4 = .ok (.iload_n 1, 1) := by decide +kernel
theorem dL_mass_5 : decode cL_mass 5 = .ok (.iload_n 2, 1) := by decide +kernel
theorem dL_mass_6 : decode cL_mass 6 = .ok (.iload_n 3, 1) := by decide +kernel
theorem dL_mass_7 : decode cL_mass 7 = .ok (.invokevirtual 37, 3) := by decide +kernel
theorem dL_mass_10 : decode cL_mass 10 = .ok (.i2l, 1) := by decide +kernel
theorem dL_mass_11 : decode cL_mass 11 = .ok (.lastore, 1) := by decide +kernel
theorem dL_mass_12 : decode cL_mass 12 = .ok (.goto 11, 3) := by decide +kernel
theorem dL_mass_15 : decode cL_mass 15 = .ok (.astore 5, 2) := by decide +kernel
theorem dL_mass_17 : decode cL_mass 17 = .ok (.iconst 1, 1) := by decide +kernel
theorem dL_mass_18 : decode cL_mass 18 = .ok (.ireturn, 1) := by decide +kernel
theorem dL_mass_19 : decode cL_mass 19 = .ok (.astore 5, 2) := by decide +kernel
theorem dL_mass_21 : decode cL_mass 21 = .ok (.iconst 2, 1) := by decide +kernel
theorem dL_mass_22 : decode cL_mass 22 = .ok (.ireturn, 1) := by decide +kernel
theorem dL_mass_23 : decode cL_mass 23 = .ok (.iconst 0, 1) := by decide +kernel
theorem dL_mass_24 : decode cL_mass 24 = .ok (.ireturn, 1) := by decide +kernel
theorem dL_undo_0 : decode cL_undo 0 = .ok (.aload_n 1, 1) := by decide +kernel
theorem dL_undo_1 : decode cL_undo 1 = .ok (.iconst 0, 1) := by decide +kernel
theorem dL_undo_2 : decode cL_undo 2 = .ok (.aload_n 0, 1) := by decide +kernel
theorem dL_undo_3 : decode cL_undo 3 = .ok (.invokevirtual 41, 3) := by decide +kernel
theorem dL_undo_6 : decode cL_undo 6 = .ok (.i2l, 1) := by decide +kernel
theorem dL_undo_7 : decode cL_undo 7 = .ok (.lastore, 1) := by decide +kernel
theorem dL_undo_8 : decode cL_undo 8 = .ok (.goto 6, 3) := by decide +kernel
theorem dL_undo_11 : decode cL_undo 11 = .ok (.astore_n 2, 1) := by decide +kernel
theorem dL_undo_12 : decode cL_undo 12 = .ok (.iconst 1, 1) := by decide +kernel
theorem dL_undo_13 : decode cL_undo 13 = .ok (.ireturn, 1) := by decide +kernel
theorem dL_undo_14 : decode cL_undo 14 = .ok (.iconst 0, 1) := by decide +kernel
theorem dL_undo_15 : decode cL_undo 15 = .ok (.ireturn, 1) := by decide +kernel
theorem dL_hand_0 : decode cL_hand 0 = .ok (.aload_n 2, 1) := by decide +kernel
theorem dL_hand_1 : decode cL_hand 1 = .ok (.iconst 0, 1) := by decide +kernel
theorem dL_hand_2 : decode cL_hand 2 = .ok (.aload_n 0, 1) := by decide +kernel
theorem dL_hand_3 : decode cL_hand 3 = .ok (.iload_n 1, 1) := by decide +kernel
theorem dL_hand_4 : decode cL_hand 4 = .ok (.invokevirtual 44, 3) := by decide +kernel
theorem dL_hand_7 : decode cL_hand 7 = .ok (.i2l, 1) := by decide +kernel
theorem dL_hand_8 : decode cL_hand 8 = .ok (.lastore, 1) := by decide +kernel
theorem dL_hand_9 : decode cL_hand 9 = .ok (.goto 6, 3) := by decide +kernel
theorem dL_hand_12 : decode cL_hand 12 = .ok (.astore_n 3, 1) := by decide +kernel
theorem dL_hand_13 : decode cL_hand 13 = .ok (.iconst 1, 1) := by decide +kernel
theorem dL_hand_14 : decode cL_hand 14 = .ok (.ireturn, 1) := by decide +kernel
theorem dL_hand_15 : decode cL_hand 15 = .ok (.iconst 0, 1) := by decide +kernel
theorem dL_hand_16 : decode cL_hand 16 = .ok (.ireturn, 1) := by decide +kernel
theorem dL_ask_0 : decode cL_ask 0 = .ok (.aload 4, 2) := by decide +kernel
theorem dL_ask_2 : decode cL_ask 2 = .ok (.iconst 0, 1) := by decide +kernel
theorem dL_ask_3 : decode cL_ask 3 = .ok (.aload_n 0, 1) := by decide +kernel
theorem dL_ask_4 : decode cL_ask 4 = .ok (.iload_n 1, 1) := by decide +kernel
theorem dL_ask_5 : decode cL_ask 5 = .ok (.iload_n 2, 1) := by decide +kernel
theorem dL_ask_6 : decode cL_ask 6 = .ok (.iload_n 3, 1) := by decide +kernel
theorem dL_ask_7 : decode cL_ask 7 = .ok (.invokevirtual 48, 3) := by decide +kernel
theorem dL_ask_10 : decode cL_ask 10 = .ok (.i2l, 1) := by decide +kernel
theorem dL_ask_11 : decode cL_ask 11 = .ok (.lastore, 1) := by decide +kernel
theorem dL_ask_12 : decode cL_ask 12 = .ok (.goto 15, 3) := by decide +kernel
theorem dL_ask_15 : decode cL_ask 15 = .ok (.astore 5, 2) := by decide +kernel
theorem dL_ask_17 : decode cL_ask 17 = .ok (.iconst 1, 1) := by decide +kernel
theorem dL_ask_18 : decode cL_ask 18 = .ok (.ireturn, 1) := by decide +kernel
theorem dL_ask_19 : decode cL_ask 19 = .ok (.astore 5, 2) := by decide +kernel
theorem dL_ask_21 : decode cL_ask 21 = .ok (.iconst 2, 1) := by decide +kernel
theorem dL_ask_22 : decode cL_ask 22 = .ok (.ireturn, 1) := by decide +kernel
theorem dL_ask_23 : decode cL_ask 23 = .ok (.astore 5, 2) := by decide +kernel
theorem dL_ask_25 : decode cL_ask 25 = .ok (.iconst 3, 1) := by decide +kernel
theorem dL_ask_26 : decode cL_ask 26 = .ok (.ireturn, 1) := by decide +kernel
theorem dL_ask_27 : decode cL_ask 27 = .ok (.iconst 0, 1) := by decide +kernel
theorem dL_ask_28 : decode cL_ask 28 = .ok (.ireturn, 1) := by decide +kernel
theorem dL_vote_0 : decode cL_vote 0 = .ok (.aload 4, 2) := by decide +kernel
theorem dL_vote_2 : decode cL_vote 2 = .ok (.iconst 0, 1) := by decide +kernel
theorem dL_vote_3 : decode cL_vote 3 = .ok (.aload_n 0, 1) := by decide +kernel
theorem dL_vote_4 : decode cL_vote 4 = .ok (.iload_n 1, 1) := by decide +kernel
theorem dL_vote_5 : decode cL_vote 5 = .ok (.iload_n 2, 1) := by decide +kernel
theorem dL_vote_6 : decode cL_vote 6 = .ok (.iload_n 3, 1) := by decide +kernel
theorem dL_vote_7 : decode cL_vote 7 = .ok (.invokevirtual 51, 3) := by decide +kernel
theorem dL_vote_10 : decode cL_vote 10 = .ok (.i2l, 1) := by decide +kernel
theorem dL_vote_11 : decode cL_vote 11 = .ok (.lastore, 1) := by decide +kernel
theorem dL_vote_12 : decode cL_vote 12 = .ok (.goto 15, 3) := by decide +kernel
theorem dL_vote_15 : decode cL_vote 15 = .ok (.astore 5, 2) := by decide +kernel
theorem dL_vote_17 : decode cL_vote 17 = .ok (.iconst 1, 1) := by decide +kernel
theorem dL_vote_18 : decode cL_vote 18 = .ok (.ireturn, 1) := by decide +kernel
theorem dL_vote_19 : decode cL_vote 19 = .ok (.astore 5, 2) := by decide +kernel
theorem dL_vote_21 : decode cL_vote 21 = .ok (.iconst 2, 1) := by decide +kernel
theorem dL_vote_22 : decode cL_vote 22 = .ok (.ireturn, 1) := by decide +kernel
theorem dL_vote_23 : decode cL_vote 23 = .ok (.astore 5, 2) := by decide +kernel
theorem dL_vote_25 : decode cL_vote 25 = .ok (.iconst 3, 1) := by decide +kernel
theorem dL_vote_26 : decode cL_vote 26 = .ok (.ireturn, 1) := by decide +kernel
theorem dL_vote_27 : decode cL_vote 27 = .ok (.iconst 0, 1) := by decide +kernel
theorem dL_vote_28 : decode cL_vote 28 = .ok (.ireturn, 1) := by decide +kernel
theorem dL_standing_0 : decode cL_standing 0 = .ok (.aload_n 2, 1) := by decide +kernel
theorem dL_standing_1 : decode cL_standing 1 = .ok (.iconst 0, 1) := by decide +kernel
theorem dL_standing_2 : decode cL_standing 2 = .ok (.aload_n 0, 1) := by decide +kernel
theorem dL_standing_3 : decode cL_standing 3 = .ok (.iload_n 1, 1) := by decide +kernel
theorem dL_standing_4 : decode cL_standing 4 = .ok (.invokevirtual 55, 3) := by decide +kernel
theorem dL_standing_7 : decode cL_standing 7 = .ok (.i2l, 1) := by decide +kernel
theorem dL_standing_8 : decode cL_standing 8 = .ok (.lastore, 1) := by decide +kernel
theorem dL_standing_9 : decode cL_standing 9 = .ok (.goto 6, 3) := by decide +kernel
theorem dL_standing_12 : decode cL_standing 12 = .ok (.astore_n 3, 1) := by decide +kernel
theorem dL_standing_13 : decode cL_standing 13 = .ok (.iconst 1, 1) := by decide +kernel
theorem dL_standing_14 : decode cL_standing 14 = .ok (.ireturn, 1) := by decide +kernel
theorem dL_standing_15 : decode cL_standing 15 = .ok (.iconst 0, 1) := by decide +kernel
theorem dL_standing_16 : decode cL_standing 16 = .ok (.ireturn, 1) := by decide +kernel
theorem dL_couldPass_0 : decode cL_couldPass 0 = .ok (.aload_n 2, 1) := by decide +kernel
theorem dL_couldPass_1 : decode cL_couldPass 1 = .ok (.iconst 0, 1) := by decide +kernel
theorem dL_couldPass_2 : decode cL_couldPass 2 = .ok (.aload_n 0, 1) := by decide +kernel
theorem dL_couldPass_3 : decode cL_couldPass 3 = .ok (.iload_n 1, 1) := by decide +kernel
theorem dL_couldPass_4 : decode cL_couldPass 4 = .ok (.invokevirtual 58, 3) := by decide +kernel
theorem dL_couldPass_7 : decode cL_couldPass 7 = .ok (.ifCond .eq 7, 3) := by decide +kernel
theorem dL_couldPass_10 : decode cL_couldPass 10 = .ok (.lconst 1, 1) := by decide +kernel
theorem dL_couldPass_11 : decode cL_couldPass 11 = .ok (.goto 4, 3) := by decide +kernel
theorem dL_couldPass_14 : decode cL_couldPass 14 = .ok (.lconst 0, 1) := by decide +kernel
theorem dL_couldPass_15 : decode cL_couldPass 15 = .ok (.lastore, 1) := by decide +kernel
theorem dL_couldPass_16 : decode cL_couldPass 16 = .ok (.goto 6, 3) := by decide +kernel
theorem dL_couldPass_19 : decode cL_couldPass 19 = .ok (.astore_n 3, 1) := by decide +kernel
theorem dL_couldPass_20 : decode cL_couldPass 20 = .ok (.iconst 1, 1) := by decide +kernel
theorem dL_couldPass_21 : decode cL_couldPass 21 = .ok (.ireturn, 1) := by decide +kernel
theorem dL_couldPass_22 : decode cL_couldPass 22 = .ok (.iconst 0, 1) := by decide +kernel
theorem dL_couldPass_23 : decode cL_couldPass 23 = .ok (.ireturn, 1) := by decide +kernel
theorem dL_clashes_0 : decode cL_clashes 0 = .ok (.aload_n 2, 1) := by decide +kernel
theorem dL_clashes_1 : decode cL_clashes 1 = .ok (.iconst 0, 1) := by decide +kernel
theorem dL_clashes_2 : decode cL_clashes 2 = .ok (.aload_n 0, 1) := by decide +kernel
theorem dL_clashes_3 : decode cL_clashes 3 = .ok (.iload_n 1, 1) := by decide +kernel
theorem dL_clashes_4 : decode cL_clashes 4 = .ok (.invokevirtual 62, 3) := by decide +kernel
theorem dL_clashes_7 : decode cL_clashes 7 = .ok (.i2l, 1) := by decide +kernel
theorem dL_clashes_8 : decode cL_clashes 8 = .ok (.lastore, 1) := by decide +kernel
theorem dL_clashes_9 : decode cL_clashes 9 = .ok (.goto 6, 3) := by decide +kernel
theorem dL_clashes_12 : decode cL_clashes 12 = .ok (.astore_n 3, 1) := by decide +kernel
theorem dL_clashes_13 : decode cL_clashes 13 = .ok (.iconst 1, 1) := by decide +kernel
theorem dL_clashes_14 : decode cL_clashes 14 = .ok (.ireturn, 1) := by decide +kernel
theorem dL_clashes_15 : decode cL_clashes 15 = .ok (.iconst 0, 1) := by decide +kernel
theorem dL_clashes_16 : decode cL_clashes 16 = .ok (.ireturn, 1) := by decide +kernel
theorem dL_alias_0 : decode cL_alias 0 = .ok (.aload_n 2, 1) := by decide +kernel
theorem dL_alias_1 : decode cL_alias 1 = .ok (.iconst 0, 1) := by decide +kernel
theorem dL_alias_2 : decode cL_alias 2 = .ok (.aload_n 0, 1) := by decide +kernel
theorem dL_alias_3 : decode cL_alias 3 = .ok (.iload_n 1, 1) := by decide +kernel
theorem dL_alias_4 : decode cL_alias 4 = .ok (.invokevirtual 65, 3) := by decide +kernel
theorem dL_alias_7 : decode cL_alias 7 = .ok (.i2l, 1) := by decide +kernel
theorem dL_alias_8 : decode cL_alias 8 = .ok (.lastore, 1) := by decide +kernel
theorem dL_alias_9 : decode cL_alias 9 = .ok (.goto 6, 3) := by decide +kernel
theorem dL_alias_12 : decode cL_alias 12 = .ok (.astore_n 3, 1) := by decide +kernel
theorem dL_alias_13 : decode cL_alias 13 = .ok (.iconst 1, 1) := by decide +kernel
theorem dL_alias_14 : decode cL_alias 14 = .ok (.ireturn, 1) := by decide +kernel
theorem dL_alias_15 : decode cL_alias 15 = .ok (.iconst 0, 1) := by decide +kernel
theorem dL_alias_16 : decode cL_alias 16 = .ok (.ireturn, 1) := by decide +kernel
theorem dL_end_0 : decode cL_end 0 = .ok (.aload_n 2, 1) := by decide +kernel
theorem dL_end_1 : decode cL_end 1 = .ok (.iconst 0, 1) := by decide +kernel
theorem dL_end_2 : decode cL_end 2 = .ok (.aload_n 0, 1) := by decide +kernel
theorem dL_end_3 : decode cL_end 3 = .ok (.iload_n 1, 1) := by decide +kernel
theorem dL_end_4 : decode cL_end 4 = .ok (.invokevirtual 68, 3) := by decide +kernel
theorem dL_end_7 : decode cL_end 7 = .ok (.i2l, 1) := by decide +kernel
theorem dL_end_8 : decode cL_end 8 = .ok (.lastore, 1) := by decide +kernel
theorem dL_end_9 : decode cL_end 9 = .ok (.goto 6, 3) := by decide +kernel
theorem dL_end_12 : decode cL_end 12 = .ok (.astore_n 3, 1) := by decide +kernel
theorem dL_end_13 : decode cL_end 13 = .ok (.iconst 1, 1) := by decide +kernel
theorem dL_end_14 : decode cL_end 14 = .ok (.ireturn, 1) := by decide +kernel
theorem dL_end_15 : decode cL_end 15 = .ok (.iconst 0, 1) := by decide +kernel
theorem dL_end_16 : decode cL_end 16 = .ok (.ireturn, 1) := by decide +kernel
theorem dL_implies_0 : decode cL_implies 0 = .ok (.aload_n 3, 1) := by decide +kernel
theorem dL_implies_1 : decode cL_implies 1 = .ok (.iconst 0, 1) := by decide +kernel
theorem dL_implies_2 : decode cL_implies 2 = .ok (.aload_n 0, 1) := by decide +kernel
theorem dL_implies_3 : decode cL_implies 3 = .ok (.iload_n 1, 1) := by decide +kernel
theorem dL_implies_4 : decode cL_implies 4 = .ok (.iload_n 2, 1) := by decide +kernel
theorem dL_implies_5 : decode cL_implies 5 = .ok (.invokevirtual 71, 3) := by decide +kernel
theorem dL_implies_8 : decode cL_implies 8 = .ok (.ifCond .eq 7, 3) := by decide +kernel
theorem dL_implies_11 : decode cL_implies 11 = .ok (.lconst 1, 1) := by decide +kernel
theorem dL_implies_12 : decode cL_implies 12 = .ok (.goto 4, 3) := by decide +kernel
theorem dL_implies_15 : decode cL_implies 15 = .ok (.lconst 0, 1) := by decide +kernel
theorem dL_implies_16 : decode cL_implies 16 = .ok (.lastore, 1) := by decide +kernel
theorem dL_implies_17 : decode cL_implies 17 = .ok (.goto 7, 3) := by decide +kernel
theorem dL_implies_20 : decode cL_implies 20 = .ok (.astore 4, 2) := by decide +kernel
theorem dL_implies_22 : decode cL_implies 22 = .ok (.iconst 1, 1) := by decide +kernel
theorem dL_implies_23 : decode cL_implies 23 = .ok (.ireturn, 1) := by decide +kernel
theorem dL_implies_24 : decode cL_implies 24 = .ok (.iconst 0, 1) := by decide +kernel
theorem dL_implies_25 : decode cL_implies 25 = .ok (.ireturn, 1) := by decide +kernel
theorem dL_shown_0 : decode cL_shown 0 = .ok (.aload_n 2, 1) := by decide +kernel
theorem dL_shown_1 : decode cL_shown 1 = .ok (.iconst 0, 1) := by decide +kernel
theorem dL_shown_2 : decode cL_shown 2 = .ok (.aload_n 0, 1) := by decide +kernel
theorem dL_shown_3 : decode cL_shown 3 = .ok (.iload_n 1, 1) := by decide +kernel
theorem dL_shown_4 : decode cL_shown 4 = .ok (.invokevirtual 74, 3) := by decide +kernel
theorem dL_shown_7 : decode cL_shown 7 = .ok (.i2l, 1) := by decide +kernel
theorem dL_shown_8 : decode cL_shown 8 = .ok (.lastore, 1) := by decide +kernel
theorem dL_shown_9 : decode cL_shown 9 = .ok (.goto 6, 3) := by decide +kernel
theorem dL_shown_12 : decode cL_shown 12 = .ok (.astore_n 3, 1) := by decide +kernel
theorem dL_shown_13 : decode cL_shown 13 = .ok (.iconst 1, 1) := by decide +kernel
theorem dL_shown_14 : decode cL_shown 14 = .ok (.ireturn, 1) := by decide +kernel
theorem dL_shown_15 : decode cL_shown 15 = .ok (.iconst 0, 1) := by decide +kernel
theorem dL_shown_16 : decode cL_shown 16 = .ok (.ireturn, 1) := by decide +kernel
theorem dL_shownByHand_0 : decode cL_shownByHand 0 = .ok (.aload_n 2, 1) := by decide +kernel
theorem dL_shownByHand_1 : decode cL_shownByHand 1 = .ok (.iconst 0, 1) := by decide +kernel
theorem dL_shownByHand_2 : decode cL_shownByHand 2 = .ok (.aload_n 0, 1) := by decide +kernel
theorem dL_shownByHand_3 : decode cL_shownByHand 3 = .ok (.iload_n 1, 1) := by decide +kernel
theorem dL_shownByHand_4 : decode cL_shownByHand 4 = .ok (.invokevirtual 77, 3) := by decide +kernel
theorem dL_shownByHand_7 : decode cL_shownByHand 7 = .ok (.i2l, 1) := by decide +kernel
theorem dL_shownByHand_8 : decode cL_shownByHand 8 = .ok (.lastore, 1) := by decide +kernel
theorem dL_shownByHand_9 : decode cL_shownByHand 9 = .ok (.goto 6, 3) := by decide +kernel
theorem dL_shownByHand_12 : decode cL_shownByHand 12 = .ok (.astore_n 3, 1) := by decide +kernel
theorem dL_shownByHand_13 : decode cL_shownByHand 13 = .ok (.iconst 1, 1) := by decide +kernel
theorem dL_shownByHand_14 : decode cL_shownByHand 14 = .ok (.ireturn, 1) := by decide +kernel
theorem dL_shownByHand_15 : decode cL_shownByHand 15 = .ok (.iconst 0, 1) := by decide +kernel
theorem dL_shownByHand_16 : decode cL_shownByHand 16 = .ok (.ireturn, 1) := by decide +kernel
theorem dL_users_0 : decode cL_users 0 = .ok (.aload_n 2, 1) := by decide +kernel
theorem dL_users_1 : decode cL_users 1 = .ok (.iconst 0, 1) := by decide +kernel
theorem dL_users_2 : decode cL_users 2 = .ok (.aload_n 0, 1) := by decide +kernel
theorem dL_users_3 : decode cL_users 3 = .ok (.iload_n 1, 1) := by decide +kernel
theorem dL_users_4 : decode cL_users 4 = .ok (.invokevirtual 80, 3) := by decide +kernel
theorem dL_users_7 : decode cL_users 7 = .ok (.i2l, 1) := by decide +kernel
theorem dL_users_8 : decode cL_users 8 = .ok (.lastore, 1) := by decide +kernel
theorem dL_users_9 : decode cL_users 9 = .ok (.goto 6, 3) := by decide +kernel
theorem dL_users_12 : decode cL_users 12 = .ok (.astore_n 3, 1) := by decide +kernel
theorem dL_users_13 : decode cL_users 13 = .ok (.iconst 1, 1) := by decide +kernel
theorem dL_users_14 : decode cL_users 14 = .ok (.ireturn, 1) := by decide +kernel
theorem dL_users_15 : decode cL_users 15 = .ok (.iconst 0, 1) := by decide +kernel
theorem dL_users_16 : decode cL_users 16 = .ok (.ireturn, 1) := by decide +kernel
theorem dL_reason_0 : decode cL_reason 0 = .ok (.aload_n 3, 1) := by decide +kernel
theorem dL_reason_1 : decode cL_reason 1 = .ok (.iconst 0, 1) := by decide +kernel
theorem dL_reason_2 : decode cL_reason 2 = .ok (.aload_n 0, 1) := by decide +kernel
theorem dL_reason_3 : decode cL_reason 3 = .ok (.iload_n 1, 1) := by decide +kernel
theorem dL_reason_4 : decode cL_reason 4 = .ok (.iload_n 2, 1) := by decide +kernel
theorem dL_reason_5 : decode cL_reason 5 = .ok (.invokevirtual 83, 3) := by decide +kernel
theorem dL_reason_8 : decode cL_reason 8 = .ok (.i2l, 1) := by decide +kernel
theorem dL_reason_9 : decode cL_reason 9 = .ok (.lastore, 1) := by decide +kernel
theorem dL_reason_10 : decode cL_reason 10 = .ok (.goto 7, 3) := by decide +kernel
theorem dL_reason_13 : decode cL_reason 13 = .ok (.astore 4, 2) := by decide +kernel
theorem dL_reason_15 : decode cL_reason 15 = .ok (.iconst 1, 1) := by decide +kernel
theorem dL_reason_16 : decode cL_reason 16 = .ok (.ireturn, 1) := by decide +kernel
theorem dL_reason_17 : decode cL_reason 17 = .ok (.iconst 0, 1) := by decide +kernel
theorem dL_reason_18 : decode cL_reason 18 = .ok (.ireturn, 1) := by decide +kernel
theorem dL_count_0 : decode cL_count 0 = .ok (.aload 4, 2) := by decide +kernel
theorem dL_count_2 : decode cL_count 2 = .ok (.iconst 0, 1) := by decide +kernel
theorem dL_count_3 : decode cL_count 3 = .ok (.aload_n 0, 1) := by decide +kernel
theorem dL_count_4 : decode cL_count 4 = .ok (.iload_n 1, 1) := by decide +kernel
theorem dL_count_5 : decode cL_count 5 = .ok (.iload_n 2, 1) := by decide +kernel
theorem dL_count_6 : decode cL_count 6 = .ok (.iload_n 3, 1) := by decide +kernel
theorem dL_count_7 : decode cL_count 7 = .ok (.invokevirtual 87, 3) := by decide +kernel
theorem dL_count_10 : decode cL_count 10 = .ok (.i2l, 1) := by decide +kernel
theorem dL_count_11 : decode cL_count 11 = .ok (.lastore, 1) := by decide +kernel
theorem dL_count_12 : decode cL_count 12 = .ok (.goto 7, 3) := by decide +kernel
theorem dL_count_15 : decode cL_count 15 = .ok (.astore 5, 2) := by decide +kernel
theorem dL_count_17 : decode cL_count 17 = .ok (.iconst 1, 1) := by decide +kernel
theorem dL_count_18 : decode cL_count 18 = .ok (.ireturn, 1) := by decide +kernel
theorem dL_count_19 : decode cL_count 19 = .ok (.iconst 0, 1) := by decide +kernel
theorem dL_count_20 : decode cL_count 20 = .ok (.ireturn, 1) := by decide +kernel
theorem dL_match_0 : decode cL_match 0 = .ok (.aload 5, 2) := by decide +kernel
theorem dL_match_2 : decode cL_match 2 = .ok (.iconst 0, 1) := by decide +kernel
theorem dL_match_3 : decode cL_match 3 = .ok (.aload_n 0, 1) := by decide +kernel
theorem dL_match_4 : decode cL_match 4 = .ok (.iload_n 1, 1) := by decide +kernel
theorem dL_match_5 : decode cL_match 5 = .ok (.iload_n 2, 1) := by decide +kernel
theorem dL_match_6 : decode cL_match 6 = .ok (.iload_n 3, 1) := by decide +kernel
theorem dL_match_7 : decode cL_match 7 = .ok (.iload 4, 2) := by decide +kernel
theorem dL_match_9 : decode cL_match 9 = .ok (.invokevirtual 90, 3) := by decide +kernel
theorem dL_match_12 : decode cL_match 12 = .ok (.i2l, 1) := by decide +kernel
theorem dL_match_13 : decode cL_match 13 = .ok (.lastore, 1) := by decide +kernel
theorem dL_match_14 : decode cL_match 14 = .ok (.goto 11, 3) := by decide +kernel
theorem dL_match_17 : decode cL_match 17 = .ok (.astore 6, 2) := by decide +kernel
theorem dL_match_19 : decode cL_match 19 = .ok (.iconst 1, 1) := by decide +kernel
theorem dL_match_20 : decode cL_match 20 = .ok (.ireturn, 1) := by decide +kernel
theorem dL_match_21 : decode cL_match 21 = .ok (.astore 6, 2) := by decide +kernel
theorem dL_match_23 : decode cL_match 23 = .ok (.iconst 2, 1) := by decide +kernel
theorem dL_match_24 : decode cL_match 24 = .ok (.ireturn, 1) := by decide +kernel
theorem dL_match_25 : decode cL_match 25 = .ok (.iconst 0, 1) := by decide +kernel
theorem dL_match_26 : decode cL_match 26 = .ok (.ireturn, 1) := by decide +kernel
theorem dL_law_0 : decode cL_law 0 = .ok (.new 8, 3) := by decide +kernel
theorem dL_law_3 : decode cL_law 3 = .ok (.dup, 1) := by decide +kernel
theorem dL_law_4 : decode cL_law 4 = .ok (.invokespecial 94, 3) := by decide +kernel
theorem dL_law_7 : decode cL_law 7 = .ok (.astore_n 1, 1) := by decide +kernel
theorem dL_law_8 : decode cL_law 8 = .ok (.new 95, 3) := by decide +kernel
theorem dL_law_11 : decode cL_law 11 = .ok (.dup, 1) := by decide +kernel
theorem dL_law_12 : decode cL_law 12 = .ok (.invokespecial 97, 3) := by decide +kernel
theorem dL_law_15 : decode cL_law 15 = .ok (.astore_n 2, 1) := by decide +kernel
theorem dL_law_16 : decode cL_law 16 = .ok (.iconst 1, 1) := by decide +kernel
theorem dL_law_17 : decode cL_law 17 = .ok (.newarray .long, 2) := by decide +kernel
theorem dL_law_19 : decode cL_law 19 = .ok (.astore_n 3, 1) := by decide +kernel
theorem dL_law_20 : decode cL_law 20 = .ok (.iconst 0, 1) := by decide +kernel
theorem dL_law_21 : decode cL_law 21 = .ok (.istore 4, 2) := by decide +kernel
theorem dL_law_23 : decode cL_law 23 = .ok (.iload 4, 2) := by decide +kernel
theorem dL_law_25 : decode cL_law 25 = .ok (.aload_n 0, 1) := by decide +kernel
theorem dL_law_26 : decode cL_law 26 = .ok (.arraylength, 1) := by decide +kernel
theorem dL_law_27 : decode cL_law 27 = .ok (.iconst 5, 1) := by decide +kernel
theorem dL_law_28 : decode cL_law 28 = .ok (.isub, 1) := by decide +kernel
theorem dL_law_29 : decode cL_law 29 = .ok (.if_icmp .gt 1662, 3) := by decide +kernel
theorem dL_law_32 : decode cL_law 32 = .ok (.aload_n 0, 1) := by decide +kernel
theorem dL_law_33 : decode cL_law 33 = .ok (.iload 4, 2) := by decide +kernel
theorem dL_law_35 : decode cL_law 35 = .ok (.iaload, 1) := by decide +kernel
theorem dL_law_36 : decode cL_law 36 = .ok (.bipush 31, 2) := by decide +kernel
theorem dL_law_38 : decode cL_law 38 = .ok (.iand, 1) := by decide +kernel
theorem dL_law_39 : decode cL_law 39 = .ok (.tableswitch 1646 0 25 #[117, 175, 219, 232, 300, 344, 357, 432, 507, 587, 631, 644, 700, 780, 876, 932, 995, 1051, 1107, 1163, 1238, 1294, 1350, 1406, 1474, 1554], 117) := by decide +kernel
theorem dL_law_156 : decode cL_law 156 = .ok (.aload_n 1, 1) := by decide +kernel
theorem dL_law_157 : decode cL_law 157 = .ok (.aload_n 0, 1) := by decide +kernel
theorem dL_law_158 : decode cL_law 158 = .ok (.iload 4, 2) := by decide +kernel
theorem dL_law_160 : decode cL_law 160 = .ok (.iconst 1, 1) := by decide +kernel
theorem dL_law_161 : decode cL_law 161 = .ok (.iadd, 1) := by decide +kernel
theorem dL_law_162 : decode cL_law 162 = .ok (.iaload, 1) := by decide +kernel
theorem dL_law_163 : decode cL_law 163 = .ok (.i2c, 1) := by decide +kernel
theorem dL_law_164 : decode cL_law 164 = .ok (.aload_n 3, 1) := by decide +kernel
theorem dL_law_165 : decode cL_law 165 = .ok (.invokestatic 98, 3) := by decide +kernel
theorem dL_law_168 : decode cL_law 168 = .ok (.istore 5, 2) := by decide +kernel
theorem dL_law_170 : decode cL_law 170 = .ok (.aload_n 2, 1) := by decide +kernel
theorem dL_law_171 : decode cL_law 171 = .ok (.aload_n 0, 1) := by decide +kernel
theorem dL_law_172 : decode cL_law 172 = .ok (.iload 4, 2) := by decide +kernel
theorem dL_law_174 : decode cL_law 174 = .ok (.iconst 1, 1) := by decide +kernel
theorem dL_law_175 : decode cL_law 175 = .ok (.iadd, 1) := by decide +kernel
theorem dL_law_176 : decode cL_law 176 = .ok (.iaload, 1) := by decide +kernel
theorem dL_law_177 : decode cL_law 177 = .ok (.i2c, 1) := by decide +kernel
theorem dL_law_178 : decode cL_law 178 = .ok (.invokevirtual 103, 3) := by decide +kernel
theorem dL_law_181 : decode cL_law 181 = .ok (.istore 6, 2) := by decide +kernel
theorem dL_law_183 : decode cL_law 183 = .ok (.aload_n 2, 1) := by decide +kernel
theorem dL_law_184 : decode cL_law 184 = .ok (.invokevirtual 104, 3) := by decide +kernel
theorem dL_law_187 : decode cL_law 187 = .ok (.iload 5, 2) := by decide +kernel
theorem dL_law_189 : decode cL_law 189 = .ok (.if_icmp .eq 5, 3) := by decide +kernel
theorem dL_law_192 : decode cL_law 192 = .ok (.iconst 0, 1) := by decide +kernel
theorem dL_law_193 : decode cL_law 193 = .ok (.ireturn, 1) := by decide +kernel
theorem dL_law_194 : decode cL_law 194 = .ok (.iload 5, 2) := by decide +kernel
theorem dL_law_196 : decode cL_law 196 = .ok (.ifCond .ne 15, 3) := by decide +kernel
theorem dL_law_199 : decode cL_law 199 = .ok (.aload_n 3, 1) := by decide +kernel
theorem dL_law_200 : decode cL_law 200 = .ok (.iconst 0, 1) := by decide +kernel
theorem dL_law_201 : decode cL_law 201 = .ok (.laload, 1) := by decide +kernel
theorem dL_law_202 : decode cL_law 202 = .ok (.iload 6, 2) := by decide +kernel
theorem dL_law_204 : decode cL_law 204 = .ok (.i2l, 1) := by decide +kernel
theorem dL_law_205 : decode cL_law 205 = .ok (.lcmp, 1) := by decide +kernel
theorem dL_law_206 : decode cL_law 206 = .ok (.ifCond .eq 5, 3) := by decide +kernel
theorem dL_law_209 : decode cL_law 209 = .ok (.iconst 0, 1) := by decide +kernel
theorem dL_law_210 : decode cL_law 210 = .ok (.ireturn, 1) := by decide +kernel
theorem dL_law_211 : decode cL_law 211 = .ok (.goto 1474, 3) := by decide +kernel
theorem dL_law_214 : decode cL_law 214 = .ok (.aload_n 1, 1) := by decide +kernel
theorem dL_law_215 : decode cL_law 215 = .ok (.aload_n 3, 1) := by decide +kernel
theorem dL_law_216 : decode cL_law 216 = .ok (.invokestatic 107, 3) := by decide +kernel
theorem dL_law_219 : decode cL_law 219 = .ok (.istore 5, 2) := by decide +kernel
theorem dL_law_221 : decode cL_law 221 = .ok (.aload_n 2, 1) := by decide +kernel
theorem dL_law_222 : decode cL_law 222 = .ok (.invokevirtual 110, 3) := by decide +kernel
theorem dL_law_225 : decode cL_law 225 = .ok (.istore 6, 2) := by decide +kernel
theorem dL_law_227 : decode cL_law 227 = .ok (.aload_n 2, 1) := by decide +kernel
theorem dL_law_228 : decode cL_law 228 = .ok (.invokevirtual 104, 3) := by decide +kernel
theorem dL_law_231 : decode cL_law 231 = .ok (.iload 5, 2) := by decide +kernel
theorem dL_law_233 : decode cL_law 233 = .ok (.if_icmp .eq 5, 3) := by decide +kernel
theorem dL_law_236 : decode cL_law 236 = .ok (.iconst 0, 1) := by decide +kernel
theorem dL_law_237 : decode cL_law 237 = .ok (.ireturn, 1) := by decide +kernel
theorem dL_law_238 : decode cL_law 238 = .ok (.iload 5, 2) := by decide +kernel
theorem dL_law_240 : decode cL_law 240 = .ok (.ifCond .ne 15, 3) := by decide +kernel
theorem dL_law_243 : decode cL_law 243 = .ok (.aload_n 3, 1) := by decide +kernel
theorem dL_law_244 : decode cL_law 244 = .ok (.iconst 0, 1) := by decide +kernel
theorem dL_law_245 : decode cL_law 245 = .ok (.laload, 1) := by decide +kernel
theorem dL_law_246 : decode cL_law 246 = .ok (.iload 6, 2) := by decide +kernel
theorem dL_law_248 : decode cL_law 248 = .ok (.i2l, 1) := by decide +kernel
theorem dL_law_249 : decode cL_law 249 = .ok (.lcmp, 1) := by decide +kernel
theorem dL_law_250 : decode cL_law 250 = .ok (.ifCond .eq 5, 3) := by decide +kernel
theorem dL_law_253 : decode cL_law 253 = .ok (.iconst 0, 1) := by decide +kernel
theorem dL_law_254 : decode cL_law 254 = .ok (.ireturn, 1) := by decide +kernel
theorem dL_law_255 : decode cL_law 255 = .ok (.goto 1430, 3) := by decide +kernel
theorem dL_law_258 : decode cL_law 258 = .ok (.aload_n 1, 1) := by decide +kernel
theorem dL_law_259 : decode cL_law 259 = .ok (.invokevirtual 111, 3) := by decide +kernel
theorem dL_law_262 : decode cL_law 262 = .ok (.aload_n 2, 1) := by decide +kernel
theorem dL_law_263 : decode cL_law 263 = .ok (.invokevirtual 114, 3) := by decide +kernel
theorem dL_law_266 : decode cL_law 266 = .ok (.if_icmp .eq 1419, 3) := by decide +kernel
theorem dL_law_269 : decode cL_law 269 = .ok (.iconst 0, 1) := by decide +kernel
theorem dL_law_270 : decode cL_law 270 = .ok (.ireturn, 1) := by decide +kernel
theorem dL_law_271 : decode cL_law 271 = .ok (.aload_n 1, 1) := by decide +kernel
theorem dL_law_272 : decode cL_law 272 = .ok (.aload_n 0, 1) := by decide +kernel
theorem dL_law_273 : decode cL_law 273 = .ok (.iload 4, 2) := by decide +kernel
theorem dL_law_275 : decode cL_law 275 = .ok (.iconst 1, 1) := by decide +kernel
theorem dL_law_276 : decode cL_law 276 = .ok (.iadd, 1) := by decide +kernel
theorem dL_law_277 : decode cL_law 277 = .ok (.iaload, 1) := by decide +kernel
theorem dL_law_278 : decode cL_law 278 = .ok (.aload_n 0, 1) := by decide +kernel
theorem dL_law_279 : decode cL_law 279 = .ok (.iload 4, 2) := by decide +kernel
theorem dL_law_281 : decode cL_law 281 = .ok (.iconst 2, 1) := by decide +kernel
theorem dL_law_282 : decode cL_law 282 = .ok (.iadd, 1) := by decide +kernel
theorem dL_law_283 : decode cL_law 283 = .ok (.iaload, 1) := by decide +kernel
theorem dL_law_284 : decode cL_law 284 = .ok (.aload_n 3, 1) := by decide +kernel
theorem dL_law_285 : decode cL_law 285 = .ok (.invokestatic 115, 3) := by decide +kernel
theorem dL_law_288 : decode cL_law 288 = .ok (.istore 5, 2) := by decide +kernel
theorem dL_law_290 : decode cL_law 290 = .ok (.aload_n 2, 1) := by decide +kernel
theorem dL_law_291 : decode cL_law 291 = .ok (.aload_n 0, 1) := by decide +kernel
theorem dL_law_292 : decode cL_law 292 = .ok (.iload 4, 2) := by decide +kernel
theorem dL_law_294 : decode cL_law 294 = .ok (.iconst 1, 1) := by decide +kernel
theorem dL_law_295 : decode cL_law 295 = .ok (.iadd, 1) := by decide +kernel
theorem dL_law_296 : decode cL_law 296 = .ok (.iaload, 1) := by decide +kernel
theorem dL_law_297 : decode cL_law 297 = .ok (.aload_n 0, 1) := by decide +kernel
theorem dL_law_298 : decode cL_law 298 = .ok (.iload 4, 2) := by decide +kernel
theorem dL_law_300 : decode cL_law 300 = .ok (.iconst 2, 1) := by decide +kernel
theorem dL_law_301 : decode cL_law 301 = .ok (.iadd, 1) := by decide +kernel
theorem dL_law_302 : decode cL_law 302 = .ok (.iaload, 1) := by decide +kernel
theorem dL_law_303 : decode cL_law 303 = .ok (.invokevirtual 118, 3) := by decide +kernel
theorem dL_law_306 : decode cL_law 306 = .ok (.istore 6, 2) := by decide +kernel
theorem dL_law_308 : decode cL_law 308 = .ok (.aload_n 2, 1) := by decide +kernel
theorem dL_law_309 : decode cL_law 309 = .ok (.invokevirtual 104, 3) := by decide +kernel
theorem dL_law_312 : decode cL_law 312 = .ok (.iload 5, 2) := by decide +kernel
theorem dL_law_314 : decode cL_law 314 = .ok (.if_icmp .eq 5, 3) := by decide +kernel
theorem dL_law_317 : decode cL_law 317 = .ok (.iconst 0, 1) := by decide +kernel
theorem dL_law_318 : decode cL_law 318 = .ok (.ireturn, 1) := by decide +kernel
theorem dL_law_319 : decode cL_law 319 = .ok (.iload 5, 2) := by decide +kernel
theorem dL_law_321 : decode cL_law 321 = .ok (.ifCond .ne 15, 3) := by decide +kernel
theorem dL_law_324 : decode cL_law 324 = .ok (.aload_n 3, 1) := by decide +kernel
theorem dL_law_325 : decode cL_law 325 = .ok (.iconst 0, 1) := by decide +kernel
theorem dL_law_326 : decode cL_law 326 = .ok (.laload, 1) := by decide +kernel
theorem dL_law_327 : decode cL_law 327 = .ok (.iload 6, 2) := by decide +kernel
theorem dL_law_329 : decode cL_law 329 = .ok (.i2l, 1) := by decide +kernel
theorem dL_law_330 : decode cL_law 330 = .ok (.lcmp, 1) := by decide +kernel
theorem dL_law_331 : decode cL_law 331 = .ok (.ifCond .eq 5, 3) := by decide +kernel
theorem dL_law_334 : decode cL_law 334 = .ok (.iconst 0, 1) := by decide +kernel
theorem dL_law_335 : decode cL_law 335 = .ok (.ireturn, 1) := by decide +kernel
theorem dL_law_336 : decode cL_law 336 = .ok (.goto 1349, 3) := by decide +kernel
theorem dL_law_339 : decode cL_law 339 = .ok (.aload_n 1, 1) := by decide +kernel
theorem dL_law_340 : decode cL_law 340 = .ok (.aload_n 3, 1) := by decide +kernel
theorem dL_law_341 : decode cL_law 341 = .ok (.invokestatic 119, 3) := by decide +kernel
theorem dL_law_344 : decode cL_law 344 = .ok (.istore 5, 2) := by decide +kernel
theorem dL_law_346 : decode cL_law 346 = .ok (.aload_n 2, 1) := by decide +kernel
theorem dL_law_347 : decode cL_law 347 = .ok (.invokevirtual 121, 3) := by decide +kernel
theorem dL_law_350 : decode cL_law 350 = .ok (.istore 6, 2) := by decide +kernel
theorem dL_law_352 : decode cL_law 352 = .ok (.aload_n 2, 1) := by decide +kernel
theorem dL_law_353 : decode cL_law 353 = .ok (.invokevirtual 104, 3) := by decide +kernel
theorem dL_law_356 : decode cL_law 356 = .ok (.iload 5, 2) := by decide +kernel
theorem dL_law_358 : decode cL_law 358 = .ok (.if_icmp .eq 5, 3) := by decide +kernel
theorem dL_law_361 : decode cL_law 361 = .ok (.iconst 0, 1) := by decide +kernel
theorem dL_law_362 : decode cL_law 362 = .ok (.ireturn, 1) := by decide +kernel
theorem dL_law_363 : decode cL_law 363 = .ok (.iload 5, 2) := by decide +kernel
theorem dL_law_365 : decode cL_law 365 = .ok (.ifCond .ne 15, 3) := by decide +kernel
theorem dL_law_368 : decode cL_law 368 = .ok (.aload_n 3, 1) := by decide +kernel
theorem dL_law_369 : decode cL_law 369 = .ok (.iconst 0, 1) := by decide +kernel
theorem dL_law_370 : decode cL_law 370 = .ok (.laload, 1) := by decide +kernel
theorem dL_law_371 : decode cL_law 371 = .ok (.iload 6, 2) := by decide +kernel
theorem dL_law_373 : decode cL_law 373 = .ok (.i2l, 1) := by decide +kernel
theorem dL_law_374 : decode cL_law 374 = .ok (.lcmp, 1) := by decide +kernel
theorem dL_law_375 : decode cL_law 375 = .ok (.ifCond .eq 5, 3) := by decide +kernel
theorem dL_law_378 : decode cL_law 378 = .ok (.iconst 0, 1) := by decide +kernel
theorem dL_law_379 : decode cL_law 379 = .ok (.ireturn, 1) := by decide +kernel
theorem dL_law_380 : decode cL_law 380 = .ok (.goto 1305, 3) := by decide +kernel
theorem dL_law_383 : decode cL_law 383 = .ok (.aload_n 1, 1) := by decide +kernel
theorem dL_law_384 : decode cL_law 384 = .ok (.invokevirtual 122, 3) := by decide +kernel
theorem dL_law_387 : decode cL_law 387 = .ok (.aload_n 2, 1) := by decide +kernel
theorem dL_law_388 : decode cL_law 388 = .ok (.invokevirtual 125, 3) := by decide +kernel
theorem dL_law_391 : decode cL_law 391 = .ok (.if_icmp .eq 1294, 3) := by decide +kernel
theorem dL_law_394 : decode cL_law 394 = .ok (.iconst 0, 1) := by decide +kernel
theorem dL_law_395 : decode cL_law 395 = .ok (.ireturn, 1) := by decide +kernel
theorem dL_law_396 : decode cL_law 396 = .ok (.aload_n 1, 1) := by decide +kernel
theorem dL_law_397 : decode cL_law 397 = .ok (.aload_n 0, 1) := by decide +kernel
theorem dL_law_398 : decode cL_law 398 = .ok (.iload 4, 2) := by decide +kernel
theorem dL_law_400 : decode cL_law 400 = .ok (.iconst 1, 1) := by decide +kernel
theorem dL_law_401 : decode cL_law 401 = .ok (.iadd, 1) := by decide +kernel
theorem dL_law_402 : decode cL_law 402 = .ok (.iaload, 1) := by decide +kernel
theorem dL_law_403 : decode cL_law 403 = .ok (.aload_n 0, 1) := by decide +kernel
theorem dL_law_404 : decode cL_law 404 = .ok (.iload 4, 2) := by decide +kernel
theorem dL_law_406 : decode cL_law 406 = .ok (.iconst 2, 1) := by decide +kernel
theorem dL_law_407 : decode cL_law 407 = .ok (.iadd, 1) := by decide +kernel
theorem dL_law_408 : decode cL_law 408 = .ok (.iaload, 1) := by decide +kernel
theorem dL_law_409 : decode cL_law 409 = .ok (.aload_n 3, 1) := by decide +kernel
theorem dL_law_410 : decode cL_law 410 = .ok (.invokestatic 126, 3) := by decide +kernel
theorem dL_law_413 : decode cL_law 413 = .ok (.istore 5, 2) := by decide +kernel
theorem dL_law_415 : decode cL_law 415 = .ok (.aload_n 2, 1) := by decide +kernel
theorem dL_law_416 : decode cL_law 416 = .ok (.aload_n 0, 1) := by decide +kernel
theorem dL_law_417 : decode cL_law 417 = .ok (.iload 4, 2) := by decide +kernel
theorem dL_law_419 : decode cL_law 419 = .ok (.iconst 1, 1) := by decide +kernel
theorem dL_law_420 : decode cL_law 420 = .ok (.iadd, 1) := by decide +kernel
theorem dL_law_421 : decode cL_law 421 = .ok (.iaload, 1) := by decide +kernel
theorem dL_law_422 : decode cL_law 422 = .ok (.aload_n 0, 1) := by decide +kernel
theorem dL_law_423 : decode cL_law 423 = .ok (.iload 4, 2) := by decide +kernel
theorem dL_law_425 : decode cL_law 425 = .ok (.iconst 2, 1) := by decide +kernel
theorem dL_law_426 : decode cL_law 426 = .ok (.iadd, 1) := by decide +kernel
theorem dL_law_427 : decode cL_law 427 = .ok (.iaload, 1) := by decide +kernel
theorem dL_law_428 : decode cL_law 428 = .ok (.invokevirtual 128, 3) := by decide +kernel
theorem dL_law_431 : decode cL_law 431 = .ok (.istore 6, 2) := by decide +kernel
theorem dL_law_433 : decode cL_law 433 = .ok (.aload_n 2, 1) := by decide +kernel
theorem dL_law_434 : decode cL_law 434 = .ok (.invokevirtual 104, 3) := by decide +kernel
theorem dL_law_437 : decode cL_law 437 = .ok (.iload 5, 2) := by decide +kernel
theorem dL_law_439 : decode cL_law 439 = .ok (.if_icmp .eq 5, 3) := by decide +kernel
theorem dL_law_442 : decode cL_law 442 = .ok (.iconst 0, 1) := by decide +kernel
theorem dL_law_443 : decode cL_law 443 = .ok (.ireturn, 1) := by decide +kernel
theorem dL_law_444 : decode cL_law 444 = .ok (.iload 5, 2) := by decide +kernel
theorem dL_law_446 : decode cL_law 446 = .ok (.ifCond .ne 22, 3) := by decide +kernel
theorem dL_law_449 : decode cL_law 449 = .ok (.aload_n 3, 1) := by decide +kernel
theorem dL_law_450 : decode cL_law 450 = .ok (.iconst 0, 1) := by decide +kernel
theorem dL_law_451 : decode cL_law 451 = .ok (.laload, 1) := by decide +kernel
theorem dL_law_452 : decode cL_law 452 = .ok (.iload 6, 2) := by decide +kernel
theorem dL_law_454 : decode cL_law 454 = .ok (.ifCond .eq 7, 3) := by decide +kernel
theorem dL_law_457 : decode cL_law 457 = .ok (.lconst 1, 1) := by decide +kernel
theorem dL_law_458 : decode cL_law 458 = .ok (.goto 4, 3) := by decide +kernel
theorem dL_law_461 : decode cL_law 461 = .ok (.lconst 0, 1) := by decide +kernel
theorem dL_law_462 : decode cL_law 462 = .ok (.lcmp, 1) := by decide +kernel
theorem dL_law_463 : decode cL_law 463 = .ok (.ifCond .eq 5, 3) := by decide +kernel
theorem dL_law_466 : decode cL_law 466 = .ok (.iconst 0, 1) := by decide +kernel
theorem dL_law_467 : decode cL_law 467 = .ok (.ireturn, 1) := by decide +kernel
theorem dL_law_468 : decode cL_law 468 = .ok (.goto 1217, 3) := by decide +kernel
theorem dL_law_471 : decode cL_law 471 = .ok (.aload_n 1, 1) := by decide +kernel
theorem dL_law_472 : decode cL_law 472 = .ok (.aload_n 0, 1) := by decide +kernel
theorem dL_law_473 : decode cL_law 473 = .ok (.iload 4, 2) := by decide +kernel
theorem dL_law_475 : decode cL_law 475 = .ok (.iconst 1, 1) := by decide +kernel
theorem dL_law_476 : decode cL_law 476 = .ok (.iadd, 1) := by decide +kernel
theorem dL_law_477 : decode cL_law 477 = .ok (.iaload, 1) := by decide +kernel
theorem dL_law_478 : decode cL_law 478 = .ok (.aload_n 0, 1) := by decide +kernel
theorem dL_law_479 : decode cL_law 479 = .ok (.iload 4, 2) := by decide +kernel
theorem dL_law_481 : decode cL_law 481 = .ok (.iconst 2, 1) := by decide +kernel
theorem dL_law_482 : decode cL_law 482 = .ok (.iadd, 1) := by decide +kernel
theorem dL_law_483 : decode cL_law 483 = .ok (.iaload, 1) := by decide +kernel
theorem dL_law_484 : decode cL_law 484 = .ok (.aload_n 3, 1) := by decide +kernel
theorem dL_law_485 : decode cL_law 485 = .ok (.invokestatic 129, 3) := by decide +kernel
theorem dL_law_488 : decode cL_law 488 = .ok (.istore 5, 2) := by decide +kernel
theorem dL_law_490 : decode cL_law 490 = .ok (.aload_n 2, 1) := by decide +kernel
theorem dL_law_491 : decode cL_law 491 = .ok (.aload_n 0, 1) := by decide +kernel
theorem dL_law_492 : decode cL_law 492 = .ok (.iload 4, 2) := by decide +kernel
theorem dL_law_494 : decode cL_law 494 = .ok (.iconst 1, 1) := by decide +kernel
theorem dL_law_495 : decode cL_law 495 = .ok (.iadd, 1) := by decide +kernel
theorem dL_law_496 : decode cL_law 496 = .ok (.iaload, 1) := by decide +kernel
theorem dL_law_497 : decode cL_law 497 = .ok (.aload_n 0, 1) := by decide +kernel
theorem dL_law_498 : decode cL_law 498 = .ok (.iload 4, 2) := by decide +kernel
theorem dL_law_500 : decode cL_law 500 = .ok (.iconst 2, 1) := by decide +kernel
theorem dL_law_501 : decode cL_law 501 = .ok (.iadd, 1) := by decide +kernel
theorem dL_law_502 : decode cL_law 502 = .ok (.iaload, 1) := by decide +kernel
theorem dL_law_503 : decode cL_law 503 = .ok (.invokevirtual 131, 3) := by decide +kernel
theorem dL_law_506 : decode cL_law 506 = .ok (.istore 6, 2) := by decide +kernel
theorem dL_law_508 : decode cL_law 508 = .ok (.aload_n 2, 1) := by decide +kernel
theorem dL_law_509 : decode cL_law 509 = .ok (.invokevirtual 104, 3) := by decide +kernel
theorem dL_law_512 : decode cL_law 512 = .ok (.iload 5, 2) := by decide +kernel
theorem dL_law_514 : decode cL_law 514 = .ok (.if_icmp .eq 5, 3) := by decide +kernel
theorem dL_law_517 : decode cL_law 517 = .ok (.iconst 0, 1) := by decide +kernel
theorem dL_law_518 : decode cL_law 518 = .ok (.ireturn, 1) := by decide +kernel
theorem dL_law_519 : decode cL_law 519 = .ok (.iload 5, 2) := by decide +kernel
theorem dL_law_521 : decode cL_law 521 = .ok (.ifCond .ne 22, 3) := by decide +kernel
theorem dL_law_524 : decode cL_law 524 = .ok (.aload_n 3, 1) := by decide +kernel
theorem dL_law_525 : decode cL_law 525 = .ok (.iconst 0, 1) := by decide +kernel
theorem dL_law_526 : decode cL_law 526 = .ok (.laload, 1) := by decide +kernel
theorem dL_law_527 : decode cL_law 527 = .ok (.iload 6, 2) := by decide +kernel
theorem dL_law_529 : decode cL_law 529 = .ok (.ifCond .eq 7, 3) := by decide +kernel
theorem dL_law_532 : decode cL_law 532 = .ok (.lconst 1, 1) := by decide +kernel
theorem dL_law_533 : decode cL_law 533 = .ok (.goto 4, 3) := by decide +kernel
theorem dL_law_536 : decode cL_law 536 = .ok (.lconst 0, 1) := by decide +kernel
theorem dL_law_537 : decode cL_law 537 = .ok (.lcmp, 1) := by decide +kernel
theorem dL_law_538 : decode cL_law 538 = .ok (.ifCond .eq 5, 3) := by decide +kernel
theorem dL_law_541 : decode cL_law 541 = .ok (.iconst 0, 1) := by decide +kernel
theorem dL_law_542 : decode cL_law 542 = .ok (.ireturn, 1) := by decide +kernel
theorem dL_law_543 : decode cL_law 543 = .ok (.goto 1142, 3) := by decide +kernel
theorem dL_law_546 : decode cL_law 546 = .ok (.aload_n 1, 1) := by decide +kernel
theorem dL_law_547 : decode cL_law 547 = .ok (.aload_n 0, 1) := by decide +kernel
theorem dL_law_548 : decode cL_law 548 = .ok (.iload 4, 2) := by decide +kernel
theorem dL_law_550 : decode cL_law 550 = .ok (.iconst 1, 1) := by decide +kernel
theorem dL_law_551 : decode cL_law 551 = .ok (.iadd, 1) := by decide +kernel
theorem dL_law_552 : decode cL_law 552 = .ok (.iaload, 1) := by decide +kernel
theorem dL_law_553 : decode cL_law 553 = .ok (.aload_n 0, 1) := by decide +kernel
theorem dL_law_554 : decode cL_law 554 = .ok (.iload 4, 2) := by decide +kernel
theorem dL_law_556 : decode cL_law 556 = .ok (.iconst 2, 1) := by decide +kernel
theorem dL_law_557 : decode cL_law 557 = .ok (.iadd, 1) := by decide +kernel
theorem dL_law_558 : decode cL_law 558 = .ok (.iaload, 1) := by decide +kernel
theorem dL_law_559 : decode cL_law 559 = .ok (.aload_n 0, 1) := by decide +kernel
theorem dL_law_560 : decode cL_law 560 = .ok (.iload 4, 2) := by decide +kernel
theorem dL_law_562 : decode cL_law 562 = .ok (.iconst 3, 1) := by decide +kernel
theorem dL_law_563 : decode cL_law 563 = .ok (.iadd, 1) := by decide +kernel
theorem dL_law_564 : decode cL_law 564 = .ok (.iaload, 1) := by decide +kernel
theorem dL_law_565 : decode cL_law 565 = .ok (.aload_n 3, 1) := by decide +kernel
theorem dL_law_566 : decode cL_law 566 = .ok (.invokestatic 132, 3) := by decide +kernel
theorem dL_law_569 : decode cL_law 569 = .ok (.istore 5, 2) := by decide +kernel
theorem dL_law_571 : decode cL_law 571 = .ok (.aload_n 2, 1) := by decide +kernel
theorem dL_law_572 : decode cL_law 572 = .ok (.aload_n 0, 1) := by decide +kernel
theorem dL_law_573 : decode cL_law 573 = .ok (.iload 4, 2) := by decide +kernel
theorem dL_law_575 : decode cL_law 575 = .ok (.iconst 1, 1) := by decide +kernel
theorem dL_law_576 : decode cL_law 576 = .ok (.iadd, 1) := by decide +kernel
theorem dL_law_577 : decode cL_law 577 = .ok (.iaload, 1) := by decide +kernel
theorem dL_law_578 : decode cL_law 578 = .ok (.aload_n 0, 1) := by decide +kernel
theorem dL_law_579 : decode cL_law 579 = .ok (.iload 4, 2) := by decide +kernel
theorem dL_law_581 : decode cL_law 581 = .ok (.iconst 2, 1) := by decide +kernel
theorem dL_law_582 : decode cL_law 582 = .ok (.iadd, 1) := by decide +kernel
theorem dL_law_583 : decode cL_law 583 = .ok (.iaload, 1) := by decide +kernel
theorem dL_law_584 : decode cL_law 584 = .ok (.aload_n 0, 1) := by decide +kernel
theorem dL_law_585 : decode cL_law 585 = .ok (.iload 4, 2) := by decide +kernel
theorem dL_law_587 : decode cL_law 587 = .ok (.iconst 3, 1) := by decide +kernel
theorem dL_law_588 : decode cL_law 588 = .ok (.iadd, 1) := by decide +kernel
theorem dL_law_589 : decode cL_law 589 = .ok (.iaload, 1) := by decide +kernel
theorem dL_law_590 : decode cL_law 590 = .ok (.invokevirtual 135, 3) := by decide +kernel
theorem dL_law_593 : decode cL_law 593 = .ok (.istore 6, 2) := by decide +kernel
theorem dL_law_595 : decode cL_law 595 = .ok (.aload_n 2, 1) := by decide +kernel
theorem dL_law_596 : decode cL_law 596 = .ok (.invokevirtual 104, 3) := by decide +kernel
theorem dL_law_599 : decode cL_law 599 = .ok (.iload 5, 2) := by decide +kernel
theorem dL_law_601 : decode cL_law 601 = .ok (.if_icmp .eq 5, 3) := by decide +kernel
theorem dL_law_604 : decode cL_law 604 = .ok (.iconst 0, 1) := by decide +kernel
theorem dL_law_605 : decode cL_law 605 = .ok (.ireturn, 1) := by decide +kernel
theorem dL_law_606 : decode cL_law 606 = .ok (.iload 5, 2) := by decide +kernel
theorem dL_law_608 : decode cL_law 608 = .ok (.ifCond .ne 15, 3) := by decide +kernel
theorem dL_law_611 : decode cL_law 611 = .ok (.aload_n 3, 1) := by decide +kernel
theorem dL_law_612 : decode cL_law 612 = .ok (.iconst 0, 1) := by decide +kernel
theorem dL_law_613 : decode cL_law 613 = .ok (.laload, 1) := by decide +kernel
theorem dL_law_614 : decode cL_law 614 = .ok (.iload 6, 2) := by decide +kernel
theorem dL_law_616 : decode cL_law 616 = .ok (.i2l, 1) := by decide +kernel
theorem dL_law_617 : decode cL_law 617 = .ok (.lcmp, 1) := by decide +kernel
theorem dL_law_618 : decode cL_law 618 = .ok (.ifCond .eq 5, 3) := by decide +kernel
theorem dL_law_621 : decode cL_law 621 = .ok (.iconst 0, 1) := by decide +kernel
theorem dL_law_622 : decode cL_law 622 = .ok (.ireturn, 1) := by decide +kernel
theorem dL_law_623 : decode cL_law 623 = .ok (.goto 1062, 3) := by decide +kernel
theorem dL_law_626 : decode cL_law 626 = .ok (.aload_n 1, 1) := by decide +kernel
theorem dL_law_627 : decode cL_law 627 = .ok (.aload_n 3, 1) := by decide +kernel
theorem dL_law_628 : decode cL_law 628 = .ok (.invokestatic 136, 3) := by decide +kernel
theorem dL_law_631 : decode cL_law 631 = .ok (.istore 5, 2) := by decide +kernel
theorem dL_law_633 : decode cL_law 633 = .ok (.aload_n 2, 1) := by decide +kernel
theorem dL_law_634 : decode cL_law 634 = .ok (.invokevirtual 138, 3) := by decide +kernel
theorem dL_law_637 : decode cL_law 637 = .ok (.istore 6, 2) := by decide +kernel
theorem dL_law_639 : decode cL_law 639 = .ok (.aload_n 2, 1) := by decide +kernel
theorem dL_law_640 : decode cL_law 640 = .ok (.invokevirtual 104, 3) := by decide +kernel
theorem dL_law_643 : decode cL_law 643 = .ok (.iload 5, 2) := by decide +kernel
theorem dL_law_645 : decode cL_law 645 = .ok (.if_icmp .eq 5, 3) := by decide +kernel
theorem dL_law_648 : decode cL_law 648 = .ok (.iconst 0, 1) := by decide +kernel
theorem dL_law_649 : decode cL_law 649 = .ok (.ireturn, 1) := by decide +kernel
theorem dL_law_650 : decode cL_law 650 = .ok (.iload 5, 2) := by decide +kernel
theorem dL_law_652 : decode cL_law 652 = .ok (.ifCond .ne 15, 3) := by decide +kernel
theorem dL_law_655 : decode cL_law 655 = .ok (.aload_n 3, 1) := by decide +kernel
theorem dL_law_656 : decode cL_law 656 = .ok (.iconst 0, 1) := by decide +kernel
theorem dL_law_657 : decode cL_law 657 = .ok (.laload, 1) := by decide +kernel
theorem dL_law_658 : decode cL_law 658 = .ok (.iload 6, 2) := by decide +kernel
theorem dL_law_660 : decode cL_law 660 = .ok (.i2l, 1) := by decide +kernel
theorem dL_law_661 : decode cL_law 661 = .ok (.lcmp, 1) := by decide +kernel
theorem dL_law_662 : decode cL_law 662 = .ok (.ifCond .eq 5, 3) := by decide +kernel
theorem dL_law_665 : decode cL_law 665 = .ok (.iconst 0, 1) := by decide +kernel
theorem dL_law_666 : decode cL_law 666 = .ok (.ireturn, 1) := by decide +kernel
theorem dL_law_667 : decode cL_law 667 = .ok (.goto 1018, 3) := by decide +kernel
theorem dL_law_670 : decode cL_law 670 = .ok (.aload_n 1, 1) := by decide +kernel
theorem dL_law_671 : decode cL_law 671 = .ok (.invokevirtual 139, 3) := by decide +kernel
theorem dL_law_674 : decode cL_law 674 = .ok (.aload_n 2, 1) := by decide +kernel
theorem dL_law_675 : decode cL_law 675 = .ok (.invokevirtual 142, 3) := by decide +kernel
theorem dL_law_678 : decode cL_law 678 = .ok (.if_icmp .eq 1007, 3) := by decide +kernel
theorem dL_law_681 : decode cL_law 681 = .ok (.iconst 0, 1) := by decide +kernel
theorem dL_law_682 : decode cL_law 682 = .ok (.ireturn, 1) := by decide +kernel
theorem dL_law_683 : decode cL_law 683 = .ok (.aload_n 1, 1) := by decide +kernel
theorem dL_law_684 : decode cL_law 684 = .ok (.aload_n 0, 1) := by decide +kernel
theorem dL_law_685 : decode cL_law 685 = .ok (.iload 4, 2) := by decide +kernel
theorem dL_law_687 : decode cL_law 687 = .ok (.iconst 1, 1) := by decide +kernel
theorem dL_law_688 : decode cL_law 688 = .ok (.iadd, 1) := by decide +kernel
theorem dL_law_689 : decode cL_law 689 = .ok (.iaload, 1) := by decide +kernel
theorem dL_law_690 : decode cL_law 690 = .ok (.aload_n 3, 1) := by decide +kernel
theorem dL_law_691 : decode cL_law 691 = .ok (.invokestatic 143, 3) := by decide +kernel
theorem dL_law_694 : decode cL_law 694 = .ok (.istore 5, 2) := by decide +kernel
theorem dL_law_696 : decode cL_law 696 = .ok (.aload_n 2, 1) := by decide +kernel
theorem dL_law_697 : decode cL_law 697 = .ok (.aload_n 0, 1) := by decide +kernel
theorem dL_law_698 : decode cL_law 698 = .ok (.iload 4, 2) := by decide +kernel
theorem dL_law_700 : decode cL_law 700 = .ok (.iconst 1, 1) := by decide +kernel
theorem dL_law_701 : decode cL_law 701 = .ok (.iadd, 1) := by decide +kernel
theorem dL_law_702 : decode cL_law 702 = .ok (.iaload, 1) := by decide +kernel
theorem dL_law_703 : decode cL_law 703 = .ok (.invokevirtual 146, 3) := by decide +kernel
theorem dL_law_706 : decode cL_law 706 = .ok (.istore 6, 2) := by decide +kernel
theorem dL_law_708 : decode cL_law 708 = .ok (.aload_n 2, 1) := by decide +kernel
theorem dL_law_709 : decode cL_law 709 = .ok (.invokevirtual 104, 3) := by decide +kernel
theorem dL_law_712 : decode cL_law 712 = .ok (.iload 5, 2) := by decide +kernel
theorem dL_law_714 : decode cL_law 714 = .ok (.if_icmp .eq 5, 3) := by decide +kernel
theorem dL_law_717 : decode cL_law 717 = .ok (.iconst 0, 1) := by decide +kernel
theorem dL_law_718 : decode cL_law 718 = .ok (.ireturn, 1) := by decide +kernel
theorem dL_law_719 : decode cL_law 719 = .ok (.iload 5, 2) := by decide +kernel
theorem dL_law_721 : decode cL_law 721 = .ok (.ifCond .ne 15, 3) := by decide +kernel
theorem dL_law_724 : decode cL_law 724 = .ok (.aload_n 3, 1) := by decide +kernel
theorem dL_law_725 : decode cL_law 725 = .ok (.iconst 0, 1) := by decide +kernel
theorem dL_law_726 : decode cL_law 726 = .ok (.laload, 1) := by decide +kernel
theorem dL_law_727 : decode cL_law 727 = .ok (.iload 6, 2) := by decide +kernel
theorem dL_law_729 : decode cL_law 729 = .ok (.i2l, 1) := by decide +kernel
theorem dL_law_730 : decode cL_law 730 = .ok (.lcmp, 1) := by decide +kernel
theorem dL_law_731 : decode cL_law 731 = .ok (.ifCond .eq 5, 3) := by decide +kernel
theorem dL_law_734 : decode cL_law 734 = .ok (.iconst 0, 1) := by decide +kernel
theorem dL_law_735 : decode cL_law 735 = .ok (.ireturn, 1) := by decide +kernel
theorem dL_law_736 : decode cL_law 736 = .ok (.goto 949, 3) := by decide +kernel
theorem dL_law_739 : decode cL_law 739 = .ok (.aload_n 1, 1) := by decide +kernel
theorem dL_law_740 : decode cL_law 740 = .ok (.aload_n 0, 1) := by decide +kernel
theorem dL_law_741 : decode cL_law 741 = .ok (.iload 4, 2) := by decide +kernel
theorem dL_law_743 : decode cL_law 743 = .ok (.iconst 1, 1) := by decide +kernel
theorem dL_law_744 : decode cL_law 744 = .ok (.iadd, 1) := by decide +kernel
theorem dL_law_745 : decode cL_law 745 = .ok (.iaload, 1) := by decide +kernel
theorem dL_law_746 : decode cL_law 746 = .ok (.aload_n 0, 1) := by decide +kernel
theorem dL_law_747 : decode cL_law 747 = .ok (.iload 4, 2) := by decide +kernel
theorem dL_law_749 : decode cL_law 749 = .ok (.iconst 2, 1) := by decide +kernel
theorem dL_law_750 : decode cL_law 750 = .ok (.iadd, 1) := by decide +kernel
theorem dL_law_751 : decode cL_law 751 = .ok (.iaload, 1) := by decide +kernel
theorem dL_law_752 : decode cL_law 752 = .ok (.aload_n 0, 1) := by decide +kernel
theorem dL_law_753 : decode cL_law 753 = .ok (.iload 4, 2) := by decide +kernel
theorem dL_law_755 : decode cL_law 755 = .ok (.iconst 3, 1) := by decide +kernel
theorem dL_law_756 : decode cL_law 756 = .ok (.iadd, 1) := by decide +kernel
theorem dL_law_757 : decode cL_law 757 = .ok (.iaload, 1) := by decide +kernel
theorem dL_law_758 : decode cL_law 758 = .ok (.aload_n 3, 1) := by decide +kernel
theorem dL_law_759 : decode cL_law 759 = .ok (.invokestatic 147, 3) := by decide +kernel
theorem dL_law_762 : decode cL_law 762 = .ok (.istore 5, 2) := by decide +kernel
theorem dL_law_764 : decode cL_law 764 = .ok (.aload_n 2, 1) := by decide +kernel
theorem dL_law_765 : decode cL_law 765 = .ok (.aload_n 0, 1) := by decide +kernel
theorem dL_law_766 : decode cL_law 766 = .ok (.iload 4, 2) := by decide +kernel
theorem dL_law_768 : decode cL_law 768 = .ok (.iconst 1, 1) := by decide +kernel
theorem dL_law_769 : decode cL_law 769 = .ok (.iadd, 1) := by decide +kernel
theorem dL_law_770 : decode cL_law 770 = .ok (.iaload, 1) := by decide +kernel
theorem dL_law_771 : decode cL_law 771 = .ok (.aload_n 0, 1) := by decide +kernel
theorem dL_law_772 : decode cL_law 772 = .ok (.iload 4, 2) := by decide +kernel
theorem dL_law_774 : decode cL_law 774 = .ok (.iconst 2, 1) := by decide +kernel
theorem dL_law_775 : decode cL_law 775 = .ok (.iadd, 1) := by decide +kernel
theorem dL_law_776 : decode cL_law 776 = .ok (.iaload, 1) := by decide +kernel
theorem dL_law_777 : decode cL_law 777 = .ok (.aload_n 0, 1) := by decide +kernel
theorem dL_law_778 : decode cL_law 778 = .ok (.iload 4, 2) := by decide +kernel
theorem dL_law_780 : decode cL_law 780 = .ok (.iconst 3, 1) := by decide +kernel
theorem dL_law_781 : decode cL_law 781 = .ok (.iadd, 1) := by decide +kernel
theorem dL_law_782 : decode cL_law 782 = .ok (.iaload, 1) := by decide +kernel
theorem dL_law_783 : decode cL_law 783 = .ok (.invokevirtual 149, 3) := by decide +kernel
theorem dL_law_786 : decode cL_law 786 = .ok (.istore 6, 2) := by decide +kernel
theorem dL_law_788 : decode cL_law 788 = .ok (.aload_n 2, 1) := by decide +kernel
theorem dL_law_789 : decode cL_law 789 = .ok (.invokevirtual 104, 3) := by decide +kernel
theorem dL_law_792 : decode cL_law 792 = .ok (.iload 5, 2) := by decide +kernel
theorem dL_law_794 : decode cL_law 794 = .ok (.if_icmp .eq 5, 3) := by decide +kernel
theorem dL_law_797 : decode cL_law 797 = .ok (.iconst 0, 1) := by decide +kernel
theorem dL_law_798 : decode cL_law 798 = .ok (.ireturn, 1) := by decide +kernel
theorem dL_law_799 : decode cL_law 799 = .ok (.iload 5, 2) := by decide +kernel
theorem dL_law_801 : decode cL_law 801 = .ok (.ifCond .ne 15, 3) := by decide +kernel
theorem dL_law_804 : decode cL_law 804 = .ok (.aload_n 3, 1) := by decide +kernel
theorem dL_law_805 : decode cL_law 805 = .ok (.iconst 0, 1) := by decide +kernel
theorem dL_law_806 : decode cL_law 806 = .ok (.laload, 1) := by decide +kernel
theorem dL_law_807 : decode cL_law 807 = .ok (.iload 6, 2) := by decide +kernel
theorem dL_law_809 : decode cL_law 809 = .ok (.i2l, 1) := by decide +kernel
theorem dL_law_810 : decode cL_law 810 = .ok (.lcmp, 1) := by decide +kernel
theorem dL_law_811 : decode cL_law 811 = .ok (.ifCond .eq 5, 3) := by decide +kernel
theorem dL_law_814 : decode cL_law 814 = .ok (.iconst 0, 1) := by decide +kernel
theorem dL_law_815 : decode cL_law 815 = .ok (.ireturn, 1) := by decide +kernel
theorem dL_law_816 : decode cL_law 816 = .ok (.goto 869, 3) := by decide +kernel
theorem dL_law_819 : decode cL_law 819 = .ok (.aload_n 1, 1) := by decide +kernel
theorem dL_law_820 : decode cL_law 820 = .ok (.aload_n 0, 1) := by decide +kernel
theorem dL_law_821 : decode cL_law 821 = .ok (.iload 4, 2) := by decide +kernel
theorem dL_law_823 : decode cL_law 823 = .ok (.iconst 1, 1) := by decide +kernel
theorem dL_law_824 : decode cL_law 824 = .ok (.iadd, 1) := by decide +kernel
theorem dL_law_825 : decode cL_law 825 = .ok (.iaload, 1) := by decide +kernel
theorem dL_law_826 : decode cL_law 826 = .ok (.aload_n 0, 1) := by decide +kernel
theorem dL_law_827 : decode cL_law 827 = .ok (.iload 4, 2) := by decide +kernel
theorem dL_law_829 : decode cL_law 829 = .ok (.iconst 2, 1) := by decide +kernel
theorem dL_law_830 : decode cL_law 830 = .ok (.iadd, 1) := by decide +kernel
theorem dL_law_831 : decode cL_law 831 = .ok (.iaload, 1) := by decide +kernel
theorem dL_law_832 : decode cL_law 832 = .ok (.aload_n 0, 1) := by decide +kernel
theorem dL_law_833 : decode cL_law 833 = .ok (.iload 4, 2) := by decide +kernel
theorem dL_law_835 : decode cL_law 835 = .ok (.iconst 3, 1) := by decide +kernel
theorem dL_law_836 : decode cL_law 836 = .ok (.iadd, 1) := by decide +kernel
theorem dL_law_837 : decode cL_law 837 = .ok (.iaload, 1) := by decide +kernel
theorem dL_law_838 : decode cL_law 838 = .ok (.ifCond .eq 7, 3) := by decide +kernel
theorem dL_law_841 : decode cL_law 841 = .ok (.iconst 1, 1) := by decide +kernel
theorem dL_law_842 : decode cL_law 842 = .ok (.goto 4, 3) := by decide +kernel
theorem dL_law_845 : decode cL_law 845 = .ok (.iconst 0, 1) := by decide +kernel
theorem dL_law_846 : decode cL_law 846 = .ok (.aload_n 3, 1) := by decide +kernel
theorem dL_law_847 : decode cL_law 847 = .ok (.invokestatic 150, 3) := by decide +kernel
theorem dL_law_850 : decode cL_law 850 = .ok (.istore 5, 2) := by decide +kernel
theorem dL_law_852 : decode cL_law 852 = .ok (.aload_n 2, 1) := by decide +kernel
theorem dL_law_853 : decode cL_law 853 = .ok (.aload_n 0, 1) := by decide +kernel
theorem dL_law_854 : decode cL_law 854 = .ok (.iload 4, 2) := by decide +kernel
theorem dL_law_856 : decode cL_law 856 = .ok (.iconst 1, 1) := by decide +kernel
theorem dL_law_857 : decode cL_law 857 = .ok (.iadd, 1) := by decide +kernel
theorem dL_law_858 : decode cL_law 858 = .ok (.iaload, 1) := by decide +kernel
theorem dL_law_859 : decode cL_law 859 = .ok (.aload_n 0, 1) := by decide +kernel
theorem dL_law_860 : decode cL_law 860 = .ok (.iload 4, 2) := by decide +kernel
theorem dL_law_862 : decode cL_law 862 = .ok (.iconst 2, 1) := by decide +kernel
theorem dL_law_863 : decode cL_law 863 = .ok (.iadd, 1) := by decide +kernel
theorem dL_law_864 : decode cL_law 864 = .ok (.iaload, 1) := by decide +kernel
theorem dL_law_865 : decode cL_law 865 = .ok (.aload_n 0, 1) := by decide +kernel
theorem dL_law_866 : decode cL_law 866 = .ok (.iload 4, 2) := by decide +kernel
theorem dL_law_868 : decode cL_law 868 = .ok (.iconst 3, 1) := by decide +kernel
theorem dL_law_869 : decode cL_law 869 = .ok (.iadd, 1) := by decide +kernel
theorem dL_law_870 : decode cL_law 870 = .ok (.iaload, 1) := by decide +kernel
theorem dL_law_871 : decode cL_law 871 = .ok (.ifCond .eq 7, 3) := by decide +kernel
theorem dL_law_874 : decode cL_law 874 = .ok (.iconst 1, 1) := by decide +kernel
theorem dL_law_875 : decode cL_law 875 = .ok (.goto 4, 3) := by decide +kernel
theorem dL_law_878 : decode cL_law 878 = .ok (.iconst 0, 1) := by decide +kernel
theorem dL_law_879 : decode cL_law 879 = .ok (.invokevirtual 153, 3) := by decide +kernel
theorem dL_law_882 : decode cL_law 882 = .ok (.istore 6, 2) := by decide +kernel
theorem dL_law_884 : decode cL_law 884 = .ok (.aload_n 2, 1) := by decide +kernel
theorem dL_law_885 : decode cL_law 885 = .ok (.invokevirtual 104, 3) := by decide +kernel
theorem dL_law_888 : decode cL_law 888 = .ok (.iload 5, 2) := by decide +kernel
theorem dL_law_890 : decode cL_law 890 = .ok (.if_icmp .eq 5, 3) := by decide +kernel
theorem dL_law_893 : decode cL_law 893 = .ok (.iconst 0, 1) := by decide +kernel
theorem dL_law_894 : decode cL_law 894 = .ok (.ireturn, 1) := by decide +kernel
theorem dL_law_895 : decode cL_law 895 = .ok (.iload 5, 2) := by decide +kernel
theorem dL_law_897 : decode cL_law 897 = .ok (.ifCond .ne 15, 3) := by decide +kernel
theorem dL_law_900 : decode cL_law 900 = .ok (.aload_n 3, 1) := by decide +kernel
theorem dL_law_901 : decode cL_law 901 = .ok (.iconst 0, 1) := by decide +kernel
theorem dL_law_902 : decode cL_law 902 = .ok (.laload, 1) := by decide +kernel
theorem dL_law_903 : decode cL_law 903 = .ok (.iload 6, 2) := by decide +kernel
theorem dL_law_905 : decode cL_law 905 = .ok (.i2l, 1) := by decide +kernel
theorem dL_law_906 : decode cL_law 906 = .ok (.lcmp, 1) := by decide +kernel
theorem dL_law_907 : decode cL_law 907 = .ok (.ifCond .eq 5, 3) := by decide +kernel
theorem dL_law_910 : decode cL_law 910 = .ok (.iconst 0, 1) := by decide +kernel
theorem dL_law_911 : decode cL_law 911 = .ok (.ireturn, 1) := by decide +kernel
theorem dL_law_912 : decode cL_law 912 = .ok (.goto 773, 3) := by decide +kernel
theorem dL_law_915 : decode cL_law 915 = .ok (.aload_n 1, 1) := by decide +kernel
theorem dL_law_916 : decode cL_law 916 = .ok (.aload_n 0, 1) := by decide +kernel
theorem dL_law_917 : decode cL_law 917 = .ok (.iload 4, 2) := by decide +kernel
theorem dL_law_919 : decode cL_law 919 = .ok (.iconst 1, 1) := by decide +kernel
theorem dL_law_920 : decode cL_law 920 = .ok (.iadd, 1) := by decide +kernel
theorem dL_law_921 : decode cL_law 921 = .ok (.iaload, 1) := by decide +kernel
theorem dL_law_922 : decode cL_law 922 = .ok (.aload_n 3, 1) := by decide +kernel
theorem dL_law_923 : decode cL_law 923 = .ok (.invokestatic 154, 3) := by decide +kernel
theorem dL_law_926 : decode cL_law 926 = .ok (.istore 5, 2) := by decide +kernel
theorem dL_law_928 : decode cL_law 928 = .ok (.aload_n 2, 1) := by decide +kernel
theorem dL_law_929 : decode cL_law 929 = .ok (.aload_n 0, 1) := by decide +kernel
theorem dL_law_930 : decode cL_law 930 = .ok (.iload 4, 2) := by decide +kernel
theorem dL_law_932 : decode cL_law 932 = .ok (.iconst 1, 1) := by decide +kernel
theorem dL_law_933 : decode cL_law 933 = .ok (.iadd, 1) := by decide +kernel
theorem dL_law_934 : decode cL_law 934 = .ok (.iaload, 1) := by decide +kernel
theorem dL_law_935 : decode cL_law 935 = .ok (.invokevirtual 156, 3) := by decide +kernel
theorem dL_law_938 : decode cL_law 938 = .ok (.istore 6, 2) := by decide +kernel
theorem dL_law_940 : decode cL_law 940 = .ok (.aload_n 2, 1) := by decide +kernel
theorem dL_law_941 : decode cL_law 941 = .ok (.invokevirtual 104, 3) := by decide +kernel
theorem dL_law_944 : decode cL_law 944 = .ok (.iload 5, 2) := by decide +kernel
theorem dL_law_946 : decode cL_law 946 = .ok (.if_icmp .eq 5, 3) := by decide +kernel
theorem dL_law_949 : decode cL_law 949 = .ok (.iconst 0, 1) := by decide +kernel
theorem dL_law_950 : decode cL_law 950 = .ok (.ireturn, 1) := by decide +kernel
theorem dL_law_951 : decode cL_law 951 = .ok (.iload 5, 2) := by decide +kernel
theorem dL_law_953 : decode cL_law 953 = .ok (.ifCond .ne 15, 3) := by decide +kernel
theorem dL_law_956 : decode cL_law 956 = .ok (.aload_n 3, 1) := by decide +kernel
theorem dL_law_957 : decode cL_law 957 = .ok (.iconst 0, 1) := by decide +kernel
theorem dL_law_958 : decode cL_law 958 = .ok (.laload, 1) := by decide +kernel
theorem dL_law_959 : decode cL_law 959 = .ok (.iload 6, 2) := by decide +kernel
theorem dL_law_961 : decode cL_law 961 = .ok (.i2l, 1) := by decide +kernel
theorem dL_law_962 : decode cL_law 962 = .ok (.lcmp, 1) := by decide +kernel
theorem dL_law_963 : decode cL_law 963 = .ok (.ifCond .eq 5, 3) := by decide +kernel
theorem dL_law_966 : decode cL_law 966 = .ok (.iconst 0, 1) := by decide +kernel
theorem dL_law_967 : decode cL_law 967 = .ok (.ireturn, 1) := by decide +kernel
theorem dL_law_968 : decode cL_law 968 = .ok (.goto 717, 3) := by decide +kernel
theorem dL_law_971 : decode cL_law 971 = .ok (.aload_n 1, 1) := by decide +kernel
theorem dL_law_972 : decode cL_law 972 = .ok (.aload_n 0, 1) := by decide +kernel
theorem dL_law_973 : decode cL_law 973 = .ok (.iload 4, 2) := by decide +kernel
theorem dL_law_975 : decode cL_law 975 = .ok (.iconst 1, 1) := by decide +kernel
theorem dL_law_976 : decode cL_law 976 = .ok (.iadd, 1) := by decide +kernel
theorem dL_law_977 : decode cL_law 977 = .ok (.iaload, 1) := by decide +kernel
theorem dL_law_978 : decode cL_law 978 = .ok (.aload_n 3, 1) := by decide +kernel
theorem dL_law_979 : decode cL_law 979 = .ok (.invokestatic 157, 3) := by decide +kernel
theorem dL_law_982 : decode cL_law 982 = .ok (.istore 5, 2) := by decide +kernel
theorem dL_law_984 : decode cL_law 984 = .ok (.aload_n 2, 1) := by decide +kernel
theorem dL_law_985 : decode cL_law 985 = .ok (.aload_n 0, 1) := by decide +kernel
theorem dL_law_986 : decode cL_law 986 = .ok (.iload 4, 2) := by decide +kernel
theorem dL_law_988 : decode cL_law 988 = .ok (.iconst 1, 1) := by decide +kernel
theorem dL_law_989 : decode cL_law 989 = .ok (.iadd, 1) := by decide +kernel
theorem dL_law_990 : decode cL_law 990 = .ok (.iaload, 1) := by decide +kernel
theorem dL_law_991 : decode cL_law 991 = .ok (.invokevirtual 159, 3) := by decide +kernel
theorem dL_law_994 : decode cL_law 994 = .ok (.istore 6, 2) := by decide +kernel
theorem dL_law_996 : decode cL_law 996 = .ok (.aload_n 2, 1) := by decide +kernel
theorem dL_law_997 : decode cL_law 997 = .ok (.invokevirtual 104, 3) := by decide +kernel
theorem dL_law_1000 : decode cL_law 1000 = .ok (.iload 5, 2) := by decide +kernel
theorem dL_law_1002 : decode cL_law 1002 = .ok (.if_icmp .eq 5, 3) := by decide +kernel
theorem dL_law_1005 : decode cL_law 1005 = .ok (.iconst 0, 1) := by decide +kernel
theorem dL_law_1006 : decode cL_law 1006 = .ok (.ireturn, 1) := by decide +kernel
theorem dL_law_1007 : decode cL_law 1007 = .ok (.iload 5, 2) := by decide +kernel
theorem dL_law_1009 : decode cL_law 1009 = .ok (.ifCond .ne 22, 3) := by decide +kernel
theorem dL_law_1012 : decode cL_law 1012 = .ok (.aload_n 3, 1) := by decide +kernel
theorem dL_law_1013 : decode cL_law 1013 = .ok (.iconst 0, 1) := by decide +kernel
theorem dL_law_1014 : decode cL_law 1014 = .ok (.laload, 1) := by decide +kernel
theorem dL_law_1015 : decode cL_law 1015 = .ok (.iload 6, 2) := by decide +kernel
theorem dL_law_1017 : decode cL_law 1017 = .ok (.ifCond .eq 7, 3) := by decide +kernel
theorem dL_law_1020 : decode cL_law 1020 = .ok (.lconst 1, 1) := by decide +kernel
theorem dL_law_1021 : decode cL_law 1021 = .ok (.goto 4, 3) := by decide +kernel
theorem dL_law_1024 : decode cL_law 1024 = .ok (.lconst 0, 1) := by decide +kernel
theorem dL_law_1025 : decode cL_law 1025 = .ok (.lcmp, 1) := by decide +kernel
theorem dL_law_1026 : decode cL_law 1026 = .ok (.ifCond .eq 5, 3) := by decide +kernel
theorem dL_law_1029 : decode cL_law 1029 = .ok (.iconst 0, 1) := by decide +kernel
theorem dL_law_1030 : decode cL_law 1030 = .ok (.ireturn, 1) := by decide +kernel
theorem dL_law_1031 : decode cL_law 1031 = .ok (.goto 654, 3) := by decide +kernel
theorem dL_law_1034 : decode cL_law 1034 = .ok (.aload_n 1, 1) := by decide +kernel
theorem dL_law_1035 : decode cL_law 1035 = .ok (.aload_n 0, 1) := by decide +kernel
theorem dL_law_1036 : decode cL_law 1036 = .ok (.iload 4, 2) := by decide +kernel
theorem dL_law_1038 : decode cL_law 1038 = .ok (.iconst 1, 1) := by decide +kernel
theorem dL_law_1039 : decode cL_law 1039 = .ok (.iadd, 1) := by decide +kernel
theorem dL_law_1040 : decode cL_law 1040 = .ok (.iaload, 1) := by decide +kernel
theorem dL_law_1041 : decode cL_law 1041 = .ok (.aload_n 3, 1) := by decide +kernel
theorem dL_law_1042 : decode cL_law 1042 = .ok (.invokestatic 160, 3) := by decide +kernel
theorem dL_law_1045 : decode cL_law 1045 = .ok (.istore 5, 2) := by decide +kernel
theorem dL_law_1047 : decode cL_law 1047 = .ok (.aload_n 2, 1) := by decide +kernel
theorem dL_law_1048 : decode cL_law 1048 = .ok (.aload_n 0, 1) := by decide +kernel
theorem dL_law_1049 : decode cL_law 1049 = .ok (.iload 4, 2) := by decide +kernel
theorem dL_law_1051 : decode cL_law 1051 = .ok (.iconst 1, 1) := by decide +kernel
theorem dL_law_1052 : decode cL_law 1052 = .ok (.iadd, 1) := by decide +kernel
theorem dL_law_1053 : decode cL_law 1053 = .ok (.iaload, 1) := by decide +kernel
theorem dL_law_1054 : decode cL_law 1054 = .ok (.invokevirtual 162, 3) := by decide +kernel
theorem dL_law_1057 : decode cL_law 1057 = .ok (.istore 6, 2) := by decide +kernel
theorem dL_law_1059 : decode cL_law 1059 = .ok (.aload_n 2, 1) := by decide +kernel
theorem dL_law_1060 : decode cL_law 1060 = .ok (.invokevirtual 104, 3) := by decide +kernel
theorem dL_law_1063 : decode cL_law 1063 = .ok (.iload 5, 2) := by decide +kernel
theorem dL_law_1065 : decode cL_law 1065 = .ok (.if_icmp .eq 5, 3) := by decide +kernel
theorem dL_law_1068 : decode cL_law 1068 = .ok (.iconst 0, 1) := by decide +kernel
theorem dL_law_1069 : decode cL_law 1069 = .ok (.ireturn, 1) := by decide +kernel
theorem dL_law_1070 : decode cL_law 1070 = .ok (.iload 5, 2) := by decide +kernel
theorem dL_law_1072 : decode cL_law 1072 = .ok (.ifCond .ne 15, 3) := by decide +kernel
theorem dL_law_1075 : decode cL_law 1075 = .ok (.aload_n 3, 1) := by decide +kernel
theorem dL_law_1076 : decode cL_law 1076 = .ok (.iconst 0, 1) := by decide +kernel
theorem dL_law_1077 : decode cL_law 1077 = .ok (.laload, 1) := by decide +kernel
theorem dL_law_1078 : decode cL_law 1078 = .ok (.iload 6, 2) := by decide +kernel
theorem dL_law_1080 : decode cL_law 1080 = .ok (.i2l, 1) := by decide +kernel
theorem dL_law_1081 : decode cL_law 1081 = .ok (.lcmp, 1) := by decide +kernel
theorem dL_law_1082 : decode cL_law 1082 = .ok (.ifCond .eq 5, 3) := by decide +kernel
theorem dL_law_1085 : decode cL_law 1085 = .ok (.iconst 0, 1) := by decide +kernel
theorem dL_law_1086 : decode cL_law 1086 = .ok (.ireturn, 1) := by decide +kernel
theorem dL_law_1087 : decode cL_law 1087 = .ok (.goto 598, 3) := by decide +kernel
theorem dL_law_1090 : decode cL_law 1090 = .ok (.aload_n 1, 1) := by decide +kernel
theorem dL_law_1091 : decode cL_law 1091 = .ok (.aload_n 0, 1) := by decide +kernel
theorem dL_law_1092 : decode cL_law 1092 = .ok (.iload 4, 2) := by decide +kernel
theorem dL_law_1094 : decode cL_law 1094 = .ok (.iconst 1, 1) := by decide +kernel
theorem dL_law_1095 : decode cL_law 1095 = .ok (.iadd, 1) := by decide +kernel
theorem dL_law_1096 : decode cL_law 1096 = .ok (.iaload, 1) := by decide +kernel
theorem dL_law_1097 : decode cL_law 1097 = .ok (.aload_n 3, 1) := by decide +kernel
theorem dL_law_1098 : decode cL_law 1098 = .ok (.invokestatic 163, 3) := by decide +kernel
theorem dL_law_1101 : decode cL_law 1101 = .ok (.istore 5, 2) := by decide +kernel
theorem dL_law_1103 : decode cL_law 1103 = .ok (.aload_n 2, 1) := by decide +kernel
theorem dL_law_1104 : decode cL_law 1104 = .ok (.aload_n 0, 1) := by decide +kernel
theorem dL_law_1105 : decode cL_law 1105 = .ok (.iload 4, 2) := by decide +kernel
theorem dL_law_1107 : decode cL_law 1107 = .ok (.iconst 1, 1) := by decide +kernel
theorem dL_law_1108 : decode cL_law 1108 = .ok (.iadd, 1) := by decide +kernel
theorem dL_law_1109 : decode cL_law 1109 = .ok (.iaload, 1) := by decide +kernel
theorem dL_law_1110 : decode cL_law 1110 = .ok (.invokevirtual 165, 3) := by decide +kernel
theorem dL_law_1113 : decode cL_law 1113 = .ok (.istore 6, 2) := by decide +kernel
theorem dL_law_1115 : decode cL_law 1115 = .ok (.aload_n 2, 1) := by decide +kernel
theorem dL_law_1116 : decode cL_law 1116 = .ok (.invokevirtual 104, 3) := by decide +kernel
theorem dL_law_1119 : decode cL_law 1119 = .ok (.iload 5, 2) := by decide +kernel
theorem dL_law_1121 : decode cL_law 1121 = .ok (.if_icmp .eq 5, 3) := by decide +kernel
theorem dL_law_1124 : decode cL_law 1124 = .ok (.iconst 0, 1) := by decide +kernel
theorem dL_law_1125 : decode cL_law 1125 = .ok (.ireturn, 1) := by decide +kernel
theorem dL_law_1126 : decode cL_law 1126 = .ok (.iload 5, 2) := by decide +kernel
theorem dL_law_1128 : decode cL_law 1128 = .ok (.ifCond .ne 15, 3) := by decide +kernel
theorem dL_law_1131 : decode cL_law 1131 = .ok (.aload_n 3, 1) := by decide +kernel
theorem dL_law_1132 : decode cL_law 1132 = .ok (.iconst 0, 1) := by decide +kernel
theorem dL_law_1133 : decode cL_law 1133 = .ok (.laload, 1) := by decide +kernel
theorem dL_law_1134 : decode cL_law 1134 = .ok (.iload 6, 2) := by decide +kernel
theorem dL_law_1136 : decode cL_law 1136 = .ok (.i2l, 1) := by decide +kernel
theorem dL_law_1137 : decode cL_law 1137 = .ok (.lcmp, 1) := by decide +kernel
theorem dL_law_1138 : decode cL_law 1138 = .ok (.ifCond .eq 5, 3) := by decide +kernel
theorem dL_law_1141 : decode cL_law 1141 = .ok (.iconst 0, 1) := by decide +kernel
theorem dL_law_1142 : decode cL_law 1142 = .ok (.ireturn, 1) := by decide +kernel
theorem dL_law_1143 : decode cL_law 1143 = .ok (.goto 542, 3) := by decide +kernel
theorem dL_law_1146 : decode cL_law 1146 = .ok (.aload_n 1, 1) := by decide +kernel
theorem dL_law_1147 : decode cL_law 1147 = .ok (.aload_n 0, 1) := by decide +kernel
theorem dL_law_1148 : decode cL_law 1148 = .ok (.iload 4, 2) := by decide +kernel
theorem dL_law_1150 : decode cL_law 1150 = .ok (.iconst 1, 1) := by decide +kernel
theorem dL_law_1151 : decode cL_law 1151 = .ok (.iadd, 1) := by decide +kernel
theorem dL_law_1152 : decode cL_law 1152 = .ok (.iaload, 1) := by decide +kernel
theorem dL_law_1153 : decode cL_law 1153 = .ok (.aload_n 3, 1) := by decide +kernel
theorem dL_law_1154 : decode cL_law 1154 = .ok (.invokestatic 166, 3) := by decide +kernel
theorem dL_law_1157 : decode cL_law 1157 = .ok (.istore 5, 2) := by decide +kernel
theorem dL_law_1159 : decode cL_law 1159 = .ok (.aload_n 2, 1) := by decide +kernel
theorem dL_law_1160 : decode cL_law 1160 = .ok (.aload_n 0, 1) := by decide +kernel
theorem dL_law_1161 : decode cL_law 1161 = .ok (.iload 4, 2) := by decide +kernel
theorem dL_law_1163 : decode cL_law 1163 = .ok (.iconst 1, 1) := by decide +kernel
theorem dL_law_1164 : decode cL_law 1164 = .ok (.iadd, 1) := by decide +kernel
theorem dL_law_1165 : decode cL_law 1165 = .ok (.iaload, 1) := by decide +kernel
theorem dL_law_1166 : decode cL_law 1166 = .ok (.invokevirtual 168, 3) := by decide +kernel
theorem dL_law_1169 : decode cL_law 1169 = .ok (.istore 6, 2) := by decide +kernel
theorem dL_law_1171 : decode cL_law 1171 = .ok (.aload_n 2, 1) := by decide +kernel
theorem dL_law_1172 : decode cL_law 1172 = .ok (.invokevirtual 104, 3) := by decide +kernel
theorem dL_law_1175 : decode cL_law 1175 = .ok (.iload 5, 2) := by decide +kernel
theorem dL_law_1177 : decode cL_law 1177 = .ok (.if_icmp .eq 5, 3) := by decide +kernel
theorem dL_law_1180 : decode cL_law 1180 = .ok (.iconst 0, 1) := by decide +kernel
theorem dL_law_1181 : decode cL_law 1181 = .ok (.ireturn, 1) := by decide +kernel
theorem dL_law_1182 : decode cL_law 1182 = .ok (.iload 5, 2) := by decide +kernel
theorem dL_law_1184 : decode cL_law 1184 = .ok (.ifCond .ne 15, 3) := by decide +kernel
theorem dL_law_1187 : decode cL_law 1187 = .ok (.aload_n 3, 1) := by decide +kernel
theorem dL_law_1188 : decode cL_law 1188 = .ok (.iconst 0, 1) := by decide +kernel
theorem dL_law_1189 : decode cL_law 1189 = .ok (.laload, 1) := by decide +kernel
theorem dL_law_1190 : decode cL_law 1190 = .ok (.iload 6, 2) := by decide +kernel
theorem dL_law_1192 : decode cL_law 1192 = .ok (.i2l, 1) := by decide +kernel
theorem dL_law_1193 : decode cL_law 1193 = .ok (.lcmp, 1) := by decide +kernel
theorem dL_law_1194 : decode cL_law 1194 = .ok (.ifCond .eq 5, 3) := by decide +kernel
theorem dL_law_1197 : decode cL_law 1197 = .ok (.iconst 0, 1) := by decide +kernel
theorem dL_law_1198 : decode cL_law 1198 = .ok (.ireturn, 1) := by decide +kernel
theorem dL_law_1199 : decode cL_law 1199 = .ok (.goto 486, 3) := by decide +kernel
theorem dL_law_1202 : decode cL_law 1202 = .ok (.aload_n 1, 1) := by decide +kernel
theorem dL_law_1203 : decode cL_law 1203 = .ok (.aload_n 0, 1) := by decide +kernel
theorem dL_law_1204 : decode cL_law 1204 = .ok (.iload 4, 2) := by decide +kernel
theorem dL_law_1206 : decode cL_law 1206 = .ok (.iconst 1, 1) := by decide +kernel
theorem dL_law_1207 : decode cL_law 1207 = .ok (.iadd, 1) := by decide +kernel
theorem dL_law_1208 : decode cL_law 1208 = .ok (.iaload, 1) := by decide +kernel
theorem dL_law_1209 : decode cL_law 1209 = .ok (.aload_n 0, 1) := by decide +kernel
theorem dL_law_1210 : decode cL_law 1210 = .ok (.iload 4, 2) := by decide +kernel
theorem dL_law_1212 : decode cL_law 1212 = .ok (.iconst 2, 1) := by decide +kernel
theorem dL_law_1213 : decode cL_law 1213 = .ok (.iadd, 1) := by decide +kernel
theorem dL_law_1214 : decode cL_law 1214 = .ok (.iaload, 1) := by decide +kernel
theorem dL_law_1215 : decode cL_law 1215 = .ok (.aload_n 3, 1) := by decide +kernel
theorem dL_law_1216 : decode cL_law 1216 = .ok (.invokestatic 169, 3) := by decide +kernel
theorem dL_law_1219 : decode cL_law 1219 = .ok (.istore 5, 2) := by decide +kernel
theorem dL_law_1221 : decode cL_law 1221 = .ok (.aload_n 2, 1) := by decide +kernel
theorem dL_law_1222 : decode cL_law 1222 = .ok (.aload_n 0, 1) := by decide +kernel
theorem dL_law_1223 : decode cL_law 1223 = .ok (.iload 4, 2) := by decide +kernel
theorem dL_law_1225 : decode cL_law 1225 = .ok (.iconst 1, 1) := by decide +kernel
theorem dL_law_1226 : decode cL_law 1226 = .ok (.iadd, 1) := by decide +kernel
theorem dL_law_1227 : decode cL_law 1227 = .ok (.iaload, 1) := by decide +kernel
theorem dL_law_1228 : decode cL_law 1228 = .ok (.aload_n 0, 1) := by decide +kernel
theorem dL_law_1229 : decode cL_law 1229 = .ok (.iload 4, 2) := by decide +kernel
theorem dL_law_1231 : decode cL_law 1231 = .ok (.iconst 2, 1) := by decide +kernel
theorem dL_law_1232 : decode cL_law 1232 = .ok (.iadd, 1) := by decide +kernel
theorem dL_law_1233 : decode cL_law 1233 = .ok (.iaload, 1) := by decide +kernel
theorem dL_law_1234 : decode cL_law 1234 = .ok (.invokevirtual 171, 3) := by decide +kernel
theorem dL_law_1237 : decode cL_law 1237 = .ok (.istore 6, 2) := by decide +kernel
theorem dL_law_1239 : decode cL_law 1239 = .ok (.aload_n 2, 1) := by decide +kernel
theorem dL_law_1240 : decode cL_law 1240 = .ok (.invokevirtual 104, 3) := by decide +kernel
theorem dL_law_1243 : decode cL_law 1243 = .ok (.iload 5, 2) := by decide +kernel
theorem dL_law_1245 : decode cL_law 1245 = .ok (.if_icmp .eq 5, 3) := by decide +kernel
theorem dL_law_1248 : decode cL_law 1248 = .ok (.iconst 0, 1) := by decide +kernel
theorem dL_law_1249 : decode cL_law 1249 = .ok (.ireturn, 1) := by decide +kernel
theorem dL_law_1250 : decode cL_law 1250 = .ok (.iload 5, 2) := by decide +kernel
theorem dL_law_1252 : decode cL_law 1252 = .ok (.ifCond .ne 22, 3) := by decide +kernel
theorem dL_law_1255 : decode cL_law 1255 = .ok (.aload_n 3, 1) := by decide +kernel
theorem dL_law_1256 : decode cL_law 1256 = .ok (.iconst 0, 1) := by decide +kernel
theorem dL_law_1257 : decode cL_law 1257 = .ok (.laload, 1) := by decide +kernel
theorem dL_law_1258 : decode cL_law 1258 = .ok (.iload 6, 2) := by decide +kernel
theorem dL_law_1260 : decode cL_law 1260 = .ok (.ifCond .eq 7, 3) := by decide +kernel
theorem dL_law_1263 : decode cL_law 1263 = .ok (.lconst 1, 1) := by decide +kernel
theorem dL_law_1264 : decode cL_law 1264 = .ok (.goto 4, 3) := by decide +kernel
theorem dL_law_1267 : decode cL_law 1267 = .ok (.lconst 0, 1) := by decide +kernel
theorem dL_law_1268 : decode cL_law 1268 = .ok (.lcmp, 1) := by decide +kernel
theorem dL_law_1269 : decode cL_law 1269 = .ok (.ifCond .eq 5, 3) := by decide +kernel
theorem dL_law_1272 : decode cL_law 1272 = .ok (.iconst 0, 1) := by decide +kernel
theorem dL_law_1273 : decode cL_law 1273 = .ok (.ireturn, 1) := by decide +kernel
theorem dL_law_1274 : decode cL_law 1274 = .ok (.goto 411, 3) := by decide +kernel
theorem dL_law_1277 : decode cL_law 1277 = .ok (.aload_n 1, 1) := by decide +kernel
theorem dL_law_1278 : decode cL_law 1278 = .ok (.aload_n 0, 1) := by decide +kernel
theorem dL_law_1279 : decode cL_law 1279 = .ok (.iload 4, 2) := by decide +kernel
theorem dL_law_1281 : decode cL_law 1281 = .ok (.iconst 1, 1) := by decide +kernel
theorem dL_law_1282 : decode cL_law 1282 = .ok (.iadd, 1) := by decide +kernel
theorem dL_law_1283 : decode cL_law 1283 = .ok (.iaload, 1) := by decide +kernel
theorem dL_law_1284 : decode cL_law 1284 = .ok (.aload_n 3, 1) := by decide +kernel
theorem dL_law_1285 : decode cL_law 1285 = .ok (.invokestatic 172, 3) := by decide +kernel
theorem dL_law_1288 : decode cL_law 1288 = .ok (.istore 5, 2) := by decide +kernel
theorem dL_law_1290 : decode cL_law 1290 = .ok (.aload_n 2, 1) := by decide +kernel
theorem dL_law_1291 : decode cL_law 1291 = .ok (.aload_n 0, 1) := by decide +kernel
theorem dL_law_1292 : decode cL_law 1292 = .ok (.iload 4, 2) := by decide +kernel
theorem dL_law_1294 : decode cL_law 1294 = .ok (.iconst 1, 1) := by decide +kernel
theorem dL_law_1295 : decode cL_law 1295 = .ok (.iadd, 1) := by decide +kernel
theorem dL_law_1296 : decode cL_law 1296 = .ok (.iaload, 1) := by decide +kernel
theorem dL_law_1297 : decode cL_law 1297 = .ok (.invokevirtual 174, 3) := by decide +kernel
theorem dL_law_1300 : decode cL_law 1300 = .ok (.istore 6, 2) := by decide +kernel
theorem dL_law_1302 : decode cL_law 1302 = .ok (.aload_n 2, 1) := by decide +kernel
theorem dL_law_1303 : decode cL_law 1303 = .ok (.invokevirtual 104, 3) := by decide +kernel
theorem dL_law_1306 : decode cL_law 1306 = .ok (.iload 5, 2) := by decide +kernel
theorem dL_law_1308 : decode cL_law 1308 = .ok (.if_icmp .eq 5, 3) := by decide +kernel
theorem dL_law_1311 : decode cL_law 1311 = .ok (.iconst 0, 1) := by decide +kernel
theorem dL_law_1312 : decode cL_law 1312 = .ok (.ireturn, 1) := by decide +kernel
theorem dL_law_1313 : decode cL_law 1313 = .ok (.iload 5, 2) := by decide +kernel
theorem dL_law_1315 : decode cL_law 1315 = .ok (.ifCond .ne 15, 3) := by decide +kernel
theorem dL_law_1318 : decode cL_law 1318 = .ok (.aload_n 3, 1) := by decide +kernel
theorem dL_law_1319 : decode cL_law 1319 = .ok (.iconst 0, 1) := by decide +kernel
theorem dL_law_1320 : decode cL_law 1320 = .ok (.laload, 1) := by decide +kernel
theorem dL_law_1321 : decode cL_law 1321 = .ok (.iload 6, 2) := by decide +kernel
theorem dL_law_1323 : decode cL_law 1323 = .ok (.i2l, 1) := by decide +kernel
theorem dL_law_1324 : decode cL_law 1324 = .ok (.lcmp, 1) := by decide +kernel
theorem dL_law_1325 : decode cL_law 1325 = .ok (.ifCond .eq 5, 3) := by decide +kernel
theorem dL_law_1328 : decode cL_law 1328 = .ok (.iconst 0, 1) := by decide +kernel
theorem dL_law_1329 : decode cL_law 1329 = .ok (.ireturn, 1) := by decide +kernel
theorem dL_law_1330 : decode cL_law 1330 = .ok (.goto 355, 3) := by decide +kernel
theorem dL_law_1333 : decode cL_law 1333 = .ok (.aload_n 1, 1) := by decide +kernel
theorem dL_law_1334 : decode cL_law 1334 = .ok (.aload_n 0, 1) := by decide +kernel
theorem dL_law_1335 : decode cL_law 1335 = .ok (.iload 4, 2) := by decide +kernel
theorem dL_law_1337 : decode cL_law 1337 = .ok (.iconst 1, 1) := by decide +kernel
theorem dL_law_1338 : decode cL_law 1338 = .ok (.iadd, 1) := by decide +kernel
theorem dL_law_1339 : decode cL_law 1339 = .ok (.iaload, 1) := by decide +kernel
theorem dL_law_1340 : decode cL_law 1340 = .ok (.aload_n 3, 1) := by decide +kernel
theorem dL_law_1341 : decode cL_law 1341 = .ok (.invokestatic 175, 3) := by decide +kernel
theorem dL_law_1344 : decode cL_law 1344 = .ok (.istore 5, 2) := by decide +kernel
theorem dL_law_1346 : decode cL_law 1346 = .ok (.aload_n 2, 1) := by decide +kernel
theorem dL_law_1347 : decode cL_law 1347 = .ok (.aload_n 0, 1) := by decide +kernel
theorem dL_law_1348 : decode cL_law 1348 = .ok (.iload 4, 2) := by decide +kernel
theorem dL_law_1350 : decode cL_law 1350 = .ok (.iconst 1, 1) := by decide +kernel
theorem dL_law_1351 : decode cL_law 1351 = .ok (.iadd, 1) := by decide +kernel
theorem dL_law_1352 : decode cL_law 1352 = .ok (.iaload, 1) := by decide +kernel
theorem dL_law_1353 : decode cL_law 1353 = .ok (.invokevirtual 177, 3) := by decide +kernel
theorem dL_law_1356 : decode cL_law 1356 = .ok (.istore 6, 2) := by decide +kernel
theorem dL_law_1358 : decode cL_law 1358 = .ok (.aload_n 2, 1) := by decide +kernel
theorem dL_law_1359 : decode cL_law 1359 = .ok (.invokevirtual 104, 3) := by decide +kernel
theorem dL_law_1362 : decode cL_law 1362 = .ok (.iload 5, 2) := by decide +kernel
theorem dL_law_1364 : decode cL_law 1364 = .ok (.if_icmp .eq 5, 3) := by decide +kernel
theorem dL_law_1367 : decode cL_law 1367 = .ok (.iconst 0, 1) := by decide +kernel
theorem dL_law_1368 : decode cL_law 1368 = .ok (.ireturn, 1) := by decide +kernel
theorem dL_law_1369 : decode cL_law 1369 = .ok (.iload 5, 2) := by decide +kernel
theorem dL_law_1371 : decode cL_law 1371 = .ok (.ifCond .ne 15, 3) := by decide +kernel
theorem dL_law_1374 : decode cL_law 1374 = .ok (.aload_n 3, 1) := by decide +kernel
theorem dL_law_1375 : decode cL_law 1375 = .ok (.iconst 0, 1) := by decide +kernel
theorem dL_law_1376 : decode cL_law 1376 = .ok (.laload, 1) := by decide +kernel
theorem dL_law_1377 : decode cL_law 1377 = .ok (.iload 6, 2) := by decide +kernel
theorem dL_law_1379 : decode cL_law 1379 = .ok (.i2l, 1) := by decide +kernel
theorem dL_law_1380 : decode cL_law 1380 = .ok (.lcmp, 1) := by decide +kernel
theorem dL_law_1381 : decode cL_law 1381 = .ok (.ifCond .eq 5, 3) := by decide +kernel
theorem dL_law_1384 : decode cL_law 1384 = .ok (.iconst 0, 1) := by decide +kernel
theorem dL_law_1385 : decode cL_law 1385 = .ok (.ireturn, 1) := by decide +kernel
theorem dL_law_1386 : decode cL_law 1386 = .ok (.goto 299, 3) := by decide +kernel
theorem dL_law_1389 : decode cL_law 1389 = .ok (.aload_n 1, 1) := by decide +kernel
theorem dL_law_1390 : decode cL_law 1390 = .ok (.aload_n 0, 1) := by decide +kernel
theorem dL_law_1391 : decode cL_law 1391 = .ok (.iload 4, 2) := by decide +kernel
theorem dL_law_1393 : decode cL_law 1393 = .ok (.iconst 1, 1) := by decide +kernel
theorem dL_law_1394 : decode cL_law 1394 = .ok (.iadd, 1) := by decide +kernel
theorem dL_law_1395 : decode cL_law 1395 = .ok (.iaload, 1) := by decide +kernel
theorem dL_law_1396 : decode cL_law 1396 = .ok (.aload_n 3, 1) := by decide +kernel
theorem dL_law_1397 : decode cL_law 1397 = .ok (.invokestatic 178, 3) := by decide +kernel
theorem dL_law_1400 : decode cL_law 1400 = .ok (.istore 5, 2) := by decide +kernel
theorem dL_law_1402 : decode cL_law 1402 = .ok (.aload_n 2, 1) := by decide +kernel
theorem dL_law_1403 : decode cL_law 1403 = .ok (.aload_n 0, 1) := by decide +kernel
theorem dL_law_1404 : decode cL_law 1404 = .ok (.iload 4, 2) := by decide +kernel
theorem dL_law_1406 : decode cL_law 1406 = .ok (.iconst 1, 1) := by decide +kernel
theorem dL_law_1407 : decode cL_law 1407 = .ok (.iadd, 1) := by decide +kernel
theorem dL_law_1408 : decode cL_law 1408 = .ok (.iaload, 1) := by decide +kernel
theorem dL_law_1409 : decode cL_law 1409 = .ok (.invokevirtual 180, 3) := by decide +kernel
theorem dL_law_1412 : decode cL_law 1412 = .ok (.istore 6, 2) := by decide +kernel
theorem dL_law_1414 : decode cL_law 1414 = .ok (.aload_n 2, 1) := by decide +kernel
theorem dL_law_1415 : decode cL_law 1415 = .ok (.invokevirtual 104, 3) := by decide +kernel
theorem dL_law_1418 : decode cL_law 1418 = .ok (.iload 5, 2) := by decide +kernel
theorem dL_law_1420 : decode cL_law 1420 = .ok (.if_icmp .eq 5, 3) := by decide +kernel
theorem dL_law_1423 : decode cL_law 1423 = .ok (.iconst 0, 1) := by decide +kernel
theorem dL_law_1424 : decode cL_law 1424 = .ok (.ireturn, 1) := by decide +kernel
theorem dL_law_1425 : decode cL_law 1425 = .ok (.iload 5, 2) := by decide +kernel
theorem dL_law_1427 : decode cL_law 1427 = .ok (.ifCond .ne 15, 3) := by decide +kernel
theorem dL_law_1430 : decode cL_law 1430 = .ok (.aload_n 3, 1) := by decide +kernel
theorem dL_law_1431 : decode cL_law 1431 = .ok (.iconst 0, 1) := by decide +kernel
theorem dL_law_1432 : decode cL_law 1432 = .ok (.laload, 1) := by decide +kernel
theorem dL_law_1433 : decode cL_law 1433 = .ok (.iload 6, 2) := by decide +kernel
theorem dL_law_1435 : decode cL_law 1435 = .ok (.i2l, 1) := by decide +kernel
theorem dL_law_1436 : decode cL_law 1436 = .ok (.lcmp, 1) := by decide +kernel
theorem dL_law_1437 : decode cL_law 1437 = .ok (.ifCond .eq 5, 3) := by decide +kernel
theorem dL_law_1440 : decode cL_law 1440 = .ok (.iconst 0, 1) := by decide +kernel
theorem dL_law_1441 : decode cL_law 1441 = .ok (.ireturn, 1) := by decide +kernel
theorem dL_law_1442 : decode cL_law 1442 = .ok (.goto 243, 3) := by decide +kernel
theorem dL_law_1445 : decode cL_law 1445 = .ok (.aload_n 1, 1) := by decide +kernel
theorem dL_law_1446 : decode cL_law 1446 = .ok (.aload_n 0, 1) := by decide +kernel
theorem dL_law_1447 : decode cL_law 1447 = .ok (.iload 4, 2) := by decide +kernel
theorem dL_law_1449 : decode cL_law 1449 = .ok (.iconst 1, 1) := by decide +kernel
theorem dL_law_1450 : decode cL_law 1450 = .ok (.iadd, 1) := by decide +kernel
theorem dL_law_1451 : decode cL_law 1451 = .ok (.iaload, 1) := by decide +kernel
theorem dL_law_1452 : decode cL_law 1452 = .ok (.aload_n 0, 1) := by decide +kernel
theorem dL_law_1453 : decode cL_law 1453 = .ok (.iload 4, 2) := by decide +kernel
theorem dL_law_1455 : decode cL_law 1455 = .ok (.iconst 2, 1) := by decide +kernel
theorem dL_law_1456 : decode cL_law 1456 = .ok (.iadd, 1) := by decide +kernel
theorem dL_law_1457 : decode cL_law 1457 = .ok (.iaload, 1) := by decide +kernel
theorem dL_law_1458 : decode cL_law 1458 = .ok (.aload_n 3, 1) := by decide +kernel
theorem dL_law_1459 : decode cL_law 1459 = .ok (.invokestatic 181, 3) := by decide +kernel
theorem dL_law_1462 : decode cL_law 1462 = .ok (.istore 5, 2) := by decide +kernel
theorem dL_law_1464 : decode cL_law 1464 = .ok (.aload_n 2, 1) := by decide +kernel
theorem dL_law_1465 : decode cL_law 1465 = .ok (.aload_n 0, 1) := by decide +kernel
theorem dL_law_1466 : decode cL_law 1466 = .ok (.iload 4, 2) := by decide +kernel
theorem dL_law_1468 : decode cL_law 1468 = .ok (.iconst 1, 1) := by decide +kernel
theorem dL_law_1469 : decode cL_law 1469 = .ok (.iadd, 1) := by decide +kernel
theorem dL_law_1470 : decode cL_law 1470 = .ok (.iaload, 1) := by decide +kernel
theorem dL_law_1471 : decode cL_law 1471 = .ok (.aload_n 0, 1) := by decide +kernel
theorem dL_law_1472 : decode cL_law 1472 = .ok (.iload 4, 2) := by decide +kernel
theorem dL_law_1474 : decode cL_law 1474 = .ok (.iconst 2, 1) := by decide +kernel
theorem dL_law_1475 : decode cL_law 1475 = .ok (.iadd, 1) := by decide +kernel
theorem dL_law_1476 : decode cL_law 1476 = .ok (.iaload, 1) := by decide +kernel
theorem dL_law_1477 : decode cL_law 1477 = .ok (.invokevirtual 183, 3) := by decide +kernel
theorem dL_law_1480 : decode cL_law 1480 = .ok (.istore 6, 2) := by decide +kernel
theorem dL_law_1482 : decode cL_law 1482 = .ok (.aload_n 2, 1) := by decide +kernel
theorem dL_law_1483 : decode cL_law 1483 = .ok (.invokevirtual 104, 3) := by decide +kernel
theorem dL_law_1486 : decode cL_law 1486 = .ok (.iload 5, 2) := by decide +kernel
theorem dL_law_1488 : decode cL_law 1488 = .ok (.if_icmp .eq 5, 3) := by decide +kernel
theorem dL_law_1491 : decode cL_law 1491 = .ok (.iconst 0, 1) := by decide +kernel
theorem dL_law_1492 : decode cL_law 1492 = .ok (.ireturn, 1) := by decide +kernel
theorem dL_law_1493 : decode cL_law 1493 = .ok (.iload 5, 2) := by decide +kernel
theorem dL_law_1495 : decode cL_law 1495 = .ok (.ifCond .ne 15, 3) := by decide +kernel
theorem dL_law_1498 : decode cL_law 1498 = .ok (.aload_n 3, 1) := by decide +kernel
theorem dL_law_1499 : decode cL_law 1499 = .ok (.iconst 0, 1) := by decide +kernel
theorem dL_law_1500 : decode cL_law 1500 = .ok (.laload, 1) := by decide +kernel
theorem dL_law_1501 : decode cL_law 1501 = .ok (.iload 6, 2) := by decide +kernel
theorem dL_law_1503 : decode cL_law 1503 = .ok (.i2l, 1) := by decide +kernel
theorem dL_law_1504 : decode cL_law 1504 = .ok (.lcmp, 1) := by decide +kernel
theorem dL_law_1505 : decode cL_law 1505 = .ok (.ifCond .eq 5, 3) := by decide +kernel
theorem dL_law_1508 : decode cL_law 1508 = .ok (.iconst 0, 1) := by decide +kernel
theorem dL_law_1509 : decode cL_law 1509 = .ok (.ireturn, 1) := by decide +kernel
theorem dL_law_1510 : decode cL_law 1510 = .ok (.goto 175, 3) := by decide +kernel
theorem dL_law_1513 : decode cL_law 1513 = .ok (.aload_n 1, 1) := by decide +kernel
theorem dL_law_1514 : decode cL_law 1514 = .ok (.aload_n 0, 1) := by decide +kernel
theorem dL_law_1515 : decode cL_law 1515 = .ok (.iload 4, 2) := by decide +kernel
theorem dL_law_1517 : decode cL_law 1517 = .ok (.iconst 1, 1) := by decide +kernel
theorem dL_law_1518 : decode cL_law 1518 = .ok (.iadd, 1) := by decide +kernel
theorem dL_law_1519 : decode cL_law 1519 = .ok (.iaload, 1) := by decide +kernel
theorem dL_law_1520 : decode cL_law 1520 = .ok (.aload_n 0, 1) := by decide +kernel
theorem dL_law_1521 : decode cL_law 1521 = .ok (.iload 4, 2) := by decide +kernel
theorem dL_law_1523 : decode cL_law 1523 = .ok (.iconst 2, 1) := by decide +kernel
theorem dL_law_1524 : decode cL_law 1524 = .ok (.iadd, 1) := by decide +kernel
theorem dL_law_1525 : decode cL_law 1525 = .ok (.iaload, 1) := by decide +kernel
theorem dL_law_1526 : decode cL_law 1526 = .ok (.aload_n 0, 1) := by decide +kernel
theorem dL_law_1527 : decode cL_law 1527 = .ok (.iload 4, 2) := by decide +kernel
theorem dL_law_1529 : decode cL_law 1529 = .ok (.iconst 3, 1) := by decide +kernel
theorem dL_law_1530 : decode cL_law 1530 = .ok (.iadd, 1) := by decide +kernel
theorem dL_law_1531 : decode cL_law 1531 = .ok (.iaload, 1) := by decide +kernel
theorem dL_law_1532 : decode cL_law 1532 = .ok (.aload_n 3, 1) := by decide +kernel
theorem dL_law_1533 : decode cL_law 1533 = .ok (.invokestatic 184, 3) := by decide +kernel
theorem dL_law_1536 : decode cL_law 1536 = .ok (.istore 5, 2) := by decide +kernel
theorem dL_law_1538 : decode cL_law 1538 = .ok (.aload_n 2, 1) := by decide +kernel
theorem dL_law_1539 : decode cL_law 1539 = .ok (.aload_n 0, 1) := by decide +kernel
theorem dL_law_1540 : decode cL_law 1540 = .ok (.iload 4, 2) := by decide +kernel
theorem dL_law_1542 : decode cL_law 1542 = .ok (.iconst 1, 1) := by decide +kernel
theorem dL_law_1543 : decode cL_law 1543 = .ok (.iadd, 1) := by decide +kernel
theorem dL_law_1544 : decode cL_law 1544 = .ok (.iaload, 1) := by decide +kernel
theorem dL_law_1545 : decode cL_law 1545 = .ok (.aload_n 0, 1) := by decide +kernel
theorem dL_law_1546 : decode cL_law 1546 = .ok (.iload 4, 2) := by decide +kernel
theorem dL_law_1548 : decode cL_law 1548 = .ok (.iconst 2, 1) := by decide +kernel
theorem dL_law_1549 : decode cL_law 1549 = .ok (.iadd, 1) := by decide +kernel
theorem dL_law_1550 : decode cL_law 1550 = .ok (.iaload, 1) := by decide +kernel
theorem dL_law_1551 : decode cL_law 1551 = .ok (.aload_n 0, 1) := by decide +kernel
theorem dL_law_1552 : decode cL_law 1552 = .ok (.iload 4, 2) := by decide +kernel
theorem dL_law_1554 : decode cL_law 1554 = .ok (.iconst 3, 1) := by decide +kernel
theorem dL_law_1555 : decode cL_law 1555 = .ok (.iadd, 1) := by decide +kernel
theorem dL_law_1556 : decode cL_law 1556 = .ok (.iaload, 1) := by decide +kernel
theorem dL_law_1557 : decode cL_law 1557 = .ok (.invokevirtual 186, 3) := by decide +kernel
theorem dL_law_1560 : decode cL_law 1560 = .ok (.istore 6, 2) := by decide +kernel
theorem dL_law_1562 : decode cL_law 1562 = .ok (.aload_n 2, 1) := by decide +kernel
theorem dL_law_1563 : decode cL_law 1563 = .ok (.invokevirtual 104, 3) := by decide +kernel
theorem dL_law_1566 : decode cL_law 1566 = .ok (.iload 5, 2) := by decide +kernel
theorem dL_law_1568 : decode cL_law 1568 = .ok (.if_icmp .eq 5, 3) := by decide +kernel
theorem dL_law_1571 : decode cL_law 1571 = .ok (.iconst 0, 1) := by decide +kernel
theorem dL_law_1572 : decode cL_law 1572 = .ok (.ireturn, 1) := by decide +kernel
theorem dL_law_1573 : decode cL_law 1573 = .ok (.iload 5, 2) := by decide +kernel
theorem dL_law_1575 : decode cL_law 1575 = .ok (.ifCond .ne 15, 3) := by decide +kernel
theorem dL_law_1578 : decode cL_law 1578 = .ok (.aload_n 3, 1) := by decide +kernel
theorem dL_law_1579 : decode cL_law 1579 = .ok (.iconst 0, 1) := by decide +kernel
theorem dL_law_1580 : decode cL_law 1580 = .ok (.laload, 1) := by decide +kernel
theorem dL_law_1581 : decode cL_law 1581 = .ok (.iload 6, 2) := by decide +kernel
theorem dL_law_1583 : decode cL_law 1583 = .ok (.i2l, 1) := by decide +kernel
theorem dL_law_1584 : decode cL_law 1584 = .ok (.lcmp, 1) := by decide +kernel
theorem dL_law_1585 : decode cL_law 1585 = .ok (.ifCond .eq 5, 3) := by decide +kernel
theorem dL_law_1588 : decode cL_law 1588 = .ok (.iconst 0, 1) := by decide +kernel
theorem dL_law_1589 : decode cL_law 1589 = .ok (.ireturn, 1) := by decide +kernel
theorem dL_law_1590 : decode cL_law 1590 = .ok (.goto 95, 3) := by decide +kernel
theorem dL_law_1593 : decode cL_law 1593 = .ok (.aload_n 1, 1) := by decide +kernel
theorem dL_law_1594 : decode cL_law 1594 = .ok (.aload_n 0, 1) := by decide +kernel
theorem dL_law_1595 : decode cL_law 1595 = .ok (.iload 4, 2) := by decide +kernel
theorem dL_law_1597 : decode cL_law 1597 = .ok (.iconst 1, 1) := by decide +kernel
theorem dL_law_1598 : decode cL_law 1598 = .ok (.iadd, 1) := by decide +kernel
theorem dL_law_1599 : decode cL_law 1599 = .ok (.iaload, 1) := by decide +kernel
theorem dL_law_1600 : decode cL_law 1600 = .ok (.aload_n 0, 1) := by decide +kernel
theorem dL_law_1601 : decode cL_law 1601 = .ok (.iload 4, 2) := by decide +kernel
theorem dL_law_1603 : decode cL_law 1603 = .ok (.iconst 2, 1) := by decide +kernel
theorem dL_law_1604 : decode cL_law 1604 = .ok (.iadd, 1) := by decide +kernel
theorem dL_law_1605 : decode cL_law 1605 = .ok (.iaload, 1) := by decide +kernel
theorem dL_law_1606 : decode cL_law 1606 = .ok (.aload_n 0, 1) := by decide +kernel
theorem dL_law_1607 : decode cL_law 1607 = .ok (.iload 4, 2) := by decide +kernel
theorem dL_law_1609 : decode cL_law 1609 = .ok (.iconst 3, 1) := by decide +kernel
theorem dL_law_1610 : decode cL_law 1610 = .ok (.iadd, 1) := by decide +kernel
theorem dL_law_1611 : decode cL_law 1611 = .ok (.iaload, 1) := by decide +kernel
theorem dL_law_1612 : decode cL_law 1612 = .ok (.aload_n 0, 1) := by decide +kernel
theorem dL_law_1613 : decode cL_law 1613 = .ok (.iload 4, 2) := by decide +kernel
theorem dL_law_1615 : decode cL_law 1615 = .ok (.iconst 4, 1) := by decide +kernel
theorem dL_law_1616 : decode cL_law 1616 = .ok (.iadd, 1) := by decide +kernel
theorem dL_law_1617 : decode cL_law 1617 = .ok (.iaload, 1) := by decide +kernel
theorem dL_law_1618 : decode cL_law 1618 = .ok (.aload_n 3, 1) := by decide +kernel
theorem dL_law_1619 : decode cL_law 1619 = .ok (.invokestatic 187, 3) := by decide +kernel
theorem dL_law_1622 : decode cL_law 1622 = .ok (.istore 5, 2) := by decide +kernel
theorem dL_law_1624 : decode cL_law 1624 = .ok (.aload_n 2, 1) := by decide +kernel
theorem dL_law_1625 : decode cL_law 1625 = .ok (.aload_n 0, 1) := by decide +kernel
theorem dL_law_1626 : decode cL_law 1626 = .ok (.iload 4, 2) := by decide +kernel
theorem dL_law_1628 : decode cL_law 1628 = .ok (.iconst 1, 1) := by decide +kernel
theorem dL_law_1629 : decode cL_law 1629 = .ok (.iadd, 1) := by decide +kernel
theorem dL_law_1630 : decode cL_law 1630 = .ok (.iaload, 1) := by decide +kernel
theorem dL_law_1631 : decode cL_law 1631 = .ok (.aload_n 0, 1) := by decide +kernel
theorem dL_law_1632 : decode cL_law 1632 = .ok (.iload 4, 2) := by decide +kernel
theorem dL_law_1634 : decode cL_law 1634 = .ok (.iconst 2, 1) := by decide +kernel
theorem dL_law_1635 : decode cL_law 1635 = .ok (.iadd, 1) := by decide +kernel
theorem dL_law_1636 : decode cL_law 1636 = .ok (.iaload, 1) := by decide +kernel
theorem dL_law_1637 : decode cL_law 1637 = .ok (.aload_n 0, 1) := by decide +kernel
theorem dL_law_1638 : decode cL_law 1638 = .ok (.iload 4, 2) := by decide +kernel
theorem dL_law_1640 : decode cL_law 1640 = .ok (.iconst 3, 1) := by decide +kernel
theorem dL_law_1641 : decode cL_law 1641 = .ok (.iadd, 1) := by decide +kernel
theorem dL_law_1642 : decode cL_law 1642 = .ok (.iaload, 1) := by decide +kernel
theorem dL_law_1643 : decode cL_law 1643 = .ok (.aload_n 0, 1) := by decide +kernel
theorem dL_law_1644 : decode cL_law 1644 = .ok (.iload 4, 2) := by decide +kernel
theorem dL_law_1646 : decode cL_law 1646 = .ok (.iconst 4, 1) := by decide +kernel
theorem dL_law_1647 : decode cL_law 1647 = .ok (.iadd, 1) := by decide +kernel
theorem dL_law_1648 : decode cL_law 1648 = .ok (.iaload, 1) := by decide +kernel
theorem dL_law_1649 : decode cL_law 1649 = .ok (.invokevirtual 190, 3) := by decide +kernel
theorem dL_law_1652 : decode cL_law 1652 = .ok (.istore 6, 2) := by decide +kernel
theorem dL_law_1654 : decode cL_law 1654 = .ok (.aload_n 2, 1) := by decide +kernel
theorem dL_law_1655 : decode cL_law 1655 = .ok (.invokevirtual 104, 3) := by decide +kernel
theorem dL_law_1658 : decode cL_law 1658 = .ok (.iload 5, 2) := by decide +kernel
theorem dL_law_1660 : decode cL_law 1660 = .ok (.if_icmp .eq 5, 3) := by decide +kernel
theorem dL_law_1663 : decode cL_law 1663 = .ok (.iconst 0, 1) := by decide +kernel
theorem dL_law_1664 : decode cL_law 1664 = .ok (.ireturn, 1) := by decide +kernel
theorem dL_law_1665 : decode cL_law 1665 = .ok (.iload 5, 2) := by decide +kernel
theorem dL_law_1667 : decode cL_law 1667 = .ok (.ifCond .ne 15, 3) := by decide +kernel
theorem dL_law_1670 : decode cL_law 1670 = .ok (.aload_n 3, 1) := by decide +kernel
theorem dL_law_1671 : decode cL_law 1671 = .ok (.iconst 0, 1) := by decide +kernel
theorem dL_law_1672 : decode cL_law 1672 = .ok (.laload, 1) := by decide +kernel
theorem dL_law_1673 : decode cL_law 1673 = .ok (.iload 6, 2) := by decide +kernel
theorem dL_law_1675 : decode cL_law 1675 = .ok (.i2l, 1) := by decide +kernel
theorem dL_law_1676 : decode cL_law 1676 = .ok (.lcmp, 1) := by decide +kernel
theorem dL_law_1677 : decode cL_law 1677 = .ok (.ifCond .eq 5, 3) := by decide +kernel
theorem dL_law_1680 : decode cL_law 1680 = .ok (.iconst 0, 1) := by decide +kernel
theorem dL_law_1681 : decode cL_law 1681 = .ok (.ireturn, 1) := by decide +kernel
theorem dL_law_1682 : decode cL_law 1682 = .ok (.goto 3, 3) := by decide +kernel
theorem dL_law_1685 : decode cL_law 1685 = .ok (.iinc 4 5, 3) := by decide +kernel
theorem dL_law_1688 : decode cL_law 1688 = .ok (.goto (-1665), 3) := by decide +kernel
theorem dL_law_1691 : decode cL_law 1691 = .ok (.iconst 1, 1) := by decide +kernel
theorem dL_law_1692 : decode cL_law 1692 = .ok (.ireturn, 1) := by decide +kernel
end
section

/-! ===== the abstract walk: addresses are counted from z0 on; a heap is a function of numbers ===== -/
def zc (z0 b : Nat) (v : Value) : Value := match v with
  | .ref k => .ref (z0 + k)
  | .retAddr _ => .ref b
  | v => v
theorem zc_cat (z0 b : Nat) (v : Value) : (zc z0 b v).category = v.category := by cases v <;> rfl
def ze (z0 b : Nat) (cA : Nat → ClassId) (e : va_E) : va_E := match e with
  | .inl (t, a) => .inl (cA t, a)
  | .inr (ci, fs) => .inr (ci, fs.map (zc z0 b))
abbrev ZH : Type := Nat → va_E
def zdum : va_E := .inr (99, [])
def zup (h : ZH) (k : Nat) (e : va_E) : ZH := fun j => if j = k then e else h j
def zWd (z0 b N : Nat) (cA : Nat → ClassId) (h : ZH) : va_W := (List.range N).map (fun k => (z0 + k, ze z0 b cA (h k)))
theorem zWd_at {z0 b N : Nat} {cA : Nat → ClassId} {h : ZH} {i : Nat} {q : Nat × va_E} : (zWd z0 b N cA h)[i]? = some q ↔ i < N ∧ q = (z0 + i, ze z0 b cA (h i)) := by
  unfold zWd
  rw [List.getElem?_map]
  by_cases hi : i < N
  · rw [List.getElem?_range hi]
    exact ⟨fun e => ⟨hi, (Option.some.inj e).symm⟩, fun e => by rw [e.2]; rfl⟩
  · rw [List.getElem?_eq_none (by simpa using Nat.not_lt.mp hi)]
    exact ⟨fun e => by simp at e, fun e => absurd e.1 hi⟩
theorem zWd_get {z0 b N : Nat} {cA : Nat → ClassId} {h : ZH} {k : Nat} (hk : k < N) : (zWd z0 b N cA h)[k]? = some (z0 + k, ze z0 b cA (h k)) := zWd_at.mpr ⟨hk, rfl⟩
theorem zWd_ext {l l' : va_W} (h : ∀ (i : Nat) (q : Nat × va_E), l[i]? = some q ↔ l'[i]? = some q) : l = l' := by
  refine List.ext_getElem? fun i => ?_
  cases hx : l[i]? with
  | some q => exact ((h i q).mp hx).symm
  | none =>
    cases hy : l'[i]? with
    | none => rfl
    | some q => rw [(h i q).mpr hy] at hx; cases hx
theorem zWd_len (z0 b N : Nat) (cA : Nat → ClassId) (h : ZH) : (zWd z0 b N cA h).length = N := by simp [zWd]
theorem zWd_set {z0 b N : Nat} {cA : Nat → ClassId} {h : ZH} {k : Nat} {e : va_E} (hk : k < N) : (zWd z0 b N cA h).set k (z0 + k, ze z0 b cA e) = zWd z0 b N cA (zup h k e) := by
  refine zWd_ext fun i q => ?_
  rw [zWd_at, List.getElem?_set, zWd_len]
  by_cases hi : k = i
  · subst hi
    simp only [zup, if_true, hk]
    exact ⟨fun e => ⟨trivial, (Option.some.inj e).symm⟩, fun e => by rw [e.2]⟩
  · have hi' : ¬ i = k := fun q => hi q.symm
    rw [if_neg hi, zWd_at]
    simp only [zup, if_neg hi']
theorem zWd_push {z0 b N : Nat} {cA : Nat → ClassId} {h : ZH} {e : va_E} : zWd z0 b N cA h ++ [(z0 + N, ze z0 b cA e)] = zWd z0 b (N + 1) cA (zup h N e) := by
  refine zWd_ext fun i q => ?_
  rw [zWd_at, List.getElem?_append, zWd_len]
  by_cases hi : i < N
  · have hi' : ¬ i = N := Nat.ne_of_lt hi
    rw [if_pos hi, zWd_at]
    simp only [zup, if_neg hi']
    exact ⟨fun e => ⟨by omega, e.2⟩, fun e => ⟨hi, e.2⟩⟩
  · rw [if_neg hi]
    by_cases hi' : i = N
    · subst hi'
      rw [Nat.sub_self]
      simp only [zup, if_true]
      exact ⟨fun e => ⟨by omega, (Option.some.inj e).symm⟩, fun e => by rw [e.2]; rfl⟩
    · rw [List.getElem?_eq_none (by simp; omega)]
      exact ⟨fun e => (by cases e), fun e => by omega⟩
theorem zWd_D (z0 b N : Nat) (cA : Nat → ClassId) (h : ZH) : va_D (fun q : Nat => z0 ≤ q) (zWd z0 b N cA h) := by
  refine ⟨fun i j x y hi hj hxy => ?_, fun k q hk => ?_⟩
  · rw [(zWd_at.mp hi).2, (zWd_at.mp hj).2] at hxy
    exact Nat.add_left_cancel hxy
  · rw [(zWd_at.mp hk).2]
    exact Nat.le_add_right _ _
/-! locals: what is known of each -/
def zA (f : Value → Value) : Nat → List (Option Value) → List (Nat × Value)
  | _, [] => []
  | i, none :: r => zA f (i + 1) r
  | i, some v :: r => (i, f v) :: zA f (i + 1) r
theorem zA_mem {f : Value → Value} : ∀ (ls : List (Option Value)) (i : Nat) (q : Nat × Value), q ∈ zA f i ls ↔ ∃ j v, ls[j]? = some (some v) ∧ q = (i + j, f v)
  | [], i, q => by simp [zA]
  | none :: r, i, q => by
    rw [zA, zA_mem r (i + 1) q]
    constructor
    · rintro ⟨j, v, h1, h2⟩
      exact ⟨j + 1, v, by simpa using h1, by rw [h2]; congr 1; omega⟩
    · rintro ⟨j, v, h1, h2⟩
      cases j with
      | zero => simp at h1
      | succ j => exact ⟨j, v, by simpa using h1, by rw [h2]; congr 1; omega⟩
  | some w :: r, i, q => by
    rw [zA, List.mem_cons, zA_mem r (i + 1) q]
    constructor
    · rintro (h | ⟨j, v, h1, h2⟩)
      · exact ⟨0, w, by simp, by rw [h]; rfl⟩
      · exact ⟨j + 1, v, by simpa using h1, by rw [h2]; congr 1; omega⟩
    · rintro ⟨j, v, h1, h2⟩
      cases j with
      | zero =>
        simp at h1
        subst h1
        exact Or.inl (by rw [h2]; rfl)
      | succ j => exact Or.inr ⟨j, v, by simpa using h1, by rw [h2]; congr 1; omega⟩
def zL (z0 b : Nat) (L : Array Slot) (nL : Nat) (ls : List (Option Value)) : Prop := lv_has L nL (zA (zc z0 b) 0 ls) ∧ ls.length = nL ∧ ∀ v, some v ∈ ls → v.category = 1
theorem zL_at {z0 b nL k : Nat} {L : Array Slot} {ls : List (Option Value)} {v : Value} (h : zL z0 b L nL ls) (hk : ls[k]? = some (some v)) : L[k]? = some (.val (zc z0 b v)) :=
  h.1.2.2 (k, zc z0 b v) ((zA_mem ls 0 _).mpr ⟨k, v, hk, by rw [Nat.zero_add]⟩)
theorem zL_sub {z0 b nL : Nat} {L : Array Slot} {ls ls' : List (Option Value)} (h : zL z0 b L nL ls) (hl : ls'.length = ls.length) (hs : ∀ (k : Nat) (v : Value), ls'[k]? = some (some v) → ls[k]? = some (some v)) : zL z0 b L nL ls' := by
  refine ⟨⟨h.1.1, h.1.2.1, fun q hq => ?_⟩, hl.trans h.2.1, fun v hv => ?_⟩
  · obtain ⟨j, v, h1, h2⟩ := (zA_mem ls' 0 q).mp hq
    exact h.1.2.2 q ((zA_mem ls 0 q).mpr ⟨j, v, hs j v h1, h2⟩)
  · obtain ⟨k, hk⟩ := List.getElem?_of_mem hv
    exact h.2.2 v (List.mem_of_getElem? (hs k v hk))
theorem zL_store {z0 b nL k : Nat} {L L' : Array Slot} {ls : List (Option Value)} {v w : Value} (h : zL z0 b L nL ls) (hv : v.category = 1) (hw : w = zc z0 b v) (h' : lv_has L' nL ((k, w) :: (zA (zc z0 b) 0 ls).filter (fun q => !(q.1 == k) && !(q.1 + 1 == k && q.2.category == 2)))) : zL z0 b L' nL (ls.set k (some v)) := by
  subst hw
  refine ⟨⟨h'.1, h'.2.1, fun q hq => ?_⟩, by rw [List.length_set]; exact h.2.1, fun u hu => ?_⟩
  · obtain ⟨j, u, h1, h2⟩ := (zA_mem _ 0 q).mp hq
    rw [Nat.zero_add] at h2
    rw [List.getElem?_set] at h1
    by_cases hj : k = j
    · subst hj
      rw [if_pos rfl] at h1
      split at h1
      · cases h1
        rw [h2]
        exact h'.2.2 _ List.mem_cons_self
      · cases h1
    · rw [if_neg hj] at h1
      refine h'.2.2 q (List.mem_cons_of_mem _ (List.mem_filter.mpr ⟨(zA_mem ls 0 q).mpr ⟨j, u, h1, by rw [h2, Nat.zero_add]⟩, ?_⟩))
      have hc : u.category = 1 := h.2.2 u (List.mem_of_getElem? h1)
      rw [h2]
      have hjk : (j == k) = false := by simp; omega
      simp [hjk, zc_cat, hc]
  · rcases List.mem_or_eq_of_mem_set hu with h1 | h1
    · exact h.2.2 u h1
    · cases h1; exact hv
theorem zL_lt {z0 b nL k : Nat} {L : Array Slot} {ls : List (Option Value)} (h : zL z0 b L nL ls) (hk : k < ls.length) : k < nL := by rw [← h.2.1]; exact hk
theorem zL_forget {z0 b nL k : Nat} {L L' : Array Slot} {ls : List (Option Value)} {v : Value} (h : zL z0 b L nL ls) (h' : lv_has L' nL ((k, v) :: (zA (zc z0 b) 0 ls).filter (fun q => !(q.1 == k) && !(q.1 + 1 == k && q.2.category == 2)))) : zL z0 b L' nL (ls.set k none) := by
  refine ⟨⟨h'.1, h'.2.1, fun q hq => ?_⟩, by rw [List.length_set]; exact h.2.1, fun u hu => ?_⟩
  · obtain ⟨j, u, h1, h2⟩ := (zA_mem _ 0 q).mp hq
    rw [Nat.zero_add] at h2
    rw [List.getElem?_set] at h1
    by_cases hj : k = j
    · subst hj
      rw [if_pos rfl] at h1
      split at h1 <;> cases h1
    · rw [if_neg hj] at h1
      refine h'.2.2 q (List.mem_cons_of_mem _ (List.mem_filter.mpr ⟨(zA_mem ls 0 q).mpr ⟨j, u, h1, by rw [h2, Nat.zero_add]⟩, ?_⟩))
      have hc : u.category = 1 := h.2.2 u (List.mem_of_getElem? h1)
      rw [h2]
      have hjk : (j == k) = false := by simp; omega
      simp [hjk, zc_cat, hc]
  · rcases List.mem_or_eq_of_mem_set hu with h1 | h1
    · exact h.2.2 u h1
    · cases h1
/-! the walk -/
abbrev ZK (τ : Type) : Type := List (Option Value) → List Value → τ → Prop
def AW {τ : Type} (p : Program) (l : Launch) (e : Env) (R : Room) (s : State) (m : MethodId) (args : Array Value) (below : List Frame) (meth : Method) (c : Code) (nL z0 b : Nat) (I : τ → Heap → List Loc → Prop) (cs : τ → Nat × Nat) (Q : State → Prop) (pc : Nat) (ls : List (Option Value)) (st : List Value) (h : τ) : Prop :=
  ∀ (H : Heap) (locs : List Loc) (L : Array Slot), I h H locs → zL z0 b L nL ls → W p l e R s m args below meth c H locs (cs h).1 (cs h).2 Q (F0 m pc L (st.map (zc z0 b)))
def Snd {τ : Type} (p : Program) (l : Launch) (e : Env) (R : Room) (s : State) (m : MethodId) (args : Array Value) (below : List Frame) (meth : Method) (c : Code) (nL z0 b : Nat) (I : τ → Heap → List Loc → Prop) (cs : τ → Nat × Nat) (Q : State → Prop) (pc : Nat) (K : ZK τ) : Prop :=
  ∀ (ls : List (Option Value)) (st : List Value) (h : τ), K ls st h → AW p l e R s m args below meth c nL z0 b I cs Q pc ls st h
/-! the instructions: what each asks, and what goes on -/
section OPS
variable {τ : Type}
def o_iload (i : Nat) (K : ZK τ) : ZK τ := fun ls st h => match ls[i]? with
  | some (some (.int x)) => K ls (.int x :: st) h
  | _ => False
def o_aload (i : Nat) (K : ZK τ) : ZK τ := fun ls st h => match ls[i]? with
  | some (some (.ref x)) => K ls (.ref x :: st) h
  | _ => False
def o_ic (v : Int32) (K : ZK τ) : ZK τ := fun ls st h => K ls (.int v :: st) h
def o_lc (v : Int64) (K : ZK τ) : ZK τ := fun ls st h => K ls (.long v :: st) h
def o_istore (i : Nat) (K : ZK τ) : ZK τ := fun ls st h => match st with
  | .int x :: r => i < ls.length ∧ K (ls.set i (some (.int x))) r h
  | _ => False
def o_astore (i : Nat) (K : ZK τ) : ZK τ := fun ls st h => match st with
  | .ref x :: r => i < ls.length ∧ K (ls.set i (some (.ref x))) r h
  | _ => False
def o_iinc (i : Nat) (n : Int32) (K : ZK τ) : ZK τ := fun ls st h => match ls[i]? with
  | some (some (.int x)) => K (ls.set i (some (.int (x + n)))) st h
  | _ => False
def o_bin (f : Int32 → Int32 → Int32) (K : ZK τ) : ZK τ := fun ls st h => match st with
  | .int y :: .int x :: r => K ls (.int (f x y) :: r) h
  | _ => False
def o_idiv (K : ZK τ) : ZK τ := fun ls st h => match st with
  | .int y :: .int x :: r => ¬ y = 0 ∧ K ls (.int (x / y) :: r) h
  | _ => False
def o_ineg (K : ZK τ) : ZK τ := fun ls st h => match st with
  | .int x :: r => K ls (.int (-x) :: r) h
  | _ => False
def o_i2c (K : ZK τ) : ZK τ := fun ls st h => match st with
  | .int x :: r => K ls (.int (x.toUInt32 % 65536).toInt32 :: r) h
  | _ => False
def o_i2l (K : ZK τ) : ZK τ := fun ls st h => match st with
  | .int x :: r => K ls (.long x.toInt64 :: r) h
  | _ => False
def o_lcmp (K : ZK τ) : ZK τ := fun ls st h => match st with
  | .long y :: .long x :: r => K ls (.int (lg_cmp x y) :: r) h
  | _ => False
def o_if1 (q : Int32 → Prop) (Kt Kf : ZK τ) : ZK τ := fun ls st h => match st with
  | .int x :: r => (q x → Kt ls r h) ∧ (¬ q x → Kf ls r h)
  | _ => False
def o_if2 (q : Int32 → Int32 → Prop) (Kt Kf : ZK τ) : ZK τ := fun ls st h => match st with
  | .int y :: .int x :: r => (q x y → Kt ls r h) ∧ (¬ q x y → Kf ls r h)
  | _ => False
def o_dup (K : ZK τ) : ZK τ := fun ls st h => match st with
  | v :: r => v.category = 1 ∧ K ls (v :: v :: r) h
  | _ => False
def o_dup2 (K : ZK τ) : ZK τ := fun ls st h => match st with
  | v :: w :: r => v.category = 1 ∧ w.category = 1 ∧ K ls (v :: w :: v :: w :: r) h
  | _ => False
def o_tsw (lo : Int) (Ks : List (ZK τ)) (Kd : ZK τ) : ZK τ := fun ls st h => match st with
  | .int x :: r => (∀ (i : Nat) (K : ZK τ), Ks[i]? = some K → x.toInt = lo + i → K ls r h) ∧ (x.toInt < lo ∨ lo + Ks.length ≤ x.toInt → Kd ls r h)
  | _ => False
def o_lsw01 (K0 K1 Kd : ZK τ) : ZK τ := fun ls st h => match st with
  | .int x :: r => (x = 0 → K0 ls r h) ∧ (¬ x = 0 → x = 1 → K1 ls r h) ∧ (¬ x = 0 → ¬ x = 1 → Kd ls r h)
  | _ => False
end OPS
section SND
variable {p : Program} {l : Launch} {e : Env} {R : Room} {s : State} {m : MethodId} {args : Array Value} {below : List Frame} {meth : Method} {c : Code}
variable {τ : Type} {nL z0 b : Nat} {I : τ → Heap → List Loc → Prop} {cs : τ → Nat × Nat} {Q : State → Prop} {pc : Nat} {cc : ByteArray} {K Kt Kf : ZK τ}
theorem k_iload_n (hx : p.tables.exec = Jvm.exec) (hb : c.code = cc) {k : Fin 4} {i : Nat} (d : decode cc pc = .ok (.iload_n k, 1)) (hi : (k : Nat) = i) (hK : Snd p l e R s m args below meth c nL z0 b I cs Q (pc + 1) K) : Snd p l e R s m args below meth c nL z0 b I cs Q pc (o_iload i K) := by
  intro ls st h hk H locs L hI hL
  simp only [o_iload] at hk
  split at hk
  · next x hq => exact lv_iload_n hx hb d hi (zL_at hL hq) (hK _ _ _ hk H locs L hI hL)
  · exact hk.elim
theorem k_iload (hx : p.tables.exec = Jvm.exec) (hb : c.code = cc) {i : Nat} (d : decode cc pc = .ok (.iload i, 2)) (hK : Snd p l e R s m args below meth c nL z0 b I cs Q (pc + 2) K) : Snd p l e R s m args below meth c nL z0 b I cs Q pc (o_iload i K) := by
  intro ls st h hk H locs L hI hL
  simp only [o_iload] at hk
  split at hk
  · next x hq => exact lv_iload hx hb d (zL_at hL hq) (hK _ _ _ hk H locs L hI hL)
  · exact hk.elim
theorem k_aload_n (hx : p.tables.exec = Jvm.exec) (hb : c.code = cc) {k : Fin 4} {i : Nat} (d : decode cc pc = .ok (.aload_n k, 1)) (hi : (k : Nat) = i) (hK : Snd p l e R s m args below meth c nL z0 b I cs Q (pc + 1) K) : Snd p l e R s m args below meth c nL z0 b I cs Q pc (o_aload i K) := by
  intro ls st h hk H locs L hI hL
  simp only [o_aload] at hk
  split at hk
  · next x hq => exact lv_aload_n hx hb d hi (zL_at hL hq) (hK _ _ _ hk H locs L hI hL)
  · exact hk.elim
theorem k_aload (hx : p.tables.exec = Jvm.exec) (hb : c.code = cc) {i : Nat} (d : decode cc pc = .ok (.aload i, 2)) (hK : Snd p l e R s m args below meth c nL z0 b I cs Q (pc + 2) K) : Snd p l e R s m args below meth c nL z0 b I cs Q pc (o_aload i K) := by
  intro ls st h hk H locs L hI hL
  simp only [o_aload] at hk
  split at hk
  · next x hq => exact lv_aload hx hb d (zL_at hL hq) (hK _ _ _ hk H locs L hI hL)
  · exact hk.elim
theorem k_iconst (hx : p.tables.exec = Jvm.exec) (hb : c.code = cc) {n : Int} {v : Int32} (d : decode cc pc = .ok (.iconst n, 1)) (hv : Int32.ofInt n = v) (hK : Snd p l e R s m args below meth c nL z0 b I cs Q (pc + 1) K) : Snd p l e R s m args below meth c nL z0 b I cs Q pc (o_ic v K) :=
  fun ls st h hk H locs L hI hL => lv_iconst hx hb d hv (hK _ _ _ hk H locs L hI hL)
theorem k_bipush (hx : p.tables.exec = Jvm.exec) (hb : c.code = cc) {n : Int} {v : Int32} (d : decode cc pc = .ok (.bipush n, 2)) (hv : (Int8.ofInt n).toInt32 = v) (hK : Snd p l e R s m args below meth c nL z0 b I cs Q (pc + 2) K) : Snd p l e R s m args below meth c nL z0 b I cs Q pc (o_ic v K) :=
  fun ls st h hk H locs L hI hL => lv_bipush hx hb d hv (hK _ _ _ hk H locs L hI hL)
theorem k_sipush (hx : p.tables.exec = Jvm.exec) (hb : c.code = cc) {n : Int} {v : Int32} (d : decode cc pc = .ok (.sipush n, 3)) (hv : (Int16.ofInt n).toInt32 = v) (hK : Snd p l e R s m args below meth c nL z0 b I cs Q (pc + 3) K) : Snd p l e R s m args below meth c nL z0 b I cs Q pc (o_ic v K) :=
  fun ls st h hk H locs L hI hL => lv_sipush hx hb d hv (hK _ _ _ hk H locs L hI hL)
theorem k_ldcw (hx : p.tables.exec = Jvm.exec) (hb : c.code = cc) {own : String} {index : Nat} {v : Int32} (hown : s.vm.findClass own = some m.cls) (hq : (Jvm.Cond.constant own index v).before args s = true) (d : decode cc pc = .ok (.ldc_w index, 3)) (hK : Snd p l e R s m args below meth c nL z0 b I cs Q (pc + 3) K) : Snd p l e R s m args below meth c nL z0 b I cs Q pc (o_ic v K) :=
  fun ls st h hk H locs L hI hL => lv_ldcw hx hb hown hq d (hK _ _ _ hk H locs L hI hL)
theorem k_lconst (hx : p.tables.exec = Jvm.exec) (hb : c.code = cc) {n : Fin 2} {v : Int64} (d : decode cc pc = .ok (.lconst n, 1)) (hv : Int64.ofNat (n : Nat) = v) (hK : Snd p l e R s m args below meth c nL z0 b I cs Q (pc + 1) K) : Snd p l e R s m args below meth c nL z0 b I cs Q pc (o_lc v K) :=
  fun ls st h hk H locs L hI hL => lv_lconst hx hb d hv (hK _ _ _ hk H locs L hI hL)
theorem k_istore_n (hx : p.tables.exec = Jvm.exec) (hb : c.code = cc) {k : Fin 4} {i : Nat} (d : decode cc pc = .ok (.istore_n k, 1)) (hi : (k : Nat) = i) (hK : Snd p l e R s m args below meth c nL z0 b I cs Q (pc + 1) K) : Snd p l e R s m args below meth c nL z0 b I cs Q pc (o_istore i K) := by
  intro ls st h hk H locs L hI hL
  simp only [o_istore] at hk
  split at hk
  · exact lv_istore_n hx hb d hi hL.1 (zL_lt hL hk.1) rfl (fun L' h' => hK _ _ _ hk.2 H locs L' hI (zL_store hL rfl rfl h'))
  · exact hk.elim
theorem k_istore (hx : p.tables.exec = Jvm.exec) (hb : c.code = cc) {i : Nat} (d : decode cc pc = .ok (.istore i, 2)) (hK : Snd p l e R s m args below meth c nL z0 b I cs Q (pc + 2) K) : Snd p l e R s m args below meth c nL z0 b I cs Q pc (o_istore i K) := by
  intro ls st h hk H locs L hI hL
  simp only [o_istore] at hk
  split at hk
  · exact lv_istore hx hb d hL.1 (zL_lt hL hk.1) rfl (fun L' h' => hK _ _ _ hk.2 H locs L' hI (zL_store hL rfl rfl h'))
  · exact hk.elim
theorem k_astore_n (hx : p.tables.exec = Jvm.exec) (hb : c.code = cc) {k : Fin 4} {i : Nat} (d : decode cc pc = .ok (.astore_n k, 1)) (hi : (k : Nat) = i) (hK : Snd p l e R s m args below meth c nL z0 b I cs Q (pc + 1) K) : Snd p l e R s m args below meth c nL z0 b I cs Q pc (o_astore i K) := by
  intro ls st h hk H locs L hI hL
  simp only [o_astore] at hk
  split at hk
  · exact lv_astore_n hx hb d hi hL.1 (zL_lt hL hk.1) rfl (fun L' h' => hK _ _ _ hk.2 H locs L' hI (zL_store hL rfl rfl h'))
  · exact hk.elim
theorem k_astore (hx : p.tables.exec = Jvm.exec) (hb : c.code = cc) {i : Nat} (d : decode cc pc = .ok (.astore i, 2)) (hK : Snd p l e R s m args below meth c nL z0 b I cs Q (pc + 2) K) : Snd p l e R s m args below meth c nL z0 b I cs Q pc (o_astore i K) := by
  intro ls st h hk H locs L hI hL
  simp only [o_astore] at hk
  split at hk
  · exact lv_astore hx hb d hL.1 (zL_lt hL hk.1) rfl (fun L' h' => hK _ _ _ hk.2 H locs L' hI (zL_store hL rfl rfl h'))
  · exact hk.elim
theorem k_iinc (hx : p.tables.exec = Jvm.exec) (hb : c.code = cc) {i : Nat} {n : Int} {n' : Int32} (d : decode cc pc = .ok (.iinc i n, 3)) (hn : Int32.ofInt n = n') (hK : Snd p l e R s m args below meth c nL z0 b I cs Q (pc + 3) K) : Snd p l e R s m args below meth c nL z0 b I cs Q pc (o_iinc i n' K) := by
  intro ls st h hk H locs L hI hL
  subst hn
  simp only [o_iinc] at hk
  split at hk
  · next x hq =>
    have hm : (i, zc z0 b (.int x)) ∈ zA (zc z0 b) 0 ls := (zA_mem ls 0 _).mpr ⟨i, _, hq, by rw [Nat.zero_add]⟩
    obtain ⟨k, hk2⟩ := List.getElem?_of_mem hm
    exact lv_iinc hx hb d hL.1 hk2 rfl (zL_lt hL (List.getElem?_eq_some_iff.mp hq).1) rfl (fun L' h' => hK _ _ _ hk H locs L' hI (zL_store hL rfl rfl h'))
  · exact hk.elim
theorem k_iadd (hx : p.tables.exec = Jvm.exec) (hb : c.code = cc) (d : decode cc pc = .ok (.iadd, 1)) (hK : Snd p l e R s m args below meth c nL z0 b I cs Q (pc + 1) K) : Snd p l e R s m args below meth c nL z0 b I cs Q pc (o_bin (fun x y => x + y) K) := by
  intro ls st h hk H locs L hI hL
  simp only [o_bin] at hk
  split at hk
  · exact lv_iadd hx hb d (hK _ _ _ hk H locs L hI hL)
  · exact hk.elim
theorem k_isub (hx : p.tables.exec = Jvm.exec) (hb : c.code = cc) (d : decode cc pc = .ok (.isub, 1)) (hK : Snd p l e R s m args below meth c nL z0 b I cs Q (pc + 1) K) : Snd p l e R s m args below meth c nL z0 b I cs Q pc (o_bin (fun x y => x - y) K) := by
  intro ls st h hk H locs L hI hL
  simp only [o_bin] at hk
  split at hk
  · exact lv_isub hx hb d (hK _ _ _ hk H locs L hI hL)
  · exact hk.elim
theorem k_imul (hx : p.tables.exec = Jvm.exec) (hb : c.code = cc) (d : decode cc pc = .ok (.imul, 1)) (hK : Snd p l e R s m args below meth c nL z0 b I cs Q (pc + 1) K) : Snd p l e R s m args below meth c nL z0 b I cs Q pc (o_bin (fun x y => x * y) K) := by
  intro ls st h hk H locs L hI hL
  simp only [o_bin] at hk
  split at hk
  · exact lv_imul hx hb d (hK _ _ _ hk H locs L hI hL)
  · exact hk.elim
theorem k_iand (hx : p.tables.exec = Jvm.exec) (hb : c.code = cc) (d : decode cc pc = .ok (.iand, 1)) (hK : Snd p l e R s m args below meth c nL z0 b I cs Q (pc + 1) K) : Snd p l e R s m args below meth c nL z0 b I cs Q pc (o_bin (fun x y => x &&& y) K) := by
  intro ls st h hk H locs L hI hL
  simp only [o_bin] at hk
  split at hk
  · exact lv_iand hx hb d (hK _ _ _ hk H locs L hI hL)
  · exact hk.elim
theorem k_ior (hx : p.tables.exec = Jvm.exec) (hb : c.code = cc) (d : decode cc pc = .ok (.ior, 1)) (hK : Snd p l e R s m args below meth c nL z0 b I cs Q (pc + 1) K) : Snd p l e R s m args below meth c nL z0 b I cs Q pc (o_bin (fun x y => x ||| y) K) := by
  intro ls st h hk H locs L hI hL
  simp only [o_bin] at hk
  split at hk
  · exact lv_ior hx hb d (hK _ _ _ hk H locs L hI hL)
  · exact hk.elim
theorem k_ixor (hx : p.tables.exec = Jvm.exec) (hb : c.code = cc) (d : decode cc pc = .ok (.ixor, 1)) (hK : Snd p l e R s m args below meth c nL z0 b I cs Q (pc + 1) K) : Snd p l e R s m args below meth c nL z0 b I cs Q pc (o_bin (fun x y => x ^^^ y) K) := by
  intro ls st h hk H locs L hI hL
  simp only [o_bin] at hk
  split at hk
  · exact lv_ixor hx hb d (hK _ _ _ hk H locs L hI hL)
  · exact hk.elim
theorem k_ishl (hx : p.tables.exec = Jvm.exec) (hb : c.code = cc) (d : decode cc pc = .ok (.ishl, 1)) (hK : Snd p l e R s m args below meth c nL z0 b I cs Q (pc + 1) K) : Snd p l e R s m args below meth c nL z0 b I cs Q pc (o_bin (fun x y => x <<< (y &&& 31)) K) := by
  intro ls st h hk H locs L hI hL
  simp only [o_bin] at hk
  split at hk
  · exact lv_ishl hx hb d (hK _ _ _ hk H locs L hI hL)
  · exact hk.elim
theorem k_ishr (hx : p.tables.exec = Jvm.exec) (hb : c.code = cc) (d : decode cc pc = .ok (.ishr, 1)) (hK : Snd p l e R s m args below meth c nL z0 b I cs Q (pc + 1) K) : Snd p l e R s m args below meth c nL z0 b I cs Q pc (o_bin (fun x y => x >>> (y &&& 31)) K) := by
  intro ls st h hk H locs L hI hL
  simp only [o_bin] at hk
  split at hk
  · exact lv_ishr hx hb d (hK _ _ _ hk H locs L hI hL)
  · exact hk.elim
theorem k_iushr (hx : p.tables.exec = Jvm.exec) (hb : c.code = cc) (d : decode cc pc = .ok (.iushr, 1)) (hK : Snd p l e R s m args below meth c nL z0 b I cs Q (pc + 1) K) : Snd p l e R s m args below meth c nL z0 b I cs Q pc (o_bin (fun x y => (x.toUInt32 >>> (y.toUInt32 &&& Int32.toUInt32 31)).toInt32) K) := by
  intro ls st h hk H locs L hI hL
  simp only [o_bin] at hk
  split at hk
  · exact lv_iushr hx hb d rfl (hK _ _ _ hk H locs L hI hL)
  · exact hk.elim
theorem k_idiv (hx : p.tables.exec = Jvm.exec) (hb : c.code = cc) (d : decode cc pc = .ok (.idiv, 1)) (hK : Snd p l e R s m args below meth c nL z0 b I cs Q (pc + 1) K) : Snd p l e R s m args below meth c nL z0 b I cs Q pc (o_idiv K) := by
  intro ls st h hk H locs L hI hL
  simp only [o_idiv] at hk
  split at hk
  · exact lv_idiv hx hb d hk.1 (hK _ _ _ hk.2 H locs L hI hL)
  · exact hk.elim
theorem k_ineg (hx : p.tables.exec = Jvm.exec) (hb : c.code = cc) (d : decode cc pc = .ok (.ineg, 1)) (hK : Snd p l e R s m args below meth c nL z0 b I cs Q (pc + 1) K) : Snd p l e R s m args below meth c nL z0 b I cs Q pc (o_ineg K) := by
  intro ls st h hk H locs L hI hL
  simp only [o_ineg] at hk
  split at hk
  · exact lv_ineg hx hb d (hK _ _ _ hk H locs L hI hL)
  · exact hk.elim
theorem k_i2c (hx : p.tables.exec = Jvm.exec) (hb : c.code = cc) (d : decode cc pc = .ok (.i2c, 1)) (hK : Snd p l e R s m args below meth c nL z0 b I cs Q (pc + 1) K) : Snd p l e R s m args below meth c nL z0 b I cs Q pc (o_i2c K) := by
  intro ls st h hk H locs L hI hL
  simp only [o_i2c] at hk
  split at hk
  · exact lv_i2c hx hb d rfl (hK _ _ _ hk H locs L hI hL)
  · exact hk.elim
theorem k_i2l (hx : p.tables.exec = Jvm.exec) (hb : c.code = cc) (d : decode cc pc = .ok (.i2l, 1)) (hK : Snd p l e R s m args below meth c nL z0 b I cs Q (pc + 1) K) : Snd p l e R s m args below meth c nL z0 b I cs Q pc (o_i2l K) := by
  intro ls st h hk H locs L hI hL
  simp only [o_i2l] at hk
  split at hk
  · exact lv_i2l hx hb d rfl (hK _ _ _ hk H locs L hI hL)
  · exact hk.elim
theorem k_lcmp (hx : p.tables.exec = Jvm.exec) (hb : c.code = cc) (d : decode cc pc = .ok (.lcmp, 1)) (hK : Snd p l e R s m args below meth c nL z0 b I cs Q (pc + 1) K) : Snd p l e R s m args below meth c nL z0 b I cs Q pc (o_lcmp K) := by
  intro ls st h hk H locs L hI hL
  simp only [o_lcmp] at hk
  split at hk
  · exact W.lcmp hx hb d (hK _ _ _ hk H locs L hI hL)
  · exact hk.elim
theorem k_goto (hx : p.tables.exec = Jvm.exec) (hb : c.code = cc) {off : Int} {tgt : Nat} (d : decode cc pc = .ok (.goto off, 3)) (ht : (pc : Int) + off = (tgt : Int)) (hK : Snd p l e R s m args below meth c nL z0 b I cs Q tgt K) : Snd p l e R s m args below meth c nL z0 b I cs Q pc K :=
  fun ls st h hk H locs L hI hL => lv_goto hx hb d ht (hK _ _ _ hk H locs L hI hL)
theorem k_dup (hx : p.tables.exec = Jvm.exec) (hb : c.code = cc) (d : decode cc pc = .ok (.dup, 1)) (hK : Snd p l e R s m args below meth c nL z0 b I cs Q (pc + 1) K) : Snd p l e R s m args below meth c nL z0 b I cs Q pc (o_dup K) := by
  intro ls st h hk H locs L hI hL
  simp only [o_dup] at hk
  split at hk
  · exact lv_dup hx hb d (by rw [zc_cat]; exact hk.1) (hK _ _ _ hk.2 H locs L hI hL)
  · exact hk.elim
theorem k_dup2 (hx : p.tables.exec = Jvm.exec) (hb : c.code = cc) (d : decode cc pc = .ok (.dup2, 1)) (hK : Snd p l e R s m args below meth c nL z0 b I cs Q (pc + 1) K) : Snd p l e R s m args below meth c nL z0 b I cs Q pc (o_dup2 K) := by
  intro ls st h hk H locs L hI hL
  simp only [o_dup2] at hk
  split at hk
  · exact lv_dup2_11 hx hb d (by rw [zc_cat]; exact hk.1) (by rw [zc_cat]; exact hk.2.1) (hK _ _ _ hk.2.2 H locs L hI hL)
  · exact hk.elim
theorem k_tsw (hx : p.tables.exec = Jvm.exec) (hb : c.code = cc) {dflt lo hi : Int} {offs : Array Int} {len tgtD : Nat} {Ks : List (ZK τ)} {Kd : ZK τ} (d : decode cc pc = .ok (.tableswitch dflt lo hi offs, len)) (tgts : List Nat) (hlen : lo + Ks.length = hi + 1) (hl2 : tgts.length = Ks.length) (ho : offs.toList.map (fun o => (pc : Int) + o) = tgts.map (fun t : Nat => (t : Int))) (htd : (pc : Int) + dflt = (tgtD : Int))
    (hKd : Snd p l e R s m args below meth c nL z0 b I cs Q tgtD Kd) (hK : ∀ (i : Nat) (K : ZK τ) (t : Nat), Ks[i]? = some K → tgts[i]? = some t → Snd p l e R s m args below meth c nL z0 b I cs Q t K) : Snd p l e R s m args below meth c nL z0 b I cs Q pc (o_tsw lo Ks Kd) := by
  intro ls st h hk H locs L hI hL
  simp only [o_tsw] at hk
  split at hk
  · next x r =>
    by_cases h1 : x.toInt < lo
    · exact lv_tableOut hx hb d (Or.inl h1) htd (hKd _ _ _ (hk.2 (Or.inl h1)) H locs L hI hL)
    · by_cases h2 : hi < x.toInt
      · exact lv_tableOut hx hb d (Or.inr h2) htd (hKd _ _ _ (hk.2 (Or.inr (by omega))) H locs L hI hL)
      · obtain ⟨i, hi⟩ : ∃ i : Nat, i = (x.toInt - lo).toNat := ⟨_, rfl⟩
        have hxi : x.toInt = lo + i := by omega
        have hil : i < Ks.length := by omega
        obtain ⟨K, hKi⟩ : ∃ K, Ks[i]? = some K := ⟨Ks[i], List.getElem?_eq_getElem hil⟩
        obtain ⟨t, hti⟩ : ∃ t, tgts[i]? = some t := ⟨tgts[i]'(by omega), List.getElem?_eq_getElem (by omega)⟩
        have ho1 : (offs.toList.map (fun o => (pc : Int) + o))[i]? = some (t : Int) := by rw [ho, List.getElem?_map, hti]; rfl
        rw [List.getElem?_map, Array.getElem?_toList] at ho1
        cases hoi : offs[i]? with
        | none => rw [hoi] at ho1; cases ho1
        | some off =>
          rw [hoi] at ho1
          exact lv_tableIn hx hb d h1 h2 (off := off) (by rw [← hi]; exact hoi) (Option.some.inj ho1) (hK i K t hKi hti _ _ _ (hk.1 i K hKi hxi) H locs L hI hL)
  · exact hk.elim
theorem k_if_eq (hx : p.tables.exec = Jvm.exec) (hb : c.code = cc) {off : Int} {tgt : Nat} (d : decode cc pc = .ok (.ifCond .eq off, 3)) (ht : (pc : Int) + off = (tgt : Int)) (hKt : Snd p l e R s m args below meth c nL z0 b I cs Q tgt Kt) (hKf : Snd p l e R s m args below meth c nL z0 b I cs Q (pc + 3) Kf) : Snd p l e R s m args below meth c nL z0 b I cs Q pc (o_if1 (fun x => x = 0) Kt Kf) := by
  intro ls st h hk H locs L hI hL
  simp only [o_if1] at hk
  split at hk
  · exact lv_if_eq hx hb d ht (fun hc => hKt _ _ _ (hk.1 hc) H locs L hI hL) (fun hc => hKf _ _ _ (hk.2 hc) H locs L hI hL)
  · exact hk.elim
theorem k_if_ne (hx : p.tables.exec = Jvm.exec) (hb : c.code = cc) {off : Int} {tgt : Nat} (d : decode cc pc = .ok (.ifCond .ne off, 3)) (ht : (pc : Int) + off = (tgt : Int)) (hKt : Snd p l e R s m args below meth c nL z0 b I cs Q tgt Kt) (hKf : Snd p l e R s m args below meth c nL z0 b I cs Q (pc + 3) Kf) : Snd p l e R s m args below meth c nL z0 b I cs Q pc (o_if1 (fun x => ¬ x = 0) Kt Kf) := by
  intro ls st h hk H locs L hI hL
  simp only [o_if1] at hk
  split at hk
  · exact lv_if_ne hx hb d ht (fun hc => hKt _ _ _ (hk.1 hc) H locs L hI hL) (fun hc => hKf _ _ _ (hk.2 (fun q => q hc)) H locs L hI hL)
  · exact hk.elim
theorem k_if_lt (hx : p.tables.exec = Jvm.exec) (hb : c.code = cc) {off : Int} {tgt : Nat} (d : decode cc pc = .ok (.ifCond .lt off, 3)) (ht : (pc : Int) + off = (tgt : Int)) (hKt : Snd p l e R s m args below meth c nL z0 b I cs Q tgt Kt) (hKf : Snd p l e R s m args below meth c nL z0 b I cs Q (pc + 3) Kf) : Snd p l e R s m args below meth c nL z0 b I cs Q pc (o_if1 (fun x => x < 0) Kt Kf) := by
  intro ls st h hk H locs L hI hL
  simp only [o_if1] at hk
  split at hk
  · exact lv_if_lt hx hb d ht (fun hc => hKt _ _ _ (hk.1 hc) H locs L hI hL) (fun hc => hKf _ _ _ (hk.2 hc) H locs L hI hL)
  · exact hk.elim
theorem k_if_ge (hx : p.tables.exec = Jvm.exec) (hb : c.code = cc) {off : Int} {tgt : Nat} (d : decode cc pc = .ok (.ifCond .ge off, 3)) (ht : (pc : Int) + off = (tgt : Int)) (hKt : Snd p l e R s m args below meth c nL z0 b I cs Q tgt Kt) (hKf : Snd p l e R s m args below meth c nL z0 b I cs Q (pc + 3) Kf) : Snd p l e R s m args below meth c nL z0 b I cs Q pc (o_if1 (fun x => 0 ≤ x) Kt Kf) := by
  intro ls st h hk H locs L hI hL
  simp only [o_if1] at hk
  split at hk
  · exact lv_if_ge hx hb d ht (fun hc => hKt _ _ _ (hk.1 hc) H locs L hI hL) (fun hc => hKf _ _ _ (hk.2 hc) H locs L hI hL)
  · exact hk.elim
theorem k_if_gt (hx : p.tables.exec = Jvm.exec) (hb : c.code = cc) {off : Int} {tgt : Nat} (d : decode cc pc = .ok (.ifCond .gt off, 3)) (ht : (pc : Int) + off = (tgt : Int)) (hKt : Snd p l e R s m args below meth c nL z0 b I cs Q tgt Kt) (hKf : Snd p l e R s m args below meth c nL z0 b I cs Q (pc + 3) Kf) : Snd p l e R s m args below meth c nL z0 b I cs Q pc (o_if1 (fun x => 0 < x) Kt Kf) := by
  intro ls st h hk H locs L hI hL
  simp only [o_if1] at hk
  split at hk
  · exact lv_if_gt hx hb d ht (fun hc => hKt _ _ _ (hk.1 hc) H locs L hI hL) (fun hc => hKf _ _ _ (hk.2 hc) H locs L hI hL)
  · exact hk.elim
theorem k_if_le (hx : p.tables.exec = Jvm.exec) (hb : c.code = cc) {off : Int} {tgt : Nat} (d : decode cc pc = .ok (.ifCond .le off, 3)) (ht : (pc : Int) + off = (tgt : Int)) (hKt : Snd p l e R s m args below meth c nL z0 b I cs Q tgt Kt) (hKf : Snd p l e R s m args below meth c nL z0 b I cs Q (pc + 3) Kf) : Snd p l e R s m args below meth c nL z0 b I cs Q pc (o_if1 (fun x => x ≤ 0) Kt Kf) := by
  intro ls st h hk H locs L hI hL
  simp only [o_if1] at hk
  split at hk
  · exact lv_if_le hx hb d ht (fun hc => hKt _ _ _ (hk.1 hc) H locs L hI hL) (fun hc => hKf _ _ _ (hk.2 hc) H locs L hI hL)
  · exact hk.elim
theorem k_icmp_eq (hx : p.tables.exec = Jvm.exec) (hb : c.code = cc) {off : Int} {tgt : Nat} (d : decode cc pc = .ok (.if_icmp .eq off, 3)) (ht : (pc : Int) + off = (tgt : Int)) (hKt : Snd p l e R s m args below meth c nL z0 b I cs Q tgt Kt) (hKf : Snd p l e R s m args below meth c nL z0 b I cs Q (pc + 3) Kf) : Snd p l e R s m args below meth c nL z0 b I cs Q pc (o_if2 (fun x y => x = y) Kt Kf) := by
  intro ls st h hk H locs L hI hL
  simp only [o_if2] at hk
  split at hk
  · exact lv_icmp_eq hx hb d ht (fun hc => hKt _ _ _ (hk.1 hc) H locs L hI hL) (fun hc => hKf _ _ _ (hk.2 hc) H locs L hI hL)
  · exact hk.elim
theorem k_icmp_ne (hx : p.tables.exec = Jvm.exec) (hb : c.code = cc) {off : Int} {tgt : Nat} (d : decode cc pc = .ok (.if_icmp .ne off, 3)) (ht : (pc : Int) + off = (tgt : Int)) (hKt : Snd p l e R s m args below meth c nL z0 b I cs Q tgt Kt) (hKf : Snd p l e R s m args below meth c nL z0 b I cs Q (pc + 3) Kf) : Snd p l e R s m args below meth c nL z0 b I cs Q pc (o_if2 (fun x y => ¬ x = y) Kt Kf) := by
  intro ls st h hk H locs L hI hL
  simp only [o_if2] at hk
  split at hk
  · exact lv_icmp_ne hx hb d ht (fun hc => hKt _ _ _ (hk.1 hc) H locs L hI hL) (fun hc => hKf _ _ _ (hk.2 (fun q => q hc)) H locs L hI hL)
  · exact hk.elim
theorem k_icmp_lt (hx : p.tables.exec = Jvm.exec) (hb : c.code = cc) {off : Int} {tgt : Nat} (d : decode cc pc = .ok (.if_icmp .lt off, 3)) (ht : (pc : Int) + off = (tgt : Int)) (hKt : Snd p l e R s m args below meth c nL z0 b I cs Q tgt Kt) (hKf : Snd p l e R s m args below meth c nL z0 b I cs Q (pc + 3) Kf) : Snd p l e R s m args below meth c nL z0 b I cs Q pc (o_if2 (fun x y => x < y) Kt Kf) := by
  intro ls st h hk H locs L hI hL
  simp only [o_if2] at hk
  split at hk
  · exact lv_icmp_lt hx hb d ht (fun hc => hKt _ _ _ (hk.1 hc) H locs L hI hL) (fun hc => hKf _ _ _ (hk.2 hc) H locs L hI hL)
  · exact hk.elim
theorem k_icmp_ge (hx : p.tables.exec = Jvm.exec) (hb : c.code = cc) {off : Int} {tgt : Nat} (d : decode cc pc = .ok (.if_icmp .ge off, 3)) (ht : (pc : Int) + off = (tgt : Int)) (hKt : Snd p l e R s m args below meth c nL z0 b I cs Q tgt Kt) (hKf : Snd p l e R s m args below meth c nL z0 b I cs Q (pc + 3) Kf) : Snd p l e R s m args below meth c nL z0 b I cs Q pc (o_if2 (fun x y => y ≤ x) Kt Kf) := by
  intro ls st h hk H locs L hI hL
  simp only [o_if2] at hk
  split at hk
  · exact lv_icmp_ge hx hb d ht (fun hc => hKt _ _ _ (hk.1 hc) H locs L hI hL) (fun hc => hKf _ _ _ (hk.2 hc) H locs L hI hL)
  · exact hk.elim
theorem k_icmp_gt (hx : p.tables.exec = Jvm.exec) (hb : c.code = cc) {off : Int} {tgt : Nat} (d : decode cc pc = .ok (.if_icmp .gt off, 3)) (ht : (pc : Int) + off = (tgt : Int)) (hKt : Snd p l e R s m args below meth c nL z0 b I cs Q tgt Kt) (hKf : Snd p l e R s m args below meth c nL z0 b I cs Q (pc + 3) Kf) : Snd p l e R s m args below meth c nL z0 b I cs Q pc (o_if2 (fun x y => y < x) Kt Kf) := by
  intro ls st h hk H locs L hI hL
  simp only [o_if2] at hk
  split at hk
  · exact lv_icmp_gt hx hb d ht (fun hc => hKt _ _ _ (hk.1 hc) H locs L hI hL) (fun hc => hKf _ _ _ (hk.2 hc) H locs L hI hL)
  · exact hk.elim
theorem k_icmp_le (hx : p.tables.exec = Jvm.exec) (hb : c.code = cc) {off : Int} {tgt : Nat} (d : decode cc pc = .ok (.if_icmp .le off, 3)) (ht : (pc : Int) + off = (tgt : Int)) (hKt : Snd p l e R s m args below meth c nL z0 b I cs Q tgt Kt) (hKf : Snd p l e R s m args below meth c nL z0 b I cs Q (pc + 3) Kf) : Snd p l e R s m args below meth c nL z0 b I cs Q pc (o_if2 (fun x y => x ≤ y) Kt Kf) := by
  intro ls st h hk H locs L hI hL
  simp only [o_if2] at hk
  split at hk
  · exact lv_icmp_le hx hb d ht (fun hc => hKt _ _ _ (hk.1 hc) H locs L hI hL) (fun hc => hKf _ _ _ (hk.2 hc) H locs L hI hL)
  · exact hk.elim
theorem k_lsw01 (hx : p.tables.exec = Jvm.exec) (hb : c.code = cc) {dflt o0 o1 : Int} {len t0 t1 td : Nat} {K0 K1 Kd : ZK τ} (d : decode cc pc = .ok (.lookupswitch dflt #[(0, o0), (1, o1)], len)) (h0 : (pc : Int) + o0 = (t0 : Int)) (h1 : (pc : Int) + o1 = (t1 : Int)) (hd : (pc : Int) + dflt = (td : Int)) (hK0 : Snd p l e R s m args below meth c nL z0 b I cs Q t0 K0) (hK1 : Snd p l e R s m args below meth c nL z0 b I cs Q t1 K1) (hKd : Snd p l e R s m args below meth c nL z0 b I cs Q td Kd) : Snd p l e R s m args below meth c nL z0 b I cs Q pc (o_lsw01 K0 K1 Kd) := by
  intro ls st h hk H locs L hI hL
  simp only [o_lsw01] at hk
  split at hk
  · next x r =>
    by_cases e0 : x = 0
    · subst e0
      exact lv_lookup hx hb d rfl (off := o0) (by rw [show (#[((0 : Int), o0), (1, o1)] : Array (Int × Int)).toList = [(0, o0), (1, o1)] from rfl, Op.lookupswitch.offset_cons, if_pos (by decide)]) h0 (hK0 _ _ _ (hk.1 rfl) H locs L hI hL)
    · by_cases e1 : x = 1
      · subst e1
        exact lv_lookup hx hb d rfl (off := o1) (by rw [show (#[((0 : Int), o0), (1, o1)] : Array (Int × Int)).toList = [(0, o0), (1, o1)] from rfl, Op.lookupswitch.offset_cons, if_neg (by decide), Op.lookupswitch.offset_cons, if_pos (by decide)]) h1 (hK1 _ _ _ (hk.2.1 e0 rfl) H locs L hI hL)
      · exact lv_lookup hx hb d rfl (off := dflt) (by rw [show (#[((0 : Int), o0), (1, o1)] : Array (Int × Int)).toList = [(0, o0), (1, o1)] from rfl, lv_osw e0 (by decide), lv_osw e1 (by decide)]; rfl) hd (hKd _ _ _ (hk.2.2 e0 e1) H locs L hI hL)
  · exact hk.elim
end SND
end
section

/-! ===== what holds in every body of this claim ===== -/
def zWS : List Cond := lw_tbl.filter goodWord
theorem zws_mem {w : Cond} (i : Nat) (h : lw_tbl[i]? = some w) (g : goodWord w = true) : w ∈ zWS := List.mem_filter.mpr ⟨List.mem_of_getElem? h, g⟩
theorem zGood {ws : List Cond} (h : ∀ w ∈ ws, w ∈ zWS) : GoodIn zWS ws := fun w hw => ⟨h w hw, good_of_word (List.mem_filter.mp (h w hw)).2⟩
def zNest : List (String × Nat × MethodName × String) := [("TagRoot", 9, ⟨"TagRoot$Names", "<init>", "()V"⟩, "TagRoot"), ("TagRoot", 18, ⟨"TagRoot$Rules", "<init>", "()V"⟩, "TagRoot"), ("TagRoot", 28, ⟨"TagRoot$Requests", "<init>", "()V"⟩, "TagRoot"), ("TagRoot", 35, ⟨"TagRoot$Hands", "<init>", "()V"⟩, "TagRoot"), ("TagRoot", 42, ⟨"TagRoot$Rows", "<init>", "()V"⟩, "TagRoot"), ("TagRoot$Rules", 35, ⟨"TagRoot", "has", "(II)Z"⟩, "TagRoot"), ("TagRoot$Rows", 31, ⟨"TagRoot", "has", "(II)Z"⟩, "TagRoot"), ("TagRoot$Hands", 50, ⟨"TagRoot", "has", "(II)Z"⟩, "TagRoot")]
def zStr : List (String × Nat × String) := [("TagRoot", 53, "no character of names"), ("TagRoot", 64, "the draft is full"), ("TagRoot", 71, "the draft is empty"), ("TagRoot", 80, "there are no more tags to be had"), ("TagRoot", 229, "no such tag"), ("TagRoot", 101, "no such character"), ("TagRoot", 109, "there are no more things to be had"), ("TagRoot", 231, "no such thing"), ("TagRoot", 123, "no such kind of edit"), ("TagRoot", 146, "no change is kept"), ("TagRoot", 155, "no such kind of request"), ("TagRoot", 157, "a rule leads to another tag"), ("TagRoot", 160, "there are no more requests to be had"), ("TagRoot", 233, "no such request"), ("TagRoot", 169, "no such voter"), ("TagRoot", 174, "the request is not open"), ("TagRoot", 238, "no set of tags"), ("TagRoot", 222, "no place is below 0"), ("TagRoot", 227, "no such place")]
def zNcs : List (String × String) := [("java/lang/IllegalStateException", "java/lang/IllegalArgumentException"), ("java/lang/IllegalArgumentException", "java/lang/IndexOutOfBoundsException"), ("java/lang/IllegalStateException", "java/lang/IndexOutOfBoundsException")]
def zCas : List (String × String) := [("java/lang/IllegalArgumentException", "java/lang/IllegalArgumentException"), ("java/lang/IllegalStateException", "java/lang/IllegalStateException"), ("java/lang/IndexOutOfBoundsException", "java/lang/IndexOutOfBoundsException")]
def zDec : List MethodName := [Bundle.initS "java/lang/RuntimeException", Bundle.initS "java/lang/Exception", Bundle.initS "java/lang/Throwable"]
def zBad (X : String) : List Cond := [.declares (Bundle.initS "java/lang/RuntimeException"), .declares (Bundle.initS "java/lang/Exception"), .declares (Bundle.initS "java/lang/Throwable"), .castable X X]
def zEx (k : Nat) : String := if k = 0 then "java/lang/IllegalArgumentException" else if k = 1 then "java/lang/IllegalStateException" else "java/lang/IndexOutOfBoundsException"
abbrev zNames : List String := ["java/lang/RuntimeException", "java/lang/Exception"]

def zG (D : va_G) (cA : Nat → ClassId) (U : State) : Prop := va_K D vwCl [(cA 0, .int), (cA 1, .char), (cA 2, .long)] U ∧ (∀ q ∈ zNest, va_Nw (.methodLinkNest q.1 q.2.1 q.2.2.1 q.2.2.2) U) ∧ (∀ q ∈ zStr, ∃ sa, vk_R q.1 q.2.1 q.2.2 sa U) ∧ (∀ q ∈ zNcs, va_Nc q.1 q.2 U) ∧ (∀ q ∈ zCas, va_Nw (.castable q.1 q.2) U) ∧ ∀ x ∈ zDec, va_Nw (.declares x) U
theorem zG.warm {D : va_G} {cA : Nat → ClassId} {s U : State} (hW : s.WarmedH U.vm) (h : zG D cA s) : zG D cA U :=
  ⟨va_K.moved hW.alike h.1, fun q hq => va_Nw.warmM hW (h.2.1 q hq), fun q hq => by
    obtain ⟨sa, h1⟩ := h.2.2.1 q hq
    exact ⟨sa, vk_R.warm hW h1⟩, fun q hq => va_Nc.moved hW.alike (h.2.2.2.1 q hq), fun q hq => va_Nw.warmC hW (h.2.2.2.2.1 q hq), fun x hx => va_Nw.warmD hW (h.2.2.2.2.2 x hx)⟩
def zZ (z0 : Nat) (U : State) (H : Heap) : Prop := vx_Zq Bundle.tN "UNASSIGNED_STACK" Bundle.steD (fun q => z0 ≤ q) U H ∧ vx_Zq Bundle.tN "SUPPRESSED_SENTINEL" Bundle.listD (fun q => z0 ≤ q) U H
theorem zZ.on {z0 : Nat} {s U : State} {H0 H : Heap} (hW : s.WarmedH U.vm) (hk : ∀ q : Nat, q < H0.size → ¬ z0 ≤ q → H[q]? = H0[q]?) (h : zZ z0 s H0) : zZ z0 U H :=
  ⟨vx_Zq.moved hW.alike (h.1.kept hk), vx_Zq.moved hW.alike (h.2.kept hk)⟩
def zI (z0 b N : Nat) (D : va_G) (cA : Nat → ClassId) (s : State) (h : ZH) (H : Heap) (locs : List Loc) : Prop := va_P D vwCl (zWd z0 b N cA h) H ∧ va_S (fun q : Nat => z0 ≤ q) s.heap H locs ∧ ∀ k, N ≤ k → h k = zdum
def zok (n : Nat) (a : List Value) : Bool := a.length == n && a.all (fun v => v.category == 1)
def zBs (z0 b N : Nat) (D : va_G) (cA : Nat → ClassId) (h : ZH) (U : State) : Prop := z0 ≤ U.heap.size ∧ zG D cA U ∧ zZ z0 U U.heap ∧ va_P D vwCl (zWd z0 b N cA h) U.heap ∧ ∀ k, N ≤ k → h k = zdum
def zPc (z0 b N : Nat) (D : va_G) (cA : Nat → ClassId) (a : List Value) (h : ZH) : Array Value → State → Prop := va_Pc (a.map (zc z0 b)) (zBs z0 b N D cA h)
def zQn (z0 b N : Nat) (D : va_G) (cA : Nat → ClassId) (Kn : Option Value → ZH → Prop) : Array Value → State → Outcome → State → Prop := fun _ st oc t =>
  (∃ (v : Option Value) (h' : ZH), oc = .returned (v.map (zc z0 b)) ∧ Kn v h' ∧ va_P D vwCl (zWd z0 b N cA h') t.heap ∧ ∀ k, N ≤ k → h' k = zdum) ∧ va_F (fun q : Nat => z0 ≤ q) st t
def zXn (z0 b N : Nat) (D : va_G) (cA : Nat → ClassId) (Kx : Nat → Prop) (h : ZH) : String → State → State → Prop := fun E st t =>
  (∃ k, E = zEx k ∧ Kx k ∧ va_P D vwCl (zWd z0 b N cA h) t.heap) ∧ va_F (fun q : Nat => z0 ≤ q) st t
abbrev zRm (fr M lo : Nat) : Room := { frames := fr, cells := M, slots := 6 * M, locals := lo }
/-- a method, by what it throws (exc) and what it does else (ctN): with a cell more where it throws -/
def Sem (l : Launch) (z0 b N : Nat) (D : va_G) (cA : Nat → ClassId) (y : MethodName) (bytes : ByteArray) (maxL : Nat) (ret : Option FieldType) (fr lo n : Nat) (exc : List Value → ZH → Nat → Prop) (ctN : List Value → ZH → (Option Value → ZH → Prop) → Prop) : Prop :=
  ∀ (M : Nat) (a : List Value) (h : ZH) (Kn : Option Value → ZH → Prop) (Kx : Nat → Prop), zok n a = true → (∀ k, exc a h k → M = 1 ∧ Kx k) → ((∀ k, ¬ exc a h k) → ctN a h Kn) →
    vx_Met l y (Cond.code y bytes maxL ret :: zWS) (zRm fr M lo) (zPc z0 b N D cA a h) (zQn z0 b N D cA Kn) (zXn z0 b N D cA Kx h) M (6 * M) (fun q => z0 ≤ q)
theorem zBs.on {z0 b N : Nat} {D : va_G} {cA : Nat → ClassId} {h : ZH} {s U : State} (hW : s.WarmedH U.vm) (hh : U.heap = s.heap) (q : zBs z0 b N D cA h s) : zBs z0 b N D cA h U :=
  ⟨by rw [hh]; exact q.1, q.2.1.warm hW, q.2.2.1.on hW (fun x _ _ => by rw [hh]), by rw [hh]; exact q.2.2.2.1, q.2.2.2.2⟩
theorem zPc.blind {z0 b N : Nat} {D : va_G} {cA : Nat → ClassId} {a : List Value} {h : ZH} : FrameBlind (zPc z0 b N D cA a h) := fun x U g mk q => ⟨q.1, zBs.on (s := U) (State.WarmedH.refl U) rfl q.2⟩
def zCx (p : Program) (l : Launch) (R : Room) (s : State) (m : MethodId) (args : Array Value) (meth : Method) (c : Code) (cc : ByteArray) (nL : Nat) (own : String) (z0 : Nat) (D : va_G) (cA : Nat → ClassId) (M : Nat) : Prop :=
  p.tables.exec = Jvm.exec ∧ c.code = cc ∧ c.maxLocals = nL ∧ s.vm.findClass own = some m.cls ∧ (∀ w ∈ zWS, w.before args s = true) ∧ zG D cA s ∧ zZ z0 s s.heap ∧ z0 ≤ s.heap.size ∧ meth.locks = false ∧ l.stackTraces = false ∧ M ≤ R.cells ∧ 6 * M ≤ R.slots
section HEAPOPS
def o_getf (ci k : Nat) (K : ZK ZH) : ZK ZH := fun ls st h => match st with
  | .ref a :: r => (match h a with
    | .inr (c', fs) => c' = ci ∧ (match fs[k]? with
      | some v => K ls (v :: r) h
      | none => False)
    | .inl _ => False)
  | _ => False
def o_puti (ci k : Nat) (K : ZK ZH) : ZK ZH := fun ls st h => match st with
  | .int x :: .ref a :: r => (match h a with
    | .inr (c', fs) => c' = ci ∧ k < fs.length ∧ K ls r (zup h a (.inr (ci, fs.set k (.int x))))
    | .inl _ => False)
  | _ => False
def o_ald (t : Nat) (K : ZK ZH) : ZK ZH := fun ls st h => match st with
  | .int i :: .ref a :: r => (match h a with
    | .inl (t', n, .inl f) => t' = t ∧ vp_in i n ∧ K ls (.int (f i.toNatClampNeg) :: r) h
    | _ => False)
  | _ => False
def o_iast (K : ZK ZH) : ZK ZH := fun ls st h => match st with
  | .int x :: .int i :: .ref a :: r => (match h a with
    | .inl (t', n, .inl f) => t' = 0 ∧ vp_in i n ∧ K ls r (zup h a (.inl (0, n, .inl (upd f i.toNatClampNeg x))))
    | _ => False)
  | _ => False
def o_cast (K : ZK ZH) : ZK ZH := fun ls st h => match st with
  | .int x :: .int i :: .ref a :: r => (match h a with
    | .inl (t', n, .inl f) => t' = 1 ∧ vp_in i n ∧ K ls r (zup h a (.inl (1, n, .inl (upd f i.toNatClampNeg (vp_nar .char x)))))
    | _ => False)
  | _ => False
def o_lald (K : ZK ZH) : ZK ZH := fun ls st h => match st with
  | .int i :: .ref a :: r => (match h a with
    | .inl (t', n, .inr (.inl f)) => t' = 2 ∧ vp_in i n ∧ K ls (.long (f i.toNatClampNeg) :: r) h
    | _ => False)
  | _ => False
def o_last (K : ZK ZH) : ZK ZH := fun ls st h => match st with
  | .long x :: .int i :: .ref a :: r => (match h a with
    | .inl (t', n, .inr (.inl f)) => t' = 2 ∧ vp_in i n ∧ K ls r (zup h a (.inl (2, n, .inr (.inl (vp_updL f i.toNatClampNeg x)))))
    | _ => False)
  | _ => False
def o_ret (ty : FieldType) (Kn : Option Value → ZH → Prop) : ZK ZH := fun _ st h => match st with
  | [.int v] => narrow ty (.int v) = .int v ∧ Kn (some (.int v)) h
  | _ => False
def o_vret (Kn : Option Value → ZH → Prop) : ZK ZH := fun _ st h => match st with
  | [] => Kn none h
  | _ => False
def o_mmin (K : ZK ZH) : ZK ZH := fun ls st h => match st with
  | .int y :: .int x :: r => r.length ≤ 3 ∧ K ls (.int (if y < x then y else x) :: r) h
  | _ => False
def o_mabs (K : ZK ZH) : ZK ZH := fun ls st h => match st with
  | .int x :: r => r.length ≤ 3 ∧ K ls (.int (if 0 ≤ x then x else 0 - x) :: r) h
  | _ => False
def o_throw (M k : Nat) (Kx : Nat → Prop) (h0 : ZH) : ZK ZH := fun _ st h => match st with
  | [] => M = 1 ∧ Kx k ∧ h = h0
  | _ => False
def zcall (M n : Nat) (exc : List Value → ZH → Nat → Prop) (ctN : List Value → ZH → (Option Value → ZH → Prop) → Prop) (Kx : Nat → Prop) (h0 : ZH) (K : ZK ZH) (ls : List (Option Value)) (a r : List Value) (h : ZH) : Prop :=
  zok n a = true ∧ r.length ≤ 4 ∧ (∀ k, exc a h k → M = 1 ∧ Kx k ∧ h = h0) ∧ ((∀ k, ¬ exc a h k) → ctN a h (fun v h' => K ls (v.toList ++ r) h'))
def o_callS0 (M : Nat) (exc : List Value → ZH → Nat → Prop) (ctN : List Value → ZH → (Option Value → ZH → Prop) → Prop) (Kx : Nat → Prop) (h0 : ZH) (K : ZK ZH) : ZK ZH := fun ls st h => zcall M 0 exc ctN Kx h0 K ls [] st h
def o_callS1 (M : Nat) (exc : List Value → ZH → Nat → Prop) (ctN : List Value → ZH → (Option Value → ZH → Prop) → Prop) (Kx : Nat → Prop) (h0 : ZH) (K : ZK ZH) : ZK ZH := fun ls st h => match st with
  | v0 :: r => zcall M 1 exc ctN Kx h0 K ls [v0] r h
  | _ => False
def o_callS2 (M : Nat) (exc : List Value → ZH → Nat → Prop) (ctN : List Value → ZH → (Option Value → ZH → Prop) → Prop) (Kx : Nat → Prop) (h0 : ZH) (K : ZK ZH) : ZK ZH := fun ls st h => match st with
  | v1 :: v0 :: r => zcall M 2 exc ctN Kx h0 K ls [v0, v1] r h
  | _ => False
def o_callS3 (M : Nat) (exc : List Value → ZH → Nat → Prop) (ctN : List Value → ZH → (Option Value → ZH → Prop) → Prop) (Kx : Nat → Prop) (h0 : ZH) (K : ZK ZH) : ZK ZH := fun ls st h => match st with
  | v2 :: v1 :: v0 :: r => zcall M 3 exc ctN Kx h0 K ls [v0, v1, v2] r h
  | _ => False
def o_callS4 (M : Nat) (exc : List Value → ZH → Nat → Prop) (ctN : List Value → ZH → (Option Value → ZH → Prop) → Prop) (Kx : Nat → Prop) (h0 : ZH) (K : ZK ZH) : ZK ZH := fun ls st h => match st with
  | v3 :: v2 :: v1 :: v0 :: r => zcall M 4 exc ctN Kx h0 K ls [v0, v1, v2, v3] r h
  | _ => False
def o_callS5 (M : Nat) (exc : List Value → ZH → Nat → Prop) (ctN : List Value → ZH → (Option Value → ZH → Prop) → Prop) (Kx : Nat → Prop) (h0 : ZH) (K : ZK ZH) : ZK ZH := fun ls st h => match st with
  | v4 :: v3 :: v2 :: v1 :: v0 :: r => zcall M 5 exc ctN Kx h0 K ls [v0, v1, v2, v3, v4] r h
  | _ => False
def o_callV0 (M ci : Nat) (exc : List Value → ZH → Nat → Prop) (ctN : List Value → ZH → (Option Value → ZH → Prop) → Prop) (Kx : Nat → Prop) (h0 : ZH) (K : ZK ZH) : ZK ZH := fun ls st h => match st with
  | .ref a :: r => (match h a with
    | .inr (c', fs) => c' = ci ∧ 0 < fs.length ∧ zcall M 1 exc ctN Kx h0 K ls [.ref a] r h
    | .inl _ => False)
  | _ => False
def o_callV1 (M ci : Nat) (exc : List Value → ZH → Nat → Prop) (ctN : List Value → ZH → (Option Value → ZH → Prop) → Prop) (Kx : Nat → Prop) (h0 : ZH) (K : ZK ZH) : ZK ZH := fun ls st h => match st with
  | v0 :: .ref a :: r => (match h a with
    | .inr (c', fs) => c' = ci ∧ 0 < fs.length ∧ zcall M 2 exc ctN Kx h0 K ls [.ref a, v0] r h
    | .inl _ => False)
  | _ => False
def o_callV2 (M ci : Nat) (exc : List Value → ZH → Nat → Prop) (ctN : List Value → ZH → (Option Value → ZH → Prop) → Prop) (Kx : Nat → Prop) (h0 : ZH) (K : ZK ZH) : ZK ZH := fun ls st h => match st with
  | v1 :: v0 :: .ref a :: r => (match h a with
    | .inr (c', fs) => c' = ci ∧ 0 < fs.length ∧ zcall M 3 exc ctN Kx h0 K ls [.ref a, v0, v1] r h
    | .inl _ => False)
  | _ => False
def o_callV3 (M ci : Nat) (exc : List Value → ZH → Nat → Prop) (ctN : List Value → ZH → (Option Value → ZH → Prop) → Prop) (Kx : Nat → Prop) (h0 : ZH) (K : ZK ZH) : ZK ZH := fun ls st h => match st with
  | v2 :: v1 :: v0 :: .ref a :: r => (match h a with
    | .inr (c', fs) => c' = ci ∧ 0 < fs.length ∧ zcall M 4 exc ctN Kx h0 K ls [.ref a, v0, v1, v2] r h
    | .inl _ => False)
  | _ => False
def o_callV4 (M ci : Nat) (exc : List Value → ZH → Nat → Prop) (ctN : List Value → ZH → (Option Value → ZH → Prop) → Prop) (Kx : Nat → Prop) (h0 : ZH) (K : ZK ZH) : ZK ZH := fun ls st h => match st with
  | v3 :: v2 :: v1 :: v0 :: .ref a :: r => (match h a with
    | .inr (c', fs) => c' = ci ∧ 0 < fs.length ∧ zcall M 5 exc ctN Kx h0 K ls [.ref a, v0, v1, v2, v3] r h
    | .inl _ => False)
  | _ => False
def o_callV5 (M ci : Nat) (exc : List Value → ZH → Nat → Prop) (ctN : List Value → ZH → (Option Value → ZH → Prop) → Prop) (Kx : Nat → Prop) (h0 : ZH) (K : ZK ZH) : ZK ZH := fun ls st h => match st with
  | v4 :: v3 :: v2 :: v1 :: v0 :: .ref a :: r => (match h a with
    | .inr (c', fs) => c' = ci ∧ 0 < fs.length ∧ zcall M 6 exc ctN Kx h0 K ls [.ref a, v0, v1, v2, v3, v4] r h
    | .inl _ => False)
  | _ => False
end HEAPOPS
section KH
variable {p : Program} {l : Launch} {e : Env} {R : Room} {s : State} {m : MethodId} {args : Array Value} {below : List Frame} {meth : Method} {c : Code}
variable {nL z0 b N M : Nat} {D : va_G} {cA : Nat → ClassId} {Q : State → Prop} {pc : Nat} {cc : ByteArray} {own : String} {K : ZK ZH}
theorem zcat3 {z0 b : Nat} : ∀ (r : List Value), r.length ≤ 3 → ((r.map (zc z0 b)).map fun v => v.category).sum ≤ 6 := by
  have h1 : ∀ v : Value, (zc z0 b v).category ≤ 2 := fun v => by rw [zc_cat]; cases v <;> simp [Value.category]
  intro r hr
  match r, hr with
  | [], _ => exact Nat.zero_le _
  | [u], _ => have := h1 u; simp; omega
  | [u, v], _ => have := h1 u; have := h1 v; simp; omega
  | [u, v, w], _ => have := h1 u; have := h1 v; have := h1 w; simp; omega
  | _ :: _ :: _ :: _ :: _, hr => simp at hr

theorem zI.lt {h : ZH} {H : Heap} {locs : List Loc} (hI : zI z0 b N D cA s h H locs) {a : Nat} (ha : ¬ h a = zdum) : a < N := Nat.not_le.mp fun q => ha (hI.2.2 a q)
theorem zI.get {h : ZH} {H : Heap} {locs : List Loc} (hI : zI z0 b N D cA s h H locs) {a : Nat} {x : va_E} (ha : h a = x) (hx : ¬ x = zdum) : (zWd z0 b N cA h)[a]? = some (z0 + a, ze z0 b cA x) := by
  rw [zWd_get (hI.lt (by rw [ha]; exact hx)), ha]
theorem zup_dum {h : ZH} {a : Nat} {x : va_E} (hd : ∀ k, N ≤ k → h k = zdum) (ha : a < N) : ∀ k, N ≤ k → zup h a x k = zdum := fun k hk => by
  have : ¬ k = a := by omega
  simp only [zup, if_neg this]
  exact hd k hk
theorem k_getf (C : zCx p l R s m args meth c cc nL own z0 D cA M) {idx ci k Nf : Nat} {Cn ref : String} {Tf : u_T} (hc : vwCl[ci]? = some (Cn, Tf, Nf)) (hin : ∀ w ∈ u_ws Cn Tf Nf, w ∈ zWS) (hk : k < Nf) (href : ref = (Tf k).1) (hlink : Cond.fieldLink own idx ref (Tf k).2.1 (Tf k).2.2.1 ∈ zWS) (d : decode cc pc = .ok (.getfield idx, 3)) (hK : Snd p l e R s m args below meth c nL z0 b (zI z0 b N D cA s) (fun _ => (0, 0)) Q (pc + 3) K) : Snd p l e R s m args below meth c nL z0 b (zI z0 b N D cA s) (fun _ => (0, 0)) Q pc (o_getf ci k K) := by
  intro ls st h hq H locs L hI hL
  obtain ⟨hx, hb, hml, hown, hts, hg, -⟩ := C
  simp only [o_getf] at hq
  split at hq
  · next a r =>
    split at hq
    · next c' fs hfs =>
      obtain ⟨rfl, hq⟩ := hq
      split at hq
      · next v hv =>
        refine va_get hx hb hts hin hown hg.1 hI.1 a (hI.get hfs (fun z => by cases z; simp at hv)) hc k hk (hts _ hlink) (fun x h9 => by rw [href]; exact h9) (v := zc z0 b v) ?_ d (hK _ _ _ hq H locs L hI hL)
        show (fs.map (zc z0 b))[k]? = _
        rw [List.getElem?_map, hv]; rfl
      · exact hq.elim
    · exact hq.elim
  · exact hq.elim
theorem k_puti (C : zCx p l R s m args meth c cc nL own z0 D cA M) {idx ci k Nf : Nat} {Cn ref : String} {Tf : u_T} (ty : Nat → FieldType) (hty : ∀ k, k < Nf → parseFieldDescriptor (Tf k).2.2.1 = some (ty k)) (hnm : ∀ a, a < Nf → ∀ b, b < Nf → a ≠ b → (Tf a).2.1 ≠ (Tf b).2.1) (hc : vwCl[ci]? = some (Cn, Tf, Nf)) (hin : ∀ w ∈ u_ws Cn Tf Nf, w ∈ zWS) (hk : k < Nf) (href : ref = (Tf k).1) (hfin : (Tf k).2.2.2 = false) (hint : parseFieldDescriptor (Tf k).2.2.1 = some .int) (hlink : Cond.fieldLink own idx ref (Tf k).2.1 (Tf k).2.2.1 ∈ zWS) (d : decode cc pc = .ok (.putfield idx, 3)) (hK : Snd p l e R s m args below meth c nL z0 b (zI z0 b N D cA s) (fun _ => (0, 0)) Q (pc + 3) K) : Snd p l e R s m args below meth c nL z0 b (zI z0 b N D cA s) (fun _ => (0, 0)) Q pc (o_puti ci k K) := by
  intro ls st h hq H locs L hI hL
  obtain ⟨hx, hb, hml, hown, hts, hg, -⟩ := C
  simp only [o_puti] at hq
  split at hq
  · next x a r =>
    split at hq
    · next c' fs hfs =>
      obtain ⟨rfl, hl, hq⟩ := hq
      have hnd : ¬ (Sum.inr (c', fs) : va_E) = zdum := fun z => by cases z; simp at hl
      refine va_put hx hb hts hin ty hty hnm hown hg.1 hI.1 (zWd_D z0 b N cA h) hI.2.1 a (hI.get hfs hnd) hc k hk (hts _ hlink) (fun x h9 => by rw [href]; exact h9) hfin hint rfl rfl (by simpa using hl) d (fun H1 locs1 hP1 _ hS1 => ?_)
      refine hK _ _ _ hq H1 locs1 L ⟨?_, hS1, zup_dum hI.2.2 (hI.lt (by rw [hfs]; exact hnd))⟩ hL
      have e9 : (zWd z0 b N cA h).set a (z0 + a, .inr (c', (fs.map (zc z0 b)).set k (.int x))) = zWd z0 b N cA (zup h a (.inr (c', fs.set k (.int x)))) := by
        rw [← zWd_set (hI.lt (by rw [hfs]; exact hnd))]
        show _ = (zWd z0 b N cA h).set a (z0 + a, .inr (c', (fs.set k (.int x)).map (zc z0 b)))
        rw [List.map_set]; rfl
      rw [← e9]
      exact hP1
    · exact hq.elim
  · exact hq.elim
theorem k_iald (C : zCx p l R s m args meth c cc nL own z0 D cA M) (d : decode cc pc = .ok (.iaload, 1)) (hK : Snd p l e R s m args below meth c nL z0 b (zI z0 b N D cA s) (fun _ => (0, 0)) Q (pc + 1) K) : Snd p l e R s m args below meth c nL z0 b (zI z0 b N D cA s) (fun _ => (0, 0)) Q pc (o_ald 0 K) := by
  intro ls st h hq H locs L hI hL
  obtain ⟨hx, hb, hml, hown, hts, hg, -⟩ := C
  simp only [o_ald] at hq
  split at hq
  · next i a r =>
    split at hq
    · next t' n f hf =>
      obtain ⟨rfl, hv, hq⟩ := hq
      exact va_iald hx hb hg.1 hI.1 a 0 (hI.get hf (fun z => by cases z)) rfl hv d (hK _ _ _ hq H locs L hI hL)
    · exact hq.elim
  · exact hq.elim
theorem k_cald (C : zCx p l R s m args meth c cc nL own z0 D cA M) (d : decode cc pc = .ok (.caload, 1)) (hK : Snd p l e R s m args below meth c nL z0 b (zI z0 b N D cA s) (fun _ => (0, 0)) Q (pc + 1) K) : Snd p l e R s m args below meth c nL z0 b (zI z0 b N D cA s) (fun _ => (0, 0)) Q pc (o_ald 1 K) := by
  intro ls st h hq H locs L hI hL
  obtain ⟨hx, hb, hml, hown, hts, hg, -⟩ := C
  simp only [o_ald] at hq
  split at hq
  · next i a r =>
    split at hq
    · next t' n f hf =>
      obtain ⟨rfl, hv, hq⟩ := hq
      exact va_cald hx hb hg.1 hI.1 a 1 (hI.get hf (fun z => by cases z)) rfl hv d (hK _ _ _ hq H locs L hI hL)
    · exact hq.elim
  · exact hq.elim
theorem k_lald (C : zCx p l R s m args meth c cc nL own z0 D cA M) (d : decode cc pc = .ok (.laload, 1)) (hK : Snd p l e R s m args below meth c nL z0 b (zI z0 b N D cA s) (fun _ => (0, 0)) Q (pc + 1) K) : Snd p l e R s m args below meth c nL z0 b (zI z0 b N D cA s) (fun _ => (0, 0)) Q pc (o_lald K) := by
  intro ls st h hq H locs L hI hL
  obtain ⟨hx, hb, hml, hown, hts, hg, -⟩ := C
  simp only [o_lald] at hq
  split at hq
  · next i a r =>
    split at hq
    · next t' n f hf =>
      obtain ⟨rfl, hv, hq⟩ := hq
      exact va_lald hx hb hg.1 hI.1 a 2 (hI.get hf (fun z => by cases z)) rfl hv d (hK _ _ _ hq H locs L hI hL)
    · exact hq.elim
  · exact hq.elim
theorem k_iast (C : zCx p l R s m args meth c cc nL own z0 D cA M) (d : decode cc pc = .ok (.iastore, 1)) (hK : Snd p l e R s m args below meth c nL z0 b (zI z0 b N D cA s) (fun _ => (0, 0)) Q (pc + 1) K) : Snd p l e R s m args below meth c nL z0 b (zI z0 b N D cA s) (fun _ => (0, 0)) Q pc (o_iast K) := by
  intro ls st h hq H locs L hI hL
  obtain ⟨hx, hb, hml, hown, hts, hg, -⟩ := C
  simp only [o_iast] at hq
  split at hq
  · next x i a r =>
    split at hq
    · next t' n f hf =>
      obtain ⟨rfl, hv, hq⟩ := hq
      have ha : a < N := hI.lt (by rw [hf]; exact fun z => by cases z)
      refine va_iast hx hb hg.1 hI.1 (zWd_D z0 b N cA h) hI.2.1 a 0 (hI.get hf (fun z => by cases z)) rfl hv d (fun H1 locs1 hP1 _ hS1 => ?_)
      refine hK _ _ _ hq H1 locs1 L ⟨?_, hS1, zup_dum hI.2.2 ha⟩ hL
      rw [← zWd_set ha]
      exact hP1
    · exact hq.elim
  · exact hq.elim
theorem k_cast (C : zCx p l R s m args meth c cc nL own z0 D cA M) (d : decode cc pc = .ok (.castore, 1)) (hK : Snd p l e R s m args below meth c nL z0 b (zI z0 b N D cA s) (fun _ => (0, 0)) Q (pc + 1) K) : Snd p l e R s m args below meth c nL z0 b (zI z0 b N D cA s) (fun _ => (0, 0)) Q pc (o_cast K) := by
  intro ls st h hq H locs L hI hL
  obtain ⟨hx, hb, hml, hown, hts, hg, -⟩ := C
  simp only [o_cast] at hq
  split at hq
  · next x i a r =>
    split at hq
    · next t' n f hf =>
      obtain ⟨rfl, hv, hq⟩ := hq
      have ha : a < N := hI.lt (by rw [hf]; exact fun z => by cases z)
      refine va_cast hx hb hg.1 hI.1 (zWd_D z0 b N cA h) hI.2.1 a 1 (hI.get hf (fun z => by cases z)) rfl hv d (fun H1 locs1 hP1 _ hS1 => ?_)
      refine hK _ _ _ hq H1 locs1 L ⟨?_, hS1, zup_dum hI.2.2 ha⟩ hL
      rw [← zWd_set ha]
      exact hP1
    · exact hq.elim
  · exact hq.elim
theorem k_last (C : zCx p l R s m args meth c cc nL own z0 D cA M) (d : decode cc pc = .ok (.lastore, 1)) (hK : Snd p l e R s m args below meth c nL z0 b (zI z0 b N D cA s) (fun _ => (0, 0)) Q (pc + 1) K) : Snd p l e R s m args below meth c nL z0 b (zI z0 b N D cA s) (fun _ => (0, 0)) Q pc (o_last K) := by
  intro ls st h hq H locs L hI hL
  obtain ⟨hx, hb, hml, hown, hts, hg, -⟩ := C
  simp only [o_last] at hq
  split at hq
  · next x i a r =>
    split at hq
    · next t' n f hf =>
      obtain ⟨rfl, hv, hq⟩ := hq
      have ha : a < N := hI.lt (by rw [hf]; exact fun z => by cases z)
      refine va_last hx hb hg.1 hI.1 (zWd_D z0 b N cA h) hI.2.1 a 2 (hI.get hf (fun z => by cases z)) rfl hv d (fun H1 locs1 hP1 _ hS1 => ?_)
      refine hK _ _ _ hq H1 locs1 L ⟨?_, hS1, zup_dum hI.2.2 ha⟩ hL
      rw [← zWd_set ha]
      exact hP1
    · exact hq.elim
  · exact hq.elim
theorem k_mmin (C : zCx p l R s m args meth c cc nL own z0 D cA M) {idx : Nat} (hlink : Cond.methodLink own idx Lib.Math.min.name ∈ zWS) (hstat : Cond.static Lib.Math.min.name ∈ zWS) (hini : Cond.initialized "java/lang/Math" ∈ zWS) (hcode : Cond.code Lib.Math.min.name Lib.Math.min.code 2 (some .int) ∈ zWS) (hR : 1 ≤ R.frames ∧ 19 ≤ R.locals) (d : decode cc pc = .ok (.invokestatic idx, 3)) (hK : Snd p l e R s m args below meth c nL z0 b (zI z0 b N D cA s) (fun _ => (0, 0)) Q (pc + 3) K) : Snd p l e R s m args below meth c nL z0 b (zI z0 b N D cA s) (fun _ => (0, 0)) Q pc (o_mmin K) := by
  intro ls st h hq H locs L hI hL
  obtain ⟨hx, hb, hml, hown, hts, hg, -⟩ := C
  unfold o_mmin at hq
  split at hq
  · refine va_mmin hx hb (hml.trans hL.1.1.symm) hown (hts _ hlink) (hts _ hstat) (hts _ hini) (hts _ hcode) hR.1 ?_ (Nat.zero_le _) (Nat.zero_le _) d (hK _ _ _ hq.2 H locs L hI hL)
    have h9 := zcat3 (z0 := z0) (b := b) _ hq.1
    have := hR.2
    omega
  · exact hq.elim
theorem k_mabs (C : zCx p l R s m args meth c cc nL own z0 D cA M) {idx : Nat} (hlink : Cond.methodLink own idx Lib.Math.abs.name ∈ zWS) (hstat : Cond.static Lib.Math.abs.name ∈ zWS) (hini : Cond.initialized "java/lang/Math" ∈ zWS) (hcode : Cond.code Lib.Math.abs.name Lib.Math.abs.code 1 (some .int) ∈ zWS) (hR : 1 ≤ R.frames ∧ 19 ≤ R.locals) (d : decode cc pc = .ok (.invokestatic idx, 3)) (hK : Snd p l e R s m args below meth c nL z0 b (zI z0 b N D cA s) (fun _ => (0, 0)) Q (pc + 3) K) : Snd p l e R s m args below meth c nL z0 b (zI z0 b N D cA s) (fun _ => (0, 0)) Q pc (o_mabs K) := by
  intro ls st h hq H locs L hI hL
  obtain ⟨hx, hb, hml, hown, hts, hg, -⟩ := C
  unfold o_mabs at hq
  split at hq
  · refine va_mabs hx hb (hml.trans hL.1.1.symm) hown (hts _ hlink) (hts _ hstat) (hts _ hini) (hts _ hcode) hR.1 ?_ (Nat.zero_le _) (Nat.zero_le _) d (hK _ _ _ hq.2 H locs L hI hL)
    have h9 := zcat3 (z0 := z0) (b := b) _ hq.1
    have := hR.2
    omega
  · exact hq.elim

variable {Kn : Option Value → ZH → Prop} {Kx : Nat → Prop} {h0 : ZH}
theorem k_ret (C : zCx p l R s m args meth c cc nL own z0 D cA M) {ty : FieldType} (hr : meth.sig.returnType = some ty) (d : decode cc pc = .ok (.ireturn, 1)) : Snd p l e R s m args below meth c nL z0 b (zI z0 b N D cA s) (fun _ => (0, 0)) (vx_MQ below (zQn z0 b N D cA Kn) (zXn z0 b N D cA Kx h0) args s M (6 * M) (fun q => z0 ≤ q)) pc (o_ret ty Kn) := by
  intro ls st h hq H locs L hI hL
  obtain ⟨hx, hb, hml, hown, hts, hg, hz, hz0, hlocks, hlt, hM1, hM2⟩ := C
  unfold o_ret at hq
  split at hq
  · next v =>
    refine vx_ret (W.widen (Nat.zero_le _) (Nat.zero_le _) (W.zret hx hb hr hq.1 (fun t ht hW => ⟨⟨some (.int v), h, rfl, hq.2, by rw [ht]; exact hI.1, hI.2.2⟩, hI.2.1.F ht⟩) hI.2.1.2.2 d hlocks))
  · exact hq.elim
theorem k_vret (C : zCx p l R s m args meth c cc nL own z0 D cA M) (hr : meth.sig.returnType = none) (d : decode cc pc = .ok (.return_, 1)) : Snd p l e R s m args below meth c nL z0 b (zI z0 b N D cA s) (fun _ => (0, 0)) (vx_MQ below (zQn z0 b N D cA Kn) (zXn z0 b N D cA Kx h0) args s M (6 * M) (fun q => z0 ≤ q)) pc (o_vret Kn) := by
  intro ls st h hq H locs L hI hL
  obtain ⟨hx, hb, hml, hown, hts, hg, hz, hz0, hlocks, hlt, hM1, hM2⟩ := C
  unfold o_vret at hq
  split at hq
  · refine vx_ret (W.widen (Nat.zero_le _) (Nat.zero_le _) (W.vret hx hb hr (fun t ht hW => ⟨⟨none, h, rfl, hq, by rw [ht]; exact hI.1, hI.2.2⟩, hI.2.1.F ht⟩) hI.2.1.2.2 d hlocks))
  · exact hq.elim
theorem zat_of {own : String} {ic : Nat} {X : String} (h1 : ∀ w ∈ (vx_atS own ic X zNames).filter goodWord, w ∈ zWS) (h2 : ∀ w ∈ (vx_atS own ic X zNames).filter (fun w => !goodWord w), w ∈ zBad X) (hX : (X, X) ∈ zCas) {args : Array Value} {s : State} (hts : ∀ w ∈ zWS, w.before args s = true) (hg : zG D cA s) : ∀ w ∈ vx_atS own ic X zNames, w.before args s = true :=
  vx_hat (fun w hw => hts w (h1 w hw)) h2 (vx_c (va_Nw.use rfl (hg.2.2.2.2.2 _ (by simp [zDec]))) (vx_c (va_Nw.use rfl (hg.2.2.2.2.2 _ (by simp [zDec]))) (vx_c (va_Nw.use rfl (hg.2.2.2.2.2 _ (by simp [zDec]))) (vx_c (va_Nw.use rfl (hg.2.2.2.2.1 _ hX)) vx_n))))
theorem k_throw (C : zCx p l R s m args meth c cc nL own z0 D cA M) (htab : ∀ x ∈ c.exceptionTable.toList, False) {k ik is ic : Nat} {X text : String} (hX : zEx k = X) (hX2 : (X, X) ∈ zCas) (hstr : (own, is, text) ∈ zStr) (hcls : Bundle.fit X = true) (hnames : ∀ n ∈ zNames, Bundle.fit n = true) (hk : Cond.classLink own ik X ∈ zWS) (hini : Cond.initialized X ∈ zWS)
    (h1 : ∀ w ∈ (vx_atS own ic X zNames).filter goodWord, w ∈ zWS) (h2 : ∀ w ∈ (vx_atS own ic X zNames).filter (fun w => !goodWord w), w ∈ zBad X) (hgood : ∀ w ∈ Cond.classLink own ik X :: Cond.initialized X :: vx_atS own ic X zNames, vx_ot w = true)
    (d0 : decode cc pc = .ok (.new ik, 3)) (d3 : decode cc (pc + 3) = .ok (.dup, 1)) (d4 : decode cc (pc + 4) = .ok (.ldc is, 2)) (d6 : decode cc (pc + 6) = .ok (.invokespecial ic, 3)) (d9 : decode cc (pc + 9) = .ok (.athrow, 1)) (hR : 5 < R.frames ∧ 82 ≤ R.locals) : Snd p l e R s m args below meth c nL z0 b (zI z0 b N D cA s) (fun _ => (0, 0)) (vx_MQ below (zQn z0 b N D cA Kn) (zXn z0 b N D cA Kx h0) args s M (6 * M) (fun q => z0 ≤ q)) pc (o_throw M k Kx h0) := by
  intro ls st h hq H locs L hI hL
  obtain ⟨hx, hb, hml, hown, hts, hg, hz, hz0, hlocks, hlt, hM1, hM2⟩ := C
  unfold o_throw at hq
  split at hq
  · obtain ⟨rfl, hkx, rfl⟩ := hq
    obtain ⟨sa, hsa⟩ := hg.2.2.1 _ hstr
    exact vx_throwS hx hb hlt hown hcls hnames (hts _ hk) (hts _ hini) hsa (zat_of h1 h2 hX2 hts hg) hgood hz.1 hz.2 hI.2.1 (hL.1.1.trans hml.symm) d0 d3 d4 d6 d9 (fun x hx9 => (htab x hx9).elim) (by simpa using hR.1) (by simpa using hR.2) (by simpa using hM1) (by simpa using hM2) hlocks
      (fun t hA hsz hsame => ⟨⟨k, hX.symm, hkx, hI.1.kept (fun i q hi => hsame _ (hI.1 i q hi).lt)⟩, ⟨Nat.le_trans hI.2.1.1 hsz, fun q hq1 hq2 => (hsame q (Nat.lt_of_lt_of_le hq1 hI.2.1.1)).trans (hI.2.1.2.1 q hq1 hq2)⟩⟩) hI.2.1.2.2 (Nat.le_refl _) (Nat.le_refl _)
  · exact hq.elim
end KH
end
section
section KC
variable {p : Program} {l : Launch} {e : Env} {R : Room} {s : State} {m : MethodId} {args : Array Value} {below : List Frame} {meth : Method} {c : Code}
variable {nL z0 b N M : Nat} {D : va_G} {cA : Nat → ClassId} {Q : State → Prop} {pc : Nat} {cc : ByteArray} {own : String} {K : ZK ZH}
variable {Kn : Option Value → ZH → Prop} {Kx : Nat → Prop} {h0 : ZH}

theorem zok_len {n : Nat} {a : List Value} (h : zok n a = true) : a.length = n := by
  simp only [zok, Bool.and_eq_true, beq_iff_eq] at h
  exact h.1
theorem zok_cat {n : Nat} {a : List Value} (h : zok n a = true) : ∀ v ∈ a, v.category = 1 := by
  simp only [zok, Bool.and_eq_true, List.all_eq_true, beq_iff_eq] at h
  exact h.2
theorem zcat4 : ∀ (r : List Value), ((r.map (zc z0 b)).map fun v => v.category).sum ≤ 2 * r.length
  | [] => Nat.le_refl _
  | v :: r => by
    have h1 : v.category ≤ 2 := by cases v <;> simp [Value.category]
    have h2 := zcat4 r
    simp only [List.map_cons, List.sum_cons, List.length_cons, zc_cat]
    omega
theorem zrest (r : List Value) (h : r.length ≤ 4) : ((r.map (zc z0 b)).map fun v => v.category).sum ≤ 8 := Nat.le_trans (zcat4 r) (by omega)
theorem zMet {y : MethodName} {ws : List Cond} {rm : Room} {Pc : Array Value → State → Prop} {Qc : Array Value → State → Outcome → State → Prop} {XC : String → State → State → Prop} {mc ms : Nat} {free : Addr → Prop} (hM : vx_Met l y ws rm Pc Qc XC mc ms free) (hX : ∀ E st t, ¬ XC E st t) : Met l y ws rm Pc Qc mc ms free := by
  intro p e h1 h2 h3 s m args below h4 h5 h6 h7
  obtain ⟨n, oc, q1, q2, q3, q4⟩ := hM p e h1 h2 h3 s m args below h4 h5 h6 h7
  refine ⟨n, oc, q1, q2, q3, ?_⟩
  rcases q4 with h | ⟨q, -, E, ce, L, hx, -⟩
  · exact h
  · exact (hX _ _ _ hx).elim
/-- behind a call that returned -/
theorem z_after {H : Heap} {locs Lc : List Loc} {L : Array Slot} {ls : List (Option Value)} {r G : List Value} {T T' st₀ t : State} {v : Option Value} {Kk : Option Value → ZH → Prop} {x : Array Value} (hK : Snd p l e R s m args below meth c nL z0 b (zI z0 b N D cA s) (fun _ => (0, 0)) Q (pc + 3) K) (hKk : ∀ v h', Kk v h' → K ls (v.toList ++ r) h') (hz0 : z0 ≤ s.heap.size) (hS : va_S (fun q : Nat => z0 ≤ q) s.heap H locs) (hL : zL z0 b L nL ls)
    (h0 : st₀.heap = H) (X' : Stand p l e R s m args below meth c T' (locs ++ Lc) 0 0) (hLc : ∀ q ∈ Lc, z0 ≤ q.base) (e1 : T'.heap = t.heap) (hq : zQn z0 b N D cA Kk x st₀ (.returned v) t)
    (st : Goes p e below T (F0 m pc L G) T' { (F0 m pc L G) with pc := pc + 3, stack := v.toList ++ r.map (zc z0 b) }) : ∃ t, Steps p.tables e below (T.setTop (F0 m pc L G)) t ∧ Q t := by
  obtain ⟨⟨v', h', hv, hkn, hP', hd'⟩, hF⟩ := hq
  have hvv : v = v'.map (zc z0 b) := by
    cases hv
    rfl
  subst hvv
  obtain ⟨-, -, k3⟩ := vx_keep h0 e1 hS (fun q _ h => h) (fun q h => h) hLc hF
  obtain ⟨t2, a1, b1⟩ := hK _ _ _ (hKk _ _ hkn) T'.heap (locs ++ Lc) L ⟨by rw [e1]; exact hP', k3, hd'⟩ hL T' rfl X'
  refine ⟨t2, st t2 ?_, b1⟩
  have e9 : (v'.map (zc z0 b)).toList ++ r.map (zc z0 b) = (v'.toList ++ r).map (zc z0 b) := by cases v' <;> simp
  rw [e9]
  exact a1
/-- behind a call that threw, in a body without handlers -/
theorem z_thrown (C : zCx p l R s m args meth c cc nL own z0 D cA M) (htab : ∀ x ∈ c.exceptionTable.toList, False) {H : Heap} {locs Lc : List Loc} {L : Array Slot} {r G : List Value} {T T' st₀ t : State} {Kx9 : Nat → Prop} {q : Addr} {E : String} {ce : Cell} (hM : M = 1) (hkx : ∀ k, Kx9 k → Kx k) (hS : va_S (fun q : Nat => z0 ≤ q) s.heap H locs)
    (hh0 : st₀.heap = H) (X' : Stand p l e R s m args below meth c T' (locs ++ Lc) 1 6) (hLc : ∀ q ∈ Lc, z0 ≤ q.base) (e1 : T'.heap = t.heap) (hx : zXn z0 b N D cA Kx9 h0 E st₀ t) (hce : t.heap[q]? = some ce) (hcv : ce.vm = .none) (hcl : s.vm.findClass E = some ce.cls)
    (st : Steps p.tables e below (T.setTop (F0 m pc L G)) ((T'.setTop { (F0 m pc L G) with stack := r }).pushFrame (.throwing q))) : ∃ t, Steps p.tables e below (T.setTop (F0 m pc L G)) t ∧ (vx_MQ below (zQn z0 b N D cA Kn) (zXn z0 b N D cA Kx h0) args s M (6 * M) (fun q => z0 ≤ q)) t := by
  obtain ⟨hx9, hb, hml, hown, hts, hg, hz, hz0, hlocks, hlt, hM1, hM2⟩ := C
  obtain ⟨⟨k', hE, hk9, hP'⟩, hF⟩ := hx
  obtain ⟨-, -, k3⟩ := vx_keep hh0 e1 hS (fun q _ h => h) (fun q h => h) hLc hF
  have hw := vx_out (p := p) (l := l) (e := e) (R := R) (s := s) (m := m) (args := args) (below := below) (meth := meth) (c := c) (H := T'.heap) (locs := locs ++ Lc) (cells := 1) (slots := 6) (ls := L) (rest := r) (pc := pc) (Qc := zQn z0 b N D cA Kn) (XC := zXn z0 b N D cA Kx h0) (free := fun q => z0 ≤ q) (mc := M) (ms := 6 * M) (q := q) (E := E) (ce := ce) (fun x hx => (htab x hx).elim) hlocks (by rw [e1]; exact hce) hcv hcl
    (fun u hu hA => ⟨⟨k', hE, hkx k' hk9, by rw [hu, e1]; exact hP'⟩, k3.F hu⟩) k3.2.2 (by omega) (by omega)
  obtain ⟨t2, a1, b1⟩ := hw T' rfl X'
  exact ⟨t2, st.trans a1, b1⟩
theorem zPre {h : ZH} {a : List Value} {H : Heap} {locs : List Loc} (hg : zG D cA s) (hz : zZ z0 s s.heap) (hz0 : z0 ≤ s.heap.size) (hI : zI z0 b N D cA s h H locs) : ∀ U : State, U.heap = H → s.WarmedH U.vm → zPc z0 b N D cA a h (a.map (zc z0 b)).toArray U :=
  fun U hU hW => ⟨rfl, by rw [hU]; exact Nat.le_trans hz0 hI.2.1.1, hg.warm hW, hz.on hW (by rw [hU]; exact hI.2.1.2.1), by rw [hU]; exact hI.1, hI.2.2⟩

theorem z_callS (C : zCx p l R s m args meth c cc nL own z0 D cA M) (htab : ∀ x ∈ c.exceptionTable.toList, False) {idx maxL fr lo n : Nat} {y : MethodName} {bytes : ByteArray} {ret : Option FieldType} {exc : List Value → ZH → Nat → Prop} {ctN : List Value → ZH → (Option Value → ZH → Prop) → Prop} (hsem : Sem l z0 b N D cA y bytes maxL ret fr lo n exc ctN) (hlink : Cond.methodLink own idx y ∈ zWS) (hstat : Cond.static y ∈ zWS) (hini : Cond.initialized y.cls ∈ zWS) (hcode : Cond.code y bytes maxL ret ∈ zWS) (hd : y.cls ≠ "java/lang/invoke/MethodHandle" ∧ y.cls ≠ "java/lang/invoke/VarHandle" ∧ (parseMethodDescriptor y.desc).map (fun d => d.parameters.length) = some n) (hR : fr + 1 ≤ R.frames ∧ 8 + (maxL + 11) + lo ≤ R.locals) (d : decode cc pc = .ok (.invokestatic idx, 3)) (hK : Snd p l e R s m args below meth c nL z0 b (zI z0 b N D cA s) (fun _ => (0, 0)) (vx_MQ below (zQn z0 b N D cA Kn) (zXn z0 b N D cA Kx h0) args s M (6 * M) (fun q => z0 ≤ q)) (pc + 3) K)
    (ls : List (Option Value)) (a r : List Value) (h : ZH) (hq : zcall M n exc ctN Kx h0 K ls a r h) : AW p l e R s m args below meth c nL z0 b (zI z0 b N D cA s) (fun _ => (0, 0)) (vx_MQ below (zQn z0 b N D cA Kn) (zXn z0 b N D cA Kx h0) args s M (6 * M) (fun q => z0 ≤ q)) pc ls (a.reverse ++ r) h := by
  intro H locs L hI hL
  have C' := C
  obtain ⟨hx, hb, hml, hown, hts, hg, hz, hz0, hlocks, hlt, hM1, hM2⟩ := C
  obtain ⟨hok, hr4, hq1, hq2⟩ := hq
  have hG : GoodIn zWS (va_wsS own idx y (Cond.code y bytes maxL ret :: zWS)) := zGood (fun w hw => by
    simp only [va_wsS, List.mem_append, List.mem_cons, List.not_mem_nil, or_false] at hw
    rcases hw with (rfl | rfl | rfl) | rfl | hw <;> assumption)
  have hpre := zPre (a := a) hg hz hz0 hI
  have hstk : ((a.reverse ++ r).map (zc z0 b)) = (a.map (zc z0 b)).reverse ++ r.map (zc z0 b) := by rw [List.map_append, List.map_reverse]
  intro T hT X
  by_cases hex : ∀ k, ¬ exc a h k
  · skip
    have hM := hsem 0 a h (fun v h' => K ls (v.toList ++ r) h') (fun _ => False) hok (fun k hk => (hex k hk).elim) hq2
    rcases vx_runS (g := F0 m pc L ((a.reverse ++ r).map (zc z0 b))) (H := H) (locs := locs) (cells := 0) (slots := 0) (e := e) (below := below) (meth := meth) (R := R) (As := a.map (zc z0 b)) (rest := r.map (zc z0 b)) ⟨hx, hb, hml, hown, hts⟩ hM (va_cwS n hts hG rfl rfl rfl hd hR) ⟨zPc.blind, hpre⟩ rfl (by rw [List.length_map]; exact zok_len hok) hL.1.1 hstk (lv_room (zrest r hr4)) d ⟨Nat.zero_le _, Nat.zero_le _⟩ T hT X with ⟨v, st₀, t, T', Lc, g0, X', hLc, e1, e2, hqn, st⟩ | ⟨q, st₀, t, T', Lc, E, ce, g0, X', hLc, e1, e2, hxn, hce, hcv, hcl, st⟩
    · exact z_after hK (fun v h' h9 => h9) hz0 hI.2.1 hL g0 X' hLc e1 hqn st
    · obtain ⟨⟨k', -, h9, -⟩, -⟩ := hxn
      exact h9.elim
  · obtain ⟨k, hexk⟩ := Classical.not_forall.mp hex
    have hexk := Classical.not_not.mp hexk
    obtain ⟨hM9, -, rfl⟩ := hq1 k hexk
    have hM := hsem 1 a h (fun _ _ => False) (fun k' => exc a h k') hok (fun k' hk => ⟨rfl, hk⟩) (fun h9 => (h9 k hexk).elim)
    rcases vx_runS (g := F0 m pc L ((a.reverse ++ r).map (zc z0 b))) (H := H) (locs := locs) (cells := 0) (slots := 0) (e := e) (below := below) (meth := meth) (R := R) (As := a.map (zc z0 b)) (rest := r.map (zc z0 b)) ⟨hx, hb, hml, hown, hts⟩ hM (va_cwS n hts hG rfl rfl rfl hd hR) ⟨zPc.blind, hpre⟩ rfl (by rw [List.length_map]; exact zok_len hok) hL.1.1 hstk (lv_room (zrest r hr4)) d ⟨by omega, by omega⟩ T hT X with ⟨v, st₀, t, T', Lc, g0, X', hLc, e1, e2, hqn, st⟩ | ⟨q, st₀, t, T', Lc, E, ce, g0, X', hLc, e1, e2, hxn, hce, hcv, hcl, st⟩
    · obtain ⟨⟨v', h', -, h9, -⟩, -⟩ := hqn
      exact h9.elim
    · exact z_thrown C' htab hM9 (fun k' hk' => (hq1 k' hk').2.1) hI.2.1 g0 X' hLc e1 hxn hce hcv hcl st
theorem z_callV (C : zCx p l R s m args meth c cc nL own z0 D cA M) (htab : ∀ x ∈ c.exceptionTable.toList, False) {ci Nf : Nat} {Cn : String} {Tf : u_T} {idx maxL fr lo n : Nat} {y : MethodName} {bytes : ByteArray} {ret : Option FieldType} {exc : List Value → ZH → Nat → Prop} {ctN : List Value → ZH → (Option Value → ZH → Prop) → Prop} (hc : vwCl[ci]? = some (Cn, Tf, Nf)) (hsem : Sem l z0 b N D cA y bytes maxL ret fr lo (n + 1) exc ctN) (hy : y.cls = Cn) (hlink : Cond.methodLink own idx y ∈ zWS) (hinst : Cond.instanceMethod y ∈ zWS) (hsel : Cond.selects Cn y y ∈ zWS) (hini : Cond.initialized Cn ∈ zWS) (hcode : Cond.code y bytes maxL ret ∈ zWS) (hd : y.cls ≠ "java/lang/invoke/MethodHandle" ∧ y.cls ≠ "java/lang/invoke/VarHandle" ∧ (parseMethodDescriptor y.desc).map (fun d => d.parameters.length) = some n) (hR : fr + 1 ≤ R.frames ∧ 8 + (maxL + 11) + lo ≤ R.locals) (d : decode cc pc = .ok (.invokevirtual idx, 3)) (hK : Snd p l e R s m args below meth c nL z0 b (zI z0 b N D cA s) (fun _ => (0, 0)) (vx_MQ below (zQn z0 b N D cA Kn) (zXn z0 b N D cA Kx h0) args s M (6 * M) (fun q => z0 ≤ q)) (pc + 3) K)
    (ls : List (Option Value)) (a0 : Nat) (a r fs : List Value) (h : ZH) (hrc : h a0 = .inr (ci, fs)) (hfs : 0 < fs.length) (hq : zcall M (n + 1) exc ctN Kx h0 K ls (.ref a0 :: a) r h) : AW p l e R s m args below meth c nL z0 b (zI z0 b N D cA s) (fun _ => (0, 0)) (vx_MQ below (zQn z0 b N D cA Kn) (zXn z0 b N D cA Kx h0) args s M (6 * M) (fun q => z0 ≤ q)) pc ls (a.reverse ++ .ref a0 :: r) h := by
  intro H locs L hI hL
  have C' := C
  obtain ⟨hx, hb, hml, hown, hts, hg, hz, hz0, hlocks, hlt, hM1, hM2⟩ := C
  obtain ⟨hok, hr4, hq1, hq2⟩ := hq
  have hG : GoodIn zWS (wsV own idx Cn y (Cond.code y bytes maxL ret :: zWS)) := zGood (fun w hw => by
    simp only [wsV, List.mem_append, List.mem_cons, List.not_mem_nil, or_false] at hw
    rcases hw with (rfl | rfl | rfl | rfl) | rfl | hw <;> assumption)
  have hpre := zPre (a := .ref a0 :: a) hg hz hz0 hI
  have hnd : ¬ (Sum.inr (ci, fs) : va_E) = zdum := fun z => by cases z; simp at hfs
  have hrecv := va_recv hg.1 hI.1 hc (hI.get hrc hnd)
  have hstk : ((a.reverse ++ .ref a0 :: r).map (zc z0 b)) = (a.map (zc z0 b)).reverse ++ .ref (z0 + a0) :: r.map (zc z0 b) := by rw [List.map_append, List.map_reverse]; rfl
  have hlen : (a.map (zc z0 b)).length = n := by
    have := zok_len hok
    rw [List.length_map]
    simpa using this
  intro T hT X
  by_cases hex : ∀ k, ¬ exc (.ref a0 :: a) h k
  · skip
    have hM := hsem 0 (.ref a0 :: a) h (fun v h' => K ls (v.toList ++ r) h') (fun _ => False) hok (fun k hk => (hex k hk).elim) hq2
    rcases vx_runV (g := F0 m pc L ((a.reverse ++ .ref a0 :: r).map (zc z0 b))) (H := H) (locs := locs) (cells := 0) (slots := 0) (e := e) (below := below) (meth := meth) (R := R) (C := Cn) (b := z0 + a0) (As := a.map (zc z0 b)) (rest := r.map (zc z0 b)) ⟨hx, hb, hml, hown, hts⟩ hM (cwV n hts hG rfl rfl rfl ⟨hy, hd⟩ hR) ⟨zPc.blind, hrecv, hpre⟩ rfl hlen hL.1.1 hstk (lv_room (zrest r hr4)) d ⟨Nat.zero_le _, Nat.zero_le _⟩ T hT X with ⟨v, st₀, t, T', Lc, g0, X', hLc, e1, e2, hqn, st⟩ | ⟨q, st₀, t, T', Lc, E, ce, g0, X', hLc, e1, e2, hxn, hce, hcv, hcl, st⟩
    · exact z_after hK (fun v h' h9 => h9) hz0 hI.2.1 hL g0 X' hLc e1 hqn st
    · obtain ⟨⟨k', -, h9, -⟩, -⟩ := hxn
      exact h9.elim
  · obtain ⟨k, hexk⟩ := Classical.not_forall.mp hex
    have hexk := Classical.not_not.mp hexk
    obtain ⟨hM9, -, rfl⟩ := hq1 k hexk
    have hM := hsem 1 (.ref a0 :: a) h (fun _ _ => False) (fun k' => exc (.ref a0 :: a) h k') hok (fun k' hk => ⟨rfl, hk⟩) (fun h9 => (h9 k hexk).elim)
    rcases vx_runV (g := F0 m pc L ((a.reverse ++ .ref a0 :: r).map (zc z0 b))) (H := H) (locs := locs) (cells := 0) (slots := 0) (e := e) (below := below) (meth := meth) (R := R) (C := Cn) (b := z0 + a0) (As := a.map (zc z0 b)) (rest := r.map (zc z0 b)) ⟨hx, hb, hml, hown, hts⟩ hM (cwV n hts hG rfl rfl rfl ⟨hy, hd⟩ hR) ⟨zPc.blind, hrecv, hpre⟩ rfl hlen hL.1.1 hstk (lv_room (zrest r hr4)) d ⟨by omega, by omega⟩ T hT X with ⟨v, st₀, t, T', Lc, g0, X', hLc, e1, e2, hqn, st⟩ | ⟨q, st₀, t, T', Lc, E, ce, g0, X', hLc, e1, e2, hxn, hce, hcv, hcl, st⟩
    · obtain ⟨⟨v', h', -, h9, -⟩, -⟩ := hqn
      exact h9.elim
    · exact z_thrown C' htab hM9 (fun k' hk' => (hq1 k' hk').2.1) hI.2.1 g0 X' hLc e1 hxn hce hcv hcl st
theorem z_callSN (C : zCx p l R s m args meth c cc nL own z0 D cA M) {host : String} {idx maxL fr lo n : Nat} {y : MethodName} {bytes : ByteArray} {ret : Option FieldType} {exc : List Value → ZH → Nat → Prop} {ctN : List Value → ZH → (Option Value → ZH → Prop) → Prop} (hsem : Sem l z0 b N D cA y bytes maxL ret fr lo n exc ctN) (hnest : (own, idx, y, host) ∈ zNest) (hex : ∀ a h k, ¬ exc a h k) (hstat : Cond.static y ∈ zWS) (hini : Cond.initialized y.cls ∈ zWS) (hcode : Cond.code y bytes maxL ret ∈ zWS) (hd : y.cls ≠ "java/lang/invoke/MethodHandle" ∧ y.cls ≠ "java/lang/invoke/VarHandle" ∧ (parseMethodDescriptor y.desc).map (fun d => d.parameters.length) = some n) (hR : fr + 1 ≤ R.frames ∧ 8 + (maxL + 11) + lo ≤ R.locals) (d : decode cc pc = .ok (.invokestatic idx, 3)) (hK : Snd p l e R s m args below meth c nL z0 b (zI z0 b N D cA s) (fun _ => (0, 0)) (vx_MQ below (zQn z0 b N D cA Kn) (zXn z0 b N D cA Kx h0) args s M (6 * M) (fun q => z0 ≤ q)) (pc + 3) K)
    (ls : List (Option Value)) (a r : List Value) (h : ZH) (hq : zcall M n exc ctN Kx h0 K ls a r h) : AW p l e R s m args below meth c nL z0 b (zI z0 b N D cA s) (fun _ => (0, 0)) (vx_MQ below (zQn z0 b N D cA Kn) (zXn z0 b N D cA Kx h0) args s M (6 * M) (fun q => z0 ≤ q)) pc ls (a.reverse ++ r) h := by
  intro H locs L hI hL
  obtain ⟨hx, hb, hml, hown, hts, hg, hz, hz0, hlocks, hlt, hM1, hM2⟩ := C
  obtain ⟨hok, hr4, hq1, hq2⟩ := hq
  have hG : GoodIn zWS (Cond.code y bytes maxL ret :: zWS) := zGood (fun w hw => by
    rcases List.mem_cons.mp hw with rfl | hw <;> assumption)
  have hpre := zPre (a := a) hg hz hz0 hI
  have hstk : ((a.reverse ++ r).map (zc z0 b)) = (a.map (zc z0 b)).reverse ++ r.map (zc z0 b) := by rw [List.map_append, List.map_reverse]
  intro T hT X
  have hM := zMet (hsem 0 a h (fun v h' => K ls (v.toList ++ r) h') (fun _ => False) hok (fun k hk => (hex _ _ _ hk).elim) hq2) (fun E st t hxn => by
    obtain ⟨⟨k', -, h9, -⟩, -⟩ := hxn
    exact h9)
  obtain ⟨v, st₀, t, T', Lc, g0, X', hLc, e1, e2, hqn, st⟩ := va_runSN (g := F0 m pc L ((a.reverse ++ r).map (zc z0 b))) (H := H) (locs := locs) (cells := 0) (slots := 0) (e := e) (below := below) (meth := meth) (R := R) (As := a.map (zc z0 b)) (rest := r.map (zc z0 b)) ⟨hx, hb, hml, hown, hts⟩ hM ⟨va_cnB n hts hG rfl rfl rfl (hg.2.1 _ hnest) (hts _ hini) hd hR, hts _ hstat, trivial⟩ ⟨zPc.blind, hpre⟩ rfl (by rw [List.length_map]; exact zok_len hok) hL.1.1 hstk (lv_room (zrest r hr4)) d ⟨Nat.zero_le _, Nat.zero_le _⟩ T hT X
  exact z_after hK (fun v h' h9 => h9) hz0 hI.2.1 hL g0 X' hLc e1 hqn st
theorem k_callS0 (C : zCx p l R s m args meth c cc nL own z0 D cA M) (htab : ∀ x ∈ c.exceptionTable.toList, False) {idx maxL fr lo : Nat} {y : MethodName} {bytes : ByteArray} {ret : Option FieldType} {exc : List Value → ZH → Nat → Prop} {ctN : List Value → ZH → (Option Value → ZH → Prop) → Prop} (hsem : Sem l z0 b N D cA y bytes maxL ret fr lo 0 exc ctN) (hlink : Cond.methodLink own idx y ∈ zWS) (hstat : Cond.static y ∈ zWS) (hini : Cond.initialized y.cls ∈ zWS) (hcode : Cond.code y bytes maxL ret ∈ zWS) (hd : y.cls ≠ "java/lang/invoke/MethodHandle" ∧ y.cls ≠ "java/lang/invoke/VarHandle" ∧ (parseMethodDescriptor y.desc).map (fun d => d.parameters.length) = some 0) (hR : fr + 1 ≤ R.frames ∧ 8 + (maxL + 11) + lo ≤ R.locals) (d : decode cc pc = .ok (.invokestatic idx, 3)) (hK : Snd p l e R s m args below meth c nL z0 b (zI z0 b N D cA s) (fun _ => (0, 0)) (vx_MQ below (zQn z0 b N D cA Kn) (zXn z0 b N D cA Kx h0) args s M (6 * M) (fun q => z0 ≤ q)) (pc + 3) K) : Snd p l e R s m args below meth c nL z0 b (zI z0 b N D cA s) (fun _ => (0, 0)) (vx_MQ below (zQn z0 b N D cA Kn) (zXn z0 b N D cA Kx h0) args s M (6 * M) (fun q => z0 ≤ q)) pc (o_callS0 M exc ctN Kx h0 K) := by
  intro ls st h hq
  exact z_callS C htab hsem hlink hstat hini hcode hd hR d hK ls [] st h hq
theorem k_callS1 (C : zCx p l R s m args meth c cc nL own z0 D cA M) (htab : ∀ x ∈ c.exceptionTable.toList, False) {idx maxL fr lo : Nat} {y : MethodName} {bytes : ByteArray} {ret : Option FieldType} {exc : List Value → ZH → Nat → Prop} {ctN : List Value → ZH → (Option Value → ZH → Prop) → Prop} (hsem : Sem l z0 b N D cA y bytes maxL ret fr lo 1 exc ctN) (hlink : Cond.methodLink own idx y ∈ zWS) (hstat : Cond.static y ∈ zWS) (hini : Cond.initialized y.cls ∈ zWS) (hcode : Cond.code y bytes maxL ret ∈ zWS) (hd : y.cls ≠ "java/lang/invoke/MethodHandle" ∧ y.cls ≠ "java/lang/invoke/VarHandle" ∧ (parseMethodDescriptor y.desc).map (fun d => d.parameters.length) = some 1) (hR : fr + 1 ≤ R.frames ∧ 8 + (maxL + 11) + lo ≤ R.locals) (d : decode cc pc = .ok (.invokestatic idx, 3)) (hK : Snd p l e R s m args below meth c nL z0 b (zI z0 b N D cA s) (fun _ => (0, 0)) (vx_MQ below (zQn z0 b N D cA Kn) (zXn z0 b N D cA Kx h0) args s M (6 * M) (fun q => z0 ≤ q)) (pc + 3) K) : Snd p l e R s m args below meth c nL z0 b (zI z0 b N D cA s) (fun _ => (0, 0)) (vx_MQ below (zQn z0 b N D cA Kn) (zXn z0 b N D cA Kx h0) args s M (6 * M) (fun q => z0 ≤ q)) pc (o_callS1 M exc ctN Kx h0 K) := by
  intro ls st h hq
  unfold o_callS1 at hq
  split at hq
  · next v0 r =>
    exact z_callS C htab hsem hlink hstat hini hcode hd hR d hK ls [v0] r h hq
  · exact hq.elim
theorem k_callS2 (C : zCx p l R s m args meth c cc nL own z0 D cA M) (htab : ∀ x ∈ c.exceptionTable.toList, False) {idx maxL fr lo : Nat} {y : MethodName} {bytes : ByteArray} {ret : Option FieldType} {exc : List Value → ZH → Nat → Prop} {ctN : List Value → ZH → (Option Value → ZH → Prop) → Prop} (hsem : Sem l z0 b N D cA y bytes maxL ret fr lo 2 exc ctN) (hlink : Cond.methodLink own idx y ∈ zWS) (hstat : Cond.static y ∈ zWS) (hini : Cond.initialized y.cls ∈ zWS) (hcode : Cond.code y bytes maxL ret ∈ zWS) (hd : y.cls ≠ "java/lang/invoke/MethodHandle" ∧ y.cls ≠ "java/lang/invoke/VarHandle" ∧ (parseMethodDescriptor y.desc).map (fun d => d.parameters.length) = some 2) (hR : fr + 1 ≤ R.frames ∧ 8 + (maxL + 11) + lo ≤ R.locals) (d : decode cc pc = .ok (.invokestatic idx, 3)) (hK : Snd p l e R s m args below meth c nL z0 b (zI z0 b N D cA s) (fun _ => (0, 0)) (vx_MQ below (zQn z0 b N D cA Kn) (zXn z0 b N D cA Kx h0) args s M (6 * M) (fun q => z0 ≤ q)) (pc + 3) K) : Snd p l e R s m args below meth c nL z0 b (zI z0 b N D cA s) (fun _ => (0, 0)) (vx_MQ below (zQn z0 b N D cA Kn) (zXn z0 b N D cA Kx h0) args s M (6 * M) (fun q => z0 ≤ q)) pc (o_callS2 M exc ctN Kx h0 K) := by
  intro ls st h hq
  unfold o_callS2 at hq
  split at hq
  · next v1 v0 r =>
    exact z_callS C htab hsem hlink hstat hini hcode hd hR d hK ls [v0, v1] r h hq
  · exact hq.elim
theorem k_callS3 (C : zCx p l R s m args meth c cc nL own z0 D cA M) (htab : ∀ x ∈ c.exceptionTable.toList, False) {idx maxL fr lo : Nat} {y : MethodName} {bytes : ByteArray} {ret : Option FieldType} {exc : List Value → ZH → Nat → Prop} {ctN : List Value → ZH → (Option Value → ZH → Prop) → Prop} (hsem : Sem l z0 b N D cA y bytes maxL ret fr lo 3 exc ctN) (hlink : Cond.methodLink own idx y ∈ zWS) (hstat : Cond.static y ∈ zWS) (hini : Cond.initialized y.cls ∈ zWS) (hcode : Cond.code y bytes maxL ret ∈ zWS) (hd : y.cls ≠ "java/lang/invoke/MethodHandle" ∧ y.cls ≠ "java/lang/invoke/VarHandle" ∧ (parseMethodDescriptor y.desc).map (fun d => d.parameters.length) = some 3) (hR : fr + 1 ≤ R.frames ∧ 8 + (maxL + 11) + lo ≤ R.locals) (d : decode cc pc = .ok (.invokestatic idx, 3)) (hK : Snd p l e R s m args below meth c nL z0 b (zI z0 b N D cA s) (fun _ => (0, 0)) (vx_MQ below (zQn z0 b N D cA Kn) (zXn z0 b N D cA Kx h0) args s M (6 * M) (fun q => z0 ≤ q)) (pc + 3) K) : Snd p l e R s m args below meth c nL z0 b (zI z0 b N D cA s) (fun _ => (0, 0)) (vx_MQ below (zQn z0 b N D cA Kn) (zXn z0 b N D cA Kx h0) args s M (6 * M) (fun q => z0 ≤ q)) pc (o_callS3 M exc ctN Kx h0 K) := by
  intro ls st h hq
  unfold o_callS3 at hq
  split at hq
  · next v2 v1 v0 r =>
    exact z_callS C htab hsem hlink hstat hini hcode hd hR d hK ls [v0, v1, v2] r h hq
  · exact hq.elim
theorem k_callS4 (C : zCx p l R s m args meth c cc nL own z0 D cA M) (htab : ∀ x ∈ c.exceptionTable.toList, False) {idx maxL fr lo : Nat} {y : MethodName} {bytes : ByteArray} {ret : Option FieldType} {exc : List Value → ZH → Nat → Prop} {ctN : List Value → ZH → (Option Value → ZH → Prop) → Prop} (hsem : Sem l z0 b N D cA y bytes maxL ret fr lo 4 exc ctN) (hlink : Cond.methodLink own idx y ∈ zWS) (hstat : Cond.static y ∈ zWS) (hini : Cond.initialized y.cls ∈ zWS) (hcode : Cond.code y bytes maxL ret ∈ zWS) (hd : y.cls ≠ "java/lang/invoke/MethodHandle" ∧ y.cls ≠ "java/lang/invoke/VarHandle" ∧ (parseMethodDescriptor y.desc).map (fun d => d.parameters.length) = some 4) (hR : fr + 1 ≤ R.frames ∧ 8 + (maxL + 11) + lo ≤ R.locals) (d : decode cc pc = .ok (.invokestatic idx, 3)) (hK : Snd p l e R s m args below meth c nL z0 b (zI z0 b N D cA s) (fun _ => (0, 0)) (vx_MQ below (zQn z0 b N D cA Kn) (zXn z0 b N D cA Kx h0) args s M (6 * M) (fun q => z0 ≤ q)) (pc + 3) K) : Snd p l e R s m args below meth c nL z0 b (zI z0 b N D cA s) (fun _ => (0, 0)) (vx_MQ below (zQn z0 b N D cA Kn) (zXn z0 b N D cA Kx h0) args s M (6 * M) (fun q => z0 ≤ q)) pc (o_callS4 M exc ctN Kx h0 K) := by
  intro ls st h hq
  unfold o_callS4 at hq
  split at hq
  · next v3 v2 v1 v0 r =>
    exact z_callS C htab hsem hlink hstat hini hcode hd hR d hK ls [v0, v1, v2, v3] r h hq
  · exact hq.elim
theorem k_callS5 (C : zCx p l R s m args meth c cc nL own z0 D cA M) (htab : ∀ x ∈ c.exceptionTable.toList, False) {idx maxL fr lo : Nat} {y : MethodName} {bytes : ByteArray} {ret : Option FieldType} {exc : List Value → ZH → Nat → Prop} {ctN : List Value → ZH → (Option Value → ZH → Prop) → Prop} (hsem : Sem l z0 b N D cA y bytes maxL ret fr lo 5 exc ctN) (hlink : Cond.methodLink own idx y ∈ zWS) (hstat : Cond.static y ∈ zWS) (hini : Cond.initialized y.cls ∈ zWS) (hcode : Cond.code y bytes maxL ret ∈ zWS) (hd : y.cls ≠ "java/lang/invoke/MethodHandle" ∧ y.cls ≠ "java/lang/invoke/VarHandle" ∧ (parseMethodDescriptor y.desc).map (fun d => d.parameters.length) = some 5) (hR : fr + 1 ≤ R.frames ∧ 8 + (maxL + 11) + lo ≤ R.locals) (d : decode cc pc = .ok (.invokestatic idx, 3)) (hK : Snd p l e R s m args below meth c nL z0 b (zI z0 b N D cA s) (fun _ => (0, 0)) (vx_MQ below (zQn z0 b N D cA Kn) (zXn z0 b N D cA Kx h0) args s M (6 * M) (fun q => z0 ≤ q)) (pc + 3) K) : Snd p l e R s m args below meth c nL z0 b (zI z0 b N D cA s) (fun _ => (0, 0)) (vx_MQ below (zQn z0 b N D cA Kn) (zXn z0 b N D cA Kx h0) args s M (6 * M) (fun q => z0 ≤ q)) pc (o_callS5 M exc ctN Kx h0 K) := by
  intro ls st h hq
  unfold o_callS5 at hq
  split at hq
  · next v4 v3 v2 v1 v0 r =>
    exact z_callS C htab hsem hlink hstat hini hcode hd hR d hK ls [v0, v1, v2, v3, v4] r h hq
  · exact hq.elim
theorem k_callSN0 (C : zCx p l R s m args meth c cc nL own z0 D cA M) {idx maxL fr lo : Nat} {y : MethodName} {bytes : ByteArray} {ret : Option FieldType} {exc : List Value → ZH → Nat → Prop} {ctN : List Value → ZH → (Option Value → ZH → Prop) → Prop} (hsem : Sem l z0 b N D cA y bytes maxL ret fr lo 0 exc ctN) {host : String} (hnest : (own, idx, y, host) ∈ zNest) (hex : ∀ a h k, ¬ exc a h k) (hstat : Cond.static y ∈ zWS) (hini : Cond.initialized y.cls ∈ zWS) (hcode : Cond.code y bytes maxL ret ∈ zWS) (hd : y.cls ≠ "java/lang/invoke/MethodHandle" ∧ y.cls ≠ "java/lang/invoke/VarHandle" ∧ (parseMethodDescriptor y.desc).map (fun d => d.parameters.length) = some 0) (hR : fr + 1 ≤ R.frames ∧ 8 + (maxL + 11) + lo ≤ R.locals) (d : decode cc pc = .ok (.invokestatic idx, 3)) (hK : Snd p l e R s m args below meth c nL z0 b (zI z0 b N D cA s) (fun _ => (0, 0)) (vx_MQ below (zQn z0 b N D cA Kn) (zXn z0 b N D cA Kx h0) args s M (6 * M) (fun q => z0 ≤ q)) (pc + 3) K) : Snd p l e R s m args below meth c nL z0 b (zI z0 b N D cA s) (fun _ => (0, 0)) (vx_MQ below (zQn z0 b N D cA Kn) (zXn z0 b N D cA Kx h0) args s M (6 * M) (fun q => z0 ≤ q)) pc (o_callS0 M exc ctN Kx h0 K) := by
  intro ls st h hq
  exact z_callSN C hsem hnest hex hstat hini hcode hd hR d hK ls [] st h hq
theorem k_callSN1 (C : zCx p l R s m args meth c cc nL own z0 D cA M) {idx maxL fr lo : Nat} {y : MethodName} {bytes : ByteArray} {ret : Option FieldType} {exc : List Value → ZH → Nat → Prop} {ctN : List Value → ZH → (Option Value → ZH → Prop) → Prop} (hsem : Sem l z0 b N D cA y bytes maxL ret fr lo 1 exc ctN) {host : String} (hnest : (own, idx, y, host) ∈ zNest) (hex : ∀ a h k, ¬ exc a h k) (hstat : Cond.static y ∈ zWS) (hini : Cond.initialized y.cls ∈ zWS) (hcode : Cond.code y bytes maxL ret ∈ zWS) (hd : y.cls ≠ "java/lang/invoke/MethodHandle" ∧ y.cls ≠ "java/lang/invoke/VarHandle" ∧ (parseMethodDescriptor y.desc).map (fun d => d.parameters.length) = some 1) (hR : fr + 1 ≤ R.frames ∧ 8 + (maxL + 11) + lo ≤ R.locals) (d : decode cc pc = .ok (.invokestatic idx, 3)) (hK : Snd p l e R s m args below meth c nL z0 b (zI z0 b N D cA s) (fun _ => (0, 0)) (vx_MQ below (zQn z0 b N D cA Kn) (zXn z0 b N D cA Kx h0) args s M (6 * M) (fun q => z0 ≤ q)) (pc + 3) K) : Snd p l e R s m args below meth c nL z0 b (zI z0 b N D cA s) (fun _ => (0, 0)) (vx_MQ below (zQn z0 b N D cA Kn) (zXn z0 b N D cA Kx h0) args s M (6 * M) (fun q => z0 ≤ q)) pc (o_callS1 M exc ctN Kx h0 K) := by
  intro ls st h hq
  unfold o_callS1 at hq
  split at hq
  · next v0 r =>
    exact z_callSN C hsem hnest hex hstat hini hcode hd hR d hK ls [v0] r h hq
  · exact hq.elim
theorem k_callSN2 (C : zCx p l R s m args meth c cc nL own z0 D cA M) {idx maxL fr lo : Nat} {y : MethodName} {bytes : ByteArray} {ret : Option FieldType} {exc : List Value → ZH → Nat → Prop} {ctN : List Value → ZH → (Option Value → ZH → Prop) → Prop} (hsem : Sem l z0 b N D cA y bytes maxL ret fr lo 2 exc ctN) {host : String} (hnest : (own, idx, y, host) ∈ zNest) (hex : ∀ a h k, ¬ exc a h k) (hstat : Cond.static y ∈ zWS) (hini : Cond.initialized y.cls ∈ zWS) (hcode : Cond.code y bytes maxL ret ∈ zWS) (hd : y.cls ≠ "java/lang/invoke/MethodHandle" ∧ y.cls ≠ "java/lang/invoke/VarHandle" ∧ (parseMethodDescriptor y.desc).map (fun d => d.parameters.length) = some 2) (hR : fr + 1 ≤ R.frames ∧ 8 + (maxL + 11) + lo ≤ R.locals) (d : decode cc pc = .ok (.invokestatic idx, 3)) (hK : Snd p l e R s m args below meth c nL z0 b (zI z0 b N D cA s) (fun _ => (0, 0)) (vx_MQ below (zQn z0 b N D cA Kn) (zXn z0 b N D cA Kx h0) args s M (6 * M) (fun q => z0 ≤ q)) (pc + 3) K) : Snd p l e R s m args below meth c nL z0 b (zI z0 b N D cA s) (fun _ => (0, 0)) (vx_MQ below (zQn z0 b N D cA Kn) (zXn z0 b N D cA Kx h0) args s M (6 * M) (fun q => z0 ≤ q)) pc (o_callS2 M exc ctN Kx h0 K) := by
  intro ls st h hq
  unfold o_callS2 at hq
  split at hq
  · next v1 v0 r =>
    exact z_callSN C hsem hnest hex hstat hini hcode hd hR d hK ls [v0, v1] r h hq
  · exact hq.elim
theorem k_callSN3 (C : zCx p l R s m args meth c cc nL own z0 D cA M) {idx maxL fr lo : Nat} {y : MethodName} {bytes : ByteArray} {ret : Option FieldType} {exc : List Value → ZH → Nat → Prop} {ctN : List Value → ZH → (Option Value → ZH → Prop) → Prop} (hsem : Sem l z0 b N D cA y bytes maxL ret fr lo 3 exc ctN) {host : String} (hnest : (own, idx, y, host) ∈ zNest) (hex : ∀ a h k, ¬ exc a h k) (hstat : Cond.static y ∈ zWS) (hini : Cond.initialized y.cls ∈ zWS) (hcode : Cond.code y bytes maxL ret ∈ zWS) (hd : y.cls ≠ "java/lang/invoke/MethodHandle" ∧ y.cls ≠ "java/lang/invoke/VarHandle" ∧ (parseMethodDescriptor y.desc).map (fun d => d.parameters.length) = some 3) (hR : fr + 1 ≤ R.frames ∧ 8 + (maxL + 11) + lo ≤ R.locals) (d : decode cc pc = .ok (.invokestatic idx, 3)) (hK : Snd p l e R s m args below meth c nL z0 b (zI z0 b N D cA s) (fun _ => (0, 0)) (vx_MQ below (zQn z0 b N D cA Kn) (zXn z0 b N D cA Kx h0) args s M (6 * M) (fun q => z0 ≤ q)) (pc + 3) K) : Snd p l e R s m args below meth c nL z0 b (zI z0 b N D cA s) (fun _ => (0, 0)) (vx_MQ below (zQn z0 b N D cA Kn) (zXn z0 b N D cA Kx h0) args s M (6 * M) (fun q => z0 ≤ q)) pc (o_callS3 M exc ctN Kx h0 K) := by
  intro ls st h hq
  unfold o_callS3 at hq
  split at hq
  · next v2 v1 v0 r =>
    exact z_callSN C hsem hnest hex hstat hini hcode hd hR d hK ls [v0, v1, v2] r h hq
  · exact hq.elim
theorem k_callSN4 (C : zCx p l R s m args meth c cc nL own z0 D cA M) {idx maxL fr lo : Nat} {y : MethodName} {bytes : ByteArray} {ret : Option FieldType} {exc : List Value → ZH → Nat → Prop} {ctN : List Value → ZH → (Option Value → ZH → Prop) → Prop} (hsem : Sem l z0 b N D cA y bytes maxL ret fr lo 4 exc ctN) {host : String} (hnest : (own, idx, y, host) ∈ zNest) (hex : ∀ a h k, ¬ exc a h k) (hstat : Cond.static y ∈ zWS) (hini : Cond.initialized y.cls ∈ zWS) (hcode : Cond.code y bytes maxL ret ∈ zWS) (hd : y.cls ≠ "java/lang/invoke/MethodHandle" ∧ y.cls ≠ "java/lang/invoke/VarHandle" ∧ (parseMethodDescriptor y.desc).map (fun d => d.parameters.length) = some 4) (hR : fr + 1 ≤ R.frames ∧ 8 + (maxL + 11) + lo ≤ R.locals) (d : decode cc pc = .ok (.invokestatic idx, 3)) (hK : Snd p l e R s m args below meth c nL z0 b (zI z0 b N D cA s) (fun _ => (0, 0)) (vx_MQ below (zQn z0 b N D cA Kn) (zXn z0 b N D cA Kx h0) args s M (6 * M) (fun q => z0 ≤ q)) (pc + 3) K) : Snd p l e R s m args below meth c nL z0 b (zI z0 b N D cA s) (fun _ => (0, 0)) (vx_MQ below (zQn z0 b N D cA Kn) (zXn z0 b N D cA Kx h0) args s M (6 * M) (fun q => z0 ≤ q)) pc (o_callS4 M exc ctN Kx h0 K) := by
  intro ls st h hq
  unfold o_callS4 at hq
  split at hq
  · next v3 v2 v1 v0 r =>
    exact z_callSN C hsem hnest hex hstat hini hcode hd hR d hK ls [v0, v1, v2, v3] r h hq
  · exact hq.elim
theorem k_callSN5 (C : zCx p l R s m args meth c cc nL own z0 D cA M) {idx maxL fr lo : Nat} {y : MethodName} {bytes : ByteArray} {ret : Option FieldType} {exc : List Value → ZH → Nat → Prop} {ctN : List Value → ZH → (Option Value → ZH → Prop) → Prop} (hsem : Sem l z0 b N D cA y bytes maxL ret fr lo 5 exc ctN) {host : String} (hnest : (own, idx, y, host) ∈ zNest) (hex : ∀ a h k, ¬ exc a h k) (hstat : Cond.static y ∈ zWS) (hini : Cond.initialized y.cls ∈ zWS) (hcode : Cond.code y bytes maxL ret ∈ zWS) (hd : y.cls ≠ "java/lang/invoke/MethodHandle" ∧ y.cls ≠ "java/lang/invoke/VarHandle" ∧ (parseMethodDescriptor y.desc).map (fun d => d.parameters.length) = some 5) (hR : fr + 1 ≤ R.frames ∧ 8 + (maxL + 11) + lo ≤ R.locals) (d : decode cc pc = .ok (.invokestatic idx, 3)) (hK : Snd p l e R s m args below meth c nL z0 b (zI z0 b N D cA s) (fun _ => (0, 0)) (vx_MQ below (zQn z0 b N D cA Kn) (zXn z0 b N D cA Kx h0) args s M (6 * M) (fun q => z0 ≤ q)) (pc + 3) K) : Snd p l e R s m args below meth c nL z0 b (zI z0 b N D cA s) (fun _ => (0, 0)) (vx_MQ below (zQn z0 b N D cA Kn) (zXn z0 b N D cA Kx h0) args s M (6 * M) (fun q => z0 ≤ q)) pc (o_callS5 M exc ctN Kx h0 K) := by
  intro ls st h hq
  unfold o_callS5 at hq
  split at hq
  · next v4 v3 v2 v1 v0 r =>
    exact z_callSN C hsem hnest hex hstat hini hcode hd hR d hK ls [v0, v1, v2, v3, v4] r h hq
  · exact hq.elim
theorem k_callV0 (C : zCx p l R s m args meth c cc nL own z0 D cA M) (htab : ∀ x ∈ c.exceptionTable.toList, False) {ci Nf : Nat} {Cn : String} {Tf : u_T} {idx maxL fr lo : Nat} {y : MethodName} {bytes : ByteArray} {ret : Option FieldType} {exc : List Value → ZH → Nat → Prop} {ctN : List Value → ZH → (Option Value → ZH → Prop) → Prop} (hc : vwCl[ci]? = some (Cn, Tf, Nf)) (hsem : Sem l z0 b N D cA y bytes maxL ret fr lo 1 exc ctN) (hy : y.cls = Cn) (hlink : Cond.methodLink own idx y ∈ zWS) (hinst : Cond.instanceMethod y ∈ zWS) (hsel : Cond.selects Cn y y ∈ zWS) (hini : Cond.initialized Cn ∈ zWS) (hcode : Cond.code y bytes maxL ret ∈ zWS) (hd : y.cls ≠ "java/lang/invoke/MethodHandle" ∧ y.cls ≠ "java/lang/invoke/VarHandle" ∧ (parseMethodDescriptor y.desc).map (fun d => d.parameters.length) = some 0) (hR : fr + 1 ≤ R.frames ∧ 8 + (maxL + 11) + lo ≤ R.locals) (d : decode cc pc = .ok (.invokevirtual idx, 3)) (hK : Snd p l e R s m args below meth c nL z0 b (zI z0 b N D cA s) (fun _ => (0, 0)) (vx_MQ below (zQn z0 b N D cA Kn) (zXn z0 b N D cA Kx h0) args s M (6 * M) (fun q => z0 ≤ q)) (pc + 3) K) : Snd p l e R s m args below meth c nL z0 b (zI z0 b N D cA s) (fun _ => (0, 0)) (vx_MQ below (zQn z0 b N D cA Kn) (zXn z0 b N D cA Kx h0) args s M (6 * M) (fun q => z0 ≤ q)) pc (o_callV0 M ci exc ctN Kx h0 K) := by
  intro ls st h hq
  unfold o_callV0 at hq
  split at hq
  · next  a r =>
    split at hq
    · next c' fs hfs =>
      obtain ⟨rfl, hf0, hq⟩ := hq
      exact z_callV C htab hc hsem hy hlink hinst hsel hini hcode hd hR d hK ls _ [] _ fs h hfs hf0 hq
    · exact hq.elim
  · exact hq.elim
theorem k_callV1 (C : zCx p l R s m args meth c cc nL own z0 D cA M) (htab : ∀ x ∈ c.exceptionTable.toList, False) {ci Nf : Nat} {Cn : String} {Tf : u_T} {idx maxL fr lo : Nat} {y : MethodName} {bytes : ByteArray} {ret : Option FieldType} {exc : List Value → ZH → Nat → Prop} {ctN : List Value → ZH → (Option Value → ZH → Prop) → Prop} (hc : vwCl[ci]? = some (Cn, Tf, Nf)) (hsem : Sem l z0 b N D cA y bytes maxL ret fr lo 2 exc ctN) (hy : y.cls = Cn) (hlink : Cond.methodLink own idx y ∈ zWS) (hinst : Cond.instanceMethod y ∈ zWS) (hsel : Cond.selects Cn y y ∈ zWS) (hini : Cond.initialized Cn ∈ zWS) (hcode : Cond.code y bytes maxL ret ∈ zWS) (hd : y.cls ≠ "java/lang/invoke/MethodHandle" ∧ y.cls ≠ "java/lang/invoke/VarHandle" ∧ (parseMethodDescriptor y.desc).map (fun d => d.parameters.length) = some 1) (hR : fr + 1 ≤ R.frames ∧ 8 + (maxL + 11) + lo ≤ R.locals) (d : decode cc pc = .ok (.invokevirtual idx, 3)) (hK : Snd p l e R s m args below meth c nL z0 b (zI z0 b N D cA s) (fun _ => (0, 0)) (vx_MQ below (zQn z0 b N D cA Kn) (zXn z0 b N D cA Kx h0) args s M (6 * M) (fun q => z0 ≤ q)) (pc + 3) K) : Snd p l e R s m args below meth c nL z0 b (zI z0 b N D cA s) (fun _ => (0, 0)) (vx_MQ below (zQn z0 b N D cA Kn) (zXn z0 b N D cA Kx h0) args s M (6 * M) (fun q => z0 ≤ q)) pc (o_callV1 M ci exc ctN Kx h0 K) := by
  intro ls st h hq
  unfold o_callV1 at hq
  split at hq
  · next v0 a r =>
    split at hq
    · next c' fs hfs =>
      obtain ⟨rfl, hf0, hq⟩ := hq
      exact z_callV C htab hc hsem hy hlink hinst hsel hini hcode hd hR d hK ls _ [v0] _ fs h hfs hf0 hq
    · exact hq.elim
  · exact hq.elim
theorem k_callV2 (C : zCx p l R s m args meth c cc nL own z0 D cA M) (htab : ∀ x ∈ c.exceptionTable.toList, False) {ci Nf : Nat} {Cn : String} {Tf : u_T} {idx maxL fr lo : Nat} {y : MethodName} {bytes : ByteArray} {ret : Option FieldType} {exc : List Value → ZH → Nat → Prop} {ctN : List Value → ZH → (Option Value → ZH → Prop) → Prop} (hc : vwCl[ci]? = some (Cn, Tf, Nf)) (hsem : Sem l z0 b N D cA y bytes maxL ret fr lo 3 exc ctN) (hy : y.cls = Cn) (hlink : Cond.methodLink own idx y ∈ zWS) (hinst : Cond.instanceMethod y ∈ zWS) (hsel : Cond.selects Cn y y ∈ zWS) (hini : Cond.initialized Cn ∈ zWS) (hcode : Cond.code y bytes maxL ret ∈ zWS) (hd : y.cls ≠ "java/lang/invoke/MethodHandle" ∧ y.cls ≠ "java/lang/invoke/VarHandle" ∧ (parseMethodDescriptor y.desc).map (fun d => d.parameters.length) = some 2) (hR : fr + 1 ≤ R.frames ∧ 8 + (maxL + 11) + lo ≤ R.locals) (d : decode cc pc = .ok (.invokevirtual idx, 3)) (hK : Snd p l e R s m args below meth c nL z0 b (zI z0 b N D cA s) (fun _ => (0, 0)) (vx_MQ below (zQn z0 b N D cA Kn) (zXn z0 b N D cA Kx h0) args s M (6 * M) (fun q => z0 ≤ q)) (pc + 3) K) : Snd p l e R s m args below meth c nL z0 b (zI z0 b N D cA s) (fun _ => (0, 0)) (vx_MQ below (zQn z0 b N D cA Kn) (zXn z0 b N D cA Kx h0) args s M (6 * M) (fun q => z0 ≤ q)) pc (o_callV2 M ci exc ctN Kx h0 K) := by
  intro ls st h hq
  unfold o_callV2 at hq
  split at hq
  · next v1 v0 a r =>
    split at hq
    · next c' fs hfs =>
      obtain ⟨rfl, hf0, hq⟩ := hq
      exact z_callV C htab hc hsem hy hlink hinst hsel hini hcode hd hR d hK ls _ [v0, v1] _ fs h hfs hf0 hq
    · exact hq.elim
  · exact hq.elim
theorem k_callV3 (C : zCx p l R s m args meth c cc nL own z0 D cA M) (htab : ∀ x ∈ c.exceptionTable.toList, False) {ci Nf : Nat} {Cn : String} {Tf : u_T} {idx maxL fr lo : Nat} {y : MethodName} {bytes : ByteArray} {ret : Option FieldType} {exc : List Value → ZH → Nat → Prop} {ctN : List Value → ZH → (Option Value → ZH → Prop) → Prop} (hc : vwCl[ci]? = some (Cn, Tf, Nf)) (hsem : Sem l z0 b N D cA y bytes maxL ret fr lo 4 exc ctN) (hy : y.cls = Cn) (hlink : Cond.methodLink own idx y ∈ zWS) (hinst : Cond.instanceMethod y ∈ zWS) (hsel : Cond.selects Cn y y ∈ zWS) (hini : Cond.initialized Cn ∈ zWS) (hcode : Cond.code y bytes maxL ret ∈ zWS) (hd : y.cls ≠ "java/lang/invoke/MethodHandle" ∧ y.cls ≠ "java/lang/invoke/VarHandle" ∧ (parseMethodDescriptor y.desc).map (fun d => d.parameters.length) = some 3) (hR : fr + 1 ≤ R.frames ∧ 8 + (maxL + 11) + lo ≤ R.locals) (d : decode cc pc = .ok (.invokevirtual idx, 3)) (hK : Snd p l e R s m args below meth c nL z0 b (zI z0 b N D cA s) (fun _ => (0, 0)) (vx_MQ below (zQn z0 b N D cA Kn) (zXn z0 b N D cA Kx h0) args s M (6 * M) (fun q => z0 ≤ q)) (pc + 3) K) : Snd p l e R s m args below meth c nL z0 b (zI z0 b N D cA s) (fun _ => (0, 0)) (vx_MQ below (zQn z0 b N D cA Kn) (zXn z0 b N D cA Kx h0) args s M (6 * M) (fun q => z0 ≤ q)) pc (o_callV3 M ci exc ctN Kx h0 K) := by
  intro ls st h hq
  unfold o_callV3 at hq
  split at hq
  · next v2 v1 v0 a r =>
    split at hq
    · next c' fs hfs =>
      obtain ⟨rfl, hf0, hq⟩ := hq
      exact z_callV C htab hc hsem hy hlink hinst hsel hini hcode hd hR d hK ls _ [v0, v1, v2] _ fs h hfs hf0 hq
    · exact hq.elim
  · exact hq.elim
theorem k_callV4 (C : zCx p l R s m args meth c cc nL own z0 D cA M) (htab : ∀ x ∈ c.exceptionTable.toList, False) {ci Nf : Nat} {Cn : String} {Tf : u_T} {idx maxL fr lo : Nat} {y : MethodName} {bytes : ByteArray} {ret : Option FieldType} {exc : List Value → ZH → Nat → Prop} {ctN : List Value → ZH → (Option Value → ZH → Prop) → Prop} (hc : vwCl[ci]? = some (Cn, Tf, Nf)) (hsem : Sem l z0 b N D cA y bytes maxL ret fr lo 5 exc ctN) (hy : y.cls = Cn) (hlink : Cond.methodLink own idx y ∈ zWS) (hinst : Cond.instanceMethod y ∈ zWS) (hsel : Cond.selects Cn y y ∈ zWS) (hini : Cond.initialized Cn ∈ zWS) (hcode : Cond.code y bytes maxL ret ∈ zWS) (hd : y.cls ≠ "java/lang/invoke/MethodHandle" ∧ y.cls ≠ "java/lang/invoke/VarHandle" ∧ (parseMethodDescriptor y.desc).map (fun d => d.parameters.length) = some 4) (hR : fr + 1 ≤ R.frames ∧ 8 + (maxL + 11) + lo ≤ R.locals) (d : decode cc pc = .ok (.invokevirtual idx, 3)) (hK : Snd p l e R s m args below meth c nL z0 b (zI z0 b N D cA s) (fun _ => (0, 0)) (vx_MQ below (zQn z0 b N D cA Kn) (zXn z0 b N D cA Kx h0) args s M (6 * M) (fun q => z0 ≤ q)) (pc + 3) K) : Snd p l e R s m args below meth c nL z0 b (zI z0 b N D cA s) (fun _ => (0, 0)) (vx_MQ below (zQn z0 b N D cA Kn) (zXn z0 b N D cA Kx h0) args s M (6 * M) (fun q => z0 ≤ q)) pc (o_callV4 M ci exc ctN Kx h0 K) := by
  intro ls st h hq
  unfold o_callV4 at hq
  split at hq
  · next v3 v2 v1 v0 a r =>
    split at hq
    · next c' fs hfs =>
      obtain ⟨rfl, hf0, hq⟩ := hq
      exact z_callV C htab hc hsem hy hlink hinst hsel hini hcode hd hR d hK ls _ [v0, v1, v2, v3] _ fs h hfs hf0 hq
    · exact hq.elim
  · exact hq.elim
theorem k_callV5 (C : zCx p l R s m args meth c cc nL own z0 D cA M) (htab : ∀ x ∈ c.exceptionTable.toList, False) {ci Nf : Nat} {Cn : String} {Tf : u_T} {idx maxL fr lo : Nat} {y : MethodName} {bytes : ByteArray} {ret : Option FieldType} {exc : List Value → ZH → Nat → Prop} {ctN : List Value → ZH → (Option Value → ZH → Prop) → Prop} (hc : vwCl[ci]? = some (Cn, Tf, Nf)) (hsem : Sem l z0 b N D cA y bytes maxL ret fr lo 6 exc ctN) (hy : y.cls = Cn) (hlink : Cond.methodLink own idx y ∈ zWS) (hinst : Cond.instanceMethod y ∈ zWS) (hsel : Cond.selects Cn y y ∈ zWS) (hini : Cond.initialized Cn ∈ zWS) (hcode : Cond.code y bytes maxL ret ∈ zWS) (hd : y.cls ≠ "java/lang/invoke/MethodHandle" ∧ y.cls ≠ "java/lang/invoke/VarHandle" ∧ (parseMethodDescriptor y.desc).map (fun d => d.parameters.length) = some 5) (hR : fr + 1 ≤ R.frames ∧ 8 + (maxL + 11) + lo ≤ R.locals) (d : decode cc pc = .ok (.invokevirtual idx, 3)) (hK : Snd p l e R s m args below meth c nL z0 b (zI z0 b N D cA s) (fun _ => (0, 0)) (vx_MQ below (zQn z0 b N D cA Kn) (zXn z0 b N D cA Kx h0) args s M (6 * M) (fun q => z0 ≤ q)) (pc + 3) K) : Snd p l e R s m args below meth c nL z0 b (zI z0 b N D cA s) (fun _ => (0, 0)) (vx_MQ below (zQn z0 b N D cA Kn) (zXn z0 b N D cA Kx h0) args s M (6 * M) (fun q => z0 ≤ q)) pc (o_callV5 M ci exc ctN Kx h0 K) := by
  intro ls st h hq
  unfold o_callV5 at hq
  split at hq
  · next v4 v3 v2 v1 v0 a r =>
    split at hq
    · next c' fs hfs =>
      obtain ⟨rfl, hf0, hq⟩ := hq
      exact z_callV C htab hc hsem hy hlink hinst hsel hini hcode hd hR d hK ls _ [v0, v1, v2, v3, v4] _ fs h hfs hf0 hq
    · exact hq.elim
  · exact hq.elim
end KC

section KB
variable {l : Launch} {z0 b N : Nat} {D : va_G} {cA : Nat → ClassId}
def zE (nL : Nat) (a : List Value) : List (Option Value) := a.map some ++ List.replicate (nL - a.length) none
theorem zE_at {nL : Nat} {a : List Value} {k : Nat} {v : Value} (h : (zE nL a)[k]? = some (some v)) : a[k]? = some v := by
  unfold zE at h
  rw [List.getElem?_append] at h
  split at h
  · rw [List.getElem?_map] at h
    cases ha : a[k]? with
    | none => rw [ha] at h; cases h
    | some w => rw [ha] at h; cases h; rfl
  · rw [List.getElem?_replicate] at h
    split at h <;> cases h
theorem lv_args_mem : ∀ (a : List Value) (i : Nat), (∀ v ∈ a, v.category = 1) → ∀ q : Nat × Value, (∃ j v, a[j]? = some v ∧ q = (i + j, v)) → q ∈ lv_args i a
  | [], i, _, q, ⟨j, v, h, _⟩ => by simp at h
  | w :: r, i, hc, q, ⟨j, v, h, hq⟩ => by
    have hw : w.category = 1 := hc w List.mem_cons_self
    unfold lv_args
    rw [if_neg (by rw [hw]; decide)]
    cases j with
    | zero =>
      simp at h
      subst h
      exact List.mem_cons.mpr (Or.inl hq)
    | succ j => exact List.mem_cons_of_mem _ (lv_args_mem r (i + 1) (fun v hv => hc v (List.mem_cons_of_mem _ hv)) q ⟨j, v, by simpa using h, by rw [hq]; congr 1; omega⟩)
theorem lg_sl_len : ∀ (a : List Value), (∀ v ∈ a, v.category = 1) → (lg_sl a).length = a.length
  | [], _ => rfl
  | w :: r, hc => by
    have hw : w.category = 1 := hc w List.mem_cons_self
    have h2 := lg_sl_len r (fun v hv => hc v (List.mem_cons_of_mem _ hv))
    unfold lg_sl at h2 ⊢
    rw [List.flatMap_cons, List.length_append, h2, if_neg (by rw [hw]; decide)]
    simp
    omega
theorem zE_ok {nL : Nat} {a : List Value} (hc : ∀ v ∈ a, v.category = 1) (hn : a.length ≤ nL) : zL z0 b ((lg_sl (a.map (zc z0 b)) ++ List.replicate (nL - (lg_sl (a.map (zc z0 b))).length) Slot.unset).toArray) nL (zE nL a) := by
  have hc2 : ∀ v ∈ a.map (zc z0 b), v.category = 1 := fun v hv => by
    obtain ⟨w, hw, rfl⟩ := List.mem_map.mp hv
    rw [zc_cat]
    exact hc w hw
  have h1 := lv_entry (a.map (zc z0 b)) (n := nL) (by rw [lg_sl_len _ hc2, List.length_map]; exact hn)
  refine ⟨⟨h1.1, h1.2.1, fun q hq => ?_⟩, by unfold zE; simp; omega, fun v hv => ?_⟩
  · obtain ⟨j, v, h2, h3⟩ := (zA_mem _ 0 q).mp hq
    refine h1.2.2 q (lv_args_mem _ 0 hc2 q ⟨j, zc z0 b v, ?_, h3⟩)
    rw [List.getElem?_map, zE_at h2]
    rfl
  · obtain ⟨k, hk⟩ := List.getElem?_of_mem hv
    exact hc v (List.mem_of_getElem? (zE_at hk))
theorem sem_of (hlt : l.stackTraces = false) {y : MethodName} {bytes : ByteArray} {maxL fr lo n : Nat} {ret : Option FieldType} {exc : List Value → ZH → Nat → Prop} {ctN : List Value → ZH → (Option Value → ZH → Prop) → Prop} (hy : plainName y.cls = true) (hn : n ≤ maxL)
    (body : ∀ (p : Program) (e : Env) (s : State) (m : MethodId) (args : Array Value) (below : List Frame) (meth : Method) (c : Code) (M : Nat) (a : List Value) (h : ZH) (Kn : Option Value → ZH → Prop) (Kx : Nat → Prop), zok n a = true → (∀ k, exc a h k → M = 1 ∧ Kx k) → ((∀ k, ¬ exc a h k) → ctN a h Kn) →
      zCx p l (zRm fr M lo) s m args meth c bytes maxL y.cls z0 D cA M → meth.sig.returnType = ret → (∀ x ∈ c.exceptionTable.toList, False) →
      AW p l e (zRm fr M lo) s m args below meth c maxL z0 b (zI z0 b N D cA s) (fun _ => (0, 0)) (vx_MQ below (zQn z0 b N D cA Kn) (zXn z0 b N D cA Kx h) args s M (6 * M) (fun q => z0 ≤ q)) 0 (zE maxL a) [] h) :
    Sem l z0 b N D cA y bytes maxL ret fr lo n exc ctN := by
  intro M a h Kn Kx hok hX hN
  refine vx_ofW hy rfl ?_
  intro p e s m args below meth c s₁ B hml htab hv
  obtain ⟨rfl, hz0, hg, hz, hP, hd⟩ := hv
  have hts := atoms_spec (ws := Cond.code y bytes maxL ret :: zWS) B.pre
  have hC : zCx p l (zRm fr M lo) s m (a.map (zc z0 b)).toArray meth c bytes maxL y.cls z0 D cA M := ⟨B.exec, B.bytes, hml, findClass_of_methodNamed B.named, fun w hw => hts w (List.mem_cons_of_mem _ hw), hg, hz, hz0, B.notSynchronized, hlt, Nat.le_refl _, Nat.le_refl _⟩
  have hW := body p e s m (a.map (zc z0 b)).toArray below meth c M a h Kn Kx hok hX hN hC B.returns htab s.heap [] _ ⟨hP, va_S.rf, hd⟩ (zE_ok (zok_cat hok) (by rw [zok_len hok]; exact hn))
  rw [lg_entry_eq]
  exact hW
end KB
end
section
def zno : List Value → ZH → Nat → Prop := fun _ _ _ => False
theorem zinX0 : ∀ w ∈ u_ws RX0 TX0 7, w ∈ zWS := by decide +kernel
theorem zinX1 : ∀ w ∈ u_ws RX1 TX1 5, w ∈ zWS := by decide +kernel
theorem zinX2 : ∀ w ∈ u_ws RX2 TX2 7, w ∈ zWS := by decide +kernel
theorem zinX3 : ∀ w ∈ u_ws RX3 TX3 1, w ∈ zWS := by decide +kernel
theorem zinX4 : ∀ w ∈ u_ws RX4 TX4 5, w ∈ zWS := by decide +kernel
theorem zinX5 : ∀ w ∈ u_ws RX5 TX5 6, w ∈ zWS := by decide +kernel
theorem zinX6 : ∀ w ∈ u_ws RX6 TX6 20, w ∈ zWS := by decide +kernel
theorem zfit0 : Bundle.fit "java/lang/IllegalArgumentException" = true := by decide +kernel
theorem zfit1 : Bundle.fit "java/lang/IllegalStateException" = true := by decide +kernel
theorem zfit2 : Bundle.fit "java/lang/IndexOutOfBoundsException" = true := by decide +kernel
theorem zfitN : ∀ n ∈ zNames, Bundle.fit n = true := by decide +kernel
theorem zat1_55 : ∀ w ∈ (vx_atS RX5 55 "java/lang/IllegalArgumentException" zNames).filter goodWord, w ∈ zWS := fun w h => List.mem_filter.mpr ⟨(by decide +kernel : ∀ w ∈ (vx_atS RX5 55 "java/lang/IllegalArgumentException" zNames).filter goodWord, w ∈ lw_tbl) w h, (List.mem_filter.mp h).2⟩
theorem zat2_55 : ∀ w ∈ (vx_atS RX5 55 "java/lang/IllegalArgumentException" zNames).filter (fun w => !goodWord w), w ∈ zBad "java/lang/IllegalArgumentException" := by decide +kernel
theorem zat3_55 : ∀ w ∈ Cond.classLink RX5 51 "java/lang/IllegalArgumentException" :: Cond.initialized "java/lang/IllegalArgumentException" :: vx_atS RX5 55 "java/lang/IllegalArgumentException" zNames, vx_ot w = true := by decide +kernel
theorem zat1_66 : ∀ w ∈ (vx_atS RX5 66 "java/lang/IllegalStateException" zNames).filter goodWord, w ∈ zWS := fun w h => List.mem_filter.mpr ⟨(by decide +kernel : ∀ w ∈ (vx_atS RX5 66 "java/lang/IllegalStateException" zNames).filter goodWord, w ∈ lw_tbl) w h, (List.mem_filter.mp h).2⟩
theorem zat2_66 : ∀ w ∈ (vx_atS RX5 66 "java/lang/IllegalStateException" zNames).filter (fun w => !goodWord w), w ∈ zBad "java/lang/IllegalStateException" := by decide +kernel
theorem zat3_66 : ∀ w ∈ Cond.classLink RX5 62 "java/lang/IllegalStateException" :: Cond.initialized "java/lang/IllegalStateException" :: vx_atS RX5 66 "java/lang/IllegalStateException" zNames, vx_ot w = true := by decide +kernel
theorem zat1_103 : ∀ w ∈ (vx_atS RX5 103 "java/lang/IndexOutOfBoundsException" zNames).filter goodWord, w ∈ zWS := fun w h => List.mem_filter.mpr ⟨(by decide +kernel : ∀ w ∈ (vx_atS RX5 103 "java/lang/IndexOutOfBoundsException" zNames).filter goodWord, w ∈ lw_tbl) w h, (List.mem_filter.mp h).2⟩
theorem zat2_103 : ∀ w ∈ (vx_atS RX5 103 "java/lang/IndexOutOfBoundsException" zNames).filter (fun w => !goodWord w), w ∈ zBad "java/lang/IndexOutOfBoundsException" := by decide +kernel
theorem zat3_103 : ∀ w ∈ Cond.classLink RX5 99 "java/lang/IndexOutOfBoundsException" :: Cond.initialized "java/lang/IndexOutOfBoundsException" :: vx_atS RX5 103 "java/lang/IndexOutOfBoundsException" zNames, vx_ot w = true := by decide +kernel
theorem zcJ6_bitCount_0f7a4 : Cond.code yJ6_bitCount_0f7a4 cJ6_bitCount_0f7a4 1 (some .int) ∈ zWS := zws_mem 450 (by decide +kernel) rfl
theorem zcJ9_abs_0f7a4 : Cond.code yJ9_abs_0f7a4 cJ9_abs_0f7a4 1 (some .int) ∈ zWS := zws_mem 566 (by decide +kernel) rfl
theorem zcJ9_min_7cf53 : Cond.code yJ9_min_7cf53 cJ9_min_7cf53 2 (some .int) ∈ zWS := zws_mem 447 (by decide +kernel) rfl
theorem zcX0_finishEdit : Cond.code yX0_finishEdit cX0_finishEdit 3 (some .int) ∈ zWS := zws_mem 440 (by decide +kernel) rfl
theorem zcX0_keep : Cond.code yX0_keep cX0_keep 3 none ∈ zWS := zws_mem 444 (by decide +kernel) rfl
theorem zcX0_restoreLatest : Cond.code yX0_restoreLatest cX0_restoreLatest 3 (some .int) ∈ zWS := zws_mem 494 (by decide +kernel) rfl
theorem zcX0_startEdit : Cond.code yX0_startEdit cX0_startEdit 2 none ∈ zWS := zws_mem 432 (by decide +kernel) rfl
theorem zcX1_addDraft : Cond.code yX1_addDraft cX1_addDraft 2 (some .int) ∈ zWS := zws_mem 351 (by decide +kernel) rfl
theorem zcX1_append : Cond.code yX1_append cX1_append 2 none ∈ zWS := zws_mem 323 (by decide +kernel) rfl
theorem zcX1_emptyDraft : Cond.code yX1_emptyDraft cX1_emptyDraft 1 none ∈ zWS := zws_mem 378 (by decide +kernel) rfl
theorem zcX1_findDraft : Cond.code yX1_findDraft cX1_findDraft 2 (some .int) ∈ zWS := zws_mem 335 (by decide +kernel) rfl
theorem zcX1_isDraft : Cond.code yX1_isDraft cX1_isDraft 3 (some .boolean) ∈ zWS := zws_mem 339 (by decide +kernel) rfl
theorem zcX1_letterAt : Cond.code yX1_letterAt cX1_letterAt 3 (some .char) ∈ zWS := zws_mem 343 (by decide +kernel) rfl
theorem zcX1_plain : Cond.code yX1_plain cX1_plain 1 (some .char) ∈ zWS := zws_mem 346 (by decide +kernel) rfl
theorem zcX2_add : Cond.code yX2_add cX2_add 4 (some .int) ∈ zWS := zws_mem 516 (by decide +kernel) rfl
theorem zcX2_carryOut : Cond.code yX2_carryOut cX2_carryOut 3 none ∈ zWS := zws_mem 559 (by decide +kernel) rfl
theorem zcX2_isAllowedBy : Cond.code yX2_isAllowedBy cX2_isAllowedBy 3 (some .boolean) ∈ zWS := zws_mem 547 (by decide +kernel) rfl
theorem zcX2_leadOf : Cond.code yX2_leadOf cX2_leadOf 2 (some .int) ∈ zWS := zws_mem 538 (by decide +kernel) rfl
theorem zcX2_setVote : Cond.code yX2_setVote cX2_setVote 5 none ∈ zWS := zws_mem 534 (by decide +kernel) rfl
theorem zcX3_column : Cond.code yX3_column cX3_column 5 (some .int) ∈ zWS := zws_mem 631 (by decide +kernel) rfl
theorem zcX3_refresh : Cond.code yX3_refresh cX3_refresh 6 none ∈ zWS := zws_mem 457 (by decide +kernel) rfl
theorem zcX4_allows : Cond.code yX4_allows cX4_allows 4 (some .boolean) ∈ zWS := zws_mem 551 (by decide +kernel) rfl
theorem zcX4_allowsAlias : Cond.code yX4_allowsAlias cX4_allowsAlias 4 (some .boolean) ∈ zWS := zws_mem 555 (by decide +kernel) rfl
theorem zcX4_carryOut : Cond.code yX4_carryOut cX4_carryOut 4 none ∈ zWS := zws_mem 563 (by decide +kernel) rfl
theorem zcX4_copyFrom : Cond.code yX4_copyFrom cX4_copyFrom 3 none ∈ zWS := zws_mem 599 (by decide +kernel) rfl
theorem zcX4_endOf : Cond.code yX4_endOf cX4_endOf 5 (some .int) ∈ zWS := zws_mem 363 (by decide +kernel) rfl
theorem zcX4_endsOf : Cond.code yX4_endsOf cX4_endsOf 4 (some .int) ∈ zWS := zws_mem 367 (by decide +kernel) rfl
theorem zcX4_grow : Cond.code yX4_grow cX4_grow 3 none ∈ zWS := zws_mem 355 (by decide +kernel) rfl
theorem zcX4_leadingTo : Cond.code yX4_leadingTo cX4_leadingTo 4 (some .int) ∈ zWS := zws_mem 665 (by decide +kernel) rfl
theorem zcX4_nearest : Cond.code yX4_nearest cX4_nearest 6 (some .int) ∈ zWS := zws_mem 661 (by decide +kernel) rfl
theorem zcX4_reachOver : Cond.code yX4_reachOver cX4_reachOver 3 none ∈ zWS := zws_mem 374 (by decide +kernel) rfl
theorem zcX4_reachedFrom : Cond.code yX4_reachedFrom cX4_reachedFrom 4 (some .int) ∈ zWS := zws_mem 461 (by decide +kernel) rfl
theorem zcX4_spread : Cond.code yX4_spread cX4_spread 6 (some .int) ∈ zWS := zws_mem 642 (by decide +kernel) rfl
theorem zcX4_workOut : Cond.code yX4_workOut cX4_workOut 2 none ∈ zWS := zws_mem 359 (by decide +kernel) rfl
theorem zcX5_decide : Cond.code yX5_decide cX5_decide 3 none ∈ zWS := zws_mem 543 (by decide +kernel) rfl
theorem zcX5_finishEdit : Cond.code yX5_finishEdit cX5_finishEdit 2 (some .int) ∈ zWS := zws_mem 436 (by decide +kernel) rfl
theorem zcX5_has : Cond.code yX5_has cX5_has 2 (some .boolean) ∈ zWS := zws_mem 370 (by decide +kernel) rfl
theorem zcX5_isAllowedBehind : Cond.code yX5_isAllowedBehind cX5_isAllowedBehind 3 (some .boolean) ∈ zWS := zws_mem 595 (by decide +kernel) rfl
theorem zcX5_isNameCharacter : Cond.code yX5_isNameCharacter cX5_isNameCharacter 1 (some .boolean) ∈ zWS := zws_mem 235 (by decide +kernel) rfl
theorem zcX5_isOpenAndAllowed : Cond.code yX5_isOpenAndAllowed cX5_isOpenAndAllowed 2 (some .boolean) ∈ zWS := zws_mem 584 (by decide +kernel) rfl
theorem zcX5_isTagSet : Cond.code yX5_isTagSet cX5_isTagSet 2 (some .boolean) ∈ zWS := zws_mem 680 (by decide +kernel) rfl
theorem zcX5_massEdited : Cond.code yX5_massEdited cX5_massEdited 4 (some .int) ∈ zWS := zws_mem 482 (by decide +kernel) rfl
theorem zcX5_matching : Cond.code yX5_matching cX5_matching 8 (some .int) ∈ zWS := zws_mem 685 (by decide +kernel) rfl
theorem zcX5_memberAt : Cond.code yX5_memberAt cX5_memberAt 4 (some .int) ∈ zWS := zws_mem 696 (by decide +kernel) rfl
theorem zcX5_needRequest : Cond.code yX5_needRequest cX5_needRequest 2 none ∈ zWS := zws_mem 527 (by decide +kernel) rfl
theorem zcX5_needSets : Cond.code yX5_needSets cX5_needSets 4 none ∈ zWS := zws_mem 676 (by decide +kernel) rfl
theorem zcX5_needTag : Cond.code yX5_needTag cX5_needTag 2 none ∈ zWS := zws_mem 390 (by decide +kernel) rfl
theorem zcX5_needThing : Cond.code yX5_needThing cX5_needThing 2 none ∈ zWS := zws_mem 427 (by decide +kernel) rfl
theorem zcX6_areSets : Cond.code yX6_areSets cX6_areSets 5 (some .boolean) ∈ zWS := zws_mem 971 (by decide +kernel) rfl
theorem zcX6_areThere : Cond.code yX6_areThere cX6_areThere 3 (some .boolean) ∈ zWS := zws_mem 821 (by decide +kernel) rfl
theorem zcX6_begins : Cond.code yX6_begins cX6_begins 2 none ∈ zWS := zws_mem 833 (by decide +kernel) rfl
theorem zcX6_closed : Cond.code yX6_closed cX6_closed 4 (some .int) ∈ zWS := zws_mem 868 (by decide +kernel) rfl
theorem zcX6_could : Cond.code yX6_could cX6_could 2 (some .boolean) ∈ zWS := zws_mem 903 (by decide +kernel) rfl
theorem zcX6_couldBehind : Cond.code yX6_couldBehind cX6_couldBehind 5 (some .boolean) ∈ zWS := zws_mem 931 (by decide +kernel) rfl
theorem zcX6_does : Cond.code yX6_does cX6_does 4 none ∈ zWS := zws_mem 911 (by decide +kernel) rfl
theorem zcX6_edited : Cond.code yX6_edited cX6_edited 7 (some .int) ∈ zWS := zws_mem 849 (by decide +kernel) rfl
theorem zcX6_endOf : Cond.code yX6_endOf cX6_endOf 3 (some .int) ∈ zWS := zws_mem 864 (by decide +kernel) rfl
theorem zcX6_endsOf : Cond.code yX6_endsOf cX6_endsOf 4 (some .int) ∈ zWS := zws_mem 860 (by decide +kernel) rfl
theorem zcX6_far : Cond.code yX6_far cX6_far 5 (some .int) ∈ zWS := zws_mem 963 (by decide +kernel) rfl
theorem zcX6_has : Cond.code yX6_has cX6_has 2 (some .boolean) ∈ zWS := zws_mem 852 (by decide +kernel) rfl
theorem zcX6_hasCircle : Cond.code yX6_hasCircle cX6_hasCircle 2 (some .boolean) ∈ zWS := zws_mem 915 (by decide +kernel) rfl
theorem zcX6_holds : Cond.code yX6_holds cX6_holds 2 (some .boolean) ∈ zWS := zws_mem 782 (by decide +kernel) rfl
theorem zcX6_in : Cond.code yX6_in cX6_in 3 (some .boolean) ∈ zWS := zws_mem 805 (by decide +kernel) rfl
theorem zcX6_isDraft : Cond.code yX6_isDraft cX6_isDraft 4 (some .boolean) ∈ zWS := zws_mem 790 (by decide +kernel) rfl
theorem zcX6_isMatch : Cond.code yX6_isMatch cX6_isMatch 6 (some .boolean) ∈ zWS := zws_mem 979 (by decide +kernel) rfl
theorem zcX6_isRequest : Cond.code yX6_isRequest cX6_isRequest 2 (some .boolean) ∈ zWS := zws_mem 899 (by decide +kernel) rfl
theorem zcX6_isSign : Cond.code yX6_isSign cX6_isSign 1 (some .boolean) ∈ zWS := zws_mem 775 (by decide +kernel) rfl
theorem zcX6_isTag : Cond.code yX6_isTag cX6_isTag 2 (some .boolean) ∈ zWS := zws_mem 802 (by decide +kernel) rfl
theorem zcX6_isThing : Cond.code yX6_isThing cX6_isThing 2 (some .boolean) ∈ zWS := zws_mem 825 (by decide +kernel) rfl
theorem zcX6_many : Cond.code yX6_many cX6_many 3 (some .int) ∈ zWS := zws_mem 879 (by decide +kernel) rfl
theorem zcX6_matches : Cond.code yX6_matches cX6_matches 6 (some .int) ∈ zWS := zws_mem 975 (by decide +kernel) rfl
theorem zcX6_may : Cond.code yX6_may cX6_may 5 (some .boolean) ∈ zWS := zws_mem 907 (by decide +kernel) rfl
theorem zcX6_onward : Cond.code yX6_onward cX6_onward 4 (some .int) ∈ zWS := zws_mem 872 (by decide +kernel) rfl
theorem zcX6_plain : Cond.code yX6_plain cX6_plain 1 (some .char) ∈ zWS := zws_mem 778 (by decide +kernel) rfl
theorem zcX6_sets : Cond.code yX6_sets cX6_sets 3 none ∈ zWS := zws_mem 837 (by decide +kernel) rfl
theorem zcX6_setsOne : Cond.code yX6_setsOne cX6_setsOne 4 (some .boolean) ∈ zWS := zws_mem 829 (by decide +kernel) rfl
theorem zcX6_shownOf : Cond.code yX6_shownOf cX6_shownOf 2 (some .int) ∈ zWS := zws_mem 856 (by decide +kernel) rfl
theorem zfX0_15 : Cond.fieldLink RX0 15 "TagRoot$Hands" "edited" "[I" ∈ zWS := zws_mem 157 (by decide +kernel) rfl
theorem zfX0_18 : Cond.fieldLink RX0 18 "TagRoot$Hands" "changedThings" "[I" ∈ zWS := zws_mem 159 (by decide +kernel) rfl
theorem zfX0_21 : Cond.fieldLink RX0 21 "TagRoot$Hands" "setsAhead" "[I" ∈ zWS := zws_mem 160 (by decide +kernel) rfl
theorem zfX0_24 : Cond.fieldLink RX0 24 "TagRoot$Hands" "size" "I" ∈ zWS := zws_mem 161 (by decide +kernel) rfl
theorem zfX0_38 : Cond.fieldLink RX0 38 "TagRoot$Hands" "nextSlot" "I" ∈ zWS := zws_mem 166 (by decide +kernel) rfl
theorem zfX0_41 : Cond.fieldLink RX0 41 "TagRoot$Hands" "keptSize" "I" ∈ zWS := zws_mem 164 (by decide +kernel) rfl
theorem zfX0_9 : Cond.fieldLink RX0 9 "TagRoot$Hands" "sets" "[I" ∈ zWS := zws_mem 154 (by decide +kernel) rfl
theorem zfX1_15 : Cond.fieldLink RX1 15 "TagRoot$Names" "lengths" "[I" ∈ zWS := zws_mem 73 (by decide +kernel) rfl
theorem zfX1_19 : Cond.fieldLink RX1 19 "TagRoot$Names" "draft" "[C" ∈ zWS := zws_mem 75 (by decide +kernel) rfl
theorem zfX1_22 : Cond.fieldLink RX1 22 "TagRoot$Names" "draftLength" "I" ∈ zWS := zws_mem 78 (by decide +kernel) rfl
theorem zfX1_26 : Cond.fieldLink RX1 26 "TagRoot$Names" "size" "I" ∈ zWS := zws_mem 77 (by decide +kernel) rfl
theorem zfX1_9 : Cond.fieldLink RX1 9 "TagRoot$Names" "letters" "[C" ∈ zWS := zws_mem 72 (by decide +kernel) rfl
theorem zfX2_15 : Cond.fieldLink RX2 15 "TagRoot$Requests" "sources" "[I" ∈ zWS := zws_mem 125 (by decide +kernel) rfl
theorem zfX2_18 : Cond.fieldLink RX2 18 "TagRoot$Requests" "targets" "[I" ∈ zWS := zws_mem 126 (by decide +kernel) rfl
theorem zfX2_21 : Cond.fieldLink RX2 21 "TagRoot$Requests" "states" "[I" ∈ zWS := zws_mem 127 (by decide +kernel) rfl
theorem zfX2_24 : Cond.fieldLink RX2 24 "TagRoot$Requests" "votersFor" "[I" ∈ zWS := zws_mem 129 (by decide +kernel) rfl
theorem zfX2_27 : Cond.fieldLink RX2 27 "TagRoot$Requests" "votersAgainst" "[I" ∈ zWS := zws_mem 130 (by decide +kernel) rfl
theorem zfX2_30 : Cond.fieldLink RX2 30 "TagRoot$Requests" "size" "I" ∈ zWS := zws_mem 131 (by decide +kernel) rfl
theorem zfX2_9 : Cond.fieldLink RX2 9 "TagRoot$Requests" "kinds" "[I" ∈ zWS := zws_mem 124 (by decide +kernel) rfl
theorem zfX3_15 : Cond.fieldLink RX3 15 "TagRoot$Rules" "size" "I" ∈ zWS := zws_mem 106 (by decide +kernel) rfl
theorem zfX3_21 : Cond.fieldLink RX3 21 "TagRoot$Hands" "size" "I" ∈ zWS := zws_mem 162 (by decide +kernel) rfl
theorem zfX3_24 : Cond.fieldLink RX3 24 "TagRoot$Hands" "sets" "[I" ∈ zWS := zws_mem 155 (by decide +kernel) rfl
theorem zfX3_9 : Cond.fieldLink RX3 9 "TagRoot$Rows" "showing" "[I" ∈ zWS := zws_mem 188 (by decide +kernel) rfl
theorem zfX4_15 : Cond.fieldLink RX4 15 "TagRoot$Rules" "implied" "[I" ∈ zWS := zws_mem 101 (by decide +kernel) rfl
theorem zfX4_18 : Cond.fieldLink RX4 18 "TagRoot$Rules" "next" "[I" ∈ zWS := zws_mem 103 (by decide +kernel) rfl
theorem zfX4_21 : Cond.fieldLink RX4 21 "TagRoot$Rules" "reached" "[I" ∈ zWS := zws_mem 104 (by decide +kernel) rfl
theorem zfX4_24 : Cond.fieldLink RX4 24 "TagRoot$Rules" "size" "I" ∈ zWS := zws_mem 105 (by decide +kernel) rfl
theorem zfX4_9 : Cond.fieldLink RX4 9 "TagRoot$Rules" "aliases" "[I" ∈ zWS := zws_mem 99 (by decide +kernel) rfl
theorem zfX5_10 : Cond.fieldLink RX5 10 "TagRoot" "names" "LTagRoot$Names;" ∈ zWS := zws_mem 193 (by decide +kernel) rfl
theorem zfX5_108 : Cond.fieldLink RX5 108 "TagRoot$Hands" "size" "I" ∈ zWS := zws_mem 163 (by decide +kernel) rfl
theorem zfX5_117 : Cond.fieldLink RX5 117 "TagRoot$Hands" "edited" "[I" ∈ zWS := zws_mem 158 (by decide +kernel) rfl
theorem zfX5_125 : Cond.fieldLink RX5 125 "TagRoot$Rows" "showing" "[I" ∈ zWS := zws_mem 189 (by decide +kernel) rfl
theorem zfX5_132 : Cond.fieldLink RX5 132 "TagRoot$Hands" "sets" "[I" ∈ zWS := zws_mem 156 (by decide +kernel) rfl
theorem zfX5_143 : Cond.fieldLink RX5 143 "TagRoot$Hands" "keptSize" "I" ∈ zWS := zws_mem 165 (by decide +kernel) rfl
theorem zfX5_159 : Cond.fieldLink RX5 159 "TagRoot$Requests" "size" "I" ∈ zWS := zws_mem 132 (by decide +kernel) rfl
theorem zfX5_171 : Cond.fieldLink RX5 171 "TagRoot$Requests" "states" "[I" ∈ zWS := zws_mem 128 (by decide +kernel) rfl
theorem zfX5_19 : Cond.fieldLink RX5 19 "TagRoot" "rules" "LTagRoot$Rules;" ∈ zWS := zws_mem 194 (by decide +kernel) rfl
theorem zfX5_194 : Cond.fieldLink RX5 194 "TagRoot$Rules" "aliases" "[I" ∈ zWS := zws_mem 100 (by decide +kernel) rfl
theorem zfX5_197 : Cond.fieldLink RX5 197 "TagRoot$Rules" "implied" "[I" ∈ zWS := zws_mem 102 (by decide +kernel) rfl
theorem zfX5_23 : Cond.fieldLink RX5 23 "TagRoot" "trial" "LTagRoot$Rules;" ∈ zWS := zws_mem 195 (by decide +kernel) rfl
theorem zfX5_29 : Cond.fieldLink RX5 29 "TagRoot" "requests" "LTagRoot$Requests;" ∈ zWS := zws_mem 196 (by decide +kernel) rfl
theorem zfX5_36 : Cond.fieldLink RX5 36 "TagRoot" "hands" "LTagRoot$Hands;" ∈ zWS := zws_mem 197 (by decide +kernel) rfl
theorem zfX5_43 : Cond.fieldLink RX5 43 "TagRoot" "rows" "LTagRoot$Rows;" ∈ zWS := zws_mem 198 (by decide +kernel) rfl
theorem zfX5_58 : Cond.fieldLink RX5 58 "TagRoot$Names" "draftLength" "I" ∈ zWS := zws_mem 79 (by decide +kernel) rfl
theorem zfX5_77 : Cond.fieldLink RX5 77 "TagRoot$Names" "size" "I" ∈ zWS := zws_mem 76 (by decide +kernel) rfl
theorem zfX5_95 : Cond.fieldLink RX5 95 "TagRoot$Names" "lengths" "[I" ∈ zWS := zws_mem 74 (by decide +kernel) rfl
theorem zfX6_13 : Cond.fieldLink RX6 13 "TagRootModel" "names" "[C" ∈ zWS := zws_mem 708 (by decide +kernel) rfl
theorem zfX6_142 : Cond.fieldLink RX6 142 "TagRootModel" "requests" "I" ∈ zWS := zws_mem 714 (by decide +kernel) rfl
theorem zfX6_16 : Cond.fieldLink RX6 16 "TagRootModel" "sizes" "[I" ∈ zWS := zws_mem 709 (by decide +kernel) rfl
theorem zfX6_20 : Cond.fieldLink RX6 20 "TagRootModel" "aliases" "[I" ∈ zWS := zws_mem 710 (by decide +kernel) rfl
theorem zfX6_23 : Cond.fieldLink RX6 23 "TagRootModel" "implied" "[I" ∈ zWS := zws_mem 711 (by decide +kernel) rfl
theorem zfX6_26 : Cond.fieldLink RX6 26 "TagRootModel" "hands" "[I" ∈ zWS := zws_mem 713 (by decide +kernel) rfl
theorem zfX6_29 : Cond.fieldLink RX6 29 "TagRootModel" "kinds" "[I" ∈ zWS := zws_mem 715 (by decide +kernel) rfl
theorem zfX6_32 : Cond.fieldLink RX6 32 "TagRootModel" "froms" "[I" ∈ zWS := zws_mem 716 (by decide +kernel) rfl
theorem zfX6_35 : Cond.fieldLink RX6 35 "TagRootModel" "tos" "[I" ∈ zWS := zws_mem 717 (by decide +kernel) rfl
theorem zfX6_38 : Cond.fieldLink RX6 38 "TagRootModel" "fors" "[I" ∈ zWS := zws_mem 718 (by decide +kernel) rfl
theorem zfX6_41 : Cond.fieldLink RX6 41 "TagRootModel" "againsts" "[I" ∈ zWS := zws_mem 719 (by decide +kernel) rfl
theorem zfX6_44 : Cond.fieldLink RX6 44 "TagRootModel" "standings" "[I" ∈ zWS := zws_mem 720 (by decide +kernel) rfl
theorem zfX6_47 : Cond.fieldLink RX6 47 "TagRootModel" "changed" "[I" ∈ zWS := zws_mem 722 (by decide +kernel) rfl
theorem zfX6_50 : Cond.fieldLink RX6 50 "TagRootModel" "before" "[I" ∈ zWS := zws_mem 723 (by decide +kernel) rfl
theorem zfX6_53 : Cond.fieldLink RX6 53 "TagRootModel" "thrown" "I" ∈ zWS := zws_mem 704 (by decide +kernel) rfl
theorem zfX6_57 : Cond.fieldLink RX6 57 "TagRootModel" "tags" "I" ∈ zWS := zws_mem 707 (by decide +kernel) rfl
theorem zfX6_64 : Cond.fieldLink RX6 64 "TagRootModel" "things" "I" ∈ zWS := zws_mem 712 (by decide +kernel) rfl
theorem zfX6_7 : Cond.fieldLink RX6 7 "TagRootModel" "draft" "[C" ∈ zWS := zws_mem 705 (by decide +kernel) rfl
theorem zfX6_75 : Cond.fieldLink RX6 75 "TagRootModel" "drafted" "I" ∈ zWS := zws_mem 706 (by decide +kernel) rfl
theorem zfX6_88 : Cond.fieldLink RX6 88 "TagRootModel" "kept" "I" ∈ zWS := zws_mem 721 (by decide +kernel) rfl
theorem ziIllegalArgumentException : Cond.initialized "java/lang/IllegalArgumentException" ∈ zWS := zws_mem 53 (by decide +kernel) rfl
theorem ziIllegalStateException : Cond.initialized "java/lang/IllegalStateException" ∈ zWS := zws_mem 54 (by decide +kernel) rfl
theorem ziIndexOutOfBoundsException : Cond.initialized "java/lang/IndexOutOfBoundsException" ∈ zWS := zws_mem 55 (by decide +kernel) rfl
theorem ziJ6 : Cond.initialized RJ6 ∈ zWS := zws_mem 57 (by decide +kernel) rfl
theorem ziJ9 : Cond.initialized RJ9 ∈ zWS := zws_mem 56 (by decide +kernel) rfl
theorem ziX0 : Cond.initialized RX0 ∈ zWS := zws_mem 47 (by decide +kernel) rfl
theorem ziX1 : Cond.initialized RX1 ∈ zWS := zws_mem 44 (by decide +kernel) rfl
theorem ziX2 : Cond.initialized RX2 ∈ zWS := zws_mem 46 (by decide +kernel) rfl
theorem ziX3 : Cond.initialized RX3 ∈ zWS := zws_mem 48 (by decide +kernel) rfl
theorem ziX4 : Cond.initialized RX4 ∈ zWS := zws_mem 45 (by decide +kernel) rfl
theorem ziX5 : Cond.initialized RX5 ∈ zWS := zws_mem 43 (by decide +kernel) rfl
theorem ziX6 : Cond.initialized RX6 ∈ zWS := zws_mem 49 (by decide +kernel) rfl
theorem zkJ6_265 : Cond.constant RJ6 265 (1431655765) ∈ zWS := zws_mem 451 (by decide +kernel) rfl
theorem zkJ6_266 : Cond.constant RJ6 266 (858993459) ∈ zWS := zws_mem 452 (by decide +kernel) rfl
theorem zkJ6_267 : Cond.constant RJ6 267 (252645135) ∈ zWS := zws_mem 453 (by decide +kernel) rfl
theorem zlX0_28 : Cond.methodLink RX0 28 yX0_keep ∈ zWS := zws_mem 441 (by decide +kernel) rfl
theorem zlX0_32 : Cond.methodLink RX0 32 yJ6_bitCount_0f7a4 ∈ zWS := zws_mem 448 (by decide +kernel) rfl
theorem zlX0_44 : Cond.methodLink RX0 44 yJ9_min_7cf53 ∈ zWS := zws_mem 445 (by decide +kernel) rfl
theorem zlX1_29 : Cond.methodLink RX1 29 yX1_isDraft ∈ zWS := zws_mem 336 (by decide +kernel) rfl
theorem zlX1_33 : Cond.methodLink RX1 33 yX1_letterAt ∈ zWS := zws_mem 340 (by decide +kernel) rfl
theorem zlX1_37 : Cond.methodLink RX1 37 yX1_plain ∈ zWS := zws_mem 344 (by decide +kernel) rfl
theorem zlX2_34 : Cond.methodLink RX2 34 yJ6_bitCount_0f7a4 ∈ zWS := zws_mem 539 (by decide +kernel) rfl
theorem zlX2_40 : Cond.methodLink RX2 40 yX4_allows ∈ zWS := zws_mem 548 (by decide +kernel) rfl
theorem zlX2_46 : Cond.methodLink RX2 46 yX4_carryOut ∈ zWS := zws_mem 560 (by decide +kernel) rfl
theorem zlX3_27 : Cond.methodLink RX3 27 yX4_reachedFrom ∈ zWS := zws_mem 458 (by decide +kernel) rfl
theorem zlX4_28 : Cond.methodLink RX4 28 yX4_workOut ∈ zWS := zws_mem 356 (by decide +kernel) rfl
theorem zlX4_31 : Cond.methodLink RX4 31 yX4_allowsAlias ∈ zWS := zws_mem 552 (by decide +kernel) rfl
theorem zlX4_38 : Cond.methodLink RX4 38 yX4_endOf ∈ zWS := zws_mem 360 (by decide +kernel) rfl
theorem zlX4_42 : Cond.methodLink RX4 42 yX4_endsOf ∈ zWS := zws_mem 364 (by decide +kernel) rfl
theorem zlX4_45 : Cond.methodLink RX4 45 yX4_reachOver ∈ zWS := zws_mem 371 (by decide +kernel) rfl
theorem zlX4_49 : Cond.methodLink RX4 49 yX4_leadingTo ∈ zWS := zws_mem 662 (by decide +kernel) rfl
theorem zlX5_104 : Cond.methodLink RX5 104 yX1_letterAt ∈ zWS := zws_mem 408 (by decide +kernel) rfl
theorem zlX5_111 : Cond.methodLink RX5 111 yX5_needThing ∈ zWS := zws_mem 424 (by decide +kernel) rfl
theorem zlX5_114 : Cond.methodLink RX5 114 yX0_startEdit ∈ zWS := zws_mem 429 (by decide +kernel) rfl
theorem zlX5_120 : Cond.methodLink RX5 120 yX5_finishEdit ∈ zWS := zws_mem 433 (by decide +kernel) rfl
theorem zlX5_128 : Cond.methodLink RX5 128 yX4_endOf ∈ zWS := zws_mem 478 (by decide +kernel) rfl
theorem zlX5_135 : Cond.methodLink RX5 135 yX5_has ∈ zWS := zws_mem 479 (by decide +kernel) rfl
theorem zlX5_139 : Cond.methodLink RX5 139 yX5_massEdited ∈ zWS := zws_mem 480 (by decide +kernel) rfl
theorem zlX5_148 : Cond.methodLink RX5 148 yX0_restoreLatest ∈ zWS := zws_mem 491 (by decide +kernel) rfl
theorem zlX5_151 : Cond.methodLink RX5 151 yX3_refresh ∈ zWS := zws_mem 454 (by decide +kernel) rfl
theorem zlX5_162 : Cond.methodLink RX5 162 yX2_add ∈ zWS := zws_mem 513 (by decide +kernel) rfl
theorem zlX5_166 : Cond.methodLink RX5 166 yX5_needRequest ∈ zWS := zws_mem 524 (by decide +kernel) rfl
theorem zlX5_176 : Cond.methodLink RX5 176 yX2_setVote ∈ zWS := zws_mem 531 (by decide +kernel) rfl
theorem zlX5_180 : Cond.methodLink RX5 180 yX2_leadOf ∈ zWS := zws_mem 535 (by decide +kernel) rfl
theorem zlX5_183 : Cond.methodLink RX5 183 yX5_decide ∈ zWS := zws_mem 540 (by decide +kernel) rfl
theorem zlX5_187 : Cond.methodLink RX5 187 yX5_isOpenAndAllowed ∈ zWS := zws_mem 581 (by decide +kernel) rfl
theorem zlX5_191 : Cond.methodLink RX5 191 yX5_isAllowedBehind ∈ zWS := zws_mem 592 (by decide +kernel) rfl
theorem zlX5_200 : Cond.methodLink RX5 200 yX3_column ∈ zWS := zws_mem 628 (by decide +kernel) rfl
theorem zlX5_204 : Cond.methodLink RX5 204 yX4_spread ∈ zWS := zws_mem 639 (by decide +kernel) rfl
theorem zlX5_207 : Cond.methodLink RX5 207 yJ6_bitCount_0f7a4 ∈ zWS := zws_mem 650 (by decide +kernel) rfl
theorem zlX5_212 : Cond.methodLink RX5 212 yX4_nearest ∈ zWS := zws_mem 658 (by decide +kernel) rfl
theorem zlX5_215 : Cond.methodLink RX5 215 yX5_needSets ∈ zWS := zws_mem 673 (by decide +kernel) rfl
theorem zlX5_219 : Cond.methodLink RX5 219 yX5_matching ∈ zWS := zws_mem 682 (by decide +kernel) rfl
theorem zlX5_224 : Cond.methodLink RX5 224 yX5_memberAt ∈ zWS := zws_mem 694 (by decide +kernel) rfl
theorem zlX5_235 : Cond.methodLink RX5 235 yX5_isTagSet ∈ zWS := zws_mem 677 (by decide +kernel) rfl
theorem zlX5_240 : Cond.methodLink RX5 240 yX0_finishEdit ∈ zWS := zws_mem 437 (by decide +kernel) rfl
theorem zlX5_241 : Cond.methodLink RX5 241 yX2_isAllowedBy ∈ zWS := zws_mem 544 (by decide +kernel) rfl
theorem zlX5_245 : Cond.methodLink RX5 245 yX2_carryOut ∈ zWS := zws_mem 556 (by decide +kernel) rfl
theorem zlX5_249 : Cond.methodLink RX5 249 yJ9_abs_0f7a4 ∈ zWS := zws_mem 564 (by decide +kernel) rfl
theorem zlX5_254 : Cond.methodLink RX5 254 yX4_copyFrom ∈ zWS := zws_mem 596 (by decide +kernel) rfl
theorem zlX5_47 : Cond.methodLink RX5 47 yX5_isNameCharacter ∈ zWS := zws_mem 233 (by decide +kernel) rfl
theorem zlX5_67 : Cond.methodLink RX5 67 yX1_append ∈ zWS := zws_mem 320 (by decide +kernel) rfl
theorem zlX5_73 : Cond.methodLink RX5 73 yX1_findDraft ∈ zWS := zws_mem 332 (by decide +kernel) rfl
theorem zlX5_82 : Cond.methodLink RX5 82 yX1_addDraft ∈ zWS := zws_mem 348 (by decide +kernel) rfl
theorem zlX5_85 : Cond.methodLink RX5 85 yX4_grow ∈ zWS := zws_mem 352 (by decide +kernel) rfl
theorem zlX5_89 : Cond.methodLink RX5 89 yX1_emptyDraft ∈ zWS := zws_mem 375 (by decide +kernel) rfl
theorem zlX5_92 : Cond.methodLink RX5 92 yX5_needTag ∈ zWS := zws_mem 387 (by decide +kernel) rfl
theorem zlX6_101 : Cond.methodLink RX6 101 yX6_areThere ∈ zWS := zws_mem 818 (by decide +kernel) rfl
theorem zlX6_105 : Cond.methodLink RX6 105 yX6_setsOne ∈ zWS := zws_mem 826 (by decide +kernel) rfl
theorem zlX6_108 : Cond.methodLink RX6 108 yX6_has ∈ zWS := zws_mem 850 (by decide +kernel) rfl
theorem zlX6_111 : Cond.methodLink RX6 111 yX6_shownOf ∈ zWS := zws_mem 853 (by decide +kernel) rfl
theorem zlX6_115 : Cond.methodLink RX6 115 yX6_endOf ∈ zWS := zws_mem 861 (by decide +kernel) rfl
theorem zlX6_118 : Cond.methodLink RX6 118 yX6_edited ∈ zWS := zws_mem 846 (by decide +kernel) rfl
theorem zlX6_122 : Cond.methodLink RX6 122 yX6_many ∈ zWS := zws_mem 877 (by decide +kernel) rfl
theorem zlX6_125 : Cond.methodLink RX6 125 yX6_endsOf ∈ zWS := zws_mem 857 (by decide +kernel) rfl
theorem zlX6_128 : Cond.methodLink RX6 128 yX6_onward ∈ zWS := zws_mem 869 (by decide +kernel) rfl
theorem zlX6_131 : Cond.methodLink RX6 131 yX6_closed ∈ zWS := zws_mem 865 (by decide +kernel) rfl
theorem zlX6_134 : Cond.methodLink RX6 134 yX6_does ∈ zWS := zws_mem 908 (by decide +kernel) rfl
theorem zlX6_138 : Cond.methodLink RX6 138 yX6_hasCircle ∈ zWS := zws_mem 912 (by decide +kernel) rfl
theorem zlX6_145 : Cond.methodLink RX6 145 yX6_may ∈ zWS := zws_mem 904 (by decide +kernel) rfl
theorem zlX6_148 : Cond.methodLink RX6 148 yX6_isRequest ∈ zWS := zws_mem 896 (by decide +kernel) rfl
theorem zlX6_151 : Cond.methodLink RX6 151 yX6_could ∈ zWS := zws_mem 900 (by decide +kernel) rfl
theorem zlX6_154 : Cond.methodLink RX6 154 yX6_couldBehind ∈ zWS := zws_mem 928 (by decide +kernel) rfl
theorem zlX6_157 : Cond.methodLink RX6 157 yX6_far ∈ zWS := zws_mem 960 (by decide +kernel) rfl
theorem zlX6_161 : Cond.methodLink RX6 161 yX6_isMatch ∈ zWS := zws_mem 976 (by decide +kernel) rfl
theorem zlX6_165 : Cond.methodLink RX6 165 yX6_areSets ∈ zWS := zws_mem 968 (by decide +kernel) rfl
theorem zlX6_168 : Cond.methodLink RX6 168 yX6_matches ∈ zWS := zws_mem 972 (by decide +kernel) rfl
theorem zlX6_60 : Cond.methodLink RX6 60 yX6_in ∈ zWS := zws_mem 803 (by decide +kernel) rfl
theorem zlX6_67 : Cond.methodLink RX6 67 yX6_plain ∈ zWS := zws_mem 776 (by decide +kernel) rfl
theorem zlX6_71 : Cond.methodLink RX6 71 yX6_isSign ∈ zWS := zws_mem 773 (by decide +kernel) rfl
theorem zlX6_78 : Cond.methodLink RX6 78 yX6_holds ∈ zWS := zws_mem 779 (by decide +kernel) rfl
theorem zlX6_82 : Cond.methodLink RX6 82 yX6_isDraft ∈ zWS := zws_mem 787 (by decide +kernel) rfl
theorem zlX6_85 : Cond.methodLink RX6 85 yX6_isTag ∈ zWS := zws_mem 799 (by decide +kernel) rfl
theorem zlX6_91 : Cond.methodLink RX6 91 yX6_begins ∈ zWS := zws_mem 830 (by decide +kernel) rfl
theorem zlX6_94 : Cond.methodLink RX6 94 yX6_sets ∈ zWS := zws_mem 834 (by decide +kernel) rfl
theorem zlX6_98 : Cond.methodLink RX6 98 yX6_isThing ∈ zWS := zws_mem 822 (by decide +kernel) rfl
theorem zmX0_finishEdit : Cond.instanceMethod yX0_finishEdit ∈ zWS := zws_mem 438 (by decide +kernel) rfl
theorem zmX0_keep : Cond.instanceMethod yX0_keep ∈ zWS := zws_mem 443 (by decide +kernel) rfl
theorem zmX0_restoreLatest : Cond.instanceMethod yX0_restoreLatest ∈ zWS := zws_mem 492 (by decide +kernel) rfl
theorem zmX0_startEdit : Cond.instanceMethod yX0_startEdit ∈ zWS := zws_mem 430 (by decide +kernel) rfl
theorem zmX1_addDraft : Cond.instanceMethod yX1_addDraft ∈ zWS := zws_mem 349 (by decide +kernel) rfl
theorem zmX1_append : Cond.instanceMethod yX1_append ∈ zWS := zws_mem 321 (by decide +kernel) rfl
theorem zmX1_emptyDraft : Cond.instanceMethod yX1_emptyDraft ∈ zWS := zws_mem 376 (by decide +kernel) rfl
theorem zmX1_findDraft : Cond.instanceMethod yX1_findDraft ∈ zWS := zws_mem 333 (by decide +kernel) rfl
theorem zmX1_isDraft : Cond.instanceMethod yX1_isDraft ∈ zWS := zws_mem 338 (by decide +kernel) rfl
theorem zmX1_letterAt : Cond.instanceMethod yX1_letterAt ∈ zWS := zws_mem 341 (by decide +kernel) rfl
theorem zmX2_add : Cond.instanceMethod yX2_add ∈ zWS := zws_mem 514 (by decide +kernel) rfl
theorem zmX2_carryOut : Cond.instanceMethod yX2_carryOut ∈ zWS := zws_mem 557 (by decide +kernel) rfl
theorem zmX2_isAllowedBy : Cond.instanceMethod yX2_isAllowedBy ∈ zWS := zws_mem 545 (by decide +kernel) rfl
theorem zmX2_leadOf : Cond.instanceMethod yX2_leadOf ∈ zWS := zws_mem 536 (by decide +kernel) rfl
theorem zmX2_setVote : Cond.instanceMethod yX2_setVote ∈ zWS := zws_mem 532 (by decide +kernel) rfl
theorem zmX3_column : Cond.instanceMethod yX3_column ∈ zWS := zws_mem 629 (by decide +kernel) rfl
theorem zmX3_refresh : Cond.instanceMethod yX3_refresh ∈ zWS := zws_mem 455 (by decide +kernel) rfl
theorem zmX4_allows : Cond.instanceMethod yX4_allows ∈ zWS := zws_mem 549 (by decide +kernel) rfl
theorem zmX4_allowsAlias : Cond.instanceMethod yX4_allowsAlias ∈ zWS := zws_mem 554 (by decide +kernel) rfl
theorem zmX4_carryOut : Cond.instanceMethod yX4_carryOut ∈ zWS := zws_mem 561 (by decide +kernel) rfl
theorem zmX4_copyFrom : Cond.instanceMethod yX4_copyFrom ∈ zWS := zws_mem 597 (by decide +kernel) rfl
theorem zmX4_endOf : Cond.instanceMethod yX4_endOf ∈ zWS := zws_mem 361 (by decide +kernel) rfl
theorem zmX4_endsOf : Cond.instanceMethod yX4_endsOf ∈ zWS := zws_mem 366 (by decide +kernel) rfl
theorem zmX4_grow : Cond.instanceMethod yX4_grow ∈ zWS := zws_mem 353 (by decide +kernel) rfl
theorem zmX4_leadingTo : Cond.instanceMethod yX4_leadingTo ∈ zWS := zws_mem 664 (by decide +kernel) rfl
theorem zmX4_nearest : Cond.instanceMethod yX4_nearest ∈ zWS := zws_mem 659 (by decide +kernel) rfl
theorem zmX4_reachOver : Cond.instanceMethod yX4_reachOver ∈ zWS := zws_mem 373 (by decide +kernel) rfl
theorem zmX4_reachedFrom : Cond.instanceMethod yX4_reachedFrom ∈ zWS := zws_mem 459 (by decide +kernel) rfl
theorem zmX4_spread : Cond.instanceMethod yX4_spread ∈ zWS := zws_mem 640 (by decide +kernel) rfl
theorem zmX4_workOut : Cond.instanceMethod yX4_workOut ∈ zWS := zws_mem 358 (by decide +kernel) rfl
theorem zmX5_decide : Cond.instanceMethod yX5_decide ∈ zWS := zws_mem 542 (by decide +kernel) rfl
theorem zmX5_finishEdit : Cond.instanceMethod yX5_finishEdit ∈ zWS := zws_mem 435 (by decide +kernel) rfl
theorem zmX5_isAllowedBehind : Cond.instanceMethod yX5_isAllowedBehind ∈ zWS := zws_mem 594 (by decide +kernel) rfl
theorem zmX5_isOpenAndAllowed : Cond.instanceMethod yX5_isOpenAndAllowed ∈ zWS := zws_mem 583 (by decide +kernel) rfl
theorem zmX5_isTagSet : Cond.instanceMethod yX5_isTagSet ∈ zWS := zws_mem 679 (by decide +kernel) rfl
theorem zmX5_matching : Cond.instanceMethod yX5_matching ∈ zWS := zws_mem 684 (by decide +kernel) rfl
theorem zmX5_needRequest : Cond.instanceMethod yX5_needRequest ∈ zWS := zws_mem 526 (by decide +kernel) rfl
theorem zmX5_needSets : Cond.instanceMethod yX5_needSets ∈ zWS := zws_mem 675 (by decide +kernel) rfl
theorem zmX5_needTag : Cond.instanceMethod yX5_needTag ∈ zWS := zws_mem 389 (by decide +kernel) rfl
theorem zmX5_needThing : Cond.instanceMethod yX5_needThing ∈ zWS := zws_mem 426 (by decide +kernel) rfl
theorem zmX6_areSets : Cond.instanceMethod yX6_areSets ∈ zWS := zws_mem 970 (by decide +kernel) rfl
theorem zmX6_areThere : Cond.instanceMethod yX6_areThere ∈ zWS := zws_mem 820 (by decide +kernel) rfl
theorem zmX6_begins : Cond.instanceMethod yX6_begins ∈ zWS := zws_mem 832 (by decide +kernel) rfl
theorem zmX6_closed : Cond.instanceMethod yX6_closed ∈ zWS := zws_mem 867 (by decide +kernel) rfl
theorem zmX6_could : Cond.instanceMethod yX6_could ∈ zWS := zws_mem 902 (by decide +kernel) rfl
theorem zmX6_couldBehind : Cond.instanceMethod yX6_couldBehind ∈ zWS := zws_mem 930 (by decide +kernel) rfl
theorem zmX6_does : Cond.instanceMethod yX6_does ∈ zWS := zws_mem 910 (by decide +kernel) rfl
theorem zmX6_edited : Cond.instanceMethod yX6_edited ∈ zWS := zws_mem 848 (by decide +kernel) rfl
theorem zmX6_endOf : Cond.instanceMethod yX6_endOf ∈ zWS := zws_mem 863 (by decide +kernel) rfl
theorem zmX6_endsOf : Cond.instanceMethod yX6_endsOf ∈ zWS := zws_mem 859 (by decide +kernel) rfl
theorem zmX6_far : Cond.instanceMethod yX6_far ∈ zWS := zws_mem 962 (by decide +kernel) rfl
theorem zmX6_hasCircle : Cond.instanceMethod yX6_hasCircle ∈ zWS := zws_mem 914 (by decide +kernel) rfl
theorem zmX6_holds : Cond.instanceMethod yX6_holds ∈ zWS := zws_mem 781 (by decide +kernel) rfl
theorem zmX6_isDraft : Cond.instanceMethod yX6_isDraft ∈ zWS := zws_mem 789 (by decide +kernel) rfl
theorem zmX6_isMatch : Cond.instanceMethod yX6_isMatch ∈ zWS := zws_mem 978 (by decide +kernel) rfl
theorem zmX6_isRequest : Cond.instanceMethod yX6_isRequest ∈ zWS := zws_mem 898 (by decide +kernel) rfl
theorem zmX6_isTag : Cond.instanceMethod yX6_isTag ∈ zWS := zws_mem 801 (by decide +kernel) rfl
theorem zmX6_isThing : Cond.instanceMethod yX6_isThing ∈ zWS := zws_mem 824 (by decide +kernel) rfl
theorem zmX6_matches : Cond.instanceMethod yX6_matches ∈ zWS := zws_mem 974 (by decide +kernel) rfl
theorem zmX6_may : Cond.instanceMethod yX6_may ∈ zWS := zws_mem 906 (by decide +kernel) rfl
theorem zmX6_onward : Cond.instanceMethod yX6_onward ∈ zWS := zws_mem 871 (by decide +kernel) rfl
theorem zmX6_sets : Cond.instanceMethod yX6_sets ∈ zWS := zws_mem 836 (by decide +kernel) rfl
theorem zmX6_setsOne : Cond.instanceMethod yX6_setsOne ∈ zWS := zws_mem 828 (by decide +kernel) rfl
theorem zmX6_shownOf : Cond.instanceMethod yX6_shownOf ∈ zWS := zws_mem 855 (by decide +kernel) rfl
theorem znX5_51 : Cond.classLink RX5 51 "java/lang/IllegalArgumentException" ∈ zWS := zws_mem 236 (by decide +kernel) rfl
theorem znX5_62 : Cond.classLink RX5 62 "java/lang/IllegalStateException" ∈ zWS := zws_mem 304 (by decide +kernel) rfl
theorem znX5_99 : Cond.classLink RX5 99 "java/lang/IndexOutOfBoundsException" ∈ zWS := zws_mem 391 (by decide +kernel) rfl
theorem zsJ6_bitCount_0f7a4 : Cond.static yJ6_bitCount_0f7a4 ∈ zWS := zws_mem 449 (by decide +kernel) rfl
theorem zsJ9_abs_0f7a4 : Cond.static yJ9_abs_0f7a4 ∈ zWS := zws_mem 565 (by decide +kernel) rfl
theorem zsJ9_min_7cf53 : Cond.static yJ9_min_7cf53 ∈ zWS := zws_mem 446 (by decide +kernel) rfl
theorem zsX1_plain : Cond.static yX1_plain ∈ zWS := zws_mem 345 (by decide +kernel) rfl
theorem zsX5_has : Cond.static yX5_has ∈ zWS := zws_mem 369 (by decide +kernel) rfl
theorem zsX5_isNameCharacter : Cond.static yX5_isNameCharacter ∈ zWS := zws_mem 234 (by decide +kernel) rfl
theorem zsX5_massEdited : Cond.static yX5_massEdited ∈ zWS := zws_mem 481 (by decide +kernel) rfl
theorem zsX5_memberAt : Cond.static yX5_memberAt ∈ zWS := zws_mem 695 (by decide +kernel) rfl
theorem zsX6_has : Cond.static yX6_has ∈ zWS := zws_mem 851 (by decide +kernel) rfl
theorem zsX6_in : Cond.static yX6_in ∈ zWS := zws_mem 804 (by decide +kernel) rfl
theorem zsX6_isSign : Cond.static yX6_isSign ∈ zWS := zws_mem 774 (by decide +kernel) rfl
theorem zsX6_many : Cond.static yX6_many ∈ zWS := zws_mem 878 (by decide +kernel) rfl
theorem zsX6_plain : Cond.static yX6_plain ∈ zWS := zws_mem 777 (by decide +kernel) rfl
theorem zvX0_finishEdit : Cond.selects RX0 yX0_finishEdit yX0_finishEdit ∈ zWS := zws_mem 439 (by decide +kernel) rfl
theorem zvX0_keep : Cond.selects RX0 yX0_keep yX0_keep ∈ zWS := zws_mem 8 (by decide +kernel) rfl
theorem zvX0_restoreLatest : Cond.selects RX0 yX0_restoreLatest yX0_restoreLatest ∈ zWS := zws_mem 493 (by decide +kernel) rfl
theorem zvX0_startEdit : Cond.selects RX0 yX0_startEdit yX0_startEdit ∈ zWS := zws_mem 431 (by decide +kernel) rfl
theorem zvX1_addDraft : Cond.selects RX1 yX1_addDraft yX1_addDraft ∈ zWS := zws_mem 350 (by decide +kernel) rfl
theorem zvX1_append : Cond.selects RX1 yX1_append yX1_append ∈ zWS := zws_mem 322 (by decide +kernel) rfl
theorem zvX1_emptyDraft : Cond.selects RX1 yX1_emptyDraft yX1_emptyDraft ∈ zWS := zws_mem 377 (by decide +kernel) rfl
theorem zvX1_findDraft : Cond.selects RX1 yX1_findDraft yX1_findDraft ∈ zWS := zws_mem 334 (by decide +kernel) rfl
theorem zvX1_isDraft : Cond.selects RX1 yX1_isDraft yX1_isDraft ∈ zWS := zws_mem 1 (by decide +kernel) rfl
theorem zvX1_letterAt : Cond.selects RX1 yX1_letterAt yX1_letterAt ∈ zWS := zws_mem 342 (by decide +kernel) rfl
theorem zvX2_add : Cond.selects RX2 yX2_add yX2_add ∈ zWS := zws_mem 515 (by decide +kernel) rfl
theorem zvX2_carryOut : Cond.selects RX2 yX2_carryOut yX2_carryOut ∈ zWS := zws_mem 558 (by decide +kernel) rfl
theorem zvX2_isAllowedBy : Cond.selects RX2 yX2_isAllowedBy yX2_isAllowedBy ∈ zWS := zws_mem 546 (by decide +kernel) rfl
theorem zvX2_leadOf : Cond.selects RX2 yX2_leadOf yX2_leadOf ∈ zWS := zws_mem 537 (by decide +kernel) rfl
theorem zvX2_setVote : Cond.selects RX2 yX2_setVote yX2_setVote ∈ zWS := zws_mem 533 (by decide +kernel) rfl
theorem zvX3_column : Cond.selects RX3 yX3_column yX3_column ∈ zWS := zws_mem 630 (by decide +kernel) rfl
theorem zvX3_refresh : Cond.selects RX3 yX3_refresh yX3_refresh ∈ zWS := zws_mem 456 (by decide +kernel) rfl
theorem zvX4_allows : Cond.selects RX4 yX4_allows yX4_allows ∈ zWS := zws_mem 550 (by decide +kernel) rfl
theorem zvX4_allowsAlias : Cond.selects RX4 yX4_allowsAlias yX4_allowsAlias ∈ zWS := zws_mem 11 (by decide +kernel) rfl
theorem zvX4_carryOut : Cond.selects RX4 yX4_carryOut yX4_carryOut ∈ zWS := zws_mem 562 (by decide +kernel) rfl
theorem zvX4_copyFrom : Cond.selects RX4 yX4_copyFrom yX4_copyFrom ∈ zWS := zws_mem 598 (by decide +kernel) rfl
theorem zvX4_endOf : Cond.selects RX4 yX4_endOf yX4_endOf ∈ zWS := zws_mem 362 (by decide +kernel) rfl
theorem zvX4_endsOf : Cond.selects RX4 yX4_endsOf yX4_endsOf ∈ zWS := zws_mem 3 (by decide +kernel) rfl
theorem zvX4_grow : Cond.selects RX4 yX4_grow yX4_grow ∈ zWS := zws_mem 354 (by decide +kernel) rfl
theorem zvX4_leadingTo : Cond.selects RX4 yX4_leadingTo yX4_leadingTo ∈ zWS := zws_mem 14 (by decide +kernel) rfl
theorem zvX4_nearest : Cond.selects RX4 yX4_nearest yX4_nearest ∈ zWS := zws_mem 660 (by decide +kernel) rfl
theorem zvX4_reachOver : Cond.selects RX4 yX4_reachOver yX4_reachOver ∈ zWS := zws_mem 4 (by decide +kernel) rfl
theorem zvX4_reachedFrom : Cond.selects RX4 yX4_reachedFrom yX4_reachedFrom ∈ zWS := zws_mem 460 (by decide +kernel) rfl
theorem zvX4_spread : Cond.selects RX4 yX4_spread yX4_spread ∈ zWS := zws_mem 641 (by decide +kernel) rfl
theorem zvX4_workOut : Cond.selects RX4 yX4_workOut yX4_workOut ∈ zWS := zws_mem 2 (by decide +kernel) rfl
theorem zvX5_decide : Cond.selects RX5 yX5_decide yX5_decide ∈ zWS := zws_mem 10 (by decide +kernel) rfl
theorem zvX5_finishEdit : Cond.selects RX5 yX5_finishEdit yX5_finishEdit ∈ zWS := zws_mem 7 (by decide +kernel) rfl
theorem zvX5_isAllowedBehind : Cond.selects RX5 yX5_isAllowedBehind yX5_isAllowedBehind ∈ zWS := zws_mem 13 (by decide +kernel) rfl
theorem zvX5_isOpenAndAllowed : Cond.selects RX5 yX5_isOpenAndAllowed yX5_isOpenAndAllowed ∈ zWS := zws_mem 12 (by decide +kernel) rfl
theorem zvX5_isTagSet : Cond.selects RX5 yX5_isTagSet yX5_isTagSet ∈ zWS := zws_mem 16 (by decide +kernel) rfl
theorem zvX5_matching : Cond.selects RX5 yX5_matching yX5_matching ∈ zWS := zws_mem 17 (by decide +kernel) rfl
theorem zvX5_needRequest : Cond.selects RX5 yX5_needRequest yX5_needRequest ∈ zWS := zws_mem 9 (by decide +kernel) rfl
theorem zvX5_needSets : Cond.selects RX5 yX5_needSets yX5_needSets ∈ zWS := zws_mem 15 (by decide +kernel) rfl
theorem zvX5_needTag : Cond.selects RX5 yX5_needTag yX5_needTag ∈ zWS := zws_mem 5 (by decide +kernel) rfl
theorem zvX5_needThing : Cond.selects RX5 yX5_needThing yX5_needThing ∈ zWS := zws_mem 6 (by decide +kernel) rfl
theorem zvX6_areSets : Cond.selects RX6 yX6_areSets yX6_areSets ∈ zWS := zws_mem 39 (by decide +kernel) rfl
theorem zvX6_areThere : Cond.selects RX6 yX6_areThere yX6_areThere ∈ zWS := zws_mem 21 (by decide +kernel) rfl
theorem zvX6_begins : Cond.selects RX6 yX6_begins yX6_begins ∈ zWS := zws_mem 24 (by decide +kernel) rfl
theorem zvX6_closed : Cond.selects RX6 yX6_closed yX6_closed ∈ zWS := zws_mem 30 (by decide +kernel) rfl
theorem zvX6_could : Cond.selects RX6 yX6_could yX6_could ∈ zWS := zws_mem 33 (by decide +kernel) rfl
theorem zvX6_couldBehind : Cond.selects RX6 yX6_couldBehind yX6_couldBehind ∈ zWS := zws_mem 37 (by decide +kernel) rfl
theorem zvX6_does : Cond.selects RX6 yX6_does yX6_does ∈ zWS := zws_mem 35 (by decide +kernel) rfl
theorem zvX6_edited : Cond.selects RX6 yX6_edited yX6_edited ∈ zWS := zws_mem 26 (by decide +kernel) rfl
theorem zvX6_endOf : Cond.selects RX6 yX6_endOf yX6_endOf ∈ zWS := zws_mem 29 (by decide +kernel) rfl
theorem zvX6_endsOf : Cond.selects RX6 yX6_endsOf yX6_endsOf ∈ zWS := zws_mem 28 (by decide +kernel) rfl
theorem zvX6_far : Cond.selects RX6 yX6_far yX6_far ∈ zWS := zws_mem 38 (by decide +kernel) rfl
theorem zvX6_hasCircle : Cond.selects RX6 yX6_hasCircle yX6_hasCircle ∈ zWS := zws_mem 36 (by decide +kernel) rfl
theorem zvX6_holds : Cond.selects RX6 yX6_holds yX6_holds ∈ zWS := zws_mem 18 (by decide +kernel) rfl
theorem zvX6_isDraft : Cond.selects RX6 yX6_isDraft yX6_isDraft ∈ zWS := zws_mem 19 (by decide +kernel) rfl
theorem zvX6_isMatch : Cond.selects RX6 yX6_isMatch yX6_isMatch ∈ zWS := zws_mem 41 (by decide +kernel) rfl
theorem zvX6_isRequest : Cond.selects RX6 yX6_isRequest yX6_isRequest ∈ zWS := zws_mem 32 (by decide +kernel) rfl
theorem zvX6_isTag : Cond.selects RX6 yX6_isTag yX6_isTag ∈ zWS := zws_mem 20 (by decide +kernel) rfl
theorem zvX6_isThing : Cond.selects RX6 yX6_isThing yX6_isThing ∈ zWS := zws_mem 22 (by decide +kernel) rfl
theorem zvX6_matches : Cond.selects RX6 yX6_matches yX6_matches ∈ zWS := zws_mem 40 (by decide +kernel) rfl
theorem zvX6_may : Cond.selects RX6 yX6_may yX6_may ∈ zWS := zws_mem 34 (by decide +kernel) rfl
theorem zvX6_onward : Cond.selects RX6 yX6_onward yX6_onward ∈ zWS := zws_mem 31 (by decide +kernel) rfl
theorem zvX6_sets : Cond.selects RX6 yX6_sets yX6_sets ∈ zWS := zws_mem 25 (by decide +kernel) rfl
theorem zvX6_setsOne : Cond.selects RX6 yX6_setsOne yX6_setsOne ∈ zWS := zws_mem 23 (by decide +kernel) rfl
theorem zvX6_shownOf : Cond.selects RX6 yX6_shownOf yX6_shownOf ∈ zWS := zws_mem 27 (by decide +kernel) rfl
end
section
/-! ===== Int32 by its bits: bt x i ===== -/
def bt (x : Int32) (i : Nat) : Bool := x.toBitVec.getLsbD i
theorem b_ext {x y : Int32} (h : ∀ i, i < 32 → bt x i = bt y i) : x = y := Int32.toBitVec_inj.mp (BitVec.eq_of_getLsbD_eq (fun i hi => h i hi))
theorem b_or (x y : Int32) (i : Nat) : bt (x ||| y) i = (bt x i || bt y i) := by unfold bt; rw [Int32.toBitVec_or, BitVec.getLsbD_or]
theorem b_and (x y : Int32) (i : Nat) : bt (x &&& y) i = (bt x i && bt y i) := by unfold bt; rw [Int32.toBitVec_and, BitVec.getLsbD_and]
theorem b_xor (x y : Int32) (i : Nat) : bt (x ^^^ y) i = (bt x i ^^ bt y i) := by unfold bt; rw [Int32.toBitVec_xor, BitVec.getLsbD_xor]
theorem b_big {x : Int32} {i : Nat} (h : 32 ≤ i) : bt x i = false := BitVec.getLsbD_of_ge _ _ h
theorem b_255 (i : Nat) : bt 255 i = decide (i < 8) := by
  rcases Nat.lt_or_ge i 32 with h | h
  · exact (by decide +kernel : ∀ i, i < 32 → bt 255 i = decide (i < 8)) i h
  · rw [b_big h, decide_eq_false (by omega)]
theorem b_65535 (i : Nat) : bt 65535 i = decide (i < 16) := by
  rcases Nat.lt_or_ge i 32 with h | h
  · exact (by decide +kernel : ∀ i, i < 32 → bt 65535 i = decide (i < 16)) i h
  · rw [b_big h, decide_eq_false (by omega)]
theorem b_m1 : ∀ i, i < 32 → bt (-1) i = true := by decide +kernel
theorem b_0 (i : Nat) : bt 0 i = false := BitVec.getLsbD_zero
theorem s_l : ∀ n, n < 32 → ((nI n &&& 31).toBitVec.smod 32).toNat = n := by decide +kernel
theorem s_u : ∀ n, n < 32 → (((nI n).toUInt32 &&& Int32.toUInt32 31).toBitVec % 32).toNat = n := by decide +kernel
theorem b_shl (n : Nat) (hn : n < 32) (x : Int32) {i : Nat} (hi : i < 32) : bt (x <<< (nI n &&& 31)) i = (decide (n ≤ i) && bt x (i - n)) := by
  unfold bt
  rw [Int32.toBitVec_shiftLeft]
  show (x.toBitVec <<< ((nI n &&& 31).toBitVec.smod 32).toNat).getLsbD i = _
  rw [s_l n hn, BitVec.getLsbD_shiftLeft]
  rcases Nat.lt_or_ge i n with h | h
  · simp [h, Nat.not_le.mpr h]
  · simp [hi, h, Nat.not_lt.mpr h]
theorem b_ushr (n : Nat) (hn : n < 32) (x : Int32) (i : Nat) : bt ((x.toUInt32 >>> ((nI n).toUInt32 &&& Int32.toUInt32 31)).toInt32) i = bt x (n + i) := by
  show (x.toUInt32 >>> ((nI n).toUInt32 &&& Int32.toUInt32 31)).toBitVec.getLsbD i = x.toUInt32.toBitVec.getLsbD (n + i)
  rw [UInt32.toBitVec_shiftRight]
  show (x.toUInt32.toBitVec >>> (((nI n).toUInt32 &&& Int32.toUInt32 31).toBitVec % 32).toNat).getLsbD i = _
  rw [s_u n hn, BitVec.getLsbD_ushiftRight]
theorem b_sshr (n : Nat) (hn : n < 32) (x : Int32) {i : Nat} (hi : i < 32) : bt (x >>> (nI n &&& 31)) i = if n + i < 32 then bt x (n + i) else bt x 31 := by
  unfold bt
  rw [Int32.toBitVec_shiftRight]
  show (x.toBitVec.sshiftRight ((nI n &&& 31).toBitVec.smod 32).toNat).getLsbD i = _
  rw [s_l n hn, BitVec.getLsbD_sshiftRight, BitVec.msb_eq_getLsbD_last]
  simp [hi]
theorem b_shl8 (x : Int32) {i : Nat} (hi : i < 32) : bt (x <<< ((8 : Int32) &&& 31)) i = (decide (8 ≤ i) && bt x (i - 8)) := b_shl 8 (by omega) x hi
theorem b_shl16 (x : Int32) {i : Nat} (hi : i < 32) : bt (x <<< ((16 : Int32) &&& 31)) i = (decide (16 ≤ i) && bt x (i - 16)) := b_shl 16 (by omega) x hi
theorem b_shl24 (x : Int32) {i : Nat} (hi : i < 32) : bt (x <<< ((24 : Int32) &&& 31)) i = (decide (24 ≤ i) && bt x (i - 24)) := b_shl 24 (by omega) x hi
theorem b_sshr8 (x : Int32) {i : Nat} (hi : i < 32) : bt (x >>> ((8 : Int32) &&& 31)) i = if 8 + i < 32 then bt x (8 + i) else bt x 31 := b_sshr 8 (by omega) x hi
/-! ===== nI under and, xor, >>>, one bit, 65535 ===== -/
theorem nx_and (a b : Nat) : nI a &&& nI b = nI (a &&& b) := by
  apply Int32.toBitVec_inj.1
  show BitVec.ofNat 32 a &&& BitVec.ofNat 32 b = BitVec.ofNat 32 (a &&& b)
  apply BitVec.eq_of_getLsbD_eq
  intro i hi
  simp [hi]
theorem nx_xor (a b : Nat) : nI a ^^^ nI b = nI (a ^^^ b) := by
  apply Int32.toBitVec_inj.1
  show BitVec.ofNat 32 a ^^^ BitVec.ofNat 32 b = BitVec.ofNat 32 (a ^^^ b)
  apply BitVec.eq_of_getLsbD_eq
  intro i hi
  simp [hi]
theorem nx_cnt : ∀ j : Fin 32, (UInt32.ofNat j.val &&& Int32.toUInt32 31).toNat % 32 = j.val := by decide +kernel
theorem nx_ush {k j : Nat} (hk : k < 65536) (hj : j < 32) : ((nI k).toUInt32 >>> ((nI j).toUInt32 &&& Int32.toUInt32 31)).toInt32 = nI (k >>> j) := by
  have hs : k >>> j ≤ k := by
    rw [Nat.shiftRight_eq_div_pow]
    exact Nat.div_le_self _ _
  have e2 : UInt32.ofNat k >>> (UInt32.ofNat j &&& Int32.toUInt32 31) = UInt32.ofNat (k >>> j) := by
    apply UInt32.toNat_inj.1
    have h1 : (UInt32.ofNat k).toNat = k := Nat.mod_eq_of_lt (by omega)
    have h2 : (UInt32.ofNat (k >>> j)).toNat = k >>> j := Nat.mod_eq_of_lt (by omega)
    rw [UInt32.toNat_shiftRight, nx_cnt ⟨j, hj⟩, h1, h2]
  show (UInt32.ofNat k >>> (UInt32.ofNat j &&& Int32.toUInt32 31)).toInt32 = _
  rw [e2]
  rfl
theorem nx_bit {k j : Nat} (hk : k < 65536) (hj : j < 16) : (((nI k).toUInt32 >>> ((nI j).toUInt32 &&& Int32.toUInt32 31)).toInt32 &&& 1) = 0 ↔ k.testBit j = false := by
  rw [nx_ush hk (by omega)]
  show nI (k >>> j) &&& nI 1 = 0 ↔ _
  rw [nx_and, Nat.and_one_is_mod, ← nI_0, nI_eq (by omega) (by omega), Nat.testBit_eq_decide_div_mod_eq, Nat.shiftRight_eq_div_pow, decide_eq_false_iff_not]
  generalize k / 2 ^ j = z
  omega
theorem nx_mod (k : Nat) : nI k &&& 65535 = nI (k % 65536) := by
  show nI k &&& nI 65535 = _
  rw [nx_and, show (65535 : Nat) = 2 ^ 16 - 1 from rfl, Nat.and_two_pow_sub_one_eq_mod]
theorem nx_m16 {k : Nat} (h : k < 65536) : nI k &&& 65535 = nI k := by rw [nx_mod, Nat.mod_eq_of_lt h]
theorem nx_mask (x : Int32) : ∃ k, k < 65536 ∧ x &&& 65535 = nI k := by
  have e : x = nI x.toBitVec.toNat := by
    apply Int32.toBitVec_inj.1
    show x.toBitVec = BitVec.ofNat 32 x.toBitVec.toNat
    simp
  refine ⟨x.toBitVec.toNat % 65536, Nat.mod_lt _ (by omega), ?_⟩
  rw [← nx_mod, ← e]
/-! ===== Int32 as a set of bits: test, set ===== -/
def nf_M (m : Int32) : Nat := 4294967296 - m.toBitVec.toNat
theorem nf_sh : ∀ l, l < 32 → ((1 : Int32) <<< (nI l &&& 31)).toBitVec = BitVec.twoPow 32 l := by decide +kernel
theorem nf_sl : ∀ l, l < 32 → (((nI l).toUInt32 &&& Int32.toUInt32 31).toBitVec % 32).toNat = l := by decide +kernel
theorem nf_tp : ∀ l, l < 32 → BitVec.twoPow 32 l ≠ 0#32 := by decide +kernel
theorem nf_bit (m : Int32) (l : Nat) (hl : l < 32) : ((m.toUInt32 >>> ((nI l).toUInt32 &&& Int32.toUInt32 31)).toInt32 &&& 1) = 0 ↔ (m &&& ((1 : Int32) <<< (nI l &&& 31))) = 0 := by
  have e : ((m.toUInt32 >>> ((nI l).toUInt32 &&& Int32.toUInt32 31)).toInt32).toBitVec = m.toBitVec >>> l := by
    show m.toBitVec >>> (((nI l).toUInt32 &&& Int32.toUInt32 31).toBitVec % 32) = m.toBitVec >>> l
    rw [BitVec.ushiftRight_eq', nf_sl l hl]
  rw [← Int32.toBitVec_inj, ← Int32.toBitVec_inj, Int32.toBitVec_and, Int32.toBitVec_and, nf_sh l hl, e, BitVec.and_twoPow]
  show (m.toBitVec >>> l &&& 1#32) = 0#32 ↔ _ = 0#32
  rw [BitVec.and_one_eq_setWidth_ofBool_getLsbD, BitVec.getLsbD_ushiftRight, Nat.add_zero]
  cases hb : m.toBitVec.getLsbD l
  · exact ⟨fun _ => by simp, fun _ => by decide⟩
  · exact ⟨fun z => absurd z (by decide), fun z => absurd ((if_pos rfl).symm.trans z) (nf_tp l hl)⟩
theorem nf_gr (m k : Int32) (h : m &&& k = 0) (hk : k ≠ 0) : nf_M (m ||| k) < nf_M m := by
  have hm := m.toBitVec.isLt
  have hm' := (m ||| k).toBitVec.isLt
  have h1 : m.toBitVec.toNat ≤ (m ||| k).toBitVec.toNat := by
    rw [Int32.toBitVec_or, BitVec.toNat_or]
    exact Nat.left_le_or
  have h2 : m.toBitVec.toNat ≠ (m ||| k).toBitVec.toNat := by
    intro e
    have e2 : m = m ||| k := Int32.toBitVec_inj.mp (BitVec.eq_of_toNat_eq e)
    apply hk
    apply Int32.toBitVec_inj.mp
    show k.toBitVec = 0#32
    apply BitVec.eq_of_getLsbD_eq
    intro i hi
    have a : m.toBitVec.getLsbD i = (m.toBitVec.getLsbD i || k.toBitVec.getLsbD i) := by rw [← BitVec.getLsbD_or, ← Int32.toBitVec_or, ← e2]
    have b : (m.toBitVec.getLsbD i && k.toBitVec.getLsbD i) = false := by
      rw [← BitVec.getLsbD_and, ← Int32.toBitVec_and, h]
      exact BitVec.getLsbD_zero
    rw [BitVec.getLsbD_zero]
    revert a b
    cases m.toBitVec.getLsbD i <;> cases k.toBitVec.getLsbD i <;> simp
  unfold nf_M
  omega
/-! ===== drawers: more things than places ===== -/
theorem fb_holes : ∀ (m n : Nat) (f : Nat → Nat), (∀ i, i < n → f i < m) → (∀ i j, i < j → j < n → f i ≠ f j) → n ≤ m := by
  intro m
  induction m with
  | zero =>
    intro n f h1 _
    rcases Nat.eq_zero_or_pos n with h | h
    · omega
    · exact absurd (h1 0 h) (Nat.not_lt_zero _)
  | succ m ih =>
    intro n f h1 h2
    by_cases hx : ∃ i, i < n ∧ f i = m
    · obtain ⟨a, ha, hfa⟩ := hx
      have hg := ih (n - 1) (fun i => if i < a then f i else f (i + 1)) (by
        intro i hi
        by_cases q : i < a
        · simp only [if_pos q]
          have b1 := h1 i (by omega)
          have b2 := h2 i a q ha
          omega
        · simp only [if_neg q]
          have b1 := h1 (i + 1) (by omega)
          have b2 := h2 a (i + 1) (by omega) (by omega)
          omega) (by
        intro i j hij hj
        by_cases q : i < a
        · by_cases r : j < a
          · simp only [if_pos q, if_pos r]
            exact h2 i j hij (by omega)
          · simp only [if_pos q, if_neg r]
            exact h2 i (j + 1) (by omega) (by omega)
        · have r : ¬ j < a := by omega
          simp only [if_neg q, if_neg r]
          exact h2 (i + 1) (j + 1) (by omega) (by omega))
      omega
    · have hg := ih n f (fun i hi => by
        have b1 := h1 i hi
        have b2 : f i ≠ m := fun e => hx ⟨i, hi, e⟩
        omega) h2
      omega
/-- two of them in one place -/
theorem fb_twice {m n : Nat} {f : Nat → Nat} (h : ∀ i, i < n → f i < m) (hm : m < n) : ∃ i j, i < j ∧ j < n ∧ f i = f j := by
  refine Classical.byContradiction fun hx => ?_
  have := fb_holes m n f h (fun i j hij hj e => hx ⟨i, j, hij, hj, e⟩)
  omega
/-- as many as places, none twice: each place is taken -/
theorem fb_onto {n : Nat} {f : Nat → Nat} (h : ∀ i, i < n → f i < n) (h2 : ∀ i j, i < j → j < n → f i ≠ f j) {y : Nat} (hy : y < n) : ∃ i, i < n ∧ f i = y := by
  refine Classical.byContradiction fun hx => ?_
  have hne : ∀ i, i < n → f i ≠ y := fun i hi e => hx ⟨i, hi, e⟩
  have := fb_holes (n - 1) n (fun i => if f i < y then f i else f i - 1) (by
    intro i hi
    have b1 := h i hi
    have b2 := hne i hi
    by_cases q : f i < y
    · simp only [if_pos q]; omega
    · simp only [if_neg q]; omega) (by
    intro i j hij hj
    have b1 := hne i (by omega)
    have b2 := hne j hj
    have b3 := h2 i j hij hj
    by_cases q : f i < y
    · by_cases r : f j < y
      · simp only [if_pos q, if_pos r]; exact b3
      · simp only [if_pos q, if_neg r]; omega
    · by_cases r : f j < y
      · simp only [if_neg q, if_pos r]; omega
      · simp only [if_neg q, if_neg r]; omega)
  omega
/-! ===== how many places have a property ===== -/
def fb_ct (p : Nat → Bool) : Nat → Nat
  | 0 => 0
  | n + 1 => fb_ct p n + (if p n then 1 else 0)
theorem fb_ct_succ (p : Nat → Bool) (n : Nat) : fb_ct p (n + 1) = fb_ct p n + (if p n then 1 else 0) := rfl
theorem fb_ct_le (p : Nat → Bool) : ∀ n, fb_ct p n ≤ n
  | 0 => Nat.le_refl _
  | n + 1 => by
    have h := fb_ct_le p n
    rw [fb_ct_succ]
    split <;> omega
theorem fb_ct_step (p : Nat → Bool) (m : Nat) : ∀ n, fb_ct p m ≤ fb_ct p (m + n)
  | 0 => Nat.le_refl _
  | n + 1 => by
    have h := fb_ct_step p m n
    show fb_ct p m ≤ fb_ct p (m + n + 1)
    rw [fb_ct_succ]
    omega
theorem fb_ct_mono (p : Nat → Bool) {m n : Nat} (h : m ≤ n) : fb_ct p m ≤ fb_ct p n := by
  have := fb_ct_step p m (n - m)
  rwa [Nat.add_sub_cancel' h] at this
theorem fb_ct_cong {p q : Nat → Bool} : ∀ {n : Nat}, (∀ k, k < n → p k = q k) → fb_ct p n = fb_ct q n
  | 0, _ => rfl
  | n + 1, h => by
    rw [fb_ct_succ, fb_ct_succ, fb_ct_cong (fun k hk => h k (by omega)), h n (by omega)]
/-- one place changed -/
theorem fb_ct_out (p : Nat → Bool) (b : Bool) {i n : Nat} (h : n ≤ i) : fb_ct (fun k => if k = i then b else p k) n = fb_ct p n :=
  fb_ct_cong fun k hk => if_neg (by omega)
theorem fb_ct_upd (p : Nat → Bool) (b : Bool) {i : Nat} : ∀ {n : Nat}, i < n → fb_ct (fun k => if k = i then b else p k) n + (if p i then 1 else 0) = fb_ct p n + (if b then 1 else 0)
  | 0, h => absurd h (Nat.not_lt_zero i)
  | n + 1, h => by
    rw [fb_ct_succ, fb_ct_succ]
    rcases Nat.lt_or_ge i n with q | q
    · have := fb_ct_upd p b q
      have e : (if n = i then b else p n) = p n := if_neg (by omega)
      rw [e]
      omega
    · have e : i = n := by omega
      subst e
      rw [fb_ct_out p b (Nat.le_refl _)]
      simp only [if_true]
      omega
theorem fb_ct_sub {p q : Nat → Bool} : ∀ {n : Nat}, (∀ k, k < n → p k = true → q k = true) → fb_ct p n ≤ fb_ct q n
  | 0, _ => Nat.le_refl _
  | n + 1, h => by
    have h1 := fb_ct_sub (n := n) (p := p) (q := q) (fun k hk => h k (by omega))
    have h2 := h n (by omega)
    rw [fb_ct_succ, fb_ct_succ]
    cases hp : p n <;> cases hq : q n <;> simp_all <;> omega
theorem fb_ct_or {p q : Nat → Bool} : ∀ {n : Nat}, (∀ k, k < n → ¬ (p k = true ∧ q k = true)) → fb_ct (fun k => p k || q k) n = fb_ct p n + fb_ct q n
  | 0, _ => rfl
  | n + 1, h => by
    have h1 := fb_ct_or (n := n) (p := p) (q := q) (fun k hk => h k (by omega))
    have h2 := h n (by omega)
    rw [fb_ct_succ, fb_ct_succ, fb_ct_succ, h1]
    cases hp : p n <;> cases hq : q n <;> simp_all <;> omega
theorem fb_ct_not (p : Nat → Bool) : ∀ n, fb_ct p n + fb_ct (fun k => !p k) n = n
  | 0 => rfl
  | n + 1 => by
    have h := fb_ct_not p n
    rw [fb_ct_succ, fb_ct_succ]
    cases p n <;> simp <;> omega
theorem fb_ct_split (p : Nat → Bool) (m : Nat) : ∀ n, fb_ct p (m + n) = fb_ct p m + fb_ct (fun k => p (m + k)) n
  | 0 => rfl
  | n + 1 => by
    have h := fb_ct_split p m n
    show fb_ct p (m + n + 1) = _
    rw [fb_ct_succ, fb_ct_succ, h, Nat.add_assoc]
theorem fb_ct_zero {p : Nat → Bool} : ∀ {n : Nat}, fb_ct p n = 0 ↔ ∀ k, k < n → p k = false
  | 0 => ⟨fun _ k hk => absurd hk (Nat.not_lt_zero k), fun _ => rfl⟩
  | n + 1 => by
    have h := fb_ct_zero (p := p) (n := n)
    rw [fb_ct_succ]
    constructor
    · intro e k hk
      have e1 : fb_ct p n = 0 := by omega
      rcases Nat.lt_or_ge k n with q | q
      · exact h.mp e1 k q
      · have ek : k = n := by omega
        subst ek
        cases hp : p k
        · rfl
        · simp [hp] at e
    · intro a
      rw [h.mpr (fun k hk => a k (by omega)), a n (by omega)]
      rfl
theorem fb_ct_pos {p : Nat → Bool} {n : Nat} : 0 < fb_ct p n ↔ ∃ k, k < n ∧ p k = true := by
  constructor
  · intro h
    refine Classical.byContradiction fun hx => ?_
    have := fb_ct_zero.mpr (fun k hk => by
      cases hp : p k
      · rfl
      · exact absurd ⟨k, hk, hp⟩ hx : ∀ k, k < n → p k = false)
    omega
  · rintro ⟨k, hk, hp⟩
    rcases Nat.eq_zero_or_pos (fb_ct p n) with e | e
    · have := fb_ct_zero.mp e k hk
      rw [this] at hp
      cases hp
    · exact e
theorem fb_ct_all {p : Nat → Bool} {n : Nat} : fb_ct p n = n ↔ ∀ k, k < n → p k = true := by
  have h := fb_ct_not p n
  constructor
  · intro e k hk
    have z : fb_ct (fun k => !p k) n = 0 := by omega
    have := fb_ct_zero.mp z k hk
    cases hp : p k
    · simp [hp] at this
    · rfl
  · intro a
    have z : fb_ct (fun k => !p k) n = 0 := fb_ct_zero.mpr (fun k hk => by simp [a k hk])
    omega
/-- the k-th place with the property -/
theorem fb_ct_kth {p : Nat → Bool} {k : Nat} : ∀ {n : Nat}, k < fb_ct p n → ∃ i, i < n ∧ p i = true ∧ fb_ct p i = k
  | 0, h => absurd h (Nat.not_lt_zero k)
  | n + 1, h => by
    rcases Nat.lt_or_ge k (fb_ct p n) with q | q
    · obtain ⟨i, h1, h2⟩ := fb_ct_kth q
      exact ⟨i, by omega, h2⟩
    · rw [fb_ct_succ] at h
      cases hp : p n
      · simp [hp] at h; omega
      · simp [hp] at h
        exact ⟨n, by omega, hp, by omega⟩
theorem fb_ct_kth_one {p : Nat → Bool} {i j : Nat} (hi : p i = true) (hj : p j = true) (e : fb_ct p i = fb_ct p j) : i = j := by
  have key : ∀ a b : Nat, a < b → p a = true → fb_ct p a < fb_ct p b := by
    intro a b hab ha
    have h := fb_ct_mono p (show a + 1 ≤ b from hab)
    rw [fb_ct_succ, ha] at h
    simp at h
    omega
  rcases Nat.lt_trichotomy i j with q | q | q
  · have := key i j q hi; omega
  · exact q
  · have := key j i q hj; omega
/-! ===== sums over a range: one place changed, parts, bounds ===== -/
end
section

/-! ===== a block of cells of a heap ===== -/
def zB (bs : Nat) (cells : List va_E) (f : ZH) : ZH := fun k => if bs ≤ k ∧ k < bs + cells.length then cells.getD (k - bs) zdum else f k
theorem zB_in {bs i : Nat} {cells : List va_E} {f : ZH} (h : i < cells.length) : zB bs cells f (bs + i) = cells.getD i zdum := by
  unfold zB
  rw [if_pos ⟨Nat.le_add_right _ _, by omega⟩, Nat.add_sub_cancel_left]
theorem zB_out {bs k : Nat} {cells : List va_E} {f : ZH} (h : k < bs ∨ bs + cells.length ≤ k) : zB bs cells f k = f k := by
  unfold zB
  rw [if_neg (by omega)]
theorem zB_set {bs i : Nat} {cells : List va_E} {f : ZH} {x : va_E} (h : i < cells.length) : zup (zB bs cells f) (bs + i) x = zB bs (cells.set i x) f := by
  funext k
  unfold zup
  by_cases hk : k = bs + i
  · subst hk
    rw [if_pos rfl, zB_in (by rw [List.length_set]; exact h)]
    rw [List.getD_eq_getElem?_getD, List.getElem?_set_self h]; rfl
  · rw [if_neg hk]
    unfold zB
    rw [List.length_set]
    split
    · next h1 =>
      rw [List.getD_eq_getElem?_getD, List.getD_eq_getElem?_getD, List.getElem?_set_ne (by omega)]
    · rfl
theorem zB_zB {bs : Nat} {c c' : List va_E} {f : ZH} (h : c'.length = c.length) : zB bs c' (zB bs c f) = zB bs c' f := by
  funext k
  unfold zB
  rw [h]
  split <;> rfl
theorem zB_swap {b1 b2 : Nat} {c1 c2 : List va_E} {f : ZH} (h : b1 + c1.length ≤ b2 ∨ b2 + c2.length ≤ b1) : zB b1 c1 (zB b2 c2 f) = zB b2 c2 (zB b1 c1 f) := by
  funext k
  unfold zB
  by_cases h1 : b1 ≤ k ∧ k < b1 + c1.length
  · rw [if_pos h1, if_neg (by omega), if_pos h1]
  · by_cases h2 : b2 ≤ k ∧ k < b2 + c2.length
    · rw [if_neg h1, if_pos h2, if_pos h2]
    · rw [if_neg h1, if_neg h2, if_neg h2, if_neg h1]
/-- a part of a block set anew -/
theorem zB_part {bs b2 : Nat} {A c c' B : List va_E} {f : ZH} (hb : b2 = bs + A.length) (h : c'.length = c.length) : zB b2 c' (zB bs (A ++ c ++ B) f) = zB bs (A ++ c' ++ B) f := by
  subst hb
  funext k
  unfold zB
  simp only [List.length_append]
  by_cases h1 : bs + A.length ≤ k ∧ k < bs + A.length + c'.length
  · rw [if_pos h1, if_pos (by omega)]
    rw [List.getD_eq_getElem?_getD, List.getD_eq_getElem?_getD, List.append_assoc, List.getElem?_append_right (by omega), List.getElem?_append_left (by omega)]
    congr 2
    omega
  · rw [if_neg h1]
    by_cases h2 : bs ≤ k ∧ k < bs + (A.length + c.length + B.length)
    · rw [if_pos h2, if_pos (by omega)]
      rw [List.getD_eq_getElem?_getD, List.getD_eq_getElem?_getD]
      by_cases h3 : k < bs + A.length
      · rw [List.append_assoc, List.append_assoc, List.getElem?_append_left (by omega), List.getElem?_append_left (by omega)]
      · rw [List.getElem?_append_right (by rw [List.length_append]; omega), List.getElem?_append_right (by rw [List.length_append]; omega)]
        simp only [List.length_append, h]
    · rw [if_neg h2, if_neg (by omega)]
theorem zB_self {bs b2 : Nat} {A c B : List va_E} {f : ZH} (hb : b2 = bs + A.length) : zB b2 c (zB bs (A ++ c ++ B) f) = zB bs (A ++ c ++ B) f := zB_part hb rfl
abbrev zNS : Type := (Nat → Int32) × (Nat → Int32) × (Nat → Int32) × Int32 × Int32
def cN (x : zNS) : List va_E := [.inr (1, [.ref 2, .ref 3, .ref 4, .int x.2.2.2.1, .int x.2.2.2.2]), .inl (1, 192, .inl x.1), .inl (0, 24, .inl x.2.1), .inl (1, 8, .inl x.2.2.1)]
def pN (x : zNS) (f : ZH) : ZH := zB 1 (cN x) f
theorem pN_pN {x y : zNS} {f : ZH} : pN x (pN y f) = pN x f := zB_zB rfl
theorem pN_0 {x : zNS} {f : ZH} : pN x f 1 = .inr (1, [.ref 2, .ref 3, .ref 4, .int x.2.2.2.1, .int x.2.2.2.2]) := zB_in (i := 0) (by show 0 < 4; decide)
theorem pN_1 {x : zNS} {f : ZH} : pN x f 2 = .inl (1, 192, .inl x.1) := zB_in (i := 1) (by show 1 < 4; decide)
theorem pN_2 {x : zNS} {f : ZH} : pN x f 3 = .inl (0, 24, .inl x.2.1) := zB_in (i := 2) (by show 2 < 4; decide)
theorem pN_3 {x : zNS} {f : ZH} : pN x f 4 = .inl (1, 8, .inl x.2.2.1) := zB_in (i := 3) (by show 3 < 4; decide)
theorem pN_s0 {x : zNS} {f : ZH} {v : Nat → Int32} : zup (pN x f) 2 (.inl (1, 192, .inl v)) = pN (v, x.2.1, x.2.2.1, x.2.2.2.1, x.2.2.2.2) f := zB_set (i := 1) (by show 1 < 4; decide)
theorem pN_s1 {x : zNS} {f : ZH} {v : Nat → Int32} : zup (pN x f) 3 (.inl (0, 24, .inl v)) = pN (x.1, v, x.2.2.1, x.2.2.2.1, x.2.2.2.2) f := zB_set (i := 2) (by show 2 < 4; decide)
theorem pN_s2 {x : zNS} {f : ZH} {v : Nat → Int32} : zup (pN x f) 4 (.inl (1, 8, .inl v)) = pN (x.1, x.2.1, v, x.2.2.2.1, x.2.2.2.2) f := zB_set (i := 3) (by show 3 < 4; decide)
theorem pN_s3 {x : zNS} {f : ZH} {v : Int32} {u4 : Int32} (e4 : u4 = x.2.2.2.2) : zup (pN x f) 1 (.inr (1, [.ref 2, .ref 3, .ref 4, .int v, .int u4])) = pN (x.1, x.2.1, x.2.2.1, v, x.2.2.2.2) f := by subst e4; exact zB_set (i := 0) (by show 0 < 4; decide)
theorem pN_s4 {x : zNS} {f : ZH} {v : Int32} {u3 : Int32} (e3 : u3 = x.2.2.2.1) : zup (pN x f) 1 (.inr (1, [.ref 2, .ref 3, .ref 4, .int u3, .int v])) = pN (x.1, x.2.1, x.2.2.1, x.2.2.2.1, v) f := by subst e3; exact zB_set (i := 0) (by show 0 < 4; decide)
abbrev zRS : Type := (Nat → Int32) × (Nat → Int32) × (Nat → Int32) × (Nat → Int32) × Int32
def cR (bs : Nat) (x : zRS) : List va_E := [.inr (4, [.ref (bs + 1), .ref (bs + 2), .ref (bs + 3), .ref (bs + 4), .int x.2.2.2.2]), .inl (0, 24, .inl x.1), .inl (0, 24, .inl x.2.1), .inl (0, 24, .inl x.2.2.1), .inl (0, 24, .inl x.2.2.2.1)]
def pR (bs : Nat) (x : zRS) (f : ZH) : ZH := zB bs (cR bs x) f
theorem pR_pR {bs : Nat} {x y : zRS} {f : ZH} : pR bs x (pR bs y f) = pR bs x f := zB_zB rfl
theorem pR_0 {bs : Nat} {x : zRS} {f : ZH} : pR bs x f bs = .inr (4, [.ref (bs + 1), .ref (bs + 2), .ref (bs + 3), .ref (bs + 4), .int x.2.2.2.2]) := zB_in (i := 0) (by show 0 < 5; decide)
theorem pR_1 {bs : Nat} {x : zRS} {f : ZH} : pR bs x f (bs + 1) = .inl (0, 24, .inl x.1) := zB_in (i := 1) (by show 1 < 5; decide)
theorem pR_2 {bs : Nat} {x : zRS} {f : ZH} : pR bs x f (bs + 2) = .inl (0, 24, .inl x.2.1) := zB_in (i := 2) (by show 2 < 5; decide)
theorem pR_3 {bs : Nat} {x : zRS} {f : ZH} : pR bs x f (bs + 3) = .inl (0, 24, .inl x.2.2.1) := zB_in (i := 3) (by show 3 < 5; decide)
theorem pR_4 {bs : Nat} {x : zRS} {f : ZH} : pR bs x f (bs + 4) = .inl (0, 24, .inl x.2.2.2.1) := zB_in (i := 4) (by show 4 < 5; decide)
theorem pR_s0 {bs : Nat} {x : zRS} {f : ZH} {v : Nat → Int32} : zup (pR bs x f) (bs + 1) (.inl (0, 24, .inl v)) = pR bs (v, x.2.1, x.2.2.1, x.2.2.2.1, x.2.2.2.2) f := zB_set (i := 1) (by show 1 < 5; decide)
theorem pR_s1 {bs : Nat} {x : zRS} {f : ZH} {v : Nat → Int32} : zup (pR bs x f) (bs + 2) (.inl (0, 24, .inl v)) = pR bs (x.1, v, x.2.2.1, x.2.2.2.1, x.2.2.2.2) f := zB_set (i := 2) (by show 2 < 5; decide)
theorem pR_s2 {bs : Nat} {x : zRS} {f : ZH} {v : Nat → Int32} : zup (pR bs x f) (bs + 3) (.inl (0, 24, .inl v)) = pR bs (x.1, x.2.1, v, x.2.2.2.1, x.2.2.2.2) f := zB_set (i := 3) (by show 3 < 5; decide)
theorem pR_s3 {bs : Nat} {x : zRS} {f : ZH} {v : Nat → Int32} : zup (pR bs x f) (bs + 4) (.inl (0, 24, .inl v)) = pR bs (x.1, x.2.1, x.2.2.1, v, x.2.2.2.2) f := zB_set (i := 4) (by show 4 < 5; decide)
theorem pR_s4 {bs : Nat} {x : zRS} {f : ZH} {v : Int32} : zup (pR bs x f) bs (.inr (4, [.ref (bs + 1), .ref (bs + 2), .ref (bs + 3), .ref (bs + 4), .int v])) = pR bs (x.1, x.2.1, x.2.2.1, x.2.2.2.1, v) f := by exact zB_set (i := 0) (by show 0 < 5; decide)
abbrev zQS : Type := (Nat → Int32) × (Nat → Int32) × (Nat → Int32) × (Nat → Int32) × (Nat → Int32) × (Nat → Int32) × Int32
def cQ (x : zQS) : List va_E := [.inr (2, [.ref 16, .ref 17, .ref 18, .ref 19, .ref 20, .ref 21, .int x.2.2.2.2.2.2]), .inl (0, 40, .inl x.1), .inl (0, 40, .inl x.2.1), .inl (0, 40, .inl x.2.2.1), .inl (0, 40, .inl x.2.2.2.1), .inl (0, 40, .inl x.2.2.2.2.1), .inl (0, 40, .inl x.2.2.2.2.2.1)]
def pQ (x : zQS) (f : ZH) : ZH := zB 15 (cQ x) f
theorem pQ_pQ {x y : zQS} {f : ZH} : pQ x (pQ y f) = pQ x f := zB_zB rfl
theorem pQ_0 {x : zQS} {f : ZH} : pQ x f 15 = .inr (2, [.ref 16, .ref 17, .ref 18, .ref 19, .ref 20, .ref 21, .int x.2.2.2.2.2.2]) := zB_in (i := 0) (by show 0 < 7; decide)
theorem pQ_1 {x : zQS} {f : ZH} : pQ x f 16 = .inl (0, 40, .inl x.1) := zB_in (i := 1) (by show 1 < 7; decide)
theorem pQ_2 {x : zQS} {f : ZH} : pQ x f 17 = .inl (0, 40, .inl x.2.1) := zB_in (i := 2) (by show 2 < 7; decide)
theorem pQ_3 {x : zQS} {f : ZH} : pQ x f 18 = .inl (0, 40, .inl x.2.2.1) := zB_in (i := 3) (by show 3 < 7; decide)
theorem pQ_4 {x : zQS} {f : ZH} : pQ x f 19 = .inl (0, 40, .inl x.2.2.2.1) := zB_in (i := 4) (by show 4 < 7; decide)
theorem pQ_5 {x : zQS} {f : ZH} : pQ x f 20 = .inl (0, 40, .inl x.2.2.2.2.1) := zB_in (i := 5) (by show 5 < 7; decide)
theorem pQ_6 {x : zQS} {f : ZH} : pQ x f 21 = .inl (0, 40, .inl x.2.2.2.2.2.1) := zB_in (i := 6) (by show 6 < 7; decide)
theorem pQ_s0 {x : zQS} {f : ZH} {v : Nat → Int32} : zup (pQ x f) 16 (.inl (0, 40, .inl v)) = pQ (v, x.2.1, x.2.2.1, x.2.2.2.1, x.2.2.2.2.1, x.2.2.2.2.2.1, x.2.2.2.2.2.2) f := zB_set (i := 1) (by show 1 < 7; decide)
theorem pQ_s1 {x : zQS} {f : ZH} {v : Nat → Int32} : zup (pQ x f) 17 (.inl (0, 40, .inl v)) = pQ (x.1, v, x.2.2.1, x.2.2.2.1, x.2.2.2.2.1, x.2.2.2.2.2.1, x.2.2.2.2.2.2) f := zB_set (i := 2) (by show 2 < 7; decide)
theorem pQ_s2 {x : zQS} {f : ZH} {v : Nat → Int32} : zup (pQ x f) 18 (.inl (0, 40, .inl v)) = pQ (x.1, x.2.1, v, x.2.2.2.1, x.2.2.2.2.1, x.2.2.2.2.2.1, x.2.2.2.2.2.2) f := zB_set (i := 3) (by show 3 < 7; decide)
theorem pQ_s3 {x : zQS} {f : ZH} {v : Nat → Int32} : zup (pQ x f) 19 (.inl (0, 40, .inl v)) = pQ (x.1, x.2.1, x.2.2.1, v, x.2.2.2.2.1, x.2.2.2.2.2.1, x.2.2.2.2.2.2) f := zB_set (i := 4) (by show 4 < 7; decide)
theorem pQ_s4 {x : zQS} {f : ZH} {v : Nat → Int32} : zup (pQ x f) 20 (.inl (0, 40, .inl v)) = pQ (x.1, x.2.1, x.2.2.1, x.2.2.2.1, v, x.2.2.2.2.2.1, x.2.2.2.2.2.2) f := zB_set (i := 5) (by show 5 < 7; decide)
theorem pQ_s5 {x : zQS} {f : ZH} {v : Nat → Int32} : zup (pQ x f) 21 (.inl (0, 40, .inl v)) = pQ (x.1, x.2.1, x.2.2.1, x.2.2.2.1, x.2.2.2.2.1, v, x.2.2.2.2.2.2) f := zB_set (i := 6) (by show 6 < 7; decide)
theorem pQ_s6 {x : zQS} {f : ZH} {v : Int32} : zup (pQ x f) 15 (.inr (2, [.ref 16, .ref 17, .ref 18, .ref 19, .ref 20, .ref 21, .int v])) = pQ (x.1, x.2.1, x.2.2.1, x.2.2.2.1, x.2.2.2.2.1, x.2.2.2.2.2.1, v) f := by exact zB_set (i := 0) (by show 0 < 7; decide)
abbrev zHS : Type := (Nat → Int32) × (Nat → Int32) × (Nat → Int32) × (Nat → Int32) × Int32 × Int32 × Int32
def cH (x : zHS) : List va_E := [.inr (0, [.ref 23, .ref 24, .ref 25, .ref 26, .int x.2.2.2.2.1, .int x.2.2.2.2.2.1, .int x.2.2.2.2.2.2]), .inl (0, 20, .inl x.1), .inl (0, 20, .inl x.2.1), .inl (0, 20, .inl x.2.2.1), .inl (0, 400, .inl x.2.2.2.1)]
def pH (x : zHS) (f : ZH) : ZH := zB 22 (cH x) f
theorem pH_pH {x y : zHS} {f : ZH} : pH x (pH y f) = pH x f := zB_zB rfl
theorem pH_0 {x : zHS} {f : ZH} : pH x f 22 = .inr (0, [.ref 23, .ref 24, .ref 25, .ref 26, .int x.2.2.2.2.1, .int x.2.2.2.2.2.1, .int x.2.2.2.2.2.2]) := zB_in (i := 0) (by show 0 < 5; decide)
theorem pH_1 {x : zHS} {f : ZH} : pH x f 23 = .inl (0, 20, .inl x.1) := zB_in (i := 1) (by show 1 < 5; decide)
theorem pH_2 {x : zHS} {f : ZH} : pH x f 24 = .inl (0, 20, .inl x.2.1) := zB_in (i := 2) (by show 2 < 5; decide)
theorem pH_3 {x : zHS} {f : ZH} : pH x f 25 = .inl (0, 20, .inl x.2.2.1) := zB_in (i := 3) (by show 3 < 5; decide)
theorem pH_4 {x : zHS} {f : ZH} : pH x f 26 = .inl (0, 400, .inl x.2.2.2.1) := zB_in (i := 4) (by show 4 < 5; decide)
theorem pH_s0 {x : zHS} {f : ZH} {v : Nat → Int32} : zup (pH x f) 23 (.inl (0, 20, .inl v)) = pH (v, x.2.1, x.2.2.1, x.2.2.2.1, x.2.2.2.2.1, x.2.2.2.2.2.1, x.2.2.2.2.2.2) f := zB_set (i := 1) (by show 1 < 5; decide)
theorem pH_s1 {x : zHS} {f : ZH} {v : Nat → Int32} : zup (pH x f) 24 (.inl (0, 20, .inl v)) = pH (x.1, v, x.2.2.1, x.2.2.2.1, x.2.2.2.2.1, x.2.2.2.2.2.1, x.2.2.2.2.2.2) f := zB_set (i := 2) (by show 2 < 5; decide)
theorem pH_s2 {x : zHS} {f : ZH} {v : Nat → Int32} : zup (pH x f) 25 (.inl (0, 20, .inl v)) = pH (x.1, x.2.1, v, x.2.2.2.1, x.2.2.2.2.1, x.2.2.2.2.2.1, x.2.2.2.2.2.2) f := zB_set (i := 3) (by show 3 < 5; decide)
theorem pH_s3 {x : zHS} {f : ZH} {v : Nat → Int32} : zup (pH x f) 26 (.inl (0, 400, .inl v)) = pH (x.1, x.2.1, x.2.2.1, v, x.2.2.2.2.1, x.2.2.2.2.2.1, x.2.2.2.2.2.2) f := zB_set (i := 4) (by show 4 < 5; decide)
theorem pH_s4 {x : zHS} {f : ZH} {v : Int32} {u5 : Int32} (e5 : u5 = x.2.2.2.2.2.1) {u6 : Int32} (e6 : u6 = x.2.2.2.2.2.2) : zup (pH x f) 22 (.inr (0, [.ref 23, .ref 24, .ref 25, .ref 26, .int v, .int u5, .int u6])) = pH (x.1, x.2.1, x.2.2.1, x.2.2.2.1, v, x.2.2.2.2.2.1, x.2.2.2.2.2.2) f := by subst e5; subst e6; exact zB_set (i := 0) (by show 0 < 5; decide)
theorem pH_s5 {x : zHS} {f : ZH} {v : Int32} {u4 : Int32} (e4 : u4 = x.2.2.2.2.1) {u6 : Int32} (e6 : u6 = x.2.2.2.2.2.2) : zup (pH x f) 22 (.inr (0, [.ref 23, .ref 24, .ref 25, .ref 26, .int u4, .int v, .int u6])) = pH (x.1, x.2.1, x.2.2.1, x.2.2.2.1, x.2.2.2.2.1, v, x.2.2.2.2.2.2) f := by subst e4; subst e6; exact zB_set (i := 0) (by show 0 < 5; decide)
theorem pH_s6 {x : zHS} {f : ZH} {v : Int32} {u4 : Int32} (e4 : u4 = x.2.2.2.2.1) {u5 : Int32} (e5 : u5 = x.2.2.2.2.2.1) : zup (pH x f) 22 (.inr (0, [.ref 23, .ref 24, .ref 25, .ref 26, .int u4, .int u5, .int v])) = pH (x.1, x.2.1, x.2.2.1, x.2.2.2.1, x.2.2.2.2.1, x.2.2.2.2.2.1, v) f := by subst e4; subst e5; exact zB_set (i := 0) (by show 0 < 5; decide)
abbrev zVS : Type := (Nat → Int32)
def cV (x : zVS) : List va_E := [.inr (3, [.ref 28]), .inl (0, 24, .inl x)]
def pV (x : zVS) (f : ZH) : ZH := zB 27 (cV x) f
theorem pV_pV {x y : zVS} {f : ZH} : pV x (pV y f) = pV x f := zB_zB rfl
theorem pV_0 {x : zVS} {f : ZH} : pV x f 27 = .inr (3, [.ref 28]) := zB_in (i := 0) (by show 0 < 2; decide)
theorem pV_1 {x : zVS} {f : ZH} : pV x f 28 = .inl (0, 24, .inl x) := zB_in (i := 1) (by show 1 < 2; decide)
theorem pV_s0 {x : zVS} {f : ZH} {v : Nat → Int32} : zup (pV x f) 28 (.inl (0, 24, .inl v)) = pV v f := zB_set (i := 1) (by show 1 < 2; decide)
abbrev zMS : Type := Int32 × (Nat → Int32) × Int32 × Int32 × (Nat → Int32) × (Nat → Int32) × (Nat → Int32) × (Nat → Int32) × Int32 × (Nat → Int32) × Int32 × (Nat → Int32) × (Nat → Int32) × (Nat → Int32) × (Nat → Int32) × (Nat → Int32) × (Nat → Int32) × Int32 × (Nat → Int32) × (Nat → Int32)
def cM (x : zMS) : List va_E := [.inr (6, [.int x.1, .ref 30, .int x.2.2.1, .int x.2.2.2.1, .ref 31, .ref 32, .ref 33, .ref 34, .int x.2.2.2.2.2.2.2.2.1, .ref 35, .int x.2.2.2.2.2.2.2.2.2.2.1, .ref 36, .ref 37, .ref 38, .ref 39, .ref 40, .ref 41, .int x.2.2.2.2.2.2.2.2.2.2.2.2.2.2.2.2.2.1, .ref 42, .ref 43]), .inl (1, 8, .inl x.2.1), .inl (1, 192, .inl x.2.2.2.2.1), .inl (0, 24, .inl x.2.2.2.2.2.1), .inl (0, 24, .inl x.2.2.2.2.2.2.1), .inl (0, 24, .inl x.2.2.2.2.2.2.2.1), .inl (0, 20, .inl x.2.2.2.2.2.2.2.2.2.1), .inl (0, 40, .inl x.2.2.2.2.2.2.2.2.2.2.2.1), .inl (0, 40, .inl x.2.2.2.2.2.2.2.2.2.2.2.2.1), .inl (0, 40, .inl x.2.2.2.2.2.2.2.2.2.2.2.2.2.1), .inl (0, 40, .inl x.2.2.2.2.2.2.2.2.2.2.2.2.2.2.1), .inl (0, 40, .inl x.2.2.2.2.2.2.2.2.2.2.2.2.2.2.2.1), .inl (0, 40, .inl x.2.2.2.2.2.2.2.2.2.2.2.2.2.2.2.2.1), .inl (0, 20, .inl x.2.2.2.2.2.2.2.2.2.2.2.2.2.2.2.2.2.2.1), .inl (0, 400, .inl x.2.2.2.2.2.2.2.2.2.2.2.2.2.2.2.2.2.2.2)]
def pM (x : zMS) (f : ZH) : ZH := zB 29 (cM x) f
theorem pM_pM {x y : zMS} {f : ZH} : pM x (pM y f) = pM x f := zB_zB rfl
theorem pM_0 {x : zMS} {f : ZH} : pM x f 29 = .inr (6, [.int x.1, .ref 30, .int x.2.2.1, .int x.2.2.2.1, .ref 31, .ref 32, .ref 33, .ref 34, .int x.2.2.2.2.2.2.2.2.1, .ref 35, .int x.2.2.2.2.2.2.2.2.2.2.1, .ref 36, .ref 37, .ref 38, .ref 39, .ref 40, .ref 41, .int x.2.2.2.2.2.2.2.2.2.2.2.2.2.2.2.2.2.1, .ref 42, .ref 43]) := zB_in (i := 0) (by show 0 < 15; decide)
theorem pM_1 {x : zMS} {f : ZH} : pM x f 30 = .inl (1, 8, .inl x.2.1) := zB_in (i := 1) (by show 1 < 15; decide)
theorem pM_2 {x : zMS} {f : ZH} : pM x f 31 = .inl (1, 192, .inl x.2.2.2.2.1) := zB_in (i := 2) (by show 2 < 15; decide)
theorem pM_3 {x : zMS} {f : ZH} : pM x f 32 = .inl (0, 24, .inl x.2.2.2.2.2.1) := zB_in (i := 3) (by show 3 < 15; decide)
theorem pM_4 {x : zMS} {f : ZH} : pM x f 33 = .inl (0, 24, .inl x.2.2.2.2.2.2.1) := zB_in (i := 4) (by show 4 < 15; decide)
theorem pM_5 {x : zMS} {f : ZH} : pM x f 34 = .inl (0, 24, .inl x.2.2.2.2.2.2.2.1) := zB_in (i := 5) (by show 5 < 15; decide)
theorem pM_6 {x : zMS} {f : ZH} : pM x f 35 = .inl (0, 20, .inl x.2.2.2.2.2.2.2.2.2.1) := zB_in (i := 6) (by show 6 < 15; decide)
theorem pM_7 {x : zMS} {f : ZH} : pM x f 36 = .inl (0, 40, .inl x.2.2.2.2.2.2.2.2.2.2.2.1) := zB_in (i := 7) (by show 7 < 15; decide)
theorem pM_8 {x : zMS} {f : ZH} : pM x f 37 = .inl (0, 40, .inl x.2.2.2.2.2.2.2.2.2.2.2.2.1) := zB_in (i := 8) (by show 8 < 15; decide)
theorem pM_9 {x : zMS} {f : ZH} : pM x f 38 = .inl (0, 40, .inl x.2.2.2.2.2.2.2.2.2.2.2.2.2.1) := zB_in (i := 9) (by show 9 < 15; decide)
theorem pM_10 {x : zMS} {f : ZH} : pM x f 39 = .inl (0, 40, .inl x.2.2.2.2.2.2.2.2.2.2.2.2.2.2.1) := zB_in (i := 10) (by show 10 < 15; decide)
theorem pM_11 {x : zMS} {f : ZH} : pM x f 40 = .inl (0, 40, .inl x.2.2.2.2.2.2.2.2.2.2.2.2.2.2.2.1) := zB_in (i := 11) (by show 11 < 15; decide)
theorem pM_12 {x : zMS} {f : ZH} : pM x f 41 = .inl (0, 40, .inl x.2.2.2.2.2.2.2.2.2.2.2.2.2.2.2.2.1) := zB_in (i := 12) (by show 12 < 15; decide)
theorem pM_13 {x : zMS} {f : ZH} : pM x f 42 = .inl (0, 20, .inl x.2.2.2.2.2.2.2.2.2.2.2.2.2.2.2.2.2.2.1) := zB_in (i := 13) (by show 13 < 15; decide)
theorem pM_14 {x : zMS} {f : ZH} : pM x f 43 = .inl (0, 400, .inl x.2.2.2.2.2.2.2.2.2.2.2.2.2.2.2.2.2.2.2) := zB_in (i := 14) (by show 14 < 15; decide)
theorem pM_s0 {x : zMS} {f : ZH} {v : Int32} {u2 : Int32} (e2 : u2 = x.2.2.1) {u3 : Int32} (e3 : u3 = x.2.2.2.1) {u8 : Int32} (e8 : u8 = x.2.2.2.2.2.2.2.2.1) {u10 : Int32} (e10 : u10 = x.2.2.2.2.2.2.2.2.2.2.1) {u17 : Int32} (e17 : u17 = x.2.2.2.2.2.2.2.2.2.2.2.2.2.2.2.2.2.1) : zup (pM x f) 29 (.inr (6, [.int v, .ref 30, .int u2, .int u3, .ref 31, .ref 32, .ref 33, .ref 34, .int u8, .ref 35, .int u10, .ref 36, .ref 37, .ref 38, .ref 39, .ref 40, .ref 41, .int u17, .ref 42, .ref 43])) = pM (v, x.2.1, x.2.2.1, x.2.2.2.1, x.2.2.2.2.1, x.2.2.2.2.2.1, x.2.2.2.2.2.2.1, x.2.2.2.2.2.2.2.1, x.2.2.2.2.2.2.2.2.1, x.2.2.2.2.2.2.2.2.2.1, x.2.2.2.2.2.2.2.2.2.2.1, x.2.2.2.2.2.2.2.2.2.2.2.1, x.2.2.2.2.2.2.2.2.2.2.2.2.1, x.2.2.2.2.2.2.2.2.2.2.2.2.2.1, x.2.2.2.2.2.2.2.2.2.2.2.2.2.2.1, x.2.2.2.2.2.2.2.2.2.2.2.2.2.2.2.1, x.2.2.2.2.2.2.2.2.2.2.2.2.2.2.2.2.1, x.2.2.2.2.2.2.2.2.2.2.2.2.2.2.2.2.2.1, x.2.2.2.2.2.2.2.2.2.2.2.2.2.2.2.2.2.2.1, x.2.2.2.2.2.2.2.2.2.2.2.2.2.2.2.2.2.2.2) f := by subst e2; subst e3; subst e8; subst e10; subst e17; exact zB_set (i := 0) (by show 0 < 15; decide)
theorem pM_s1 {x : zMS} {f : ZH} {v : Nat → Int32} : zup (pM x f) 30 (.inl (1, 8, .inl v)) = pM (x.1, v, x.2.2.1, x.2.2.2.1, x.2.2.2.2.1, x.2.2.2.2.2.1, x.2.2.2.2.2.2.1, x.2.2.2.2.2.2.2.1, x.2.2.2.2.2.2.2.2.1, x.2.2.2.2.2.2.2.2.2.1, x.2.2.2.2.2.2.2.2.2.2.1, x.2.2.2.2.2.2.2.2.2.2.2.1, x.2.2.2.2.2.2.2.2.2.2.2.2.1, x.2.2.2.2.2.2.2.2.2.2.2.2.2.1, x.2.2.2.2.2.2.2.2.2.2.2.2.2.2.1, x.2.2.2.2.2.2.2.2.2.2.2.2.2.2.2.1, x.2.2.2.2.2.2.2.2.2.2.2.2.2.2.2.2.1, x.2.2.2.2.2.2.2.2.2.2.2.2.2.2.2.2.2.1, x.2.2.2.2.2.2.2.2.2.2.2.2.2.2.2.2.2.2.1, x.2.2.2.2.2.2.2.2.2.2.2.2.2.2.2.2.2.2.2) f := zB_set (i := 1) (by show 1 < 15; decide)
theorem pM_s2 {x : zMS} {f : ZH} {v : Int32} {u0 : Int32} (e0 : u0 = x.1) {u3 : Int32} (e3 : u3 = x.2.2.2.1) {u8 : Int32} (e8 : u8 = x.2.2.2.2.2.2.2.2.1) {u10 : Int32} (e10 : u10 = x.2.2.2.2.2.2.2.2.2.2.1) {u17 : Int32} (e17 : u17 = x.2.2.2.2.2.2.2.2.2.2.2.2.2.2.2.2.2.1) : zup (pM x f) 29 (.inr (6, [.int u0, .ref 30, .int v, .int u3, .ref 31, .ref 32, .ref 33, .ref 34, .int u8, .ref 35, .int u10, .ref 36, .ref 37, .ref 38, .ref 39, .ref 40, .ref 41, .int u17, .ref 42, .ref 43])) = pM (x.1, x.2.1, v, x.2.2.2.1, x.2.2.2.2.1, x.2.2.2.2.2.1, x.2.2.2.2.2.2.1, x.2.2.2.2.2.2.2.1, x.2.2.2.2.2.2.2.2.1, x.2.2.2.2.2.2.2.2.2.1, x.2.2.2.2.2.2.2.2.2.2.1, x.2.2.2.2.2.2.2.2.2.2.2.1, x.2.2.2.2.2.2.2.2.2.2.2.2.1, x.2.2.2.2.2.2.2.2.2.2.2.2.2.1, x.2.2.2.2.2.2.2.2.2.2.2.2.2.2.1, x.2.2.2.2.2.2.2.2.2.2.2.2.2.2.2.1, x.2.2.2.2.2.2.2.2.2.2.2.2.2.2.2.2.1, x.2.2.2.2.2.2.2.2.2.2.2.2.2.2.2.2.2.1, x.2.2.2.2.2.2.2.2.2.2.2.2.2.2.2.2.2.2.1, x.2.2.2.2.2.2.2.2.2.2.2.2.2.2.2.2.2.2.2) f := by subst e0; subst e3; subst e8; subst e10; subst e17; exact zB_set (i := 0) (by show 0 < 15; decide)
theorem pM_s3 {x : zMS} {f : ZH} {v : Int32} {u0 : Int32} (e0 : u0 = x.1) {u2 : Int32} (e2 : u2 = x.2.2.1) {u8 : Int32} (e8 : u8 = x.2.2.2.2.2.2.2.2.1) {u10 : Int32} (e10 : u10 = x.2.2.2.2.2.2.2.2.2.2.1) {u17 : Int32} (e17 : u17 = x.2.2.2.2.2.2.2.2.2.2.2.2.2.2.2.2.2.1) : zup (pM x f) 29 (.inr (6, [.int u0, .ref 30, .int u2, .int v, .ref 31, .ref 32, .ref 33, .ref 34, .int u8, .ref 35, .int u10, .ref 36, .ref 37, .ref 38, .ref 39, .ref 40, .ref 41, .int u17, .ref 42, .ref 43])) = pM (x.1, x.2.1, x.2.2.1, v, x.2.2.2.2.1, x.2.2.2.2.2.1, x.2.2.2.2.2.2.1, x.2.2.2.2.2.2.2.1, x.2.2.2.2.2.2.2.2.1, x.2.2.2.2.2.2.2.2.2.1, x.2.2.2.2.2.2.2.2.2.2.1, x.2.2.2.2.2.2.2.2.2.2.2.1, x.2.2.2.2.2.2.2.2.2.2.2.2.1, x.2.2.2.2.2.2.2.2.2.2.2.2.2.1, x.2.2.2.2.2.2.2.2.2.2.2.2.2.2.1, x.2.2.2.2.2.2.2.2.2.2.2.2.2.2.2.1, x.2.2.2.2.2.2.2.2.2.2.2.2.2.2.2.2.1, x.2.2.2.2.2.2.2.2.2.2.2.2.2.2.2.2.2.1, x.2.2.2.2.2.2.2.2.2.2.2.2.2.2.2.2.2.2.1, x.2.2.2.2.2.2.2.2.2.2.2.2.2.2.2.2.2.2.2) f := by subst e0; subst e2; subst e8; subst e10; subst e17; exact zB_set (i := 0) (by show 0 < 15; decide)
theorem pM_s4 {x : zMS} {f : ZH} {v : Nat → Int32} : zup (pM x f) 31 (.inl (1, 192, .inl v)) = pM (x.1, x.2.1, x.2.2.1, x.2.2.2.1, v, x.2.2.2.2.2.1, x.2.2.2.2.2.2.1, x.2.2.2.2.2.2.2.1, x.2.2.2.2.2.2.2.2.1, x.2.2.2.2.2.2.2.2.2.1, x.2.2.2.2.2.2.2.2.2.2.1, x.2.2.2.2.2.2.2.2.2.2.2.1, x.2.2.2.2.2.2.2.2.2.2.2.2.1, x.2.2.2.2.2.2.2.2.2.2.2.2.2.1, x.2.2.2.2.2.2.2.2.2.2.2.2.2.2.1, x.2.2.2.2.2.2.2.2.2.2.2.2.2.2.2.1, x.2.2.2.2.2.2.2.2.2.2.2.2.2.2.2.2.1, x.2.2.2.2.2.2.2.2.2.2.2.2.2.2.2.2.2.1, x.2.2.2.2.2.2.2.2.2.2.2.2.2.2.2.2.2.2.1, x.2.2.2.2.2.2.2.2.2.2.2.2.2.2.2.2.2.2.2) f := zB_set (i := 2) (by show 2 < 15; decide)
theorem pM_s5 {x : zMS} {f : ZH} {v : Nat → Int32} : zup (pM x f) 32 (.inl (0, 24, .inl v)) = pM (x.1, x.2.1, x.2.2.1, x.2.2.2.1, x.2.2.2.2.1, v, x.2.2.2.2.2.2.1, x.2.2.2.2.2.2.2.1, x.2.2.2.2.2.2.2.2.1, x.2.2.2.2.2.2.2.2.2.1, x.2.2.2.2.2.2.2.2.2.2.1, x.2.2.2.2.2.2.2.2.2.2.2.1, x.2.2.2.2.2.2.2.2.2.2.2.2.1, x.2.2.2.2.2.2.2.2.2.2.2.2.2.1, x.2.2.2.2.2.2.2.2.2.2.2.2.2.2.1, x.2.2.2.2.2.2.2.2.2.2.2.2.2.2.2.1, x.2.2.2.2.2.2.2.2.2.2.2.2.2.2.2.2.1, x.2.2.2.2.2.2.2.2.2.2.2.2.2.2.2.2.2.1, x.2.2.2.2.2.2.2.2.2.2.2.2.2.2.2.2.2.2.1, x.2.2.2.2.2.2.2.2.2.2.2.2.2.2.2.2.2.2.2) f := zB_set (i := 3) (by show 3 < 15; decide)
theorem pM_s6 {x : zMS} {f : ZH} {v : Nat → Int32} : zup (pM x f) 33 (.inl (0, 24, .inl v)) = pM (x.1, x.2.1, x.2.2.1, x.2.2.2.1, x.2.2.2.2.1, x.2.2.2.2.2.1, v, x.2.2.2.2.2.2.2.1, x.2.2.2.2.2.2.2.2.1, x.2.2.2.2.2.2.2.2.2.1, x.2.2.2.2.2.2.2.2.2.2.1, x.2.2.2.2.2.2.2.2.2.2.2.1, x.2.2.2.2.2.2.2.2.2.2.2.2.1, x.2.2.2.2.2.2.2.2.2.2.2.2.2.1, x.2.2.2.2.2.2.2.2.2.2.2.2.2.2.1, x.2.2.2.2.2.2.2.2.2.2.2.2.2.2.2.1, x.2.2.2.2.2.2.2.2.2.2.2.2.2.2.2.2.1, x.2.2.2.2.2.2.2.2.2.2.2.2.2.2.2.2.2.1, x.2.2.2.2.2.2.2.2.2.2.2.2.2.2.2.2.2.2.1, x.2.2.2.2.2.2.2.2.2.2.2.2.2.2.2.2.2.2.2) f := zB_set (i := 4) (by show 4 < 15; decide)
theorem pM_s7 {x : zMS} {f : ZH} {v : Nat → Int32} : zup (pM x f) 34 (.inl (0, 24, .inl v)) = pM (x.1, x.2.1, x.2.2.1, x.2.2.2.1, x.2.2.2.2.1, x.2.2.2.2.2.1, x.2.2.2.2.2.2.1, v, x.2.2.2.2.2.2.2.2.1, x.2.2.2.2.2.2.2.2.2.1, x.2.2.2.2.2.2.2.2.2.2.1, x.2.2.2.2.2.2.2.2.2.2.2.1, x.2.2.2.2.2.2.2.2.2.2.2.2.1, x.2.2.2.2.2.2.2.2.2.2.2.2.2.1, x.2.2.2.2.2.2.2.2.2.2.2.2.2.2.1, x.2.2.2.2.2.2.2.2.2.2.2.2.2.2.2.1, x.2.2.2.2.2.2.2.2.2.2.2.2.2.2.2.2.1, x.2.2.2.2.2.2.2.2.2.2.2.2.2.2.2.2.2.1, x.2.2.2.2.2.2.2.2.2.2.2.2.2.2.2.2.2.2.1, x.2.2.2.2.2.2.2.2.2.2.2.2.2.2.2.2.2.2.2) f := zB_set (i := 5) (by show 5 < 15; decide)
theorem pM_s8 {x : zMS} {f : ZH} {v : Int32} {u0 : Int32} (e0 : u0 = x.1) {u2 : Int32} (e2 : u2 = x.2.2.1) {u3 : Int32} (e3 : u3 = x.2.2.2.1) {u10 : Int32} (e10 : u10 = x.2.2.2.2.2.2.2.2.2.2.1) {u17 : Int32} (e17 : u17 = x.2.2.2.2.2.2.2.2.2.2.2.2.2.2.2.2.2.1) : zup (pM x f) 29 (.inr (6, [.int u0, .ref 30, .int u2, .int u3, .ref 31, .ref 32, .ref 33, .ref 34, .int v, .ref 35, .int u10, .ref 36, .ref 37, .ref 38, .ref 39, .ref 40, .ref 41, .int u17, .ref 42, .ref 43])) = pM (x.1, x.2.1, x.2.2.1, x.2.2.2.1, x.2.2.2.2.1, x.2.2.2.2.2.1, x.2.2.2.2.2.2.1, x.2.2.2.2.2.2.2.1, v, x.2.2.2.2.2.2.2.2.2.1, x.2.2.2.2.2.2.2.2.2.2.1, x.2.2.2.2.2.2.2.2.2.2.2.1, x.2.2.2.2.2.2.2.2.2.2.2.2.1, x.2.2.2.2.2.2.2.2.2.2.2.2.2.1, x.2.2.2.2.2.2.2.2.2.2.2.2.2.2.1, x.2.2.2.2.2.2.2.2.2.2.2.2.2.2.2.1, x.2.2.2.2.2.2.2.2.2.2.2.2.2.2.2.2.1, x.2.2.2.2.2.2.2.2.2.2.2.2.2.2.2.2.2.1, x.2.2.2.2.2.2.2.2.2.2.2.2.2.2.2.2.2.2.1, x.2.2.2.2.2.2.2.2.2.2.2.2.2.2.2.2.2.2.2) f := by subst e0; subst e2; subst e3; subst e10; subst e17; exact zB_set (i := 0) (by show 0 < 15; decide)
theorem pM_s9 {x : zMS} {f : ZH} {v : Nat → Int32} : zup (pM x f) 35 (.inl (0, 20, .inl v)) = pM (x.1, x.2.1, x.2.2.1, x.2.2.2.1, x.2.2.2.2.1, x.2.2.2.2.2.1, x.2.2.2.2.2.2.1, x.2.2.2.2.2.2.2.1, x.2.2.2.2.2.2.2.2.1, v, x.2.2.2.2.2.2.2.2.2.2.1, x.2.2.2.2.2.2.2.2.2.2.2.1, x.2.2.2.2.2.2.2.2.2.2.2.2.1, x.2.2.2.2.2.2.2.2.2.2.2.2.2.1, x.2.2.2.2.2.2.2.2.2.2.2.2.2.2.1, x.2.2.2.2.2.2.2.2.2.2.2.2.2.2.2.1, x.2.2.2.2.2.2.2.2.2.2.2.2.2.2.2.2.1, x.2.2.2.2.2.2.2.2.2.2.2.2.2.2.2.2.2.1, x.2.2.2.2.2.2.2.2.2.2.2.2.2.2.2.2.2.2.1, x.2.2.2.2.2.2.2.2.2.2.2.2.2.2.2.2.2.2.2) f := zB_set (i := 6) (by show 6 < 15; decide)
theorem pM_s10 {x : zMS} {f : ZH} {v : Int32} {u0 : Int32} (e0 : u0 = x.1) {u2 : Int32} (e2 : u2 = x.2.2.1) {u3 : Int32} (e3 : u3 = x.2.2.2.1) {u8 : Int32} (e8 : u8 = x.2.2.2.2.2.2.2.2.1) {u17 : Int32} (e17 : u17 = x.2.2.2.2.2.2.2.2.2.2.2.2.2.2.2.2.2.1) : zup (pM x f) 29 (.inr (6, [.int u0, .ref 30, .int u2, .int u3, .ref 31, .ref 32, .ref 33, .ref 34, .int u8, .ref 35, .int v, .ref 36, .ref 37, .ref 38, .ref 39, .ref 40, .ref 41, .int u17, .ref 42, .ref 43])) = pM (x.1, x.2.1, x.2.2.1, x.2.2.2.1, x.2.2.2.2.1, x.2.2.2.2.2.1, x.2.2.2.2.2.2.1, x.2.2.2.2.2.2.2.1, x.2.2.2.2.2.2.2.2.1, x.2.2.2.2.2.2.2.2.2.1, v, x.2.2.2.2.2.2.2.2.2.2.2.1, x.2.2.2.2.2.2.2.2.2.2.2.2.1, x.2.2.2.2.2.2.2.2.2.2.2.2.2.1, x.2.2.2.2.2.2.2.2.2.2.2.2.2.2.1, x.2.2.2.2.2.2.2.2.2.2.2.2.2.2.2.1, x.2.2.2.2.2.2.2.2.2.2.2.2.2.2.2.2.1, x.2.2.2.2.2.2.2.2.2.2.2.2.2.2.2.2.2.1, x.2.2.2.2.2.2.2.2.2.2.2.2.2.2.2.2.2.2.1, x.2.2.2.2.2.2.2.2.2.2.2.2.2.2.2.2.2.2.2) f := by subst e0; subst e2; subst e3; subst e8; subst e17; exact zB_set (i := 0) (by show 0 < 15; decide)
theorem pM_s11 {x : zMS} {f : ZH} {v : Nat → Int32} : zup (pM x f) 36 (.inl (0, 40, .inl v)) = pM (x.1, x.2.1, x.2.2.1, x.2.2.2.1, x.2.2.2.2.1, x.2.2.2.2.2.1, x.2.2.2.2.2.2.1, x.2.2.2.2.2.2.2.1, x.2.2.2.2.2.2.2.2.1, x.2.2.2.2.2.2.2.2.2.1, x.2.2.2.2.2.2.2.2.2.2.1, v, x.2.2.2.2.2.2.2.2.2.2.2.2.1, x.2.2.2.2.2.2.2.2.2.2.2.2.2.1, x.2.2.2.2.2.2.2.2.2.2.2.2.2.2.1, x.2.2.2.2.2.2.2.2.2.2.2.2.2.2.2.1, x.2.2.2.2.2.2.2.2.2.2.2.2.2.2.2.2.1, x.2.2.2.2.2.2.2.2.2.2.2.2.2.2.2.2.2.1, x.2.2.2.2.2.2.2.2.2.2.2.2.2.2.2.2.2.2.1, x.2.2.2.2.2.2.2.2.2.2.2.2.2.2.2.2.2.2.2) f := zB_set (i := 7) (by show 7 < 15; decide)
theorem pM_s12 {x : zMS} {f : ZH} {v : Nat → Int32} : zup (pM x f) 37 (.inl (0, 40, .inl v)) = pM (x.1, x.2.1, x.2.2.1, x.2.2.2.1, x.2.2.2.2.1, x.2.2.2.2.2.1, x.2.2.2.2.2.2.1, x.2.2.2.2.2.2.2.1, x.2.2.2.2.2.2.2.2.1, x.2.2.2.2.2.2.2.2.2.1, x.2.2.2.2.2.2.2.2.2.2.1, x.2.2.2.2.2.2.2.2.2.2.2.1, v, x.2.2.2.2.2.2.2.2.2.2.2.2.2.1, x.2.2.2.2.2.2.2.2.2.2.2.2.2.2.1, x.2.2.2.2.2.2.2.2.2.2.2.2.2.2.2.1, x.2.2.2.2.2.2.2.2.2.2.2.2.2.2.2.2.1, x.2.2.2.2.2.2.2.2.2.2.2.2.2.2.2.2.2.1, x.2.2.2.2.2.2.2.2.2.2.2.2.2.2.2.2.2.2.1, x.2.2.2.2.2.2.2.2.2.2.2.2.2.2.2.2.2.2.2) f := zB_set (i := 8) (by show 8 < 15; decide)
theorem pM_s13 {x : zMS} {f : ZH} {v : Nat → Int32} : zup (pM x f) 38 (.inl (0, 40, .inl v)) = pM (x.1, x.2.1, x.2.2.1, x.2.2.2.1, x.2.2.2.2.1, x.2.2.2.2.2.1, x.2.2.2.2.2.2.1, x.2.2.2.2.2.2.2.1, x.2.2.2.2.2.2.2.2.1, x.2.2.2.2.2.2.2.2.2.1, x.2.2.2.2.2.2.2.2.2.2.1, x.2.2.2.2.2.2.2.2.2.2.2.1, x.2.2.2.2.2.2.2.2.2.2.2.2.1, v, x.2.2.2.2.2.2.2.2.2.2.2.2.2.2.1, x.2.2.2.2.2.2.2.2.2.2.2.2.2.2.2.1, x.2.2.2.2.2.2.2.2.2.2.2.2.2.2.2.2.1, x.2.2.2.2.2.2.2.2.2.2.2.2.2.2.2.2.2.1, x.2.2.2.2.2.2.2.2.2.2.2.2.2.2.2.2.2.2.1, x.2.2.2.2.2.2.2.2.2.2.2.2.2.2.2.2.2.2.2) f := zB_set (i := 9) (by show 9 < 15; decide)
theorem pM_s14 {x : zMS} {f : ZH} {v : Nat → Int32} : zup (pM x f) 39 (.inl (0, 40, .inl v)) = pM (x.1, x.2.1, x.2.2.1, x.2.2.2.1, x.2.2.2.2.1, x.2.2.2.2.2.1, x.2.2.2.2.2.2.1, x.2.2.2.2.2.2.2.1, x.2.2.2.2.2.2.2.2.1, x.2.2.2.2.2.2.2.2.2.1, x.2.2.2.2.2.2.2.2.2.2.1, x.2.2.2.2.2.2.2.2.2.2.2.1, x.2.2.2.2.2.2.2.2.2.2.2.2.1, x.2.2.2.2.2.2.2.2.2.2.2.2.2.1, v, x.2.2.2.2.2.2.2.2.2.2.2.2.2.2.2.1, x.2.2.2.2.2.2.2.2.2.2.2.2.2.2.2.2.1, x.2.2.2.2.2.2.2.2.2.2.2.2.2.2.2.2.2.1, x.2.2.2.2.2.2.2.2.2.2.2.2.2.2.2.2.2.2.1, x.2.2.2.2.2.2.2.2.2.2.2.2.2.2.2.2.2.2.2) f := zB_set (i := 10) (by show 10 < 15; decide)
theorem pM_s15 {x : zMS} {f : ZH} {v : Nat → Int32} : zup (pM x f) 40 (.inl (0, 40, .inl v)) = pM (x.1, x.2.1, x.2.2.1, x.2.2.2.1, x.2.2.2.2.1, x.2.2.2.2.2.1, x.2.2.2.2.2.2.1, x.2.2.2.2.2.2.2.1, x.2.2.2.2.2.2.2.2.1, x.2.2.2.2.2.2.2.2.2.1, x.2.2.2.2.2.2.2.2.2.2.1, x.2.2.2.2.2.2.2.2.2.2.2.1, x.2.2.2.2.2.2.2.2.2.2.2.2.1, x.2.2.2.2.2.2.2.2.2.2.2.2.2.1, x.2.2.2.2.2.2.2.2.2.2.2.2.2.2.1, v, x.2.2.2.2.2.2.2.2.2.2.2.2.2.2.2.2.1, x.2.2.2.2.2.2.2.2.2.2.2.2.2.2.2.2.2.1, x.2.2.2.2.2.2.2.2.2.2.2.2.2.2.2.2.2.2.1, x.2.2.2.2.2.2.2.2.2.2.2.2.2.2.2.2.2.2.2) f := zB_set (i := 11) (by show 11 < 15; decide)
theorem pM_s16 {x : zMS} {f : ZH} {v : Nat → Int32} : zup (pM x f) 41 (.inl (0, 40, .inl v)) = pM (x.1, x.2.1, x.2.2.1, x.2.2.2.1, x.2.2.2.2.1, x.2.2.2.2.2.1, x.2.2.2.2.2.2.1, x.2.2.2.2.2.2.2.1, x.2.2.2.2.2.2.2.2.1, x.2.2.2.2.2.2.2.2.2.1, x.2.2.2.2.2.2.2.2.2.2.1, x.2.2.2.2.2.2.2.2.2.2.2.1, x.2.2.2.2.2.2.2.2.2.2.2.2.1, x.2.2.2.2.2.2.2.2.2.2.2.2.2.1, x.2.2.2.2.2.2.2.2.2.2.2.2.2.2.1, x.2.2.2.2.2.2.2.2.2.2.2.2.2.2.2.1, v, x.2.2.2.2.2.2.2.2.2.2.2.2.2.2.2.2.2.1, x.2.2.2.2.2.2.2.2.2.2.2.2.2.2.2.2.2.2.1, x.2.2.2.2.2.2.2.2.2.2.2.2.2.2.2.2.2.2.2) f := zB_set (i := 12) (by show 12 < 15; decide)
theorem pM_s17 {x : zMS} {f : ZH} {v : Int32} {u0 : Int32} (e0 : u0 = x.1) {u2 : Int32} (e2 : u2 = x.2.2.1) {u3 : Int32} (e3 : u3 = x.2.2.2.1) {u8 : Int32} (e8 : u8 = x.2.2.2.2.2.2.2.2.1) {u10 : Int32} (e10 : u10 = x.2.2.2.2.2.2.2.2.2.2.1) : zup (pM x f) 29 (.inr (6, [.int u0, .ref 30, .int u2, .int u3, .ref 31, .ref 32, .ref 33, .ref 34, .int u8, .ref 35, .int u10, .ref 36, .ref 37, .ref 38, .ref 39, .ref 40, .ref 41, .int v, .ref 42, .ref 43])) = pM (x.1, x.2.1, x.2.2.1, x.2.2.2.1, x.2.2.2.2.1, x.2.2.2.2.2.1, x.2.2.2.2.2.2.1, x.2.2.2.2.2.2.2.1, x.2.2.2.2.2.2.2.2.1, x.2.2.2.2.2.2.2.2.2.1, x.2.2.2.2.2.2.2.2.2.2.1, x.2.2.2.2.2.2.2.2.2.2.2.1, x.2.2.2.2.2.2.2.2.2.2.2.2.1, x.2.2.2.2.2.2.2.2.2.2.2.2.2.1, x.2.2.2.2.2.2.2.2.2.2.2.2.2.2.1, x.2.2.2.2.2.2.2.2.2.2.2.2.2.2.2.1, x.2.2.2.2.2.2.2.2.2.2.2.2.2.2.2.2.1, v, x.2.2.2.2.2.2.2.2.2.2.2.2.2.2.2.2.2.2.1, x.2.2.2.2.2.2.2.2.2.2.2.2.2.2.2.2.2.2.2) f := by subst e0; subst e2; subst e3; subst e8; subst e10; exact zB_set (i := 0) (by show 0 < 15; decide)
theorem pM_s18 {x : zMS} {f : ZH} {v : Nat → Int32} : zup (pM x f) 42 (.inl (0, 20, .inl v)) = pM (x.1, x.2.1, x.2.2.1, x.2.2.2.1, x.2.2.2.2.1, x.2.2.2.2.2.1, x.2.2.2.2.2.2.1, x.2.2.2.2.2.2.2.1, x.2.2.2.2.2.2.2.2.1, x.2.2.2.2.2.2.2.2.2.1, x.2.2.2.2.2.2.2.2.2.2.1, x.2.2.2.2.2.2.2.2.2.2.2.1, x.2.2.2.2.2.2.2.2.2.2.2.2.1, x.2.2.2.2.2.2.2.2.2.2.2.2.2.1, x.2.2.2.2.2.2.2.2.2.2.2.2.2.2.1, x.2.2.2.2.2.2.2.2.2.2.2.2.2.2.2.1, x.2.2.2.2.2.2.2.2.2.2.2.2.2.2.2.2.1, x.2.2.2.2.2.2.2.2.2.2.2.2.2.2.2.2.2.1, v, x.2.2.2.2.2.2.2.2.2.2.2.2.2.2.2.2.2.2.2) f := zB_set (i := 13) (by show 13 < 15; decide)
theorem pM_s19 {x : zMS} {f : ZH} {v : Nat → Int32} : zup (pM x f) 43 (.inl (0, 400, .inl v)) = pM (x.1, x.2.1, x.2.2.1, x.2.2.2.1, x.2.2.2.2.1, x.2.2.2.2.2.1, x.2.2.2.2.2.2.1, x.2.2.2.2.2.2.2.1, x.2.2.2.2.2.2.2.2.1, x.2.2.2.2.2.2.2.2.2.1, x.2.2.2.2.2.2.2.2.2.2.1, x.2.2.2.2.2.2.2.2.2.2.2.1, x.2.2.2.2.2.2.2.2.2.2.2.2.1, x.2.2.2.2.2.2.2.2.2.2.2.2.2.1, x.2.2.2.2.2.2.2.2.2.2.2.2.2.2.1, x.2.2.2.2.2.2.2.2.2.2.2.2.2.2.2.1, x.2.2.2.2.2.2.2.2.2.2.2.2.2.2.2.2.1, x.2.2.2.2.2.2.2.2.2.2.2.2.2.2.2.2.2.1, x.2.2.2.2.2.2.2.2.2.2.2.2.2.2.2.2.2.2.1, v) f := zB_set (i := 14) (by show 14 < 15; decide)
abbrev zTS : Type := zNS × zRS × zRS × zQS × zHS × zVS
def cT (x : zTS) : List va_E := [.inr (5, [.ref 1, .ref 5, .ref 10, .ref 15, .ref 22, .ref 27]), .inr (1, [.ref 2, .ref 3, .ref 4, .int x.1.2.2.2.1, .int x.1.2.2.2.2]), .inl (1, 192, .inl x.1.1), .inl (0, 24, .inl x.1.2.1), .inl (1, 8, .inl x.1.2.2.1), .inr (4, [.ref 6, .ref 7, .ref 8, .ref 9, .int x.2.1.2.2.2.2]), .inl (0, 24, .inl x.2.1.1), .inl (0, 24, .inl x.2.1.2.1), .inl (0, 24, .inl x.2.1.2.2.1), .inl (0, 24, .inl x.2.1.2.2.2.1), .inr (4, [.ref 11, .ref 12, .ref 13, .ref 14, .int x.2.2.1.2.2.2.2]), .inl (0, 24, .inl x.2.2.1.1), .inl (0, 24, .inl x.2.2.1.2.1), .inl (0, 24, .inl x.2.2.1.2.2.1), .inl (0, 24, .inl x.2.2.1.2.2.2.1), .inr (2, [.ref 16, .ref 17, .ref 18, .ref 19, .ref 20, .ref 21, .int x.2.2.2.1.2.2.2.2.2.2]), .inl (0, 40, .inl x.2.2.2.1.1), .inl (0, 40, .inl x.2.2.2.1.2.1), .inl (0, 40, .inl x.2.2.2.1.2.2.1), .inl (0, 40, .inl x.2.2.2.1.2.2.2.1), .inl (0, 40, .inl x.2.2.2.1.2.2.2.2.1), .inl (0, 40, .inl x.2.2.2.1.2.2.2.2.2.1), .inr (0, [.ref 23, .ref 24, .ref 25, .ref 26, .int x.2.2.2.2.1.2.2.2.2.1, .int x.2.2.2.2.1.2.2.2.2.2.1, .int x.2.2.2.2.1.2.2.2.2.2.2]), .inl (0, 20, .inl x.2.2.2.2.1.1), .inl (0, 20, .inl x.2.2.2.2.1.2.1), .inl (0, 20, .inl x.2.2.2.2.1.2.2.1), .inl (0, 400, .inl x.2.2.2.2.1.2.2.2.1), .inr (3, [.ref 28]), .inl (0, 24, .inl x.2.2.2.2.2)]
def pT (x : zTS) (f : ZH) : ZH := zB 0 (cT x) f
theorem pT_pT {x y : zTS} {f : ZH} : pT x (pT y f) = pT x f := zB_zB rfl
theorem pT_0 {x : zTS} {f : ZH} : pT x f 0 = .inr (5, [.ref 1, .ref 5, .ref 10, .ref 15, .ref 22, .ref 27]) := by
  have h := zB_in (bs := 0) (i := 0) (cells := cT x) (f := f) (by show 0 < 29; decide)
  rw [Nat.zero_add] at h
  exact h
theorem pT_1 {x : zTS} {f : ZH} : pT x f 1 = .inr (1, [.ref 2, .ref 3, .ref 4, .int x.1.2.2.2.1, .int x.1.2.2.2.2]) := by
  have h := zB_in (bs := 0) (i := 1) (cells := cT x) (f := f) (by show 1 < 29; decide)
  rw [Nat.zero_add] at h
  exact h
theorem pT_2 {x : zTS} {f : ZH} : pT x f 2 = .inl (1, 192, .inl x.1.1) := by
  have h := zB_in (bs := 0) (i := 2) (cells := cT x) (f := f) (by show 2 < 29; decide)
  rw [Nat.zero_add] at h
  exact h
theorem pT_3 {x : zTS} {f : ZH} : pT x f 3 = .inl (0, 24, .inl x.1.2.1) := by
  have h := zB_in (bs := 0) (i := 3) (cells := cT x) (f := f) (by show 3 < 29; decide)
  rw [Nat.zero_add] at h
  exact h
theorem pT_4 {x : zTS} {f : ZH} : pT x f 4 = .inl (1, 8, .inl x.1.2.2.1) := by
  have h := zB_in (bs := 0) (i := 4) (cells := cT x) (f := f) (by show 4 < 29; decide)
  rw [Nat.zero_add] at h
  exact h
theorem pT_5 {x : zTS} {f : ZH} : pT x f 5 = .inr (4, [.ref 6, .ref 7, .ref 8, .ref 9, .int x.2.1.2.2.2.2]) := by
  have h := zB_in (bs := 0) (i := 5) (cells := cT x) (f := f) (by show 5 < 29; decide)
  rw [Nat.zero_add] at h
  exact h
theorem pT_6 {x : zTS} {f : ZH} : pT x f 6 = .inl (0, 24, .inl x.2.1.1) := by
  have h := zB_in (bs := 0) (i := 6) (cells := cT x) (f := f) (by show 6 < 29; decide)
  rw [Nat.zero_add] at h
  exact h
theorem pT_7 {x : zTS} {f : ZH} : pT x f 7 = .inl (0, 24, .inl x.2.1.2.1) := by
  have h := zB_in (bs := 0) (i := 7) (cells := cT x) (f := f) (by show 7 < 29; decide)
  rw [Nat.zero_add] at h
  exact h
theorem pT_8 {x : zTS} {f : ZH} : pT x f 8 = .inl (0, 24, .inl x.2.1.2.2.1) := by
  have h := zB_in (bs := 0) (i := 8) (cells := cT x) (f := f) (by show 8 < 29; decide)
  rw [Nat.zero_add] at h
  exact h
theorem pT_9 {x : zTS} {f : ZH} : pT x f 9 = .inl (0, 24, .inl x.2.1.2.2.2.1) := by
  have h := zB_in (bs := 0) (i := 9) (cells := cT x) (f := f) (by show 9 < 29; decide)
  rw [Nat.zero_add] at h
  exact h
theorem pT_10 {x : zTS} {f : ZH} : pT x f 10 = .inr (4, [.ref 11, .ref 12, .ref 13, .ref 14, .int x.2.2.1.2.2.2.2]) := by
  have h := zB_in (bs := 0) (i := 10) (cells := cT x) (f := f) (by show 10 < 29; decide)
  rw [Nat.zero_add] at h
  exact h
theorem pT_11 {x : zTS} {f : ZH} : pT x f 11 = .inl (0, 24, .inl x.2.2.1.1) := by
  have h := zB_in (bs := 0) (i := 11) (cells := cT x) (f := f) (by show 11 < 29; decide)
  rw [Nat.zero_add] at h
  exact h
theorem pT_12 {x : zTS} {f : ZH} : pT x f 12 = .inl (0, 24, .inl x.2.2.1.2.1) := by
  have h := zB_in (bs := 0) (i := 12) (cells := cT x) (f := f) (by show 12 < 29; decide)
  rw [Nat.zero_add] at h
  exact h
theorem pT_13 {x : zTS} {f : ZH} : pT x f 13 = .inl (0, 24, .inl x.2.2.1.2.2.1) := by
  have h := zB_in (bs := 0) (i := 13) (cells := cT x) (f := f) (by show 13 < 29; decide)
  rw [Nat.zero_add] at h
  exact h
theorem pT_14 {x : zTS} {f : ZH} : pT x f 14 = .inl (0, 24, .inl x.2.2.1.2.2.2.1) := by
  have h := zB_in (bs := 0) (i := 14) (cells := cT x) (f := f) (by show 14 < 29; decide)
  rw [Nat.zero_add] at h
  exact h
theorem pT_15 {x : zTS} {f : ZH} : pT x f 15 = .inr (2, [.ref 16, .ref 17, .ref 18, .ref 19, .ref 20, .ref 21, .int x.2.2.2.1.2.2.2.2.2.2]) := by
  have h := zB_in (bs := 0) (i := 15) (cells := cT x) (f := f) (by show 15 < 29; decide)
  rw [Nat.zero_add] at h
  exact h
theorem pT_16 {x : zTS} {f : ZH} : pT x f 16 = .inl (0, 40, .inl x.2.2.2.1.1) := by
  have h := zB_in (bs := 0) (i := 16) (cells := cT x) (f := f) (by show 16 < 29; decide)
  rw [Nat.zero_add] at h
  exact h
theorem pT_17 {x : zTS} {f : ZH} : pT x f 17 = .inl (0, 40, .inl x.2.2.2.1.2.1) := by
  have h := zB_in (bs := 0) (i := 17) (cells := cT x) (f := f) (by show 17 < 29; decide)
  rw [Nat.zero_add] at h
  exact h
theorem pT_18 {x : zTS} {f : ZH} : pT x f 18 = .inl (0, 40, .inl x.2.2.2.1.2.2.1) := by
  have h := zB_in (bs := 0) (i := 18) (cells := cT x) (f := f) (by show 18 < 29; decide)
  rw [Nat.zero_add] at h
  exact h
theorem pT_19 {x : zTS} {f : ZH} : pT x f 19 = .inl (0, 40, .inl x.2.2.2.1.2.2.2.1) := by
  have h := zB_in (bs := 0) (i := 19) (cells := cT x) (f := f) (by show 19 < 29; decide)
  rw [Nat.zero_add] at h
  exact h
theorem pT_20 {x : zTS} {f : ZH} : pT x f 20 = .inl (0, 40, .inl x.2.2.2.1.2.2.2.2.1) := by
  have h := zB_in (bs := 0) (i := 20) (cells := cT x) (f := f) (by show 20 < 29; decide)
  rw [Nat.zero_add] at h
  exact h
theorem pT_21 {x : zTS} {f : ZH} : pT x f 21 = .inl (0, 40, .inl x.2.2.2.1.2.2.2.2.2.1) := by
  have h := zB_in (bs := 0) (i := 21) (cells := cT x) (f := f) (by show 21 < 29; decide)
  rw [Nat.zero_add] at h
  exact h
theorem pT_22 {x : zTS} {f : ZH} : pT x f 22 = .inr (0, [.ref 23, .ref 24, .ref 25, .ref 26, .int x.2.2.2.2.1.2.2.2.2.1, .int x.2.2.2.2.1.2.2.2.2.2.1, .int x.2.2.2.2.1.2.2.2.2.2.2]) := by
  have h := zB_in (bs := 0) (i := 22) (cells := cT x) (f := f) (by show 22 < 29; decide)
  rw [Nat.zero_add] at h
  exact h
theorem pT_23 {x : zTS} {f : ZH} : pT x f 23 = .inl (0, 20, .inl x.2.2.2.2.1.1) := by
  have h := zB_in (bs := 0) (i := 23) (cells := cT x) (f := f) (by show 23 < 29; decide)
  rw [Nat.zero_add] at h
  exact h
theorem pT_24 {x : zTS} {f : ZH} : pT x f 24 = .inl (0, 20, .inl x.2.2.2.2.1.2.1) := by
  have h := zB_in (bs := 0) (i := 24) (cells := cT x) (f := f) (by show 24 < 29; decide)
  rw [Nat.zero_add] at h
  exact h
theorem pT_25 {x : zTS} {f : ZH} : pT x f 25 = .inl (0, 20, .inl x.2.2.2.2.1.2.2.1) := by
  have h := zB_in (bs := 0) (i := 25) (cells := cT x) (f := f) (by show 25 < 29; decide)
  rw [Nat.zero_add] at h
  exact h
theorem pT_26 {x : zTS} {f : ZH} : pT x f 26 = .inl (0, 400, .inl x.2.2.2.2.1.2.2.2.1) := by
  have h := zB_in (bs := 0) (i := 26) (cells := cT x) (f := f) (by show 26 < 29; decide)
  rw [Nat.zero_add] at h
  exact h
theorem pT_27 {x : zTS} {f : ZH} : pT x f 27 = .inr (3, [.ref 28]) := by
  have h := zB_in (bs := 0) (i := 27) (cells := cT x) (f := f) (by show 27 < 29; decide)
  rw [Nat.zero_add] at h
  exact h
theorem pT_28 {x : zTS} {f : ZH} : pT x f 28 = .inl (0, 24, .inl x.2.2.2.2.2) := by
  have h := zB_in (bs := 0) (i := 28) (cells := cT x) (f := f) (by show 28 < 29; decide)
  rw [Nat.zero_add] at h
  exact h
theorem pT_N {x : zTS} {f : ZH} {y : zNS} : pN y (pT x f) = pT (y, x.2.1, x.2.2.1, x.2.2.2.1, x.2.2.2.2.1, x.2.2.2.2.2) f := zB_part (bs := 0) (A := [.inr (5, [.ref 1, .ref 5, .ref 10, .ref 15, .ref 22, .ref 27])]) (c := cN x.1) (c' := cN y) (B := [.inr (4, [.ref 6, .ref 7, .ref 8, .ref 9, .int x.2.1.2.2.2.2]), .inl (0, 24, .inl x.2.1.1), .inl (0, 24, .inl x.2.1.2.1), .inl (0, 24, .inl x.2.1.2.2.1), .inl (0, 24, .inl x.2.1.2.2.2.1), .inr (4, [.ref 11, .ref 12, .ref 13, .ref 14, .int x.2.2.1.2.2.2.2]), .inl (0, 24, .inl x.2.2.1.1), .inl (0, 24, .inl x.2.2.1.2.1), .inl (0, 24, .inl x.2.2.1.2.2.1), .inl (0, 24, .inl x.2.2.1.2.2.2.1), .inr (2, [.ref 16, .ref 17, .ref 18, .ref 19, .ref 20, .ref 21, .int x.2.2.2.1.2.2.2.2.2.2]), .inl (0, 40, .inl x.2.2.2.1.1), .inl (0, 40, .inl x.2.2.2.1.2.1), .inl (0, 40, .inl x.2.2.2.1.2.2.1), .inl (0, 40, .inl x.2.2.2.1.2.2.2.1), .inl (0, 40, .inl x.2.2.2.1.2.2.2.2.1), .inl (0, 40, .inl x.2.2.2.1.2.2.2.2.2.1), .inr (0, [.ref 23, .ref 24, .ref 25, .ref 26, .int x.2.2.2.2.1.2.2.2.2.1, .int x.2.2.2.2.1.2.2.2.2.2.1, .int x.2.2.2.2.1.2.2.2.2.2.2]), .inl (0, 20, .inl x.2.2.2.2.1.1), .inl (0, 20, .inl x.2.2.2.2.1.2.1), .inl (0, 20, .inl x.2.2.2.2.1.2.2.1), .inl (0, 400, .inl x.2.2.2.2.1.2.2.2.1), .inr (3, [.ref 28]), .inl (0, 24, .inl x.2.2.2.2.2)]) rfl rfl
theorem pT_Ns {x : zTS} {f : ZH} : pN x.1 (pT x f) = pT x f := zB_self (bs := 0) (A := [.inr (5, [.ref 1, .ref 5, .ref 10, .ref 15, .ref 22, .ref 27])]) (c := cN x.1) (B := [.inr (4, [.ref 6, .ref 7, .ref 8, .ref 9, .int x.2.1.2.2.2.2]), .inl (0, 24, .inl x.2.1.1), .inl (0, 24, .inl x.2.1.2.1), .inl (0, 24, .inl x.2.1.2.2.1), .inl (0, 24, .inl x.2.1.2.2.2.1), .inr (4, [.ref 11, .ref 12, .ref 13, .ref 14, .int x.2.2.1.2.2.2.2]), .inl (0, 24, .inl x.2.2.1.1), .inl (0, 24, .inl x.2.2.1.2.1), .inl (0, 24, .inl x.2.2.1.2.2.1), .inl (0, 24, .inl x.2.2.1.2.2.2.1), .inr (2, [.ref 16, .ref 17, .ref 18, .ref 19, .ref 20, .ref 21, .int x.2.2.2.1.2.2.2.2.2.2]), .inl (0, 40, .inl x.2.2.2.1.1), .inl (0, 40, .inl x.2.2.2.1.2.1), .inl (0, 40, .inl x.2.2.2.1.2.2.1), .inl (0, 40, .inl x.2.2.2.1.2.2.2.1), .inl (0, 40, .inl x.2.2.2.1.2.2.2.2.1), .inl (0, 40, .inl x.2.2.2.1.2.2.2.2.2.1), .inr (0, [.ref 23, .ref 24, .ref 25, .ref 26, .int x.2.2.2.2.1.2.2.2.2.1, .int x.2.2.2.2.1.2.2.2.2.2.1, .int x.2.2.2.2.1.2.2.2.2.2.2]), .inl (0, 20, .inl x.2.2.2.2.1.1), .inl (0, 20, .inl x.2.2.2.2.1.2.1), .inl (0, 20, .inl x.2.2.2.2.1.2.2.1), .inl (0, 400, .inl x.2.2.2.2.1.2.2.2.1), .inr (3, [.ref 28]), .inl (0, 24, .inl x.2.2.2.2.2)]) rfl
theorem pT_R {x : zTS} {f : ZH} {y : zRS} : pR 5 y (pT x f) = pT (x.1, y, x.2.2.1, x.2.2.2.1, x.2.2.2.2.1, x.2.2.2.2.2) f := zB_part (bs := 0) (A := [.inr (5, [.ref 1, .ref 5, .ref 10, .ref 15, .ref 22, .ref 27]), .inr (1, [.ref 2, .ref 3, .ref 4, .int x.1.2.2.2.1, .int x.1.2.2.2.2]), .inl (1, 192, .inl x.1.1), .inl (0, 24, .inl x.1.2.1), .inl (1, 8, .inl x.1.2.2.1)]) (c := cR 5 x.2.1) (c' := cR 5 y) (B := [.inr (4, [.ref 11, .ref 12, .ref 13, .ref 14, .int x.2.2.1.2.2.2.2]), .inl (0, 24, .inl x.2.2.1.1), .inl (0, 24, .inl x.2.2.1.2.1), .inl (0, 24, .inl x.2.2.1.2.2.1), .inl (0, 24, .inl x.2.2.1.2.2.2.1), .inr (2, [.ref 16, .ref 17, .ref 18, .ref 19, .ref 20, .ref 21, .int x.2.2.2.1.2.2.2.2.2.2]), .inl (0, 40, .inl x.2.2.2.1.1), .inl (0, 40, .inl x.2.2.2.1.2.1), .inl (0, 40, .inl x.2.2.2.1.2.2.1), .inl (0, 40, .inl x.2.2.2.1.2.2.2.1), .inl (0, 40, .inl x.2.2.2.1.2.2.2.2.1), .inl (0, 40, .inl x.2.2.2.1.2.2.2.2.2.1), .inr (0, [.ref 23, .ref 24, .ref 25, .ref 26, .int x.2.2.2.2.1.2.2.2.2.1, .int x.2.2.2.2.1.2.2.2.2.2.1, .int x.2.2.2.2.1.2.2.2.2.2.2]), .inl (0, 20, .inl x.2.2.2.2.1.1), .inl (0, 20, .inl x.2.2.2.2.1.2.1), .inl (0, 20, .inl x.2.2.2.2.1.2.2.1), .inl (0, 400, .inl x.2.2.2.2.1.2.2.2.1), .inr (3, [.ref 28]), .inl (0, 24, .inl x.2.2.2.2.2)]) rfl rfl
theorem pT_Rs {x : zTS} {f : ZH} : pR 5 x.2.1 (pT x f) = pT x f := zB_self (bs := 0) (A := [.inr (5, [.ref 1, .ref 5, .ref 10, .ref 15, .ref 22, .ref 27]), .inr (1, [.ref 2, .ref 3, .ref 4, .int x.1.2.2.2.1, .int x.1.2.2.2.2]), .inl (1, 192, .inl x.1.1), .inl (0, 24, .inl x.1.2.1), .inl (1, 8, .inl x.1.2.2.1)]) (c := cR 5 x.2.1) (B := [.inr (4, [.ref 11, .ref 12, .ref 13, .ref 14, .int x.2.2.1.2.2.2.2]), .inl (0, 24, .inl x.2.2.1.1), .inl (0, 24, .inl x.2.2.1.2.1), .inl (0, 24, .inl x.2.2.1.2.2.1), .inl (0, 24, .inl x.2.2.1.2.2.2.1), .inr (2, [.ref 16, .ref 17, .ref 18, .ref 19, .ref 20, .ref 21, .int x.2.2.2.1.2.2.2.2.2.2]), .inl (0, 40, .inl x.2.2.2.1.1), .inl (0, 40, .inl x.2.2.2.1.2.1), .inl (0, 40, .inl x.2.2.2.1.2.2.1), .inl (0, 40, .inl x.2.2.2.1.2.2.2.1), .inl (0, 40, .inl x.2.2.2.1.2.2.2.2.1), .inl (0, 40, .inl x.2.2.2.1.2.2.2.2.2.1), .inr (0, [.ref 23, .ref 24, .ref 25, .ref 26, .int x.2.2.2.2.1.2.2.2.2.1, .int x.2.2.2.2.1.2.2.2.2.2.1, .int x.2.2.2.2.1.2.2.2.2.2.2]), .inl (0, 20, .inl x.2.2.2.2.1.1), .inl (0, 20, .inl x.2.2.2.2.1.2.1), .inl (0, 20, .inl x.2.2.2.2.1.2.2.1), .inl (0, 400, .inl x.2.2.2.2.1.2.2.2.1), .inr (3, [.ref 28]), .inl (0, 24, .inl x.2.2.2.2.2)]) rfl
theorem pT_U {x : zTS} {f : ZH} {y : zRS} : pR 10 y (pT x f) = pT (x.1, x.2.1, y, x.2.2.2.1, x.2.2.2.2.1, x.2.2.2.2.2) f := zB_part (bs := 0) (A := [.inr (5, [.ref 1, .ref 5, .ref 10, .ref 15, .ref 22, .ref 27]), .inr (1, [.ref 2, .ref 3, .ref 4, .int x.1.2.2.2.1, .int x.1.2.2.2.2]), .inl (1, 192, .inl x.1.1), .inl (0, 24, .inl x.1.2.1), .inl (1, 8, .inl x.1.2.2.1), .inr (4, [.ref 6, .ref 7, .ref 8, .ref 9, .int x.2.1.2.2.2.2]), .inl (0, 24, .inl x.2.1.1), .inl (0, 24, .inl x.2.1.2.1), .inl (0, 24, .inl x.2.1.2.2.1), .inl (0, 24, .inl x.2.1.2.2.2.1)]) (c := cR 10 x.2.2.1) (c' := cR 10 y) (B := [.inr (2, [.ref 16, .ref 17, .ref 18, .ref 19, .ref 20, .ref 21, .int x.2.2.2.1.2.2.2.2.2.2]), .inl (0, 40, .inl x.2.2.2.1.1), .inl (0, 40, .inl x.2.2.2.1.2.1), .inl (0, 40, .inl x.2.2.2.1.2.2.1), .inl (0, 40, .inl x.2.2.2.1.2.2.2.1), .inl (0, 40, .inl x.2.2.2.1.2.2.2.2.1), .inl (0, 40, .inl x.2.2.2.1.2.2.2.2.2.1), .inr (0, [.ref 23, .ref 24, .ref 25, .ref 26, .int x.2.2.2.2.1.2.2.2.2.1, .int x.2.2.2.2.1.2.2.2.2.2.1, .int x.2.2.2.2.1.2.2.2.2.2.2]), .inl (0, 20, .inl x.2.2.2.2.1.1), .inl (0, 20, .inl x.2.2.2.2.1.2.1), .inl (0, 20, .inl x.2.2.2.2.1.2.2.1), .inl (0, 400, .inl x.2.2.2.2.1.2.2.2.1), .inr (3, [.ref 28]), .inl (0, 24, .inl x.2.2.2.2.2)]) rfl rfl
theorem pT_Us {x : zTS} {f : ZH} : pR 10 x.2.2.1 (pT x f) = pT x f := zB_self (bs := 0) (A := [.inr (5, [.ref 1, .ref 5, .ref 10, .ref 15, .ref 22, .ref 27]), .inr (1, [.ref 2, .ref 3, .ref 4, .int x.1.2.2.2.1, .int x.1.2.2.2.2]), .inl (1, 192, .inl x.1.1), .inl (0, 24, .inl x.1.2.1), .inl (1, 8, .inl x.1.2.2.1), .inr (4, [.ref 6, .ref 7, .ref 8, .ref 9, .int x.2.1.2.2.2.2]), .inl (0, 24, .inl x.2.1.1), .inl (0, 24, .inl x.2.1.2.1), .inl (0, 24, .inl x.2.1.2.2.1), .inl (0, 24, .inl x.2.1.2.2.2.1)]) (c := cR 10 x.2.2.1) (B := [.inr (2, [.ref 16, .ref 17, .ref 18, .ref 19, .ref 20, .ref 21, .int x.2.2.2.1.2.2.2.2.2.2]), .inl (0, 40, .inl x.2.2.2.1.1), .inl (0, 40, .inl x.2.2.2.1.2.1), .inl (0, 40, .inl x.2.2.2.1.2.2.1), .inl (0, 40, .inl x.2.2.2.1.2.2.2.1), .inl (0, 40, .inl x.2.2.2.1.2.2.2.2.1), .inl (0, 40, .inl x.2.2.2.1.2.2.2.2.2.1), .inr (0, [.ref 23, .ref 24, .ref 25, .ref 26, .int x.2.2.2.2.1.2.2.2.2.1, .int x.2.2.2.2.1.2.2.2.2.2.1, .int x.2.2.2.2.1.2.2.2.2.2.2]), .inl (0, 20, .inl x.2.2.2.2.1.1), .inl (0, 20, .inl x.2.2.2.2.1.2.1), .inl (0, 20, .inl x.2.2.2.2.1.2.2.1), .inl (0, 400, .inl x.2.2.2.2.1.2.2.2.1), .inr (3, [.ref 28]), .inl (0, 24, .inl x.2.2.2.2.2)]) rfl
theorem pT_Q {x : zTS} {f : ZH} {y : zQS} : pQ y (pT x f) = pT (x.1, x.2.1, x.2.2.1, y, x.2.2.2.2.1, x.2.2.2.2.2) f := zB_part (bs := 0) (A := [.inr (5, [.ref 1, .ref 5, .ref 10, .ref 15, .ref 22, .ref 27]), .inr (1, [.ref 2, .ref 3, .ref 4, .int x.1.2.2.2.1, .int x.1.2.2.2.2]), .inl (1, 192, .inl x.1.1), .inl (0, 24, .inl x.1.2.1), .inl (1, 8, .inl x.1.2.2.1), .inr (4, [.ref 6, .ref 7, .ref 8, .ref 9, .int x.2.1.2.2.2.2]), .inl (0, 24, .inl x.2.1.1), .inl (0, 24, .inl x.2.1.2.1), .inl (0, 24, .inl x.2.1.2.2.1), .inl (0, 24, .inl x.2.1.2.2.2.1), .inr (4, [.ref 11, .ref 12, .ref 13, .ref 14, .int x.2.2.1.2.2.2.2]), .inl (0, 24, .inl x.2.2.1.1), .inl (0, 24, .inl x.2.2.1.2.1), .inl (0, 24, .inl x.2.2.1.2.2.1), .inl (0, 24, .inl x.2.2.1.2.2.2.1)]) (c := cQ x.2.2.2.1) (c' := cQ y) (B := [.inr (0, [.ref 23, .ref 24, .ref 25, .ref 26, .int x.2.2.2.2.1.2.2.2.2.1, .int x.2.2.2.2.1.2.2.2.2.2.1, .int x.2.2.2.2.1.2.2.2.2.2.2]), .inl (0, 20, .inl x.2.2.2.2.1.1), .inl (0, 20, .inl x.2.2.2.2.1.2.1), .inl (0, 20, .inl x.2.2.2.2.1.2.2.1), .inl (0, 400, .inl x.2.2.2.2.1.2.2.2.1), .inr (3, [.ref 28]), .inl (0, 24, .inl x.2.2.2.2.2)]) rfl rfl
theorem pT_Qs {x : zTS} {f : ZH} : pQ x.2.2.2.1 (pT x f) = pT x f := zB_self (bs := 0) (A := [.inr (5, [.ref 1, .ref 5, .ref 10, .ref 15, .ref 22, .ref 27]), .inr (1, [.ref 2, .ref 3, .ref 4, .int x.1.2.2.2.1, .int x.1.2.2.2.2]), .inl (1, 192, .inl x.1.1), .inl (0, 24, .inl x.1.2.1), .inl (1, 8, .inl x.1.2.2.1), .inr (4, [.ref 6, .ref 7, .ref 8, .ref 9, .int x.2.1.2.2.2.2]), .inl (0, 24, .inl x.2.1.1), .inl (0, 24, .inl x.2.1.2.1), .inl (0, 24, .inl x.2.1.2.2.1), .inl (0, 24, .inl x.2.1.2.2.2.1), .inr (4, [.ref 11, .ref 12, .ref 13, .ref 14, .int x.2.2.1.2.2.2.2]), .inl (0, 24, .inl x.2.2.1.1), .inl (0, 24, .inl x.2.2.1.2.1), .inl (0, 24, .inl x.2.2.1.2.2.1), .inl (0, 24, .inl x.2.2.1.2.2.2.1)]) (c := cQ x.2.2.2.1) (B := [.inr (0, [.ref 23, .ref 24, .ref 25, .ref 26, .int x.2.2.2.2.1.2.2.2.2.1, .int x.2.2.2.2.1.2.2.2.2.2.1, .int x.2.2.2.2.1.2.2.2.2.2.2]), .inl (0, 20, .inl x.2.2.2.2.1.1), .inl (0, 20, .inl x.2.2.2.2.1.2.1), .inl (0, 20, .inl x.2.2.2.2.1.2.2.1), .inl (0, 400, .inl x.2.2.2.2.1.2.2.2.1), .inr (3, [.ref 28]), .inl (0, 24, .inl x.2.2.2.2.2)]) rfl
theorem pT_H {x : zTS} {f : ZH} {y : zHS} : pH y (pT x f) = pT (x.1, x.2.1, x.2.2.1, x.2.2.2.1, y, x.2.2.2.2.2) f := zB_part (bs := 0) (A := [.inr (5, [.ref 1, .ref 5, .ref 10, .ref 15, .ref 22, .ref 27]), .inr (1, [.ref 2, .ref 3, .ref 4, .int x.1.2.2.2.1, .int x.1.2.2.2.2]), .inl (1, 192, .inl x.1.1), .inl (0, 24, .inl x.1.2.1), .inl (1, 8, .inl x.1.2.2.1), .inr (4, [.ref 6, .ref 7, .ref 8, .ref 9, .int x.2.1.2.2.2.2]), .inl (0, 24, .inl x.2.1.1), .inl (0, 24, .inl x.2.1.2.1), .inl (0, 24, .inl x.2.1.2.2.1), .inl (0, 24, .inl x.2.1.2.2.2.1), .inr (4, [.ref 11, .ref 12, .ref 13, .ref 14, .int x.2.2.1.2.2.2.2]), .inl (0, 24, .inl x.2.2.1.1), .inl (0, 24, .inl x.2.2.1.2.1), .inl (0, 24, .inl x.2.2.1.2.2.1), .inl (0, 24, .inl x.2.2.1.2.2.2.1), .inr (2, [.ref 16, .ref 17, .ref 18, .ref 19, .ref 20, .ref 21, .int x.2.2.2.1.2.2.2.2.2.2]), .inl (0, 40, .inl x.2.2.2.1.1), .inl (0, 40, .inl x.2.2.2.1.2.1), .inl (0, 40, .inl x.2.2.2.1.2.2.1), .inl (0, 40, .inl x.2.2.2.1.2.2.2.1), .inl (0, 40, .inl x.2.2.2.1.2.2.2.2.1), .inl (0, 40, .inl x.2.2.2.1.2.2.2.2.2.1)]) (c := cH x.2.2.2.2.1) (c' := cH y) (B := [.inr (3, [.ref 28]), .inl (0, 24, .inl x.2.2.2.2.2)]) rfl rfl
theorem pT_Hs {x : zTS} {f : ZH} : pH x.2.2.2.2.1 (pT x f) = pT x f := zB_self (bs := 0) (A := [.inr (5, [.ref 1, .ref 5, .ref 10, .ref 15, .ref 22, .ref 27]), .inr (1, [.ref 2, .ref 3, .ref 4, .int x.1.2.2.2.1, .int x.1.2.2.2.2]), .inl (1, 192, .inl x.1.1), .inl (0, 24, .inl x.1.2.1), .inl (1, 8, .inl x.1.2.2.1), .inr (4, [.ref 6, .ref 7, .ref 8, .ref 9, .int x.2.1.2.2.2.2]), .inl (0, 24, .inl x.2.1.1), .inl (0, 24, .inl x.2.1.2.1), .inl (0, 24, .inl x.2.1.2.2.1), .inl (0, 24, .inl x.2.1.2.2.2.1), .inr (4, [.ref 11, .ref 12, .ref 13, .ref 14, .int x.2.2.1.2.2.2.2]), .inl (0, 24, .inl x.2.2.1.1), .inl (0, 24, .inl x.2.2.1.2.1), .inl (0, 24, .inl x.2.2.1.2.2.1), .inl (0, 24, .inl x.2.2.1.2.2.2.1), .inr (2, [.ref 16, .ref 17, .ref 18, .ref 19, .ref 20, .ref 21, .int x.2.2.2.1.2.2.2.2.2.2]), .inl (0, 40, .inl x.2.2.2.1.1), .inl (0, 40, .inl x.2.2.2.1.2.1), .inl (0, 40, .inl x.2.2.2.1.2.2.1), .inl (0, 40, .inl x.2.2.2.1.2.2.2.1), .inl (0, 40, .inl x.2.2.2.1.2.2.2.2.1), .inl (0, 40, .inl x.2.2.2.1.2.2.2.2.2.1)]) (c := cH x.2.2.2.2.1) (B := [.inr (3, [.ref 28]), .inl (0, 24, .inl x.2.2.2.2.2)]) rfl
theorem pT_V {x : zTS} {f : ZH} {y : zVS} : pV y (pT x f) = pT (x.1, x.2.1, x.2.2.1, x.2.2.2.1, x.2.2.2.2.1, y) f := zB_part (bs := 0) (A := [.inr (5, [.ref 1, .ref 5, .ref 10, .ref 15, .ref 22, .ref 27]), .inr (1, [.ref 2, .ref 3, .ref 4, .int x.1.2.2.2.1, .int x.1.2.2.2.2]), .inl (1, 192, .inl x.1.1), .inl (0, 24, .inl x.1.2.1), .inl (1, 8, .inl x.1.2.2.1), .inr (4, [.ref 6, .ref 7, .ref 8, .ref 9, .int x.2.1.2.2.2.2]), .inl (0, 24, .inl x.2.1.1), .inl (0, 24, .inl x.2.1.2.1), .inl (0, 24, .inl x.2.1.2.2.1), .inl (0, 24, .inl x.2.1.2.2.2.1), .inr (4, [.ref 11, .ref 12, .ref 13, .ref 14, .int x.2.2.1.2.2.2.2]), .inl (0, 24, .inl x.2.2.1.1), .inl (0, 24, .inl x.2.2.1.2.1), .inl (0, 24, .inl x.2.2.1.2.2.1), .inl (0, 24, .inl x.2.2.1.2.2.2.1), .inr (2, [.ref 16, .ref 17, .ref 18, .ref 19, .ref 20, .ref 21, .int x.2.2.2.1.2.2.2.2.2.2]), .inl (0, 40, .inl x.2.2.2.1.1), .inl (0, 40, .inl x.2.2.2.1.2.1), .inl (0, 40, .inl x.2.2.2.1.2.2.1), .inl (0, 40, .inl x.2.2.2.1.2.2.2.1), .inl (0, 40, .inl x.2.2.2.1.2.2.2.2.1), .inl (0, 40, .inl x.2.2.2.1.2.2.2.2.2.1), .inr (0, [.ref 23, .ref 24, .ref 25, .ref 26, .int x.2.2.2.2.1.2.2.2.2.1, .int x.2.2.2.2.1.2.2.2.2.2.1, .int x.2.2.2.2.1.2.2.2.2.2.2]), .inl (0, 20, .inl x.2.2.2.2.1.1), .inl (0, 20, .inl x.2.2.2.2.1.2.1), .inl (0, 20, .inl x.2.2.2.2.1.2.2.1), .inl (0, 400, .inl x.2.2.2.2.1.2.2.2.1)]) (c := cV x.2.2.2.2.2) (c' := cV y) (B := []) rfl rfl
theorem pT_Vs {x : zTS} {f : ZH} : pV x.2.2.2.2.2 (pT x f) = pT x f := zB_self (bs := 0) (A := [.inr (5, [.ref 1, .ref 5, .ref 10, .ref 15, .ref 22, .ref 27]), .inr (1, [.ref 2, .ref 3, .ref 4, .int x.1.2.2.2.1, .int x.1.2.2.2.2]), .inl (1, 192, .inl x.1.1), .inl (0, 24, .inl x.1.2.1), .inl (1, 8, .inl x.1.2.2.1), .inr (4, [.ref 6, .ref 7, .ref 8, .ref 9, .int x.2.1.2.2.2.2]), .inl (0, 24, .inl x.2.1.1), .inl (0, 24, .inl x.2.1.2.1), .inl (0, 24, .inl x.2.1.2.2.1), .inl (0, 24, .inl x.2.1.2.2.2.1), .inr (4, [.ref 11, .ref 12, .ref 13, .ref 14, .int x.2.2.1.2.2.2.2]), .inl (0, 24, .inl x.2.2.1.1), .inl (0, 24, .inl x.2.2.1.2.1), .inl (0, 24, .inl x.2.2.1.2.2.1), .inl (0, 24, .inl x.2.2.1.2.2.2.1), .inr (2, [.ref 16, .ref 17, .ref 18, .ref 19, .ref 20, .ref 21, .int x.2.2.2.1.2.2.2.2.2.2]), .inl (0, 40, .inl x.2.2.2.1.1), .inl (0, 40, .inl x.2.2.2.1.2.1), .inl (0, 40, .inl x.2.2.2.1.2.2.1), .inl (0, 40, .inl x.2.2.2.1.2.2.2.1), .inl (0, 40, .inl x.2.2.2.1.2.2.2.2.1), .inl (0, 40, .inl x.2.2.2.1.2.2.2.2.2.1), .inr (0, [.ref 23, .ref 24, .ref 25, .ref 26, .int x.2.2.2.2.1.2.2.2.2.1, .int x.2.2.2.2.1.2.2.2.2.2.1, .int x.2.2.2.2.1.2.2.2.2.2.2]), .inl (0, 20, .inl x.2.2.2.2.1.1), .inl (0, 20, .inl x.2.2.2.2.1.2.1), .inl (0, 20, .inl x.2.2.2.2.1.2.2.1), .inl (0, 400, .inl x.2.2.2.2.1.2.2.2.1)]) (c := cV x.2.2.2.2.2) (B := []) rfl
theorem pT_a0_0 {x : zTS} {f : ZH} {v : Nat → Int32} : zup (pT x f) 2 (.inl (1, 192, .inl v)) = pT ((v, x.1.2.1, x.1.2.2.1, x.1.2.2.2.1, x.1.2.2.2.2), x.2.1, x.2.2.1, x.2.2.2.1, x.2.2.2.2.1, x.2.2.2.2.2) f := by
  have h := zB_set (bs := 0) (i := 2) (cells := cT x) (f := f) (x := (.inl (1, 192, .inl v))) (by show 2 < 29; decide)
  rw [Nat.zero_add] at h
  exact h
theorem pT_a0_1 {x : zTS} {f : ZH} {v : Nat → Int32} : zup (pT x f) 3 (.inl (0, 24, .inl v)) = pT ((x.1.1, v, x.1.2.2.1, x.1.2.2.2.1, x.1.2.2.2.2), x.2.1, x.2.2.1, x.2.2.2.1, x.2.2.2.2.1, x.2.2.2.2.2) f := by
  have h := zB_set (bs := 0) (i := 3) (cells := cT x) (f := f) (x := (.inl (0, 24, .inl v))) (by show 3 < 29; decide)
  rw [Nat.zero_add] at h
  exact h
theorem pT_a0_2 {x : zTS} {f : ZH} {v : Nat → Int32} : zup (pT x f) 4 (.inl (1, 8, .inl v)) = pT ((x.1.1, x.1.2.1, v, x.1.2.2.2.1, x.1.2.2.2.2), x.2.1, x.2.2.1, x.2.2.2.1, x.2.2.2.2.1, x.2.2.2.2.2) f := by
  have h := zB_set (bs := 0) (i := 4) (cells := cT x) (f := f) (x := (.inl (1, 8, .inl v))) (by show 4 < 29; decide)
  rw [Nat.zero_add] at h
  exact h
theorem pT_a0_3 {x : zTS} {f : ZH} {v : Int32} {u4 : Int32} (e4 : u4 = x.1.2.2.2.2) : zup (pT x f) 1 (.inr (1, [.ref 2, .ref 3, .ref 4, .int v, .int u4])) = pT ((x.1.1, x.1.2.1, x.1.2.2.1, v, x.1.2.2.2.2), x.2.1, x.2.2.1, x.2.2.2.1, x.2.2.2.2.1, x.2.2.2.2.2) f := by
  have h := zB_set (bs := 0) (i := 1) (cells := cT x) (f := f) (x := (.inr (1, [.ref 2, .ref 3, .ref 4, .int v, .int u4]))) (by show 1 < 29; decide)
  rw [Nat.zero_add] at h
  subst e4; exact h
theorem pT_a0_4 {x : zTS} {f : ZH} {v : Int32} {u3 : Int32} (e3 : u3 = x.1.2.2.2.1) : zup (pT x f) 1 (.inr (1, [.ref 2, .ref 3, .ref 4, .int u3, .int v])) = pT ((x.1.1, x.1.2.1, x.1.2.2.1, x.1.2.2.2.1, v), x.2.1, x.2.2.1, x.2.2.2.1, x.2.2.2.2.1, x.2.2.2.2.2) f := by
  have h := zB_set (bs := 0) (i := 1) (cells := cT x) (f := f) (x := (.inr (1, [.ref 2, .ref 3, .ref 4, .int u3, .int v]))) (by show 1 < 29; decide)
  rw [Nat.zero_add] at h
  subst e3; exact h
theorem pT_a1_0 {x : zTS} {f : ZH} {v : Nat → Int32} : zup (pT x f) 6 (.inl (0, 24, .inl v)) = pT (x.1, (v, x.2.1.2.1, x.2.1.2.2.1, x.2.1.2.2.2.1, x.2.1.2.2.2.2), x.2.2.1, x.2.2.2.1, x.2.2.2.2.1, x.2.2.2.2.2) f := by
  have h := zB_set (bs := 0) (i := 6) (cells := cT x) (f := f) (x := (.inl (0, 24, .inl v))) (by show 6 < 29; decide)
  rw [Nat.zero_add] at h
  exact h
theorem pT_a1_1 {x : zTS} {f : ZH} {v : Nat → Int32} : zup (pT x f) 7 (.inl (0, 24, .inl v)) = pT (x.1, (x.2.1.1, v, x.2.1.2.2.1, x.2.1.2.2.2.1, x.2.1.2.2.2.2), x.2.2.1, x.2.2.2.1, x.2.2.2.2.1, x.2.2.2.2.2) f := by
  have h := zB_set (bs := 0) (i := 7) (cells := cT x) (f := f) (x := (.inl (0, 24, .inl v))) (by show 7 < 29; decide)
  rw [Nat.zero_add] at h
  exact h
theorem pT_a1_2 {x : zTS} {f : ZH} {v : Nat → Int32} : zup (pT x f) 8 (.inl (0, 24, .inl v)) = pT (x.1, (x.2.1.1, x.2.1.2.1, v, x.2.1.2.2.2.1, x.2.1.2.2.2.2), x.2.2.1, x.2.2.2.1, x.2.2.2.2.1, x.2.2.2.2.2) f := by
  have h := zB_set (bs := 0) (i := 8) (cells := cT x) (f := f) (x := (.inl (0, 24, .inl v))) (by show 8 < 29; decide)
  rw [Nat.zero_add] at h
  exact h
theorem pT_a1_3 {x : zTS} {f : ZH} {v : Nat → Int32} : zup (pT x f) 9 (.inl (0, 24, .inl v)) = pT (x.1, (x.2.1.1, x.2.1.2.1, x.2.1.2.2.1, v, x.2.1.2.2.2.2), x.2.2.1, x.2.2.2.1, x.2.2.2.2.1, x.2.2.2.2.2) f := by
  have h := zB_set (bs := 0) (i := 9) (cells := cT x) (f := f) (x := (.inl (0, 24, .inl v))) (by show 9 < 29; decide)
  rw [Nat.zero_add] at h
  exact h
theorem pT_a1_4 {x : zTS} {f : ZH} {v : Int32} : zup (pT x f) 5 (.inr (4, [.ref 6, .ref 7, .ref 8, .ref 9, .int v])) = pT (x.1, (x.2.1.1, x.2.1.2.1, x.2.1.2.2.1, x.2.1.2.2.2.1, v), x.2.2.1, x.2.2.2.1, x.2.2.2.2.1, x.2.2.2.2.2) f := by
  have h := zB_set (bs := 0) (i := 5) (cells := cT x) (f := f) (x := (.inr (4, [.ref 6, .ref 7, .ref 8, .ref 9, .int v]))) (by show 5 < 29; decide)
  rw [Nat.zero_add] at h
  exact h
theorem pT_a2_0 {x : zTS} {f : ZH} {v : Nat → Int32} : zup (pT x f) 11 (.inl (0, 24, .inl v)) = pT (x.1, x.2.1, (v, x.2.2.1.2.1, x.2.2.1.2.2.1, x.2.2.1.2.2.2.1, x.2.2.1.2.2.2.2), x.2.2.2.1, x.2.2.2.2.1, x.2.2.2.2.2) f := by
  have h := zB_set (bs := 0) (i := 11) (cells := cT x) (f := f) (x := (.inl (0, 24, .inl v))) (by show 11 < 29; decide)
  rw [Nat.zero_add] at h
  exact h
theorem pT_a2_1 {x : zTS} {f : ZH} {v : Nat → Int32} : zup (pT x f) 12 (.inl (0, 24, .inl v)) = pT (x.1, x.2.1, (x.2.2.1.1, v, x.2.2.1.2.2.1, x.2.2.1.2.2.2.1, x.2.2.1.2.2.2.2), x.2.2.2.1, x.2.2.2.2.1, x.2.2.2.2.2) f := by
  have h := zB_set (bs := 0) (i := 12) (cells := cT x) (f := f) (x := (.inl (0, 24, .inl v))) (by show 12 < 29; decide)
  rw [Nat.zero_add] at h
  exact h
theorem pT_a2_2 {x : zTS} {f : ZH} {v : Nat → Int32} : zup (pT x f) 13 (.inl (0, 24, .inl v)) = pT (x.1, x.2.1, (x.2.2.1.1, x.2.2.1.2.1, v, x.2.2.1.2.2.2.1, x.2.2.1.2.2.2.2), x.2.2.2.1, x.2.2.2.2.1, x.2.2.2.2.2) f := by
  have h := zB_set (bs := 0) (i := 13) (cells := cT x) (f := f) (x := (.inl (0, 24, .inl v))) (by show 13 < 29; decide)
  rw [Nat.zero_add] at h
  exact h
theorem pT_a2_3 {x : zTS} {f : ZH} {v : Nat → Int32} : zup (pT x f) 14 (.inl (0, 24, .inl v)) = pT (x.1, x.2.1, (x.2.2.1.1, x.2.2.1.2.1, x.2.2.1.2.2.1, v, x.2.2.1.2.2.2.2), x.2.2.2.1, x.2.2.2.2.1, x.2.2.2.2.2) f := by
  have h := zB_set (bs := 0) (i := 14) (cells := cT x) (f := f) (x := (.inl (0, 24, .inl v))) (by show 14 < 29; decide)
  rw [Nat.zero_add] at h
  exact h
theorem pT_a2_4 {x : zTS} {f : ZH} {v : Int32} : zup (pT x f) 10 (.inr (4, [.ref 11, .ref 12, .ref 13, .ref 14, .int v])) = pT (x.1, x.2.1, (x.2.2.1.1, x.2.2.1.2.1, x.2.2.1.2.2.1, x.2.2.1.2.2.2.1, v), x.2.2.2.1, x.2.2.2.2.1, x.2.2.2.2.2) f := by
  have h := zB_set (bs := 0) (i := 10) (cells := cT x) (f := f) (x := (.inr (4, [.ref 11, .ref 12, .ref 13, .ref 14, .int v]))) (by show 10 < 29; decide)
  rw [Nat.zero_add] at h
  exact h
theorem pT_a3_0 {x : zTS} {f : ZH} {v : Nat → Int32} : zup (pT x f) 16 (.inl (0, 40, .inl v)) = pT (x.1, x.2.1, x.2.2.1, (v, x.2.2.2.1.2.1, x.2.2.2.1.2.2.1, x.2.2.2.1.2.2.2.1, x.2.2.2.1.2.2.2.2.1, x.2.2.2.1.2.2.2.2.2.1, x.2.2.2.1.2.2.2.2.2.2), x.2.2.2.2.1, x.2.2.2.2.2) f := by
  have h := zB_set (bs := 0) (i := 16) (cells := cT x) (f := f) (x := (.inl (0, 40, .inl v))) (by show 16 < 29; decide)
  rw [Nat.zero_add] at h
  exact h
theorem pT_a3_1 {x : zTS} {f : ZH} {v : Nat → Int32} : zup (pT x f) 17 (.inl (0, 40, .inl v)) = pT (x.1, x.2.1, x.2.2.1, (x.2.2.2.1.1, v, x.2.2.2.1.2.2.1, x.2.2.2.1.2.2.2.1, x.2.2.2.1.2.2.2.2.1, x.2.2.2.1.2.2.2.2.2.1, x.2.2.2.1.2.2.2.2.2.2), x.2.2.2.2.1, x.2.2.2.2.2) f := by
  have h := zB_set (bs := 0) (i := 17) (cells := cT x) (f := f) (x := (.inl (0, 40, .inl v))) (by show 17 < 29; decide)
  rw [Nat.zero_add] at h
  exact h
theorem pT_a3_2 {x : zTS} {f : ZH} {v : Nat → Int32} : zup (pT x f) 18 (.inl (0, 40, .inl v)) = pT (x.1, x.2.1, x.2.2.1, (x.2.2.2.1.1, x.2.2.2.1.2.1, v, x.2.2.2.1.2.2.2.1, x.2.2.2.1.2.2.2.2.1, x.2.2.2.1.2.2.2.2.2.1, x.2.2.2.1.2.2.2.2.2.2), x.2.2.2.2.1, x.2.2.2.2.2) f := by
  have h := zB_set (bs := 0) (i := 18) (cells := cT x) (f := f) (x := (.inl (0, 40, .inl v))) (by show 18 < 29; decide)
  rw [Nat.zero_add] at h
  exact h
theorem pT_a3_3 {x : zTS} {f : ZH} {v : Nat → Int32} : zup (pT x f) 19 (.inl (0, 40, .inl v)) = pT (x.1, x.2.1, x.2.2.1, (x.2.2.2.1.1, x.2.2.2.1.2.1, x.2.2.2.1.2.2.1, v, x.2.2.2.1.2.2.2.2.1, x.2.2.2.1.2.2.2.2.2.1, x.2.2.2.1.2.2.2.2.2.2), x.2.2.2.2.1, x.2.2.2.2.2) f := by
  have h := zB_set (bs := 0) (i := 19) (cells := cT x) (f := f) (x := (.inl (0, 40, .inl v))) (by show 19 < 29; decide)
  rw [Nat.zero_add] at h
  exact h
theorem pT_a3_4 {x : zTS} {f : ZH} {v : Nat → Int32} : zup (pT x f) 20 (.inl (0, 40, .inl v)) = pT (x.1, x.2.1, x.2.2.1, (x.2.2.2.1.1, x.2.2.2.1.2.1, x.2.2.2.1.2.2.1, x.2.2.2.1.2.2.2.1, v, x.2.2.2.1.2.2.2.2.2.1, x.2.2.2.1.2.2.2.2.2.2), x.2.2.2.2.1, x.2.2.2.2.2) f := by
  have h := zB_set (bs := 0) (i := 20) (cells := cT x) (f := f) (x := (.inl (0, 40, .inl v))) (by show 20 < 29; decide)
  rw [Nat.zero_add] at h
  exact h
theorem pT_a3_5 {x : zTS} {f : ZH} {v : Nat → Int32} : zup (pT x f) 21 (.inl (0, 40, .inl v)) = pT (x.1, x.2.1, x.2.2.1, (x.2.2.2.1.1, x.2.2.2.1.2.1, x.2.2.2.1.2.2.1, x.2.2.2.1.2.2.2.1, x.2.2.2.1.2.2.2.2.1, v, x.2.2.2.1.2.2.2.2.2.2), x.2.2.2.2.1, x.2.2.2.2.2) f := by
  have h := zB_set (bs := 0) (i := 21) (cells := cT x) (f := f) (x := (.inl (0, 40, .inl v))) (by show 21 < 29; decide)
  rw [Nat.zero_add] at h
  exact h
theorem pT_a3_6 {x : zTS} {f : ZH} {v : Int32} : zup (pT x f) 15 (.inr (2, [.ref 16, .ref 17, .ref 18, .ref 19, .ref 20, .ref 21, .int v])) = pT (x.1, x.2.1, x.2.2.1, (x.2.2.2.1.1, x.2.2.2.1.2.1, x.2.2.2.1.2.2.1, x.2.2.2.1.2.2.2.1, x.2.2.2.1.2.2.2.2.1, x.2.2.2.1.2.2.2.2.2.1, v), x.2.2.2.2.1, x.2.2.2.2.2) f := by
  have h := zB_set (bs := 0) (i := 15) (cells := cT x) (f := f) (x := (.inr (2, [.ref 16, .ref 17, .ref 18, .ref 19, .ref 20, .ref 21, .int v]))) (by show 15 < 29; decide)
  rw [Nat.zero_add] at h
  exact h
theorem pT_a4_0 {x : zTS} {f : ZH} {v : Nat → Int32} : zup (pT x f) 23 (.inl (0, 20, .inl v)) = pT (x.1, x.2.1, x.2.2.1, x.2.2.2.1, (v, x.2.2.2.2.1.2.1, x.2.2.2.2.1.2.2.1, x.2.2.2.2.1.2.2.2.1, x.2.2.2.2.1.2.2.2.2.1, x.2.2.2.2.1.2.2.2.2.2.1, x.2.2.2.2.1.2.2.2.2.2.2), x.2.2.2.2.2) f := by
  have h := zB_set (bs := 0) (i := 23) (cells := cT x) (f := f) (x := (.inl (0, 20, .inl v))) (by show 23 < 29; decide)
  rw [Nat.zero_add] at h
  exact h
theorem pT_a4_1 {x : zTS} {f : ZH} {v : Nat → Int32} : zup (pT x f) 24 (.inl (0, 20, .inl v)) = pT (x.1, x.2.1, x.2.2.1, x.2.2.2.1, (x.2.2.2.2.1.1, v, x.2.2.2.2.1.2.2.1, x.2.2.2.2.1.2.2.2.1, x.2.2.2.2.1.2.2.2.2.1, x.2.2.2.2.1.2.2.2.2.2.1, x.2.2.2.2.1.2.2.2.2.2.2), x.2.2.2.2.2) f := by
  have h := zB_set (bs := 0) (i := 24) (cells := cT x) (f := f) (x := (.inl (0, 20, .inl v))) (by show 24 < 29; decide)
  rw [Nat.zero_add] at h
  exact h
theorem pT_a4_2 {x : zTS} {f : ZH} {v : Nat → Int32} : zup (pT x f) 25 (.inl (0, 20, .inl v)) = pT (x.1, x.2.1, x.2.2.1, x.2.2.2.1, (x.2.2.2.2.1.1, x.2.2.2.2.1.2.1, v, x.2.2.2.2.1.2.2.2.1, x.2.2.2.2.1.2.2.2.2.1, x.2.2.2.2.1.2.2.2.2.2.1, x.2.2.2.2.1.2.2.2.2.2.2), x.2.2.2.2.2) f := by
  have h := zB_set (bs := 0) (i := 25) (cells := cT x) (f := f) (x := (.inl (0, 20, .inl v))) (by show 25 < 29; decide)
  rw [Nat.zero_add] at h
  exact h
theorem pT_a4_3 {x : zTS} {f : ZH} {v : Nat → Int32} : zup (pT x f) 26 (.inl (0, 400, .inl v)) = pT (x.1, x.2.1, x.2.2.1, x.2.2.2.1, (x.2.2.2.2.1.1, x.2.2.2.2.1.2.1, x.2.2.2.2.1.2.2.1, v, x.2.2.2.2.1.2.2.2.2.1, x.2.2.2.2.1.2.2.2.2.2.1, x.2.2.2.2.1.2.2.2.2.2.2), x.2.2.2.2.2) f := by
  have h := zB_set (bs := 0) (i := 26) (cells := cT x) (f := f) (x := (.inl (0, 400, .inl v))) (by show 26 < 29; decide)
  rw [Nat.zero_add] at h
  exact h
theorem pT_a4_4 {x : zTS} {f : ZH} {v : Int32} {u5 : Int32} (e5 : u5 = x.2.2.2.2.1.2.2.2.2.2.1) {u6 : Int32} (e6 : u6 = x.2.2.2.2.1.2.2.2.2.2.2) : zup (pT x f) 22 (.inr (0, [.ref 23, .ref 24, .ref 25, .ref 26, .int v, .int u5, .int u6])) = pT (x.1, x.2.1, x.2.2.1, x.2.2.2.1, (x.2.2.2.2.1.1, x.2.2.2.2.1.2.1, x.2.2.2.2.1.2.2.1, x.2.2.2.2.1.2.2.2.1, v, x.2.2.2.2.1.2.2.2.2.2.1, x.2.2.2.2.1.2.2.2.2.2.2), x.2.2.2.2.2) f := by
  have h := zB_set (bs := 0) (i := 22) (cells := cT x) (f := f) (x := (.inr (0, [.ref 23, .ref 24, .ref 25, .ref 26, .int v, .int u5, .int u6]))) (by show 22 < 29; decide)
  rw [Nat.zero_add] at h
  subst e5; subst e6; exact h
theorem pT_a4_5 {x : zTS} {f : ZH} {v : Int32} {u4 : Int32} (e4 : u4 = x.2.2.2.2.1.2.2.2.2.1) {u6 : Int32} (e6 : u6 = x.2.2.2.2.1.2.2.2.2.2.2) : zup (pT x f) 22 (.inr (0, [.ref 23, .ref 24, .ref 25, .ref 26, .int u4, .int v, .int u6])) = pT (x.1, x.2.1, x.2.2.1, x.2.2.2.1, (x.2.2.2.2.1.1, x.2.2.2.2.1.2.1, x.2.2.2.2.1.2.2.1, x.2.2.2.2.1.2.2.2.1, x.2.2.2.2.1.2.2.2.2.1, v, x.2.2.2.2.1.2.2.2.2.2.2), x.2.2.2.2.2) f := by
  have h := zB_set (bs := 0) (i := 22) (cells := cT x) (f := f) (x := (.inr (0, [.ref 23, .ref 24, .ref 25, .ref 26, .int u4, .int v, .int u6]))) (by show 22 < 29; decide)
  rw [Nat.zero_add] at h
  subst e4; subst e6; exact h
theorem pT_a4_6 {x : zTS} {f : ZH} {v : Int32} {u4 : Int32} (e4 : u4 = x.2.2.2.2.1.2.2.2.2.1) {u5 : Int32} (e5 : u5 = x.2.2.2.2.1.2.2.2.2.2.1) : zup (pT x f) 22 (.inr (0, [.ref 23, .ref 24, .ref 25, .ref 26, .int u4, .int u5, .int v])) = pT (x.1, x.2.1, x.2.2.1, x.2.2.2.1, (x.2.2.2.2.1.1, x.2.2.2.2.1.2.1, x.2.2.2.2.1.2.2.1, x.2.2.2.2.1.2.2.2.1, x.2.2.2.2.1.2.2.2.2.1, x.2.2.2.2.1.2.2.2.2.2.1, v), x.2.2.2.2.2) f := by
  have h := zB_set (bs := 0) (i := 22) (cells := cT x) (f := f) (x := (.inr (0, [.ref 23, .ref 24, .ref 25, .ref 26, .int u4, .int u5, .int v]))) (by show 22 < 29; decide)
  rw [Nat.zero_add] at h
  subst e4; subst e5; exact h
theorem pT_a5_0 {x : zTS} {f : ZH} {v : Nat → Int32} : zup (pT x f) 28 (.inl (0, 24, .inl v)) = pT (x.1, x.2.1, x.2.2.1, x.2.2.2.1, x.2.2.2.2.1, v) f := by
  have h := zB_set (bs := 0) (i := 28) (cells := cT x) (f := f) (x := (.inl (0, 24, .inl v))) (by show 28 < 29; decide)
  rw [Nat.zero_add] at h
  exact h
theorem pT_pM {x : zTS} {y : zMS} {f : ZH} : pT x (pM y f) = pM y (pT x f) := zB_swap (Or.inl (by show 0 + 29 ≤ 29; decide))
def pO (x : Nat → Int64) (f : ZH) : ZH := zB 44 [.inl (2, 1, .inr (.inl x))] f
theorem pO_0 {x : Nat → Int64} {f : ZH} : pO x f 44 = .inl (2, 1, .inr (.inl x)) := zB_in (i := 0) (by show 0 < 1; decide)
theorem pO_s {x v : Nat → Int64} {f : ZH} : zup (pO x f) 44 (.inl (2, 1, .inr (.inl v))) = pO v f := zB_set (i := 0) (by show 0 < 1; decide)
theorem pO_pO {x y : Nat → Int64} {f : ZH} : pO x (pO y f) = pO x f := zB_zB rfl
theorem pT_pO {x : zTS} {y : Nat → Int64} {f : ZH} : pT x (pO y f) = pO y (pT x f) := zB_swap (Or.inl (by show 0 + 29 ≤ 44; decide))
theorem pM_pO {x : zMS} {y : Nat → Int64} {f : ZH} : pM x (pO y f) = pO y (pM x f) := zB_swap (Or.inl (by show 29 + 15 ≤ 44; decide))
end
section
/-! ===== laws for walking blocks ===== -/
def zb (x : Bool) : Int32 := if x then 1 else 0
theorem znar_b (x : Bool) : narrow .boolean (.int (zb x)) = .int (zb x) := by cases x <;> rfl
theorem zb_0 (x : Bool) : (zb x = 0) = (x = false) := by cases x <;> simp [zb]
theorem zok_nil : zok 0 [] = true := rfl
theorem zok_ref {n x : Nat} {a : List Value} : zok (n + 1) (.ref x :: a) = zok n a := by simp [zok, Value.category]
theorem zok_int {n : Nat} {x : Int32} {a : List Value} : zok (n + 1) (.int x :: a) = zok n a := by simp [zok, Value.category]
theorem zcall_no {M n : Nat} {ct : List Value → ZH → (Option Value → ZH → Prop) → Prop} {Kx : Nat → Prop} {h0 : ZH} {K : ZK ZH} {ls : List (Option Value)} {a r : List Value} {h : ZH} : zcall M n zno ct Kx h0 K ls a r h = (zok n a = true ∧ r.length ≤ 4 ∧ ct a h (fun v h' => K ls (v.toList ++ r) h')) := by
  simp [zcall, zno]
theorem o_tsw3 {τ : Type} {K0 K1 K2 Kd : ZK τ} {ls : List (Option Value)} {x : Int32} {r : List Value} {h : τ} (h0 : x = 0 → K0 ls r h) (h1 : x = 1 → K1 ls r h) (h2 : x = 2 → K2 ls r h) (hd : ¬ x = 0 → ¬ x = 1 → ¬ x = 2 → Kd ls r h) : o_tsw 0 [K0, K1, K2] Kd ls (.int x :: r) h := by
  refine ⟨fun i K hi hx => ?_, fun hx => hd (fun e => ?_) (fun e => ?_) (fun e => ?_)⟩
  · match i, hi with
    | 0, hi => cases hi; exact h0 (Int32.toInt_inj.mp (by rw [hx]; rfl))
    | 1, hi => cases hi; exact h1 (Int32.toInt_inj.mp (by rw [hx]; rfl))
    | 2, hi => cases hi; exact h2 (Int32.toInt_inj.mp (by rw [hx]; rfl))
    | n + 3, hi => exact absurd hi (by simp)
  all_goals subst e
  all_goals rcases hx with hx | hx
  all_goals exact absurd hx (by first | decide | (simp only [List.length_cons, List.length_nil]; decide))
/-! ===== pure pictures of the loops of the rules ===== -/
def sh1 (k : Nat) : Int32 := (1 : Int32) <<< (nI k &&& 31)
theorem sh1_def (k : Nat) : (1 : Int32) <<< (nI k &&& 31) = sh1 k := rfl
theorem b_one (i : Nat) : bt 1 i = decide (i = 0) := by
  rcases Nat.lt_or_ge i 32 with h | h
  · exact (by decide +kernel : ∀ i, i < 32 → bt 1 i = decide (i = 0)) i h
  · rw [b_big h, decide_eq_false (by omega)]
theorem bt_sh1 {k i : Nat} (hk : k < 32) (hi : i < 32) : bt (sh1 k) i = decide (i = k) := by
  unfold sh1
  rw [b_shl k hk 1 hi, b_one]
  by_cases h : i = k
  · subst h; simp
  · by_cases h2 : k ≤ i
    · simp [h, h2]; omega
    · simp [h, h2]
theorem bt_not {x : Int32} {i : Nat} (hi : i < 32) : bt (x ^^^ (-1)) i = !(bt x i) := by
  rw [b_xor, b_m1 i hi]; simp
theorem hasb {x : Int32} {j : Nat} (hj : j < 32) : ((x >>> (nI j &&& 31)) &&& 1 = 1) ↔ bt x j = true := by
  constructor
  · intro h
    have h0 : bt ((x >>> (nI j &&& 31)) &&& 1) 0 = true := by rw [h, b_one]; rfl
    rw [b_and, b_sshr j hj x (by decide), if_pos (by omega)] at h0
    rw [Bool.and_eq_true] at h0
    simpa using h0.1
  · intro h
    apply b_ext
    intro i hi
    rw [b_and, b_one]
    by_cases h0 : i = 0
    · subst h0
      rw [b_sshr j hj x (by decide), if_pos (by omega)]
      simp [h]
    · simp [h0]
def fE (al : Nat → Int32) (n : Nat) : Nat → Nat → Nat
  | 0, t => t
  | k + 1, t => if al t < 0 ∨ nI n ≤ al t then t else fE al n k (al t).toNatClampNeg
def fEnds (al : Nat → Int32) (n : Nat) (set : Int32) : Nat → Int32
  | 0 => 0
  | i + 1 => if bt set i then fEnds al n set i ||| sh1 (fE al n n i) else fEnds al n set i
def fNx (al im : Nat → Int32) (n : Nat) (nx : Nat → Int32) : Nat → Nat → Int32
  | 0 => fun j => if j < n then 0 else nx j
  | i + 1 => if im i = 0 then fNx al im n nx i else upd (fNx al im n nx i) (fE al n n i) (fNx al im n nx i (fE al n n i) ||| fEnds al n (im i) n)
def fRo (mid : Nat) (re : Nat → Int32) : Nat → Nat → Int32
  | 0 => re
  | i + 1 => if bt (fRo mid re i i) mid then upd (fRo mid re i) i (fRo mid re i i ||| fRo mid re i mid) else fRo mid re i
def fRe (n : Nat) (nx re : Nat → Int32) : Nat → Nat → Int32
  | 0 => fun j => if j < n then nx j ||| sh1 j else re j
  | i + 1 => if nx i = 0 then fRe n nx re i else fRo i (fRe n nx re i) n
def fWork (ρ : zRS) (n : Nat) : zRS := (ρ.1, ρ.2.1, fNx ρ.1 ρ.2.1 n ρ.2.2.1 n, fRe n (fNx ρ.1 ρ.2.1 n ρ.2.2.1 n) ρ.2.2.2.1 n, ρ.2.2.2.2)
def fRf (al re : Nat → Int32) (n : Nat) (set : Int32) : Nat → Int32
  | 0 => 0
  | i + 1 => if bt set i then fRf al re n set i ||| re (fE al n n i) else fRf al re n set i
def fSpI (nx : Nat → Int32) (all : Int32) : Nat → Int32
  | 0 => all
  | i + 1 => if bt all i then fSpI nx all i ||| nx i else fSpI nx all i
def fSp (nx : Nat → Int32) (n : Nat) : Nat → Int32 → Int32
  | 0, all => all
  | k + 1, all => if fSpI nx all n = all then all else fSp nx n k (fSpI nx all n)
def fLt (nx : Nat → Int32) (set : Int32) : Nat → Int32
  | 0 => 0
  | i + 1 => if nx i &&& set = 0 then fLt nx set i else fLt nx set i ||| sh1 i
/-- the first of the n - k numbers from k on with q -/
def fFind (q : Nat → Bool) (n : Nat) : Nat → Nat → Option Nat
  | 0, _ => none
  | f + 1, k => if k < n then (if q k then some k else fFind q n f (k + 1)) else none
def fNear (al nx : Nat → Int32) (n : Nat) (set : Int32) : Nat → Nat → Int32 → Int32
  | 0, _, _ => -1
  | f + 1, st, near => match fFind (fun i => bt set i && bt near (fE al n n i)) n n 0 with
    | some i => 100 * nI st + nI i
    | none => fNear al nx n set f (st + 1) (near ||| fLt nx near n)
def fAlias (ρ : zRS) (n t o : Nat) : Bool := decide (ρ.1 t = -1) && (decide (fE ρ.1 n n o ≠ t) && (!bt (ρ.2.2.2.1 t) (fE ρ.1 n n o) && !bt (ρ.2.2.2.1 (fE ρ.1 n n o)) t))
def fAllow (ρ : zRS) (n : Nat) (k : Int32) (t o : Nat) : Bool :=
  if k = 0 then fAlias ρ n t o
  else if k = 1 then !bt (ρ.2.1 t) o && !bt (ρ.2.2.2.1 (fE ρ.1 n n o)) (fE ρ.1 n n t)
  else if k = 2 then decide (ρ.1 t = nI o)
  else bt (ρ.2.1 t) o
def fCarry (ρ : zRS) (k : Int32) (t o : Nat) : zRS :=
  if k = 0 then (upd ρ.1 t (nI o), ρ.2)
  else if k = 1 then (ρ.1, upd ρ.2.1 t (ρ.2.1 t ||| sh1 o), ρ.2.2)
  else if k = 2 then (upd ρ.1 t (-1), ρ.2)
  else (ρ.1, upd ρ.2.1 t (ρ.2.1 t &&& (sh1 o ^^^ (-1))), ρ.2.2)
def zR (ρ : zRS) (n : Nat) : Prop := ρ.2.2.2.2 = nI n ∧ n ≤ 24
theorem fE_lt {al : Nat → Int32} {n : Nat} (hn : n < 2 ^ 31) : ∀ (k t : Nat), t < n → fE al n k t < n
  | 0, t, h => h
  | k + 1, t, h => by
    unfold fE
    split
    · exact h
    · next hc =>
      have h1 : ¬ al t < 0 := fun q => hc (Or.inl q)
      have h2 : ¬ nI n ≤ al t := fun q => hc (Or.inr q)
      obtain ⟨j, hj, e⟩ := nI_of h1
      rw [e] at h2 ⊢
      rw [nI_clamp hj]
      refine fE_lt hn k j ?_
      rcases Nat.lt_or_ge j n with h9 | h9
      · exact h9
      · exact absurd (nI_le h9 hj) h2
end
section
/-! ===== Integer.bitCount counts the bits ===== -/
theorem pp_and {a m b n : Nat} (ha : a < 256) (hm : m < 256) : (a + 256 * b) &&& (m + 256 * n) = (a &&& m) + 256 * (b &&& n) := by
  have hr : a &&& m < 2 ^ 8 := Nat.lt_of_le_of_lt Nat.and_le_left (by omega)
  apply Nat.eq_of_testBit_eq
  intro j
  rw [Nat.testBit_and, show a + 256 * b = 2 ^ 8 * b + a by omega, show m + 256 * n = 2 ^ 8 * n + m by omega, show (a &&& m) + 256 * (b &&& n) = 2 ^ 8 * (b &&& n) + (a &&& m) by omega]
  rw [Nat.testBit_two_pow_mul_add _ (by omega), Nat.testBit_two_pow_mul_add _ (by omega), Nat.testBit_two_pow_mul_add _ hr]
  split <;> rw [Nat.testBit_and]
theorem pp_sh {a m b n s : Nat} (ha : a < 256) (hs : s ≤ 8) (hm : m < 2 ^ (8 - s)) : ((a + 256 * b) / 2 ^ s) &&& (m + 256 * n) = ((a / 2 ^ s) &&& m) + 256 * ((b / 2 ^ s) &&& n) := by
  have hm2 : m < 2 ^ 8 := Nat.lt_of_lt_of_le hm (Nat.pow_le_pow_right (by decide) (by omega))
  have hr : (a / 2 ^ s) &&& m < 2 ^ 8 := Nat.lt_of_le_of_lt Nat.and_le_right hm2
  apply Nat.eq_of_testBit_eq
  intro j
  rw [Nat.testBit_and, show a + 256 * b = 2 ^ 8 * b + a by omega, show m + 256 * n = 2 ^ 8 * n + m by omega, show ((a / 2 ^ s) &&& m) + 256 * ((b / 2 ^ s) &&& n) = 2 ^ 8 * ((b / 2 ^ s) &&& n) + ((a / 2 ^ s) &&& m) by omega]
  rw [Nat.testBit_div_two_pow, Nat.testBit_two_pow_mul_add _ (show a < 2 ^ 8 by omega), Nat.testBit_two_pow_mul_add _ hm2, Nat.testBit_two_pow_mul_add _ hr]
  by_cases hj : j < 8
  · rw [if_pos hj, if_pos hj, Nat.testBit_and, Nat.testBit_div_two_pow]
    by_cases h2 : j + s < 8
    · rw [if_pos (by omega)]
      try rw [Nat.add_comm s j]
    · have : m.testBit j = false := Nat.testBit_lt_two_pow (Nat.lt_of_lt_of_le hm (Nat.pow_le_pow_right (by decide) (by omega)))
      rw [this, Bool.and_false, Bool.and_false]
  · rw [if_neg hj, if_neg hj, if_neg (by omega), Nat.testBit_and, Nat.testBit_div_two_pow]
    congr 2
    omega
def g1 (x : Nat) : Nat := x - (x / 2 &&& 1431655765)
def g2 (x : Nat) : Nat := (x &&& 858993459) + (x / 4 &&& 858993459)
def g3 (x : Nat) : Nat := (x + x / 16) &&& 252645135
def q1 (a : Nat) : Nat := a - (a / 2 &&& 85)
def q2 (a : Nat) : Nat := (a &&& 51) + (a / 4 &&& 51)
def q3 (a : Nat) : Nat := (a + a / 16) % 16
theorem q1_lt (a : Nat) (h : a < 256) : q1 a < 256 := by unfold q1; omega
theorem q12_le : ∀ a : Fin 256, q2 (q1 a.val) / 16 ≤ 4 ∧ q2 (q1 a.val) % 16 ≤ 4 := by decide +kernel
theorem q123 : ∀ a : Fin 256, q3 (q2 (q1 a.val)) = fb_ct (fun i => a.val.testBit i) 8 := by decide +kernel
theorem q123_le : ∀ a : Fin 256, q3 (q2 (q1 a.val)) ≤ 8 := by decide +kernel
def lan (a b c d : Nat) : Nat := a + 256 * (b + 256 * (c + 256 * d))
theorem g1_lan {a b c d : Nat} (ha : a < 256) (hb : b < 256) (hc : c < 256) (hd : d < 256) : g1 (lan a b c d) = lan (q1 a) (q1 b) (q1 c) (q1 d) ∧ (lan a b c d / 2 &&& 1431655765) ≤ lan a b c d := by
  have e : lan a b c d / 2 &&& 1431655765 = lan (a / 2 &&& 85) (b / 2 &&& 85) (c / 2 &&& 85) (d / 2 &&& 85) := by
    unfold lan
    have h1 := pp_sh (a := a) (b := b + 256 * (c + 256 * d)) (m := 85) (n := 85 + 256 * (85 + 256 * 85)) (s := 1) ha (by decide) (by decide)
    have h2 := pp_sh (a := b) (b := c + 256 * d) (m := 85) (n := 85 + 256 * 85) (s := 1) hb (by decide) (by decide)
    have h3 := pp_sh (a := c) (b := d) (m := 85) (n := 85) (s := 1) hc (by decide) (by decide)
    simp only [Nat.pow_one] at h1 h2 h3
    rw [show (1431655765 : Nat) = 85 + 256 * (85 + 256 * (85 + 256 * 85)) from rfl, h1, h2, h3]
  have l1 : a / 2 &&& 85 ≤ a := Nat.le_trans Nat.and_le_left (by omega)
  have l2 : b / 2 &&& 85 ≤ b := Nat.le_trans Nat.and_le_left (by omega)
  have l3 : c / 2 &&& 85 ≤ c := Nat.le_trans Nat.and_le_left (by omega)
  have l4 : d / 2 &&& 85 ≤ d := Nat.le_trans Nat.and_le_left (by omega)
  unfold g1
  rw [e]
  unfold lan q1
  generalize a / 2 &&& 85 = a' at *
  generalize b / 2 &&& 85 = b' at *
  generalize c / 2 &&& 85 = c' at *
  generalize d / 2 &&& 85 = d' at *
  omega
theorem g2_lan {a b c d : Nat} (ha : a < 256) (hb : b < 256) (hc : c < 256) (hd : d < 256) : g2 (lan a b c d) = lan (q2 a) (q2 b) (q2 c) (q2 d) := by
  have e : lan a b c d / 4 &&& 858993459 = lan (a / 4 &&& 51) (b / 4 &&& 51) (c / 4 &&& 51) (d / 4 &&& 51) := by
    unfold lan
    have h1 := pp_sh (a := a) (b := b + 256 * (c + 256 * d)) (m := 51) (n := 51 + 256 * (51 + 256 * 51)) (s := 2) ha (by decide) (by decide)
    have h2 := pp_sh (a := b) (b := c + 256 * d) (m := 51) (n := 51 + 256 * 51) (s := 2) hb (by decide) (by decide)
    have h3 := pp_sh (a := c) (b := d) (m := 51) (n := 51) (s := 2) hc (by decide) (by decide)
    rw [show (2 ^ 2 : Nat) = 4 from rfl] at h1 h2 h3
    rw [show (858993459 : Nat) = 51 + 256 * (51 + 256 * (51 + 256 * 51)) from rfl, h1, h2, h3]
  have e2 : lan a b c d &&& 858993459 = lan (a &&& 51) (b &&& 51) (c &&& 51) (d &&& 51) := by
    unfold lan
    rw [show (858993459 : Nat) = 51 + 256 * (51 + 256 * (51 + 256 * 51)) from rfl, pp_and ha (by decide), pp_and hb (by decide), pp_and hc (by decide)]
  unfold g2
  rw [e, e2]
  unfold lan q2
  omega
theorem g3_lan {a b c d : Nat} (ha : a / 16 ≤ 4 ∧ a % 16 ≤ 4) (hb : b / 16 ≤ 4 ∧ b % 16 ≤ 4) (hc : c / 16 ≤ 4 ∧ c % 16 ≤ 4) (hd : d / 16 ≤ 4 ∧ d % 16 ≤ 4) : g3 (lan a b c d) = lan (q3 a) (q3 b) (q3 c) (q3 d) := by
  have e : lan a b c d + lan a b c d / 16 = lan (a + a / 16 + 16 * (b % 16)) (b + b / 16 + 16 * (c % 16)) (c + c / 16 + 16 * (d % 16)) (d + d / 16) := by
    unfold lan
    omega
  have m15 : ∀ x : Nat, x &&& 15 = x % 16 := fun x => Nat.and_two_pow_sub_one_eq_mod x 4
  unfold g3
  rw [e]
  unfold lan
  rw [show (252645135 : Nat) = 15 + 256 * (15 + 256 * (15 + 256 * 15)) from rfl, pp_and (by omega) (by decide), pp_and (by omega) (by decide), pp_and (by omega) (by decide), m15, m15, m15, m15]
  unfold q3
  omega
theorem g45_lan {a b c d : Nat} (ha : a ≤ 8) (hb : b ≤ 8) (hc : c ≤ 8) (hd : d ≤ 8) (x y : Nat) (hx : x = lan a b c d + lan a b c d / 256) (hy : y = x + x / 65536) : y &&& 63 = a + b + c + d := by
  rw [show (63 : Nat) = 2 ^ 6 - 1 from rfl, Nat.and_two_pow_sub_one_eq_mod]
  have e1 : lan a b c d / 256 = b + 256 * (c + 256 * d) := by unfold lan; omega
  have e2 : x = (a + b) + 256 * (b + c) + 65536 * (c + d + 256 * d) := by rw [hx, e1]; unfold lan; omega
  have e3 : x / 65536 = c + d + 256 * d := by omega
  rw [hy, e3, e2]
  omega
theorem fBc_nat {x : Nat} (hx : x < 2 ^ 32) : ∃ a b c d : Nat, a < 256 ∧ b < 256 ∧ c < 256 ∧ d < 256 ∧ x = lan a b c d := by
  refine ⟨x % 256, x / 256 % 256, x / 65536 % 256, x / 16777216, by omega, by omega, by omega, by omega, ?_⟩
  unfold lan
  omega
end
section
/-! ===== what the methods of the rules do ===== -/
def tX5_has : List Value → ZH → (Option Value → ZH → Prop) → Prop := fun a h Kn => ∃ (x : Int32) (j : Nat), a = [.int x, .int (nI j)] ∧ j < 32 ∧ Kn (some (.int (zb (bt x j)))) h
def tX4_endOf : List Value → ZH → (Option Value → ZH → Prop) → Prop := fun a h Kn => ∃ (bs : Nat) (ρ : zRS) (f : ZH) (n t : Nat), a = [.ref bs, .int (nI t)] ∧ h = pR bs ρ f ∧ zR ρ n ∧ t < n ∧ Kn (some (.int (nI (fE ρ.1 n n t)))) h
def tX4_endsOf : List Value → ZH → (Option Value → ZH → Prop) → Prop := fun a h Kn => ∃ (bs : Nat) (ρ : zRS) (f : ZH) (n : Nat) (x : Int32), a = [.ref bs, .int x] ∧ h = pR bs ρ f ∧ zR ρ n ∧ Kn (some (.int (fEnds ρ.1 n x n))) h
def tX4_reachedFrom : List Value → ZH → (Option Value → ZH → Prop) → Prop := fun a h Kn => ∃ (bs : Nat) (ρ : zRS) (f : ZH) (n : Nat) (x : Int32), a = [.ref bs, .int x] ∧ h = pR bs ρ f ∧ zR ρ n ∧ Kn (some (.int (fRf ρ.1 ρ.2.2.2.1 n x n))) h
def tX4_leadingTo : List Value → ZH → (Option Value → ZH → Prop) → Prop := fun a h Kn => ∃ (bs : Nat) (ρ : zRS) (f : ZH) (n : Nat) (x : Int32), a = [.ref bs, .int x] ∧ h = pR bs ρ f ∧ zR ρ n ∧ Kn (some (.int (fLt ρ.2.2.1 x n))) h
def tX4_spread : List Value → ZH → (Option Value → ZH → Prop) → Prop := fun a h Kn => ∃ (bs : Nat) (ρ : zRS) (f : ZH) (n : Nat) (x : Int32), a = [.ref bs, .int x] ∧ h = pR bs ρ f ∧ zR ρ n ∧ Kn (some (.int (fSp ρ.2.2.1 n n (fEnds ρ.1 n x n)))) h
def tX4_nearest : List Value → ZH → (Option Value → ZH → Prop) → Prop := fun a h Kn => ∃ (bs : Nat) (ρ : zRS) (f : ZH) (n t : Nat) (x : Int32), a = [.ref bs, .int x, .int (nI t)] ∧ h = pR bs ρ f ∧ zR ρ n ∧ t < n ∧ Kn (some (.int (fNear ρ.1 ρ.2.2.1 n x n 0 (sh1 t)))) h
def tX4_allowsAlias : List Value → ZH → (Option Value → ZH → Prop) → Prop := fun a h Kn => ∃ (bs : Nat) (ρ : zRS) (f : ZH) (n t o : Nat), a = [.ref bs, .int (nI t), .int (nI o)] ∧ h = pR bs ρ f ∧ zR ρ n ∧ t < n ∧ o < n ∧ Kn (some (.int (zb (fAlias ρ n t o)))) h
def tX4_allows : List Value → ZH → (Option Value → ZH → Prop) → Prop := fun a h Kn => ∃ (bs : Nat) (ρ : zRS) (f : ZH) (n t o : Nat) (k : Int32), a = [.ref bs, .int k, .int (nI t), .int (nI o)] ∧ h = pR bs ρ f ∧ zR ρ n ∧ t < n ∧ o < n ∧ Kn (some (.int (zb (fAllow ρ n k t o)))) h
def tX4_reachOver : List Value → ZH → (Option Value → ZH → Prop) → Prop := fun a h Kn => ∃ (bs : Nat) (ρ : zRS) (f : ZH) (n t : Nat), a = [.ref bs, .int (nI t)] ∧ h = pR bs ρ f ∧ zR ρ n ∧ t < n ∧ Kn none (pR bs (ρ.1, ρ.2.1, ρ.2.2.1, fRo t ρ.2.2.2.1 n, ρ.2.2.2.2) f)
def tX4_workOut : List Value → ZH → (Option Value → ZH → Prop) → Prop := fun a h Kn => ∃ (bs : Nat) (ρ : zRS) (f : ZH) (n : Nat), a = [.ref bs] ∧ h = pR bs ρ f ∧ zR ρ n ∧ Kn none (pR bs (fWork ρ n) f)
def tX4_carryOut : List Value → ZH → (Option Value → ZH → Prop) → Prop := fun a h Kn => ∃ (bs : Nat) (ρ : zRS) (f : ZH) (n t o : Nat) (k : Int32), a = [.ref bs, .int k, .int (nI t), .int (nI o)] ∧ h = pR bs ρ f ∧ zR ρ n ∧ t < n ∧ o < n ∧ Kn none (pR bs (fWork (fCarry ρ k t o) n) f)
def tX4_grow : List Value → ZH → (Option Value → ZH → Prop) → Prop := fun a h Kn => ∃ (bs : Nat) (ρ : zRS) (f : ZH) (n : Nat), a = [.ref bs, .int (nI (n + 1))] ∧ h = pR bs ρ f ∧ zR ρ n ∧ n < 24 ∧ Kn none (pR bs (fWork (upd ρ.1 n (-1), ρ.2.1, ρ.2.2.1, ρ.2.2.2.1, nI (n + 1)) (n + 1)) f)
def tX4_copyFrom : List Value → ZH → (Option Value → ZH → Prop) → Prop := fun a h Kn => ∃ (τ ρ : zRS) (f : ZH) (n : Nat), a = [.ref 10, .ref 5] ∧ h = pR 10 τ (pR 5 ρ f) ∧ zR ρ n ∧ Kn none (pR 10 ((fun j => if j < n then ρ.1 j else τ.1 j), (fun j => if j < n then ρ.2.1 j else τ.2.1 j), τ.2.2.1, τ.2.2.2.1, nI n) (pR 5 ρ f))
end
section
/-! ===== what the small methods do: names, requests, hands, rows ===== -/
def isCh (x : Int32) : Prop := narrow .char (.int x) = .int x
theorem isCh_nar {x : Int32} (h : isCh x) : vp_nar .char x = x := by
  unfold vp_nar
  rw [h]
def fPl (c : Int32) : Int32 := if 65 ≤ c ∧ c ≤ 90 then ((c - 65 + 97).toUInt32 % 65536).toInt32 else if c = 45 then 95 else c
def fAll (q : Nat → Bool) : Nat → Nat → Bool
  | 0, _ => true
  | f + 1, k => q k && fAll q f (k + 1)
def fIsD (le ln dr : Nat → Int32) (d t : Nat) : Bool := decide (ln t = nI d) && fAll (fun i => decide (fPl (le (t * 8 + i)) = fPl (dr i))) d 0
def fOpt (x : Option Nat) : Int32 := match x with
  | some j => nI j
  | none => -1
def fB1 (x : Int32) : Int32 := x - ((x.toUInt32 >>> ((1 : Int32).toUInt32 &&& Int32.toUInt32 31)).toInt32 &&& 1431655765)
def fB2 (x : Int32) : Int32 := (x &&& 858993459) + ((x.toUInt32 >>> ((2 : Int32).toUInt32 &&& Int32.toUInt32 31)).toInt32 &&& 858993459)
def fB3 (x : Int32) : Int32 := (x + (x.toUInt32 >>> ((4 : Int32).toUInt32 &&& Int32.toUInt32 31)).toInt32) &&& 252645135
def fB4 (x : Int32) : Int32 := x + (x.toUInt32 >>> ((8 : Int32).toUInt32 &&& Int32.toUInt32 31)).toInt32
def fB5 (x : Int32) : Int32 := x + (x.toUInt32 >>> ((16 : Int32).toUInt32 &&& Int32.toUInt32 31)).toInt32
def fBc (x : Int32) : Int32 := fB5 (fB4 (fB3 (fB2 (fB1 x)))) &&& 63
def fMin (x y : Int32) : Int32 := if y < x then y else x
def fAbs (x : Int32) : Int32 := if 0 ≤ x then x else 0 - x
def fChg (se ed : Nat → Int32) : Nat → Int32
  | 0 => 0
  | i + 1 => if ed i = se i then fChg se ed i else fChg se ed i ||| sh1 i
def fCol (sh : Nat → Int32) (i : Nat) : Nat → Int32
  | 0 => 0
  | k + 1 => if bt (sh k) i then fCol sh i k ||| sh1 k else fCol sh i k
def fShI (all : Int32) (i : Nat) (sh : Nat → Int32) : Nat → Nat → Int32
  | 0 => sh
  | k + 1 => if bt all k then upd (fShI all i sh k) k (fShI all i sh k k ||| sh1 i) else fShI all i sh k
def fSh (al re : Nat → Int32) (n : Nat) (se sh : Nat → Int32) : Nat → Nat → Int32
  | 0 => fun j => if j < n then 0 else sh j
  | i + 1 => fShI (fRf al re n (se i) n) i (fSh al re n se sh i) n
def fKeep (η : zHS) (m s k : Nat) (ch : Int32) : zHS :=
  ((fun j => if j < m then η.2.1 j else η.1 j), η.2.1, upd η.2.2.1 s ch, (fun j => if s * 20 ≤ j ∧ j < s * 20 + m then η.1 (j - s * 20) else η.2.2.2.1 j), η.2.2.2.2.1, nI (min (k + 1) 20), nI (if s + 1 < 20 then s + 1 else 0))
def fPrev (s : Nat) : Nat := if 0 < s then s - 1 else 19
def fBack (η : zHS) (m s k : Nat) : zHS :=
  ((fun j => if j < m ∧ bt (η.2.2.1 (fPrev s)) j = true then η.2.2.2.1 (fPrev s * 20 + j) else η.1 j), η.2.1, η.2.2.1, η.2.2.2.1, η.2.2.2.2.1, nI (k - 1), nI (fPrev s))
def zH (η : zHS) (m k s : Nat) : Prop := η.2.2.2.2.1 = nI m ∧ m ≤ 20 ∧ η.2.2.2.2.2.1 = nI k ∧ k ≤ 20 ∧ η.2.2.2.2.2.2 = nI s ∧ s < 20
def tJ6_bitCount_0f7a4 : List Value → ZH → (Option Value → ZH → Prop) → Prop := fun a h Kn => ∃ x : Int32, a = [.int x] ∧ Kn (some (.int (fBc x))) h
def tX1_plain : List Value → ZH → (Option Value → ZH → Prop) → Prop := fun a h Kn => ∃ x : Int32, a = [.int x] ∧ isCh x ∧ Kn (some (.int (fPl x))) h
def tX1_append : List Value → ZH → (Option Value → ZH → Prop) → Prop := fun a h Kn => ∃ (ν : zNS) (f : ZH) (x : Int32) (d : Nat), a = [.ref 1, .int x] ∧ h = pN ν f ∧ isCh x ∧ ν.2.2.2.2 = nI d ∧ d < 8 ∧ Kn none (pN (ν.1, ν.2.1, upd ν.2.2.1 d x, ν.2.2.2.1, nI (d + 1)) f)
def tX1_emptyDraft : List Value → ZH → (Option Value → ZH → Prop) → Prop := fun a h Kn => ∃ (ν : zNS) (f : ZH), a = [.ref 1] ∧ h = pN ν f ∧ Kn none (pN (ν.1, ν.2.1, ν.2.2.1, ν.2.2.2.1, 0) f)
def tX1_letterAt : List Value → ZH → (Option Value → ZH → Prop) → Prop := fun a h Kn => ∃ (ν : zNS) (f : ZH) (t i : Nat), a = [.ref 1, .int (nI t), .int (nI i)] ∧ h = pN ν f ∧ t < 24 ∧ i < 8 ∧ isCh (ν.1 (t * 8 + i)) ∧ Kn (some (.int (ν.1 (t * 8 + i)))) h
def zCh (ν : zNS) : Prop := (∀ j, isCh (ν.1 j)) ∧ ∀ j, isCh (ν.2.2.1 j)
def tX1_isDraft : List Value → ZH → (Option Value → ZH → Prop) → Prop := fun a h Kn => ∃ (ν : zNS) (f : ZH) (t d : Nat), a = [.ref 1, .int (nI t)] ∧ h = pN ν f ∧ t < 24 ∧ zCh ν ∧ ν.2.2.2.2 = nI d ∧ d ≤ 8 ∧ Kn (some (.int (zb (fIsD ν.1 ν.2.1 ν.2.2.1 d t)))) h
def tX1_findDraft : List Value → ZH → (Option Value → ZH → Prop) → Prop := fun a h Kn => ∃ (ν : zNS) (f : ZH) (n d : Nat), a = [.ref 1] ∧ h = pN ν f ∧ ν.2.2.2.1 = nI n ∧ n ≤ 24 ∧ zCh ν ∧ ν.2.2.2.2 = nI d ∧ d ≤ 8 ∧ Kn (some (.int (fOpt (fFind (fIsD ν.1 ν.2.1 ν.2.2.1 d) n n 0)))) h
def tX1_addDraft : List Value → ZH → (Option Value → ZH → Prop) → Prop := fun a h Kn => ∃ (ν : zNS) (f : ZH) (n d : Nat), a = [.ref 1] ∧ h = pN ν f ∧ ν.2.2.2.1 = nI n ∧ n < 24 ∧ zCh ν ∧ ν.2.2.2.2 = nI d ∧ d ≤ 8 ∧ Kn (some (.int (nI n))) (pN ((fun j => if n * 8 ≤ j ∧ j < n * 8 + d then ν.2.2.1 (j - n * 8) else ν.1 j), upd ν.2.1 n (nI d), ν.2.2.1, nI (n + 1), ν.2.2.2.2) f)
def tX2_add : List Value → ZH → (Option Value → ZH → Prop) → Prop := fun a h Kn => ∃ (κ : zQS) (f : ZH) (q : Nat) (x y z : Int32), a = [.ref 15, .int x, .int y, .int z] ∧ h = pQ κ f ∧ κ.2.2.2.2.2.2 = nI q ∧ q < 40 ∧ Kn (some (.int (nI q))) (pQ (upd κ.1 q x, upd κ.2.1 q y, upd κ.2.2.1 q z, upd κ.2.2.2.1 q 0, κ.2.2.2.2.1, κ.2.2.2.2.2.1, nI (q + 1)) f)
def tX2_setVote : List Value → ZH → (Option Value → ZH → Prop) → Prop := fun a h Kn => ∃ (κ : zQS) (f : ZH) (q v : Nat) (x : Bool), a = [.ref 15, .int (nI q), .int (nI v), .int (zb x)] ∧ h = pQ κ f ∧ q < 40 ∧ v < 10 ∧
  Kn none (pQ (κ.1, κ.2.1, κ.2.2.1, κ.2.2.2.1, upd κ.2.2.2.2.1 q (if x then κ.2.2.2.2.1 q ||| sh1 v else κ.2.2.2.2.1 q &&& (sh1 v ^^^ (-1))), upd κ.2.2.2.2.2.1 q (if x then κ.2.2.2.2.2.1 q &&& (sh1 v ^^^ (-1)) else κ.2.2.2.2.2.1 q ||| sh1 v), κ.2.2.2.2.2.2) f)
def tX2_leadOf : List Value → ZH → (Option Value → ZH → Prop) → Prop := fun a h Kn => ∃ (κ : zQS) (f : ZH) (q : Nat), a = [.ref 15, .int (nI q)] ∧ h = pQ κ f ∧ q < 40 ∧ Kn (some (.int (fBc (κ.2.2.2.2.1 q) - fBc (κ.2.2.2.2.2.1 q)))) h
/-- a request that names tags that there are -/
def zQok (κ : zQS) (n q : Nat) (k : Int32) (t o : Nat) : Prop := q < 40 ∧ κ.1 q = k ∧ κ.2.1 q = nI t ∧ κ.2.2.1 q = nI o ∧ t < n ∧ o < n
def tX2_isAllowedBy : List Value → ZH → (Option Value → ZH → Prop) → Prop := fun a h Kn => ∃ (κ : zQS) (f f2 : ZH) (bs : Nat) (ρ : zRS) (n q t o : Nat) (k : Int32), a = [.ref 15, .ref bs, .int (nI q)] ∧ h = pQ κ f ∧ h = pR bs ρ f2 ∧ zR ρ n ∧ zQok κ n q k t o ∧ Kn (some (.int (zb (fAllow ρ n k t o)))) h
def tX2_carryOut : List Value → ZH → (Option Value → ZH → Prop) → Prop := fun a h Kn => ∃ (κ : zQS) (f f2 : ZH) (bs : Nat) (ρ : zRS) (n q t o : Nat) (k : Int32), a = [.ref 15, .ref bs, .int (nI q)] ∧ h = pQ κ f ∧ h = pR bs ρ f2 ∧ zR ρ n ∧ zQok κ n q k t o ∧ Kn none (pR bs (fWork (fCarry ρ k t o) n) f2)
def tX0_startEdit : List Value → ZH → (Option Value → ZH → Prop) → Prop := fun a h Kn => ∃ (η : zHS) (f : ZH) (m : Nat), a = [.ref 22] ∧ h = pH η f ∧ η.2.2.2.2.1 = nI m ∧ m ≤ 20 ∧ Kn none (pH (η.1, (fun j => if j < m then η.1 j else η.2.1 j), η.2.2) f)
def tX0_keep : List Value → ZH → (Option Value → ZH → Prop) → Prop := fun a h Kn => ∃ (η : zHS) (f : ZH) (m k s : Nat) (x : Int32), a = [.ref 22, .int x] ∧ h = pH η f ∧ zH η m k s ∧ Kn none (pH (fKeep η m s k x) f)
def tX0_finishEdit : List Value → ZH → (Option Value → ZH → Prop) → Prop := fun a h Kn => ∃ (η : zHS) (f : ZH) (m k s : Nat), a = [.ref 22] ∧ h = pH η f ∧ zH η m k s ∧ Kn (some (.int (fBc (fChg η.1 η.2.1 m)))) (pH (if fChg η.1 η.2.1 m = 0 then η else fKeep η m s k (fChg η.1 η.2.1 m)) f)
def tX0_restoreLatest : List Value → ZH → (Option Value → ZH → Prop) → Prop := fun a h Kn => ∃ (η : zHS) (f : ZH) (m k s : Nat), a = [.ref 22] ∧ h = pH η f ∧ zH η m k s ∧ 0 < k ∧ Kn (some (.int (fBc (η.2.2.1 (fPrev s))))) (pH (fBack η m s k) f)
def tX3_column : List Value → ZH → (Option Value → ZH → Prop) → Prop := fun a h Kn => ∃ (ω : zVS) (f : ZH) (i n : Nat), a = [.ref 27, .int (nI i), .int (nI n)] ∧ h = pV ω f ∧ i < 32 ∧ n ≤ 24 ∧ Kn (some (.int (fCol ω i n))) h
def tX3_refresh : List Value → ZH → (Option Value → ZH → Prop) → Prop := fun a h Kn => ∃ (σ : zTS) (f : ZH) (n m : Nat), a = [.ref 27, .ref 5, .ref 22] ∧ h = pT σ f ∧ zR σ.2.1 n ∧ σ.2.2.2.2.1.2.2.2.2.1 = nI m ∧ m ≤ 20 ∧
  Kn none (pT (σ.1, σ.2.1, σ.2.2.1, σ.2.2.2.1, σ.2.2.2.2.1, fSh σ.2.1.1 σ.2.1.2.2.2.1 n σ.2.2.2.2.1.1 σ.2.2.2.2.2 m) f)
theorem wb_of32z (x : Int32) : ∃ X : Nat, X < 2 ^ 32 ∧ x = nI X := ⟨x.toBitVec.toNat, x.toBitVec.isLt, by
  apply Int32.toBitVec_inj.mp
  show x.toBitVec = BitVec.ofNat 32 x.toBitVec.toNat
  rw [BitVec.ofNat_toNat]; simp⟩
theorem fBc_count (x : Int32) : fBc x = nI (fb_ct (bt x) 32) := by
  obtain ⟨X, hX, rfl⟩ : ∃ X : Nat, X < 2 ^ 32 ∧ x = nI X := wb_of32z x
  obtain ⟨a, b, c, d, ha, hb, hc, hd, rfl⟩ := fBc_nat hX
  have r1 := q12_le ⟨a, ha⟩
  have r2 := q12_le ⟨b, hb⟩
  have r3 := q12_le ⟨c, hc⟩
  have r4 := q12_le ⟨d, hd⟩
  have p1 := q123_le ⟨a, ha⟩
  have p2 := q123_le ⟨b, hb⟩
  have p3 := q123_le ⟨c, hc⟩
  have p4 := q123_le ⟨d, hd⟩
  dsimp only at r1 r2 r3 r4 p1 p2 p3 p4
  have e1 : fB1 (nI (lan a b c d)) = nI (lan (q1 a) (q1 b) (q1 c) (q1 d)) := by
    unfold fB1
    rw [pk_ushrN hX 1 1 (by decide), show (1431655765 : Int32) = nI 1431655765 from rfl, nx_and, show (2 ^ 1 : Nat) = 2 from rfl, pk_sub (g1_lan ha hb hc hd).2, ← (g1_lan ha hb hc hd).1]
    rfl
  have l1 := q1_lt a ha
  have l2 := q1_lt b hb
  have l3 := q1_lt c hc
  have l4 := q1_lt d hd
  have e2 : fB2 (nI (lan (q1 a) (q1 b) (q1 c) (q1 d))) = nI (lan (q2 (q1 a)) (q2 (q1 b)) (q2 (q1 c)) (q2 (q1 d))) := by
    unfold fB2
    rw [pk_ushrN (by unfold lan; omega) 2 2 (by decide), show (858993459 : Int32) = nI 858993459 from rfl, nx_and, nx_and, nI_add, ← g2_lan l1 l2 l3 l4]
    rfl
  have e3 : fB3 (nI (lan (q2 (q1 a)) (q2 (q1 b)) (q2 (q1 c)) (q2 (q1 d)))) = nI (lan (q3 (q2 (q1 a))) (q3 (q2 (q1 b))) (q3 (q2 (q1 c))) (q3 (q2 (q1 d)))) := by
    unfold fB3
    rw [pk_ushrN (by unfold lan; omega) 4 4 (by decide), show (252645135 : Int32) = nI 252645135 from rfl, nI_add, nx_and, ← g3_lan r1 r2 r3 r4]
    rfl
  have e4 : fBc (nI (lan a b c d)) = nI (q3 (q2 (q1 a)) + q3 (q2 (q1 b)) + q3 (q2 (q1 c)) + q3 (q2 (q1 d))) := by
    unfold fBc
    rw [e1, e2, e3]
    unfold fB4 fB5
    rw [pk_ushrN (by unfold lan; omega) 8 8 (by decide), nI_add, pk_ushrN (by unfold lan; omega) 16 16 (by decide), nI_add, show (63 : Int32) = nI 63 from rfl, nx_and]
    exact congrArg nI (g45_lan p1 p2 p3 p4 _ _ rfl rfl)
  rw [e4]
  apply congrArg
  have q1' := q123 ⟨a, ha⟩
  have q2' := q123 ⟨b, hb⟩
  have q3' := q123 ⟨c, hc⟩
  have q4' := q123 ⟨d, hd⟩
  dsimp only at q1' q2' q3' q4'
  have hbit : ∀ i, i < 32 → bt (nI (lan a b c d)) i = (lan a b c d).testBit i := by
    intro i hi
    show (BitVec.ofNat 32 (lan a b c d)).getLsbD i = _
    rw [BitVec.getLsbD_ofNat]
    simp [hi]
  rw [q1', q2', q3', q4', fb_ct_cong hbit, show (32 : Nat) = 8 + (8 + (8 + 8)) from rfl, fb_ct_split, fb_ct_split, fb_ct_split]
  have t0 : ∀ k, k < 8 → (lan a b c d).testBit k = a.testBit k := by
    intro k hk
    unfold lan
    rw [show a + 256 * (b + 256 * (c + 256 * d)) = 2 ^ 8 * (b + 256 * (c + 256 * d)) + a by omega, Nat.testBit_two_pow_mul_add _ (by omega), if_pos hk]
  have t1 : ∀ k, k < 8 → (lan a b c d).testBit (8 + k) = b.testBit k := by
    intro k hk
    unfold lan
    rw [show a + 256 * (b + 256 * (c + 256 * d)) = 2 ^ 8 * (2 ^ 8 * (c + 256 * d) + b) + a by omega, Nat.testBit_two_pow_mul_add _ (by omega), if_neg (by omega), Nat.add_sub_cancel_left, Nat.testBit_two_pow_mul_add _ (by omega), if_pos hk]
  have t2 : ∀ k, k < 8 → (lan a b c d).testBit (8 + (8 + k)) = c.testBit k := by
    intro k hk
    unfold lan
    rw [show a + 256 * (b + 256 * (c + 256 * d)) = 2 ^ 8 * (2 ^ 8 * (2 ^ 8 * d + c) + b) + a by omega, Nat.testBit_two_pow_mul_add _ (by omega), if_neg (by omega), Nat.add_sub_cancel_left, Nat.testBit_two_pow_mul_add _ (by omega), if_neg (by omega), Nat.add_sub_cancel_left, Nat.testBit_two_pow_mul_add _ (by omega), if_pos hk]
  have t3 : ∀ k, k < 8 → (lan a b c d).testBit (8 + (8 + (8 + k))) = d.testBit k := by
    intro k hk
    unfold lan
    rw [show a + 256 * (b + 256 * (c + 256 * d)) = 2 ^ 8 * (2 ^ 8 * (2 ^ 8 * d + c) + b) + a by omega, Nat.testBit_two_pow_mul_add _ (by omega), if_neg (by omega), Nat.add_sub_cancel_left, Nat.testBit_two_pow_mul_add _ (by omega), if_neg (by omega), Nat.add_sub_cancel_left, Nat.testBit_two_pow_mul_add _ (by omega), if_neg (by omega), Nat.add_sub_cancel_left]
  rw [fb_ct_cong t0, fb_ct_cong t1, fb_ct_cong t2, fb_ct_cong t3]
  simp only [Nat.add_assoc]
theorem fBc_pos {x : Int32} : (0 < fBc x) ↔ ¬ x = 0 := by
  have hle := fb_ct_le (bt x) 32
  rw [fBc_count, show (0 : Int32) = nI 0 from rfl, nI_ltI (by omega) (by omega), fb_ct_pos]
  constructor
  · rintro ⟨k, hk, h⟩ h0
    rw [h0] at h
    rw [show nI 0 = (0 : Int32) from rfl, b_0] at h
    cases h
  · intro h
    by_cases q : ∃ k, k < 32 ∧ bt x k = true
    · exact q
    · exact absurd (b_ext (x := x) (y := nI 0) (fun i hi => by
        rw [show nI 0 = (0 : Int32) from rfl, b_0]
        cases hb : bt x i
        · rfl
        · exact absurd ⟨i, hi, hb⟩ q)) h
end
section
/-! ===== what the methods of TagRoot do ===== -/
def rI (h : ZH) (i k : Nat) : Int32 := match h i with
  | .inr (_, fs) => (match fs[k]? with
    | some (.int x) => x
    | _ => 0)
  | _ => 0
def rA (h : ZH) (i : Nat) : Nat → Int32 := match h i with
  | .inl (_, _, .inl f) => f
  | _ => fun _ => 0
def gT (h : ZH) : zTS := ((rA h 2, rA h 3, rA h 4, rI h 1 3, rI h 1 4), (rA h 6, rA h 7, rA h 8, rA h 9, rI h 5 4), (rA h 11, rA h 12, rA h 13, rA h 14, rI h 10 4), (rA h 16, rA h 17, rA h 18, rA h 19, rA h 20, rA h 21, rI h 15 6), (rA h 23, rA h 24, rA h 25, rA h 26, rI h 22 4, rI h 22 5, rI h 22 6), rA h 28)
theorem gT_pT (σ : zTS) (f : ZH) : gT (pT σ f) = σ := by
  unfold gT rA rI
  simp only [pT_1, pT_2, pT_3, pT_4, pT_5, pT_6, pT_7, pT_8, pT_9, pT_10, pT_11, pT_12, pT_13, pT_14, pT_15, pT_16, pT_17, pT_18, pT_19, pT_20, pT_21, pT_22, pT_23, pT_24, pT_25, pT_26, pT_28, List.getElem?_cons_zero, List.getElem?_cons_succ]
def zInv (σ : zTS) (n m q k s d : Nat) : Prop :=
  σ.1.2.2.2.1 = nI n ∧ n ≤ 24 ∧ σ.1.2.2.2.2 = nI d ∧ d ≤ 8 ∧ zCh σ.1 ∧ (∀ t, t < n → ∃ e, e ≤ 8 ∧ σ.1.2.1 t = nI e) ∧ zR σ.2.1 n ∧ zH σ.2.2.2.2.1 m k s ∧
  σ.2.2.2.1.2.2.2.2.2.2 = nI q ∧ q ≤ 40 ∧ ∀ i, i < q → ∃ t o, σ.2.2.2.1.2.1 i = nI t ∧ σ.2.2.2.1.2.2.1 i = nI o ∧ t < n ∧ o < n
def zSh (h : ZH) : Prop := ∃ (σ : zTS) (f : ZH) (n m q k s d : Nat), h = pT σ f ∧ zInv σ n m q k s d
def okI (x n : Int32) : Prop := 0 ≤ x ∧ x < n
theorem okI_n {x : Int32} {n : Nat} (hn : n < 2 ^ 31) : okI x (nI n) ↔ ∃ i, i < n ∧ x = nI i := by
  constructor
  · rintro ⟨h1, h2⟩
    obtain ⟨j, hj, e⟩ := nI_of (Int32.not_lt.mpr h1)
    subst e
    exact ⟨j, (nI_ltI hj hn).mp h2, rfl⟩
  · rintro ⟨i, hi, rfl⟩
    exact ⟨nI_pos' (by omega), (nI_ltI (by omega) hn).mpr hi⟩
abbrev tn (x : Int32) : Nat := x.toNatClampNeg
/-- the parts by name -/
abbrev sTags (σ : zTS) : Int32 := σ.1.2.2.2.1
abbrev sThings (σ : zTS) : Int32 := σ.2.2.2.2.1.2.2.2.2.1
abbrev sReqs (σ : zTS) : Int32 := σ.2.2.2.1.2.2.2.2.2.2
abbrev sHand (σ : zTS) : Nat → Int32 := σ.2.2.2.2.1.1
abbrev sK (σ : zTS) : zHS := σ.2.2.2.2.1
def wH (σ : zTS) (η : zHS) : zTS := (σ.1, σ.2.1, σ.2.2.1, σ.2.2.2.1, η, σ.2.2.2.2.2)
def wV (σ : zTS) (ω : zVS) : zTS := (σ.1, σ.2.1, σ.2.2.1, σ.2.2.2.1, σ.2.2.2.2.1, ω)
def wN (σ : zTS) (ν : zNS) : zTS := (ν, σ.2)
def wR (σ : zTS) (ρ : zRS) : zTS := (σ.1, ρ, σ.2.2)
def wU (σ : zTS) (τ : zRS) : zTS := (σ.1, σ.2.1, τ, σ.2.2.2)
def wQ (σ : zTS) (κ : zQS) : zTS := (σ.1, σ.2.1, σ.2.2.1, κ, σ.2.2.2.2)
/-- the rows made anew -/
def fRef (σ : zTS) : zTS := wV σ (fSh σ.2.1.1 σ.2.1.2.2.2.1 (tn (sTags σ)) (sHand σ) σ.2.2.2.2.2 (tn (sThings σ)))
/-- an edit, with the sets to come in 'edited', comes to its end -/
def fChT (σ : zTS) : Int32 := fChg (sK σ).1 (sK σ).2.1 (tn (sThings σ))
def fFinH (σ : zTS) : zTS := wH σ (fKeep (sK σ) (tn (sThings σ)) (tn (sK σ).2.2.2.2.2.2) (tn (sK σ).2.2.2.2.2.1) (fChT σ))
def fFin (σ : zTS) : zTS := if fChT σ = 0 then σ else fRef (fFinH σ)
def fStart (σ : zTS) : zTS := wH σ ((sK σ).1, (fun j => if j < tn (sThings σ) then (sK σ).1 j else (sK σ).2.1 j), (sK σ).2.2)
def fEd (σ : zTS) (i : Nat) (x : Int32) : zTS := wH σ ((sK σ).1, upd (sK σ).2.1 i x, (sK σ).2.2)
/-- private ones -/
def eX5_needTag : List Value → ZH → Nat → Prop := fun a h k => zSh h ∧ ∃ x, a = [.ref 0, .int x] ∧ k = 2 ∧ ¬ okI x (sTags (gT h))
def tX5_needTag : List Value → ZH → (Option Value → ZH → Prop) → Prop := fun a h Kn => zSh h ∧ ∃ x, a = [.ref 0, .int x] ∧ Kn none h
def eX5_needThing : List Value → ZH → Nat → Prop := fun a h k => zSh h ∧ ∃ x, a = [.ref 0, .int x] ∧ k = 2 ∧ ¬ okI x (sThings (gT h))
def tX5_needThing : List Value → ZH → (Option Value → ZH → Prop) → Prop := fun a h Kn => zSh h ∧ ∃ x, a = [.ref 0, .int x] ∧ Kn none h
def eX5_needRequest : List Value → ZH → Nat → Prop := fun a h k => zSh h ∧ ∃ x, a = [.ref 0, .int x] ∧ k = 2 ∧ ¬ okI x (sReqs (gT h))
def tX5_needRequest : List Value → ZH → (Option Value → ZH → Prop) → Prop := fun a h Kn => zSh h ∧ ∃ x, a = [.ref 0, .int x] ∧ Kn none h
def fTs (n x : Int32) : Bool := decide (0 ≤ x) && decide (x < (1 : Int32) <<< (n &&& 31))
def tX5_isTagSet : List Value → ZH → (Option Value → ZH → Prop) → Prop := fun a h Kn => ∃ (σ : zTS) (f : ZH) (x : Int32), a = [.ref 0, .int x] ∧ h = pT σ f ∧ Kn (some (.int (zb (fTs (sTags σ) x)))) h
def fTs3 (n x y z : Int32) : Bool := fTs n x && (fTs n y && fTs n z)
def eX5_needSets : List Value → ZH → Nat → Prop := fun a h k => zSh h ∧ ∃ x y z, a = [.ref 0, .int x, .int y, .int z] ∧ k = 0 ∧ fTs3 (sTags (gT h)) x y z = false
def tX5_needSets : List Value → ZH → (Option Value → ZH → Prop) → Prop := fun a h Kn => zSh h ∧ ∃ x y z, a = [.ref 0, .int x, .int y, .int z] ∧ Kn none h
def tX5_finishEdit : List Value → ZH → (Option Value → ZH → Prop) → Prop := fun a h Kn => ∃ (σ : zTS) (f : ZH) (n m q k s d : Nat), a = [.ref 0] ∧ h = pT σ f ∧ zInv σ n m q k s d ∧ Kn (some (.int (fBc (fChT σ)))) (pT (fFin σ) f)
def fSg (x : Int32) : Bool := (decide (97 ≤ x) && decide (x ≤ 122)) || ((decide (65 ≤ x) && decide (x ≤ 90)) || (decide (x = 45) || decide (x = 95)))
def tX5_isNameCharacter : List Value → ZH → (Option Value → ZH → Prop) → Prop := fun a h Kn => ∃ (x : Int32), a = [.int x] ∧ Kn (some (.int (zb (fSg x)))) h
def fMe (k x : Int32) (t o : Nat) : Int32 := if k = 0 then x ||| sh1 o else if k = 1 then x &&& (sh1 o ^^^ (-1)) else x &&& (sh1 t ^^^ (-1)) ||| sh1 o
def tX5_massEdited : List Value → ZH → (Option Value → ZH → Prop) → Prop := fun a h Kn => ∃ (k x : Int32) (t o : Nat), a = [.int k, .int x, .int (nI t), .int (nI o)] ∧ Kn (some (.int (fMe k x t o))) h
def fMem (x p : Int32) : Nat → Nat → Int32 → Int32
  | 0, _, _ => -1
  | f + 1, i, b => if bt x i then (if b = p then nI i else fMem x p f (i + 1) (b + 1)) else fMem x p f (i + 1) b
def tX5_memberAt : List Value → ZH → (Option Value → ZH → Prop) → Prop := fun a h Kn => ∃ (x p : Int32), a = [.int x, .int p] ∧ Kn (some (.int (fMem x p 20 0 0))) h
/-- found and withAny, for the tags below i -/
def fMtF (al : Nat → Int32) (n : Nat) (sh : Nat → Int32) (x z : Int32) (f0 : Int32) : Nat → Int32
  | 0 => f0
  | i + 1 =>
    let p := if bt x i then fMtF al n sh x z f0 i &&& sh (fE al n n i) else fMtF al n sh x z f0 i
    if bt z i then p &&& (sh (fE al n n i) ^^^ (-1)) else p
def fMtA (al : Nat → Int32) (n : Nat) (sh : Nat → Int32) (y : Int32) (a0 : Int32) : Nat → Int32
  | 0 => a0
  | i + 1 => if bt y i then fMtA al n sh y a0 i ||| sh (fE al n n i) else fMtA al n sh y a0 i
def fMt (σ : zTS) (x y z : Int32) : Int32 :=
  fMtF σ.2.1.1 (tn (sTags σ)) σ.2.2.2.2.2 x z (((1 : Int32) <<< (sThings σ &&& 31)) - 1) (tn (sTags σ)) &&& fMtA σ.2.1.1 (tn (sTags σ)) σ.2.2.2.2.2 y (if y = 0 then ((1 : Int32) <<< (sThings σ &&& 31)) - 1 else 0) (tn (sTags σ))
def tX5_matching : List Value → ZH → (Option Value → ZH → Prop) → Prop := fun a h Kn => ∃ (σ : zTS) (f : ZH) (n m q k s d : Nat) (x y z : Int32), a = [.ref 0, .int x, .int y, .int z] ∧ h = pT σ f ∧ zInv σ n m q k s d ∧ Kn (some (.int (fMt σ x y z))) h
abbrev qK (κ : zQS) (i : Nat) : Int32 := κ.1 i
abbrev qT (κ : zQS) (i : Nat) : Nat := tn (κ.2.1 i)
abbrev qO (κ : zQS) (i : Nat) : Nat := tn (κ.2.2.1 i)
abbrev qS (κ : zQS) (i : Nat) : Int32 := κ.2.2.2.1 i
def fAlw (ρ : zRS) (n : Nat) (κ : zQS) (i : Nat) : Bool := fAllow ρ n (qK κ i) (qT κ i) (qO κ i)
def fOa (σ : zTS) (i : Nat) : Bool := decide (qS σ.2.2.2.1 i = 0) && fAlw σ.2.1 (tn (sTags σ)) σ.2.2.2.1 i
def tX5_isOpenAndAllowed : List Value → ZH → (Option Value → ZH → Prop) → Prop := fun a h Kn => ∃ (σ : zTS) (f : ZH) (n m q k s d i : Nat), a = [.ref 0, .int (nI i)] ∧ h = pT σ f ∧ zInv σ n m q k s d ∧ i < q ∧ Kn (some (.int (zb (fOa σ i)))) h
def fCop (ρ τ : zRS) (n : Nat) : zRS := ((fun j => if j < n then ρ.1 j else τ.1 j), (fun j => if j < n then ρ.2.1 j else τ.2.1 j), τ.2.2.1, τ.2.2.2.1, nI n)
def fBeh (σ : zTS) (i j : Nat) : zRS := fWork (fCarry (fCop σ.2.1 σ.2.2.1 (tn (sTags σ))) (qK σ.2.2.2.1 i) (qT σ.2.2.2.1 i) (qO σ.2.2.2.1 i)) (tn (sTags σ))
def tX5_isAllowedBehind : List Value → ZH → (Option Value → ZH → Prop) → Prop := fun a h Kn => ∃ (σ : zTS) (f : ZH) (n m q k s d i j : Nat), a = [.ref 0, .int (nI i), .int (nI j)] ∧ h = pT σ f ∧ zInv σ n m q k s d ∧ i < q ∧ j < q ∧ Kn (some (.int (zb (fAlw (fBeh σ i j) (tn (sTags σ)) σ.2.2.2.1 j)))) (pT (wU σ (fBeh σ i j)) f)
def wS (σ : zTS) (i : Nat) (x : Int32) : zTS := wQ σ (σ.2.2.2.1.1, σ.2.2.2.1.2.1, σ.2.2.2.1.2.2.1, upd σ.2.2.2.1.2.2.2.1 i x, σ.2.2.2.1.2.2.2.2)
def fDec (σ : zTS) (i : Nat) (x : Int32) : zTS :=
  if 3 ≤ x ∧ fAlw σ.2.1 (tn (sTags σ)) σ.2.2.2.1 i = true then fRef (wR (wS σ i 1) (fWork (fCarry σ.2.1 (qK σ.2.2.2.1 i) (qT σ.2.2.2.1 i) (qO σ.2.2.2.1 i)) (tn (sTags σ))))
  else if 3 ≤ fAbs x then wS σ i 2 else σ
def tX5_decide : List Value → ZH → (Option Value → ZH → Prop) → Prop := fun a h Kn => ∃ (σ : zTS) (f : ZH) (n m q k s d i : Nat) (x : Int32), a = [.ref 0, .int (nI i), .int x] ∧ h = pT σ f ∧ zInv σ n m q k s d ∧ i < q ∧ Kn none (pT (fDec σ i x) f)
end
section
def fEntF (σ : zTS) : Option Nat := fFind (fIsD σ.1.1 σ.1.2.1 σ.1.2.2.1 (tn σ.1.2.2.2.2)) (tn (sTags σ)) (tn (sTags σ)) 0
def fNewT (σ : zTS) : zTS := ((((fun j => if tn (sTags σ) * 8 ≤ j ∧ j < tn (sTags σ) * 8 + tn σ.1.2.2.2.2 then σ.1.2.2.1 (j - tn (sTags σ) * 8) else σ.1.1 j), upd σ.1.2.1 (tn (sTags σ)) σ.1.2.2.2.2, σ.1.2.2.1, nI (tn (sTags σ) + 1), 0) : zNS), fWork (upd σ.2.1.1 (tn (sTags σ)) (-1), σ.2.1.2.1, σ.2.1.2.2.1, σ.2.1.2.2.2.1, nI (tn (sTags σ) + 1)) (tn (sTags σ) + 1), σ.2.2)
def fEnt (σ : zTS) : Int32 × zTS := match fEntF σ with
  | some t => (nI t, wN σ (σ.1.1, σ.1.2.1, σ.1.2.2.1, σ.1.2.2.2.1, 0))
  | none => (nI (tn (sTags σ)), fNewT σ)
def fTagS (σ : zTS) (x y : Int32) : zTS := fEd (fStart σ) (tn x) (sHand σ (tn x) ||| sh1 (tn y))
def fUntS (σ : zTS) (x y : Int32) : zTS := fEd (fStart σ) (tn x) (sHand σ (tn x) &&& (sh1 (tn y) ^^^ (-1)))
/-- the sets to come of an edit of many things, below the thing i -/
def fMsE (σ : zTS) (k : Int32) (t o : Nat) (w : Int32) (e0 : Nat → Int32) : Nat → Nat → Int32
  | 0 => e0
  | i + 1 => if (if k = 2 then bt (sHand σ i) t else bt w i) then upd (fMsE σ k t o w e0 i) i (fMe k (sHand σ i) t o) else fMsE σ k t o w e0 i
def fMasS (σ : zTS) (k x y : Int32) : zTS := wH σ ((sK σ).1, fMsE σ k (tn x) (tn y) (σ.2.2.2.2.2 (fE σ.2.1.1 (tn (sTags σ)) (tn (sTags σ)) (tn x))) (sK (fStart σ)).2.1 (tn (sThings σ)), (sK σ).2.2)
def fUnd (σ : zTS) : zTS := fRef (wH σ (fBack (sK σ) (tn (sThings σ)) (tn (sK σ).2.2.2.2.2.2) (tn (sK σ).2.2.2.2.2.1)))
def fAsk (σ : zTS) (k x y : Int32) : zTS := wQ σ (upd σ.2.2.2.1.1 (tn (sReqs σ)) k, upd σ.2.2.2.1.2.1 (tn (sReqs σ)) x, upd σ.2.2.2.1.2.2.1 (tn (sReqs σ)) y, upd σ.2.2.2.1.2.2.2.1 (tn (sReqs σ)) 0, σ.2.2.2.1.2.2.2.2.1, σ.2.2.2.1.2.2.2.2.2.1, nI (tn (sReqs σ) + 1))
def fSetV (σ : zTS) (i v : Nat) (x : Bool) : zTS := wQ σ (σ.2.2.2.1.1, σ.2.2.2.1.2.1, σ.2.2.2.1.2.2.1, σ.2.2.2.1.2.2.2.1, upd σ.2.2.2.1.2.2.2.2.1 i (if x then σ.2.2.2.1.2.2.2.2.1 i ||| sh1 v else σ.2.2.2.1.2.2.2.2.1 i &&& (sh1 v ^^^ (-1))), upd σ.2.2.2.1.2.2.2.2.2.1 i (if x then σ.2.2.2.1.2.2.2.2.2.1 i &&& (sh1 v ^^^ (-1)) else σ.2.2.2.1.2.2.2.2.2.1 i ||| sh1 v), σ.2.2.2.1.2.2.2.2.2.2)
def fLead (σ : zTS) (i : Nat) : Int32 := fBc (σ.2.2.2.1.2.2.2.2.1 i) - fBc (σ.2.2.2.1.2.2.2.2.2.1 i)
def fVot (σ : zTS) (i v : Nat) (x : Bool) : zTS := fDec (fSetV σ i v x) i (fLead (fSetV σ i v x) i)
/-- one of two requests can't pass behind the other -/
def fCl1 (σ : zTS) (τ : zRS) (i j : Nat) : Bool := !fAlw (fBeh (wU σ τ) i j) (tn (sTags σ)) σ.2.2.2.1 j
def eX5_type : List Value → ZH → Nat → Prop := fun a h k => zSh h ∧ ∃ x, a = [.ref 0, .int x] ∧ isCh x ∧ ((fSg x = false ∧ k = 0) ∨ (fSg x = true ∧ 8 ≤ (gT h).1.2.2.2.2 ∧ k = 1))
def tX5_type : List Value → ZH → (Option Value → ZH → Prop) → Prop := fun a h Kn => zSh h ∧ ∃ x, a = [.ref 0, .int x] ∧ isCh x ∧ Kn (some (.int ((gT h).1.2.2.2.2 + 1))) (pT (wN (gT h) ((gT h).1.1, (gT h).1.2.1, upd (gT h).1.2.2.1 (tn (gT h).1.2.2.2.2) x, (gT h).1.2.2.2.1, (gT h).1.2.2.2.2 + 1)) h)
def eX5_enter : List Value → ZH → Nat → Prop := fun a h k => zSh h ∧ a = [.ref 0] ∧ (k = 1 ∧ ((gT h).1.2.2.2.2 = 0 ∨ (fEntF (gT h) = none ∧ 24 ≤ sTags (gT h))))
def tX5_enter : List Value → ZH → (Option Value → ZH → Prop) → Prop := fun a h Kn => zSh h ∧ a = [.ref 0] ∧ Kn (some (.int ((fEnt (gT h)).1))) (pT ((fEnt (gT h)).2) h)
def tX5_tags : List Value → ZH → (Option Value → ZH → Prop) → Prop := fun a h Kn => zSh h ∧ a = [.ref 0] ∧ Kn (some (.int (sTags (gT h)))) h
def eX5_letter : List Value → ZH → Nat → Prop := fun a h k => zSh h ∧ ∃ x y, a = [.ref 0, .int x, .int y] ∧ (k = 2 ∧ (¬ okI x (sTags (gT h)) ∨ ¬ okI y ((gT h).1.2.1 (tn x))))
def tX5_letter : List Value → ZH → (Option Value → ZH → Prop) → Prop := fun a h Kn => zSh h ∧ ∃ x y, a = [.ref 0, .int x, .int y] ∧ Kn (some (.int ((gT h).1.1 (tn x * 8 + tn y)))) h
def eX5_addThing : List Value → ZH → Nat → Prop := fun a h k => zSh h ∧ a = [.ref 0] ∧ (k = 1 ∧ 20 ≤ sThings (gT h))
def tX5_addThing : List Value → ZH → (Option Value → ZH → Prop) → Prop := fun a h Kn => zSh h ∧ a = [.ref 0] ∧ Kn (some (.int (sThings (gT h)))) (pT (wH (gT h) ((sK (gT h)).1, (sK (gT h)).2.1, (sK (gT h)).2.2.1, (sK (gT h)).2.2.2.1, sThings (gT h) + 1, (sK (gT h)).2.2.2.2.2)) h)
def tX5_things : List Value → ZH → (Option Value → ZH → Prop) → Prop := fun a h Kn => zSh h ∧ a = [.ref 0] ∧ Kn (some (.int (sThings (gT h)))) h
def eX5_tag : List Value → ZH → Nat → Prop := fun a h k => zSh h ∧ ∃ x y, a = [.ref 0, .int x, .int y] ∧ (k = 2 ∧ (¬ okI x (sThings (gT h)) ∨ ¬ okI y (sTags (gT h))))
def tX5_tag : List Value → ZH → (Option Value → ZH → Prop) → Prop := fun a h Kn => zSh h ∧ ∃ x y, a = [.ref 0, .int x, .int y] ∧ Kn (some (.int (zb (!decide (fChT (fTagS (gT h) x y) = 0))))) (pT (fFin (fTagS (gT h) x y)) h)
def eX5_untag : List Value → ZH → Nat → Prop := fun a h k => zSh h ∧ ∃ x y, a = [.ref 0, .int x, .int y] ∧ (k = 2 ∧ (¬ okI x (sThings (gT h)) ∨ ¬ okI y (sTags (gT h))))
def tX5_untag : List Value → ZH → (Option Value → ZH → Prop) → Prop := fun a h Kn => zSh h ∧ ∃ x y, a = [.ref 0, .int x, .int y] ∧ Kn (some (.int (zb (!decide (fChT (fUntS (gT h) x y) = 0))))) (pT (fFin (fUntS (gT h) x y)) h)
def eX5_mass : List Value → ZH → Nat → Prop := fun a h k => zSh h ∧ ∃ k0 x y, a = [.ref 0, .int k0, .int x, .int y] ∧ (((¬ okI x (sTags (gT h)) ∨ ¬ okI y (sTags (gT h))) ∧ k = 2) ∨ (okI x (sTags (gT h)) ∧ okI y (sTags (gT h)) ∧ ¬ okI k0 3 ∧ k = 0))
def tX5_mass : List Value → ZH → (Option Value → ZH → Prop) → Prop := fun a h Kn => zSh h ∧ ∃ k0 x y, a = [.ref 0, .int k0, .int x, .int y] ∧ Kn (some (.int (fBc (fChT (fMasS (gT h) k0 x y))))) (pT (fFin (fMasS (gT h) k0 x y)) h)
def eX5_undo : List Value → ZH → Nat → Prop := fun a h k => zSh h ∧ a = [.ref 0] ∧ (k = 1 ∧ (sK (gT h)).2.2.2.2.2.1 = 0)
def tX5_undo : List Value → ZH → (Option Value → ZH → Prop) → Prop := fun a h Kn => zSh h ∧ a = [.ref 0] ∧ Kn (some (.int (fBc ((sK (gT h)).2.2.1 (fPrev (tn (sK (gT h)).2.2.2.2.2.2)))))) (pT (fUnd (gT h)) h)
def tX5_kept : List Value → ZH → (Option Value → ZH → Prop) → Prop := fun a h Kn => zSh h ∧ a = [.ref 0] ∧ Kn (some (.int ((sK (gT h)).2.2.2.2.2.1))) h
def eX5_hand : List Value → ZH → Nat → Prop := fun a h k => zSh h ∧ ∃ x, a = [.ref 0, .int x] ∧ (k = 2 ∧ ¬ okI x (sThings (gT h)))
def tX5_hand : List Value → ZH → (Option Value → ZH → Prop) → Prop := fun a h Kn => zSh h ∧ ∃ x, a = [.ref 0, .int x] ∧ Kn (some (.int (sHand (gT h) (tn x)))) h
def eX5_ask : List Value → ZH → Nat → Prop := fun a h k => zSh h ∧ ∃ k0 x y, a = [.ref 0, .int k0, .int x, .int y] ∧ (((¬ okI x (sTags (gT h)) ∨ ¬ okI y (sTags (gT h))) ∧ k = 2) ∨ (okI x (sTags (gT h)) ∧ okI y (sTags (gT h)) ∧ (¬ okI k0 4 ∨ x = y) ∧ k = 0) ∨ (okI x (sTags (gT h)) ∧ okI y (sTags (gT h)) ∧ okI k0 4 ∧ ¬ x = y ∧ 40 ≤ sReqs (gT h) ∧ k = 1))
def tX5_ask : List Value → ZH → (Option Value → ZH → Prop) → Prop := fun a h Kn => zSh h ∧ ∃ k0 x y, a = [.ref 0, .int k0, .int x, .int y] ∧ Kn (some (.int (sReqs (gT h)))) (pT (fAsk (gT h) k0 x y) h)
def eX5_vote : List Value → ZH → Nat → Prop := fun a h k => zSh h ∧ ∃ (x y : Int32) (z : Bool), a = [.ref 0, .int x, .int y, .int (zb z)] ∧ ((¬ okI x (sReqs (gT h)) ∧ k = 2) ∨ (okI x (sReqs (gT h)) ∧ ¬ okI y 10 ∧ k = 0) ∨ (okI x (sReqs (gT h)) ∧ okI y 10 ∧ ¬ qS (gT h).2.2.2.1 (tn x) = 0 ∧ k = 1))
def tX5_vote : List Value → ZH → (Option Value → ZH → Prop) → Prop := fun a h Kn => zSh h ∧ ∃ (x y : Int32) (z : Bool), a = [.ref 0, .int x, .int y, .int (zb z)] ∧ Kn (some (.int (qS (fVot (gT h) (tn x) (tn y) z).2.2.2.1 (tn x)))) (pT (fVot (gT h) (tn x) (tn y) z) h)
def eX5_standing : List Value → ZH → Nat → Prop := fun a h k => zSh h ∧ ∃ x, a = [.ref 0, .int x] ∧ (k = 2 ∧ ¬ okI x (sReqs (gT h)))
def tX5_standing : List Value → ZH → (Option Value → ZH → Prop) → Prop := fun a h Kn => zSh h ∧ ∃ x, a = [.ref 0, .int x] ∧ Kn (some (.int (qS (gT h).2.2.2.1 (tn x)))) h
def eX5_couldPass : List Value → ZH → Nat → Prop := fun a h k => zSh h ∧ ∃ x, a = [.ref 0, .int x] ∧ (k = 2 ∧ ¬ okI x (sReqs (gT h)))
def tX5_couldPass : List Value → ZH → (Option Value → ZH → Prop) → Prop := fun a h Kn => zSh h ∧ ∃ x, a = [.ref 0, .int x] ∧ Kn (some (.int (zb (fOa (gT h) (tn x))))) h
def eX5_alias : List Value → ZH → Nat → Prop := fun a h k => zSh h ∧ ∃ x, a = [.ref 0, .int x] ∧ (k = 2 ∧ ¬ okI x (sTags (gT h)))
def tX5_alias : List Value → ZH → (Option Value → ZH → Prop) → Prop := fun a h Kn => zSh h ∧ ∃ x, a = [.ref 0, .int x] ∧ Kn (some (.int ((gT h).2.1.1 (tn x)))) h
def eX5_end : List Value → ZH → Nat → Prop := fun a h k => zSh h ∧ ∃ x, a = [.ref 0, .int x] ∧ (k = 2 ∧ ¬ okI x (sTags (gT h)))
def tX5_end : List Value → ZH → (Option Value → ZH → Prop) → Prop := fun a h Kn => zSh h ∧ ∃ x, a = [.ref 0, .int x] ∧ Kn (some (.int (nI (fE (gT h).2.1.1 (tn (sTags (gT h))) (tn (sTags (gT h))) (tn x))))) h
def eX5_implies : List Value → ZH → Nat → Prop := fun a h k => zSh h ∧ ∃ x y, a = [.ref 0, .int x, .int y] ∧ (k = 2 ∧ (¬ okI x (sTags (gT h)) ∨ ¬ okI y (sTags (gT h))))
def tX5_implies : List Value → ZH → (Option Value → ZH → Prop) → Prop := fun a h Kn => zSh h ∧ ∃ x y, a = [.ref 0, .int x, .int y] ∧ Kn (some (.int (zb (bt ((gT h).2.1.2.1 (tn x)) (tn y))))) h
def eX5_shown : List Value → ZH → Nat → Prop := fun a h k => zSh h ∧ ∃ x, a = [.ref 0, .int x] ∧ (k = 2 ∧ ¬ okI x (sThings (gT h)))
def tX5_shown : List Value → ZH → (Option Value → ZH → Prop) → Prop := fun a h Kn => zSh h ∧ ∃ x, a = [.ref 0, .int x] ∧ Kn (some (.int (fCol (gT h).2.2.2.2.2 (tn x) (tn (sTags (gT h)))))) h
def eX5_shownByHand : List Value → ZH → Nat → Prop := fun a h k => zSh h ∧ ∃ x, a = [.ref 0, .int x] ∧ (k = 2 ∧ ¬ okI x (sThings (gT h)))
def tX5_shownByHand : List Value → ZH → (Option Value → ZH → Prop) → Prop := fun a h Kn => zSh h ∧ ∃ x, a = [.ref 0, .int x] ∧ Kn (some (.int (fSp (gT h).2.1.2.2.1 (tn (sTags (gT h))) (tn (sTags (gT h))) (fEnds (gT h).2.1.1 (tn (sTags (gT h))) (sHand (gT h) (tn x)) (tn (sTags (gT h))))))) h
def eX5_users : List Value → ZH → Nat → Prop := fun a h k => zSh h ∧ ∃ x, a = [.ref 0, .int x] ∧ (k = 2 ∧ ¬ okI x (sTags (gT h)))
def tX5_users : List Value → ZH → (Option Value → ZH → Prop) → Prop := fun a h Kn => zSh h ∧ ∃ x, a = [.ref 0, .int x] ∧ Kn (some (.int (fBc ((gT h).2.2.2.2.2 (tn x))))) h
def eX5_reason : List Value → ZH → Nat → Prop := fun a h k => zSh h ∧ ∃ x y, a = [.ref 0, .int x, .int y] ∧ (k = 2 ∧ (¬ okI x (sThings (gT h)) ∨ ¬ okI y (sTags (gT h))))
def tX5_reason : List Value → ZH → (Option Value → ZH → Prop) → Prop := fun a h Kn => zSh h ∧ ∃ x y, a = [.ref 0, .int x, .int y] ∧ Kn (some (.int (fNear (gT h).2.1.1 (gT h).2.1.2.2.1 (tn (sTags (gT h))) (sHand (gT h) (tn x)) (tn (sTags (gT h))) 0 (sh1 (tn y))))) h
def eX5_count : List Value → ZH → Nat → Prop := fun a h k => zSh h ∧ ∃ x y z, a = [.ref 0, .int x, .int y, .int z] ∧ (k = 0 ∧ fTs3 (sTags (gT h)) x y z = false)
def tX5_count : List Value → ZH → (Option Value → ZH → Prop) → Prop := fun a h Kn => zSh h ∧ ∃ x y z, a = [.ref 0, .int x, .int y, .int z] ∧ Kn (some (.int (fBc (fMt (gT h) x y z)))) h
def eX5_match : List Value → ZH → Nat → Prop := fun a h k => zSh h ∧ ∃ p x y z, a = [.ref 0, .int p, .int x, .int y, .int z] ∧ ((p < 0 ∧ k = 2) ∨ (¬ p < 0 ∧ fTs3 (sTags (gT h)) x y z = false ∧ k = 0) ∨ (¬ p < 0 ∧ fTs3 (sTags (gT h)) x y z = true ∧ fMem (fMt (gT h) x y z) p 20 0 0 = -1 ∧ k = 2))
def tX5_match : List Value → ZH → (Option Value → ZH → Prop) → Prop := fun a h Kn => zSh h ∧ ∃ p x y z, a = [.ref 0, .int p, .int x, .int y, .int z] ∧ Kn (some (.int (fMem (fMt (gT h) x y z) p 20 0 0))) h
/-- how many of the requests from i on clash with r; the trial object holds whatever -/
def fClP (σ : zTS) (r i : Nat) : Bool := decide (i ≠ r) && (fOa σ i && (!fAlw (fBeh σ r i) (tn (sTags σ)) σ.2.2.2.1 i || !fAlw (fBeh σ i r) (tn (sTags σ)) σ.2.2.2.1 r))
def fCla (σ : zTS) (r : Nat) : Int32 := if fOa σ r then nI (fb_ct (fClP σ r) (tn (sReqs σ))) else 0
def eX5_clashes : List Value → ZH → Nat → Prop := fun a h k => zSh h ∧ ∃ x, a = [.ref 0, .int x] ∧ (k = 2 ∧ ¬ okI x (sReqs (gT h)))
def tX5_clashes : List Value → ZH → (Option Value → ZH → Prop) → Prop := fun a h Kn => zSh h ∧ ∃ x, a = [.ref 0, .int x] ∧ ∀ τ, Kn (some (.int (fCla (gT h) (tn x)))) (pT (wU (gT h) τ) h)
end
section
/-! ===== what the methods of the model do ===== -/
abbrev mDr (μ : zMS) : Nat → Int32 := μ.2.1
abbrev mDl (μ : zMS) : Int32 := μ.2.2.1
abbrev mTg (μ : zMS) : Int32 := μ.2.2.2.1
abbrev mLe (μ : zMS) : Nat → Int32 := μ.2.2.2.2.1
abbrev mLn (μ : zMS) : Nat → Int32 := μ.2.2.2.2.2.1
abbrev mAl (μ : zMS) : Nat → Int32 := μ.2.2.2.2.2.2.1
abbrev mIm (μ : zMS) : Nat → Int32 := μ.2.2.2.2.2.2.2.1
abbrev mTh (μ : zMS) : Int32 := μ.2.2.2.2.2.2.2.2.1
abbrev mSe (μ : zMS) : Nat → Int32 := μ.2.2.2.2.2.2.2.2.2.1
abbrev mRq (μ : zMS) : Int32 := μ.2.2.2.2.2.2.2.2.2.2.1
abbrev mKi (μ : zMS) : Nat → Int32 := μ.2.2.2.2.2.2.2.2.2.2.2.1
abbrev mSo (μ : zMS) : Nat → Int32 := μ.2.2.2.2.2.2.2.2.2.2.2.2.1
abbrev mTa (μ : zMS) : Nat → Int32 := μ.2.2.2.2.2.2.2.2.2.2.2.2.2.1
abbrev mVf (μ : zMS) : Nat → Int32 := μ.2.2.2.2.2.2.2.2.2.2.2.2.2.2.1
abbrev mVa (μ : zMS) : Nat → Int32 := μ.2.2.2.2.2.2.2.2.2.2.2.2.2.2.2.1
abbrev mSt (μ : zMS) : Nat → Int32 := μ.2.2.2.2.2.2.2.2.2.2.2.2.2.2.2.2.1
abbrev mKp (μ : zMS) : Int32 := μ.2.2.2.2.2.2.2.2.2.2.2.2.2.2.2.2.2.1
abbrev mCh (μ : zMS) : Nat → Int32 := μ.2.2.2.2.2.2.2.2.2.2.2.2.2.2.2.2.2.2.1
abbrev mBe (μ : zMS) : Nat → Int32 := μ.2.2.2.2.2.2.2.2.2.2.2.2.2.2.2.2.2.2.2
/-- one part anew -/
def vThr (μ : zMS) (x : Int32) : zMS := (x, μ.2)
def vDr (μ : zMS) (dr : Nat → Int32) (dl : Int32) : zMS := (μ.1, dr, dl, μ.2.2.2)
def vNew (μ : zMS) (dl tg : Int32) (le ln : Nat → Int32) : zMS := (μ.1, μ.2.1, dl, tg, le, ln, μ.2.2.2.2.2.2)
def vRu (μ : zMS) (al im : Nat → Int32) : zMS := (μ.1, μ.2.1, μ.2.2.1, μ.2.2.2.1, μ.2.2.2.2.1, μ.2.2.2.2.2.1, al, im, μ.2.2.2.2.2.2.2.2)
def vTh (μ : zMS) (x : Int32) : zMS := (μ.1, μ.2.1, μ.2.2.1, μ.2.2.2.1, μ.2.2.2.2.1, μ.2.2.2.2.2.1, mAl μ, mIm μ, x, μ.2.2.2.2.2.2.2.2.2)
def vSe (μ : zMS) (se : Nat → Int32) : zMS := (μ.1, μ.2.1, μ.2.2.1, μ.2.2.2.1, μ.2.2.2.2.1, μ.2.2.2.2.2.1, mAl μ, mIm μ, mTh μ, se, μ.2.2.2.2.2.2.2.2.2.2)
def vRq (μ : zMS) (rq : Int32) (ki so ta : Nat → Int32) : zMS := (μ.1, μ.2.1, μ.2.2.1, μ.2.2.2.1, μ.2.2.2.2.1, μ.2.2.2.2.2.1, mAl μ, mIm μ, mTh μ, mSe μ, rq, ki, so, ta, μ.2.2.2.2.2.2.2.2.2.2.2.2.2.2)
def vVo (μ : zMS) (vf va st : Nat → Int32) : zMS := (μ.1, μ.2.1, μ.2.2.1, μ.2.2.2.1, μ.2.2.2.2.1, μ.2.2.2.2.2.1, mAl μ, mIm μ, mTh μ, mSe μ, mRq μ, mKi μ, mSo μ, mTa μ, vf, va, st, μ.2.2.2.2.2.2.2.2.2.2.2.2.2.2.2.2.2)
def vKp (μ : zMS) (kp : Int32) (ch be : Nat → Int32) : zMS := (μ.1, μ.2.1, μ.2.2.1, μ.2.2.2.1, μ.2.2.2.2.1, μ.2.2.2.2.2.1, mAl μ, mIm μ, mTh μ, mSe μ, mRq μ, mKi μ, mSo μ, mTa μ, mVf μ, mVa μ, mSt μ, kp, ch, be)
/-- aliases that end: each of the first n leads to none or to one of them, and the ways are shorter than n -/
def zAc (al : Nat → Int32) (n : Nat) : Prop := (∀ j, j < n → al j = -1 ∨ ∃ k, k < n ∧ al j = nI k) ∧ ∀ j, j < n → al (fE al n n j) = -1
def mInv (μ : zMS) (n m q k d : Nat) : Prop :=
  mTg μ = nI n ∧ n ≤ 24 ∧ mTh μ = nI m ∧ m ≤ 20 ∧ mRq μ = nI q ∧ q ≤ 40 ∧ mKp μ = nI k ∧ k ≤ 20 ∧ mDl μ = nI d ∧ d ≤ 8 ∧
  (∀ j, isCh (mLe μ j)) ∧ (∀ j, isCh (mDr μ j)) ∧ (∀ t, t < n → ∃ e, e ≤ 8 ∧ mLn μ t = nI e) ∧ zAc (mAl μ) n ∧
  ∀ i, i < q → ∃ t o, mSo μ i = nI t ∧ mTa μ i = nI o ∧ t < n ∧ o < n
/-- the rules: n tags -/
def mRu (μ : zMS) (n : Nat) : Prop := mTg μ = nI n ∧ n ≤ 24 ∧ zAc (mAl μ) n
def fIn (v x y : Int32) : Bool := decide (x ≤ v) && decide (v ≤ y)
def fOn (al im : Nat → Int32) (n : Nat) (x : Int32) : Nat → Int32
  | 0 => 0
  | i + 1 => fOn al im n x i ||| (if bt x (fE al n n i) then fEnds al n (im i) n else 0)
def fIt (al im : Nat → Int32) (n : Nat) (x : Int32) : Nat → Int32
  | 0 => x
  | i + 1 => fIt al im n x i ||| fOn al im n (fIt al im n x i) n
def fClo (al im : Nat → Int32) (n : Nat) (x : Int32) : Int32 := fIt al im n x 33
def fCir (al im : Nat → Int32) (n : Nat) : Bool := (fFind (fun t => decide (al t = -1) && bt (fClo al im n (fOn al im n (sh1 t) n)) t) n n 0).isSome
def fDoA (al : Nat → Int32) (k : Int32) (t o : Nat) : Nat → Int32 := upd al t (if k = 0 then nI o else if k = 2 then -1 else al t)
def fDoI (im : Nat → Int32) (k : Int32) (t o : Nat) : Nat → Int32 := upd im t (if k = 1 then im t ||| sh1 o else if k = 3 then im t &&& (sh1 o ^^^ (-1)) else im t)
def fMay (al im : Nat → Int32) (n : Nat) (k : Int32) (t o : Nat) : Bool :=
  if k = 2 then decide (al t = nI o) else if k = 3 then bt (im t) o
  else if (if k = 0 then !decide (al t = -1) || decide (fE al n n o = t) else bt (im t) o) then false
  else !fCir (fDoA al k t o) (fDoI im k t o) n
def fSho (al im : Nat → Int32) (n : Nat) (x : Int32) : Int32 := fClo al im n (fEnds al n x n)
def fFar (al im : Nat → Int32) (n t : Nat) : Nat → Nat → Int32 → Nat
  | 0, i, _ => i
  | f + 1, i, x => if bt x t then i else fFar al im n t f (i + 1) (x ||| fOn al im n x n)
def tX6_thrown : List Value → ZH → (Option Value → ZH → Prop) → Prop := fun a h Kn => ∃ (μ : zMS) (f : ZH), a = [.ref 29] ∧ h = pM μ f ∧ Kn (some (.int μ.1)) h
def tX6_holds : List Value → ZH → (Option Value → ZH → Prop) → Prop := fun a h Kn => ∃ (μ : zMS) (f : ZH) (x : Int32), a = [.ref 29, .int x] ∧ h = pM μ f ∧ Kn (some (.int (zb (decide (x = 0))))) (pM (vThr μ x) f)
def tX6_in : List Value → ZH → (Option Value → ZH → Prop) → Prop := fun a h Kn => ∃ (v x y : Int32), a = [.int v, .int x, .int y] ∧ Kn (some (.int (zb (fIn v x y)))) h
def tX6_has : List Value → ZH → (Option Value → ZH → Prop) → Prop := fun a h Kn => ∃ (x : Int32) (j : Nat), a = [.int x, .int (nI j)] ∧ j < 32 ∧ Kn (some (.int (zb (bt x j)))) h
def tX6_many : List Value → ZH → (Option Value → ZH → Prop) → Prop := fun a h Kn => ∃ (x : Int32), a = [.int x] ∧ Kn (some (.int (nI (fb_ct (bt x) 32)))) h
def tX6_isTag : List Value → ZH → (Option Value → ZH → Prop) → Prop := fun a h Kn => ∃ (μ : zMS) (f : ZH) (n : Nat) (x : Int32), a = [.ref 29, .int x] ∧ h = pM μ f ∧ mTg μ = nI n ∧ n ≤ 24 ∧ Kn (some (.int (zb (decide (0 ≤ x) && decide (x < nI n))))) h
def tX6_isThing : List Value → ZH → (Option Value → ZH → Prop) → Prop := fun a h Kn => ∃ (μ : zMS) (f : ZH) (n : Nat) (x : Int32), a = [.ref 29, .int x] ∧ h = pM μ f ∧ mTh μ = nI n ∧ n ≤ 20 ∧ Kn (some (.int (zb (decide (0 ≤ x) && decide (x < nI n))))) h
def tX6_isRequest : List Value → ZH → (Option Value → ZH → Prop) → Prop := fun a h Kn => ∃ (μ : zMS) (f : ZH) (n : Nat) (x : Int32), a = [.ref 29, .int x] ∧ h = pM μ f ∧ mRq μ = nI n ∧ n ≤ 40 ∧ Kn (some (.int (zb (decide (0 ≤ x) && decide (x < nI n))))) h
def tX6_plain : List Value → ZH → (Option Value → ZH → Prop) → Prop := fun a h Kn => ∃ x : Int32, a = [.int x] ∧ isCh x ∧ Kn (some (.int (fPl x))) h
def fSi (x : Int32) : Bool := (decide (97 ≤ fPl x) && decide (fPl x ≤ 122)) || decide (fPl x = 95)
def tX6_isSign : List Value → ZH → (Option Value → ZH → Prop) → Prop := fun a h Kn => ∃ x : Int32, a = [.int x] ∧ isCh x ∧ Kn (some (.int (zb (fSi x)))) h
def tX6_isDraft : List Value → ZH → (Option Value → ZH → Prop) → Prop := fun a h Kn => ∃ (μ : zMS) (f : ZH) (t d : Nat), a = [.ref 29, .int (nI t)] ∧ h = pM μ f ∧ t < 24 ∧ (∀ j, isCh (mLe μ j)) ∧ (∀ j, isCh (mDr μ j)) ∧ mDl μ = nI d ∧ d ≤ 8 ∧ Kn (some (.int (zb (fIsD (mLe μ) (mLn μ) (mDr μ) d t)))) h
def tX6_endOf : List Value → ZH → (Option Value → ZH → Prop) → Prop := fun a h Kn => ∃ (μ : zMS) (f : ZH) (n t : Nat), a = [.ref 29, .int (nI t)] ∧ h = pM μ f ∧ mRu μ n ∧ t < n ∧ Kn (some (.int (nI (fE (mAl μ) n n t)))) h
def tX6_endsOf : List Value → ZH → (Option Value → ZH → Prop) → Prop := fun a h Kn => ∃ (μ : zMS) (f : ZH) (n : Nat) (x : Int32), a = [.ref 29, .int x] ∧ h = pM μ f ∧ mRu μ n ∧ Kn (some (.int (fEnds (mAl μ) n x n))) h
def tX6_onward : List Value → ZH → (Option Value → ZH → Prop) → Prop := fun a h Kn => ∃ (μ : zMS) (f : ZH) (n : Nat) (x : Int32), a = [.ref 29, .int x] ∧ h = pM μ f ∧ mRu μ n ∧ Kn (some (.int (fOn (mAl μ) (mIm μ) n x n))) h
def tX6_closed : List Value → ZH → (Option Value → ZH → Prop) → Prop := fun a h Kn => ∃ (μ : zMS) (f : ZH) (n : Nat) (x : Int32), a = [.ref 29, .int x] ∧ h = pM μ f ∧ mRu μ n ∧ Kn (some (.int (fClo (mAl μ) (mIm μ) n x))) h
def tX6_hasCircle : List Value → ZH → (Option Value → ZH → Prop) → Prop := fun a h Kn => ∃ (μ : zMS) (f : ZH) (n : Nat), a = [.ref 29] ∧ h = pM μ f ∧ mRu μ n ∧ Kn (some (.int (zb (fCir (mAl μ) (mIm μ) n)))) h
def tX6_does : List Value → ZH → (Option Value → ZH → Prop) → Prop := fun a h Kn => ∃ (μ : zMS) (f : ZH) (t o : Nat) (k : Int32), a = [.ref 29, .int k, .int (nI t), .int (nI o)] ∧ h = pM μ f ∧ t < 24 ∧ o < 24 ∧ Kn none (pM (vRu μ (fDoA (mAl μ) k t o) (fDoI (mIm μ) k t o)) f)
def tX6_may : List Value → ZH → (Option Value → ZH → Prop) → Prop := fun a h Kn => ∃ (μ : zMS) (f : ZH) (n t o : Nat) (k : Int32), a = [.ref 29, .int k, .int (nI t), .int (nI o)] ∧ h = pM μ f ∧ mRu μ n ∧ t < n ∧ o < n ∧ okI k 4 ∧ ¬ t = o ∧ Kn (some (.int (zb (fMay (mAl μ) (mIm μ) n k t o)))) h
def tX6_shownOf : List Value → ZH → (Option Value → ZH → Prop) → Prop := fun a h Kn => ∃ (μ : zMS) (f : ZH) (n i : Nat), a = [.ref 29, .int (nI i)] ∧ h = pM μ f ∧ mRu μ n ∧ i < 20 ∧ Kn (some (.int (fSho (mAl μ) (mIm μ) n (mSe μ i)))) h
def tX6_far : List Value → ZH → (Option Value → ZH → Prop) → Prop := fun a h Kn => ∃ (μ : zMS) (f : ZH) (n s t : Nat), a = [.ref 29, .int (nI s), .int (nI t)] ∧ h = pM μ f ∧ mRu μ n ∧ s < n ∧ t < n ∧ Kn (some (.int (nI (fFar (mAl μ) (mIm μ) n t 25 0 (sh1 s))))) h
end
section
/-! ===== what the public methods of the model do: answer and state ===== -/
abbrev zP := Int32 × zMS
def fOk (x n : Int32) : Bool := decide (0 ≤ x) && decide (x < n)
/-- a call that throws at place p, or goes on -/
def gH (μ : zMS) (p : Int32) (r : zMS → zP) : zP := if p = 0 then r (vThr μ 0) else (0, vThr μ p)
def gIs (b : Bool) : Int32 := if b then 0 else 1
def mInw (μ : zMS) (n m q k d : Nat) : Prop := mInv μ n m q k d ∧ ∀ i, i < q → okI (mKi μ i) 4 ∧ ¬ mSo μ i = mTa μ i
def gType (μ : zMS) (x : Int32) : zP := gH μ (if fSi x then (if mDl μ = 8 then 2 else 0) else 1) (fun μ => (mDl μ + 1, vDr μ (upd (mDr μ) (tn (mDl μ)) x) (mDl μ + 1)))
def gFd (μ : zMS) (d : Nat) : Nat → Int32
  | 0 => -1
  | t + 1 => if fIsD (mLe μ) (mLn μ) (mDr μ) d t then nI t else gFd μ d t
def gEnL (μ : zMS) : Nat → Nat → Int32 := fun d j => if tn (mTg μ) * 8 ≤ j ∧ j < tn (mTg μ) * 8 + d then mDr μ (j - tn (mTg μ) * 8) else mLe μ j
def gEnter (μ : zMS) : zP := gH μ (if mDl μ = 0 then 1 else if gFd μ (tn (mDl μ)) (tn (mTg μ)) = -1 then (if mTg μ = 24 then 1 else 0) else 0) (fun μ =>
  if gFd μ (tn (mDl μ)) (tn (mTg μ)) = -1 then (mTg μ, vNew μ 0 (mTg μ + 1) (gEnL μ (tn (mDl μ))) (upd (mLn μ) (tn (mTg μ)) (mDl μ))) else (gFd μ (tn (mDl μ)) (tn (mTg μ)), vDr μ (mDr μ) 0))
def gTags (μ : zMS) : zP := (mTg μ, vThr μ 0)
def gLetter (μ : zMS) (x y : Int32) : zP := if fOk x (mTg μ) && fOk y (mLn μ (tn x)) then (mLe μ (8 * tn x + tn y), vThr μ 0) else (32, vThr μ 1)
def gAddThing (μ : zMS) : zP := gH μ (if mTh μ = 20 then 1 else 0) (fun μ => (mTh μ, vTh μ (mTh μ + 1)))
def gThings (μ : zMS) : zP := (mTh μ, vThr μ 0)
def gBeg (μ : zMS) : zMS := if mKp μ = 20 then vKp μ 20 (upd (fun j => if j < 19 then mCh μ (j + 1) else mCh μ j) 19 0) (fun j => if j < 380 then mBe μ (j + 20) else mBe μ j) else vKp μ (mKp μ + 1) (upd (mCh μ) (tn (mKp μ)) 0) (mBe μ)
def gSets (μ : zMS) (i : Nat) (x : Int32) : zMS := vKp (vSe μ (upd (mSe μ) i x)) (mKp μ) (upd (mCh μ) (tn (mKp μ) - 1) (mCh μ (tn (mKp μ) - 1) ||| sh1 i)) (upd (mBe μ) (20 * (tn (mKp μ) - 1) + i) (mSe μ i))
def gS1 (μ : zMS) (i : Nat) (x : Int32) : zP := if mSe μ i = x then (0, μ) else (1, gSets (gBeg μ) i x)
def gThe (μ : zMS) (x y : Int32) : Bool := fOk x (mTh μ) && fOk y (mTg μ)
def gTag (μ : zMS) (x y : Int32) : zP := gH μ (gIs (gThe μ x y)) (fun μ => gS1 μ (tn x) (mSe μ (tn x) ||| sh1 (tn y)))
def gUntag (μ : zMS) (x y : Int32) : zP := gH μ (gIs (gThe μ x y)) (fun μ => gS1 μ (tn x) (mSe μ (tn x) &&& (sh1 (tn y) ^^^ (-1))))
def gEdi (al im : Nat → Int32) (n : Nat) (k : Int32) (t o : Nat) (x : Int32) : Int32 := if k = 2 then (if bt x t then (x &&& (sh1 t ^^^ (-1))) ||| sh1 o else x) else if bt (fSho al im n x) (fE al n n t) then (if k = 0 then x ||| sh1 o else x &&& (sh1 o ^^^ (-1))) else x
def gMs (μ : zMS) (n : Nat) (k : Int32) (t o : Nat) : Nat → Nat × zMS
  | 0 => (0, μ)
  | i + 1 => if gEdi (mAl μ) (mIm μ) n k t o (mSe (gMs μ n k t o i).2 i) = mSe (gMs μ n k t o i).2 i then gMs μ n k t o i
    else ((gMs μ n k t o i).1 + 1, gSets (if (gMs μ n k t o i).1 = 0 then gBeg (gMs μ n k t o i).2 else (gMs μ n k t o i).2) i (gEdi (mAl μ) (mIm μ) n k t o (mSe (gMs μ n k t o i).2 i)))
def gMass (μ : zMS) (k x y : Int32) : zP := gH μ (if fOk x (mTg μ) && fOk y (mTg μ) then (if fOk k 3 then 0 else 2) else 1) (fun μ => (nI (gMs μ (tn (mTg μ)) k (tn x) (tn y) (tn (mTh μ))).1, (gMs μ (tn (mTg μ)) k (tn x) (tn y) (tn (mTh μ))).2))
def gUnS (μ : zMS) (k i : Nat) : Nat → Int32 := fun j => if j < i then (if bt (mCh μ k) j then mBe μ (20 * k + j) else mSe μ j) else mSe μ j
def gUndo (μ : zMS) : zP := gH μ (if mKp μ = 0 then 1 else 0) (fun μ => (nI (fb_ct (bt (mCh μ (tn (mKp μ) - 1))) 32), vKp (vSe μ (gUnS μ (tn (mKp μ) - 1) 20)) (mKp μ - 1) (mCh μ) (mBe μ)))
def gKept (μ : zMS) : zP := (mKp μ, vThr μ 0)
def gHand (μ : zMS) (x : Int32) : zP := gH μ (gIs (fOk x (mTh μ))) (fun μ => (mSe μ (tn x), μ))
def gAsk (μ : zMS) (k x y : Int32) : zP := gH μ (if fOk x (mTg μ) && fOk y (mTg μ) then (if fOk k 4 then (if x = y then 2 else if mRq μ = 40 then 3 else 0) else 2) else 1) (fun μ => (mRq μ, vRq μ (mRq μ + 1) (upd (mKi μ) (tn (mRq μ)) k) (upd (mSo μ) (tn (mRq μ)) x) (upd (mTa μ) (tn (mRq μ)) y)))
def gCo (μ : zMS) (n i : Nat) : Bool := decide (mSt μ i = 0) && fMay (mAl μ) (mIm μ) n (mKi μ i) (tn (mSo μ i)) (tn (mTa μ i))
def gDo (μ : zMS) (i : Nat) : zMS := vRu μ (fDoA (mAl μ) (mKi μ i) (tn (mSo μ i)) (tn (mTa μ i))) (fDoI (mIm μ) (mKi μ i) (tn (mSo μ i)) (tn (mTa μ i)))
def gVoS (μ : zMS) (i v : Nat) (b : Bool) : zMS := vVo μ (upd (mVf μ) i (if b then mVf μ i ||| sh1 v else mVf μ i &&& (sh1 v ^^^ (-1)))) (upd (mVa μ) i (if b then mVa μ i &&& (sh1 v ^^^ (-1)) else mVa μ i ||| sh1 v)) (mSt μ)
def gVoL (μ : zMS) (i : Nat) : Int32 := nI (fb_ct (bt (mVf μ i)) 32) - nI (fb_ct (bt (mVa μ i)) 32)
def vSt (μ : zMS) (i : Nat) (x : Int32) : zMS := vVo μ (mVf μ) (mVa μ) (upd (mSt μ) i x)
def gVoE (μ : zMS) (n i : Nat) : zMS := if 3 ≤ gVoL μ i then (if gCo μ n i then gDo (vSt μ i 1) i else vSt μ i 2) else if gVoL μ i ≤ -3 then vSt μ i 2 else μ
def gVote (μ : zMS) (x y : Int32) (b : Bool) : zP := gH μ (if fOk x (mRq μ) then (if fOk y 10 then (if mSt μ (tn x) = 0 then 0 else 3) else 2) else 1) (fun μ => (mSt (gVoE (gVoS μ (tn x) (tn y) b) (tn (mTg μ)) (tn x)) (tn x), gVoE (gVoS μ (tn x) (tn y) b) (tn (mTg μ)) (tn x)))
def gStanding (μ : zMS) (x : Int32) : zP := gH μ (gIs (fOk x (mRq μ))) (fun μ => (mSt μ (tn x), μ))
def gCouldPass (μ : zMS) (x : Int32) : zP := gH μ (gIs (fOk x (mRq μ))) (fun μ => (zb (gCo μ (tn (mTg μ)) (tn x)), μ))
def gBd (μ : zMS) (n i j : Nat) : Bool := gCo (gDo μ j) n i
def gCl (μ : zMS) (n i : Nat) : Nat → Nat
  | 0 => 0
  | j + 1 => gCl μ n i j + (if decide (j ≠ i) && gCo μ n j && (!gBd μ n i j || !gBd μ n j i) then 1 else 0)
def gClashes (μ : zMS) (x : Int32) : zP := gH μ (gIs (fOk x (mRq μ))) (fun μ => (if gCo μ (tn (mTg μ)) (tn x) then nI (gCl μ (tn (mTg μ)) (tn x) (tn (mRq μ))) else 0, μ))
def gAlias (μ : zMS) (x : Int32) : zP := gH μ (gIs (fOk x (mTg μ))) (fun μ => (mAl μ (tn x), μ))
def gEnd (μ : zMS) (x : Int32) : zP := gH μ (gIs (fOk x (mTg μ))) (fun μ => (nI (fE (mAl μ) (tn (mTg μ)) (tn (mTg μ)) (tn x)), μ))
def gImplies (μ : zMS) (x y : Int32) : zP := gH μ (gIs (fOk x (mTg μ) && fOk y (mTg μ))) (fun μ => (zb (bt (mIm μ (tn x)) (tn y)), μ))
def gSh (μ : zMS) (n i : Nat) : Int32 := fSho (mAl μ) (mIm μ) n (mSe μ i)
def gShown (μ : zMS) (x : Int32) : zP := gH μ (gIs (fOk x (mTh μ))) (fun μ => (gSh μ (tn (mTg μ)) (tn x), μ))
def gUs (μ : zMS) (n t : Nat) : Nat → Nat
  | 0 => 0
  | i + 1 => gUs μ n t i + (if bt (gSh μ n i) t then 1 else 0)
def gUsers (μ : zMS) (x : Int32) : zP := gH μ (gIs (fOk x (mTg μ))) (fun μ => (nI (gUs μ (tn (mTg μ)) (tn x) (tn (mTh μ))), μ))
def gRe (μ : zMS) (n i t : Nat) : Nat → Int32
  | 0 => -1
  | j + 1 => if bt (mSe μ i) j && (decide (fFar (mAl μ) (mIm μ) n t 25 0 (sh1 (fE (mAl μ) n n j)) ≤ 24) && (decide (gRe μ n i t j = -1) || decide (nI (fFar (mAl μ) (mIm μ) n t 25 0 (sh1 (fE (mAl μ) n n j))) < gRe μ n i t j / 100))) then nI (100 * fFar (mAl μ) (mIm μ) n t 25 0 (sh1 (fE (mAl μ) n n j)) + j) else gRe μ n i t j
def gReason (μ : zMS) (x y : Int32) : zP := gH μ (gIs (gThe μ x y)) (fun μ => (if bt (gSh μ (tn (mTg μ)) (tn x)) (tn y) then gRe μ (tn (mTg μ)) (tn x) (tn y) (tn (mTg μ)) else -1, μ))
def gSet3 (n : Nat) (x y z : Int32) : Bool := (decide (0 ≤ x) && decide (x < sh1 n)) && ((decide (0 ≤ y) && decide (y < sh1 n)) && (decide (0 ≤ z) && decide (z < sh1 n)))
def gMt (μ : zMS) (n i : Nat) (x y z : Int32) : Bool := decide (fEnds (mAl μ) n x n &&& (gSh μ n i ^^^ (-1)) = 0) && ((decide (y = 0) || !decide (fEnds (mAl μ) n y n &&& gSh μ n i = 0)) && decide (fEnds (mAl μ) n z n &&& gSh μ n i = 0))
def gMm (μ : zMS) (n : Nat) (x y z : Int32) : Nat → Nat
  | 0 => 0
  | i + 1 => gMm μ n x y z i + (if gMt μ n i x y z then 1 else 0)
def gCount (μ : zMS) (x y z : Int32) : zP := gH μ (gIs (gSet3 (tn (mTg μ)) x y z)) (fun μ => (nI (gMm μ (tn (mTg μ)) x y z (tn (mTh μ))), μ))
/-- the first thing from i on that matches and has left = number of the matches below it -/
def gAt (μ : zMS) (n : Nat) (x y z : Int32) (p : Nat) : Nat → Nat → Nat
  | 0, i => i
  | f + 1, i => if gMt μ n i x y z && decide (gMm μ n x y z i = p) then i else gAt μ n x y z p f (i + 1)
def gMatch (μ : zMS) (p x y z : Int32) : zP := gH μ (if p < 0 then 1 else if gSet3 (tn (mTg μ)) x y z then (if p < nI (gMm μ (tn (mTg μ)) x y z (tn (mTh μ))) then 0 else 1) else 2) (fun μ => (nI (gAt μ (tn (mTg μ)) x y z (tn p) (tn (mTh μ)) 0), μ))

def tX6_type : List Value → ZH → (Option Value → ZH → Prop) → Prop := fun a h Kn => ∃ (μ : zMS) (f : ZH) (n m q k d : Nat) (x : Int32), a = [.ref 29, .int x] ∧ h = pM μ f ∧ mInw μ n m q k d ∧ isCh x ∧ Kn (some (.int (gType μ x).1)) (pM (gType μ x).2 f)
def tX6_enter : List Value → ZH → (Option Value → ZH → Prop) → Prop := fun a h Kn => ∃ (μ : zMS) (f : ZH) (n m q k d : Nat), a = [.ref 29] ∧ h = pM μ f ∧ mInw μ n m q k d ∧ Kn (some (.int (gEnter μ).1)) (pM (gEnter μ).2 f)
def tX6_tags : List Value → ZH → (Option Value → ZH → Prop) → Prop := fun a h Kn => ∃ (μ : zMS) (f : ZH) (n m q k d : Nat), a = [.ref 29] ∧ h = pM μ f ∧ mInw μ n m q k d ∧ Kn (some (.int (gTags μ).1)) (pM (gTags μ).2 f)
def tX6_letter : List Value → ZH → (Option Value → ZH → Prop) → Prop := fun a h Kn => ∃ (μ : zMS) (f : ZH) (n m q k d : Nat) (x : Int32) (y : Int32), a = [.ref 29, .int x, .int y] ∧ h = pM μ f ∧ mInw μ n m q k d ∧ Kn (some (.int (gLetter μ x y).1)) (pM (gLetter μ x y).2 f)
def tX6_addThing : List Value → ZH → (Option Value → ZH → Prop) → Prop := fun a h Kn => ∃ (μ : zMS) (f : ZH) (n m q k d : Nat), a = [.ref 29] ∧ h = pM μ f ∧ mInw μ n m q k d ∧ Kn (some (.int (gAddThing μ).1)) (pM (gAddThing μ).2 f)
def tX6_things : List Value → ZH → (Option Value → ZH → Prop) → Prop := fun a h Kn => ∃ (μ : zMS) (f : ZH) (n m q k d : Nat), a = [.ref 29] ∧ h = pM μ f ∧ mInw μ n m q k d ∧ Kn (some (.int (gThings μ).1)) (pM (gThings μ).2 f)
def tX6_begins : List Value → ZH → (Option Value → ZH → Prop) → Prop := fun a h Kn => ∃ (μ : zMS) (f : ZH) (k : Nat), a = [.ref 29] ∧ h = pM μ f ∧ mKp μ = nI k ∧ k ≤ 20 ∧ Kn none (pM (gBeg μ) f)
def tX6_sets : List Value → ZH → (Option Value → ZH → Prop) → Prop := fun a h Kn => ∃ (μ : zMS) (f : ZH) (k i : Nat) (x : Int32), a = [.ref 29, .int (nI i), .int x] ∧ h = pM μ f ∧ mKp μ = nI (k + 1) ∧ k < 20 ∧ i < 20 ∧ Kn none (pM (gSets μ i x) f)
def tX6_setsOne : List Value → ZH → (Option Value → ZH → Prop) → Prop := fun a h Kn => ∃ (μ : zMS) (f : ZH) (k i : Nat) (x : Int32), a = [.ref 29, .int (nI i), .int x] ∧ h = pM μ f ∧ mKp μ = nI k ∧ k ≤ 20 ∧ i < 20 ∧ Kn (some (.int (gS1 μ i x).1)) (pM (gS1 μ i x).2 f)
def tX6_areThere : List Value → ZH → (Option Value → ZH → Prop) → Prop := fun a h Kn => ∃ (μ : zMS) (f : ZH) (n m q k d : Nat) (x y : Int32), a = [.ref 29, .int x, .int y] ∧ h = pM μ f ∧ mInw μ n m q k d ∧ Kn (some (.int (zb (gThe μ x y)))) (pM (vThr μ (gIs (gThe μ x y))) f)
def tX6_tag : List Value → ZH → (Option Value → ZH → Prop) → Prop := fun a h Kn => ∃ (μ : zMS) (f : ZH) (n m q k d : Nat) (x : Int32) (y : Int32), a = [.ref 29, .int x, .int y] ∧ h = pM μ f ∧ mInw μ n m q k d ∧ Kn (some (.int (gTag μ x y).1)) (pM (gTag μ x y).2 f)
def tX6_untag : List Value → ZH → (Option Value → ZH → Prop) → Prop := fun a h Kn => ∃ (μ : zMS) (f : ZH) (n m q k d : Nat) (x : Int32) (y : Int32), a = [.ref 29, .int x, .int y] ∧ h = pM μ f ∧ mInw μ n m q k d ∧ Kn (some (.int (gUntag μ x y).1)) (pM (gUntag μ x y).2 f)
def tX6_edited : List Value → ZH → (Option Value → ZH → Prop) → Prop := fun a h Kn => ∃ (μ : zMS) (f : ZH) (n i t o : Nat) (k : Int32), a = [.ref 29, .int k, .int (nI i), .int (nI t), .int (nI o)] ∧ h = pM μ f ∧ mRu μ n ∧ i < 20 ∧ t < n ∧ o < n ∧ Kn (some (.int (gEdi (mAl μ) (mIm μ) n k t o (mSe μ i)))) h
def tX6_mass : List Value → ZH → (Option Value → ZH → Prop) → Prop := fun a h Kn => ∃ (μ : zMS) (f : ZH) (n m q k d : Nat) (x : Int32) (y : Int32) (z : Int32), a = [.ref 29, .int x, .int y, .int z] ∧ h = pM μ f ∧ mInw μ n m q k d ∧ Kn (some (.int (gMass μ x y z).1)) (pM (gMass μ x y z).2 f)
def tX6_undo : List Value → ZH → (Option Value → ZH → Prop) → Prop := fun a h Kn => ∃ (μ : zMS) (f : ZH) (n m q k d : Nat), a = [.ref 29] ∧ h = pM μ f ∧ mInw μ n m q k d ∧ Kn (some (.int (gUndo μ).1)) (pM (gUndo μ).2 f)
def tX6_kept : List Value → ZH → (Option Value → ZH → Prop) → Prop := fun a h Kn => ∃ (μ : zMS) (f : ZH) (n m q k d : Nat), a = [.ref 29] ∧ h = pM μ f ∧ mInw μ n m q k d ∧ Kn (some (.int (gKept μ).1)) (pM (gKept μ).2 f)
def tX6_hand : List Value → ZH → (Option Value → ZH → Prop) → Prop := fun a h Kn => ∃ (μ : zMS) (f : ZH) (n m q k d : Nat) (x : Int32), a = [.ref 29, .int x] ∧ h = pM μ f ∧ mInw μ n m q k d ∧ Kn (some (.int (gHand μ x).1)) (pM (gHand μ x).2 f)
def tX6_ask : List Value → ZH → (Option Value → ZH → Prop) → Prop := fun a h Kn => ∃ (μ : zMS) (f : ZH) (n m q k d : Nat) (x : Int32) (y : Int32) (z : Int32), a = [.ref 29, .int x, .int y, .int z] ∧ h = pM μ f ∧ mInw μ n m q k d ∧ Kn (some (.int (gAsk μ x y z).1)) (pM (gAsk μ x y z).2 f)
def tX6_could : List Value → ZH → (Option Value → ZH → Prop) → Prop := fun a h Kn => ∃ (μ : zMS) (f : ZH) (n m q k d i : Nat), a = [.ref 29, .int (nI i)] ∧ h = pM μ f ∧ mInw μ n m q k d ∧ i < q ∧ Kn (some (.int (zb (gCo μ n i)))) h
def tX6_vote : List Value → ZH → (Option Value → ZH → Prop) → Prop := fun a h Kn => ∃ (μ : zMS) (f : ZH) (n m q k d : Nat) (x : Int32) (y : Int32) (b : Bool), a = [.ref 29, .int x, .int y, .int (zb b)] ∧ h = pM μ f ∧ mInw μ n m q k d ∧ Kn (some (.int (gVote μ x y b).1)) (pM (gVote μ x y b).2 f)
def tX6_standing : List Value → ZH → (Option Value → ZH → Prop) → Prop := fun a h Kn => ∃ (μ : zMS) (f : ZH) (n m q k d : Nat) (x : Int32), a = [.ref 29, .int x] ∧ h = pM μ f ∧ mInw μ n m q k d ∧ Kn (some (.int (gStanding μ x).1)) (pM (gStanding μ x).2 f)
def tX6_couldPass : List Value → ZH → (Option Value → ZH → Prop) → Prop := fun a h Kn => ∃ (μ : zMS) (f : ZH) (n m q k d : Nat) (x : Int32), a = [.ref 29, .int x] ∧ h = pM μ f ∧ mInw μ n m q k d ∧ Kn (some (.int (gCouldPass μ x).1)) (pM (gCouldPass μ x).2 f)
def tX6_couldBehind : List Value → ZH → (Option Value → ZH → Prop) → Prop := fun a h Kn => ∃ (μ : zMS) (f : ZH) (n m q k d i j : Nat), a = [.ref 29, .int (nI i), .int (nI j)] ∧ h = pM μ f ∧ mInw μ n m q k d ∧ i < q ∧ j < q ∧ gCo μ n j = true ∧ Kn (some (.int (zb (gBd μ n i j)))) h
def tX6_clashes : List Value → ZH → (Option Value → ZH → Prop) → Prop := fun a h Kn => ∃ (μ : zMS) (f : ZH) (n m q k d : Nat) (x : Int32), a = [.ref 29, .int x] ∧ h = pM μ f ∧ mInw μ n m q k d ∧ Kn (some (.int (gClashes μ x).1)) (pM (gClashes μ x).2 f)
def tX6_alias : List Value → ZH → (Option Value → ZH → Prop) → Prop := fun a h Kn => ∃ (μ : zMS) (f : ZH) (n m q k d : Nat) (x : Int32), a = [.ref 29, .int x] ∧ h = pM μ f ∧ mInw μ n m q k d ∧ Kn (some (.int (gAlias μ x).1)) (pM (gAlias μ x).2 f)
def tX6_end : List Value → ZH → (Option Value → ZH → Prop) → Prop := fun a h Kn => ∃ (μ : zMS) (f : ZH) (n m q k d : Nat) (x : Int32), a = [.ref 29, .int x] ∧ h = pM μ f ∧ mInw μ n m q k d ∧ Kn (some (.int (gEnd μ x).1)) (pM (gEnd μ x).2 f)
def tX6_implies : List Value → ZH → (Option Value → ZH → Prop) → Prop := fun a h Kn => ∃ (μ : zMS) (f : ZH) (n m q k d : Nat) (x : Int32) (y : Int32), a = [.ref 29, .int x, .int y] ∧ h = pM μ f ∧ mInw μ n m q k d ∧ Kn (some (.int (gImplies μ x y).1)) (pM (gImplies μ x y).2 f)
def tX6_shown : List Value → ZH → (Option Value → ZH → Prop) → Prop := fun a h Kn => ∃ (μ : zMS) (f : ZH) (n m q k d : Nat) (x : Int32), a = [.ref 29, .int x] ∧ h = pM μ f ∧ mInw μ n m q k d ∧ Kn (some (.int (gShown μ x).1)) (pM (gShown μ x).2 f)
def tX6_shownByHand : List Value → ZH → (Option Value → ZH → Prop) → Prop := fun a h Kn => ∃ (μ : zMS) (f : ZH) (n m q k d : Nat) (x : Int32), a = [.ref 29, .int x] ∧ h = pM μ f ∧ mInw μ n m q k d ∧ Kn (some (.int (gShown μ x).1)) (pM (gShown μ x).2 f)
def tX6_users : List Value → ZH → (Option Value → ZH → Prop) → Prop := fun a h Kn => ∃ (μ : zMS) (f : ZH) (n m q k d : Nat) (x : Int32), a = [.ref 29, .int x] ∧ h = pM μ f ∧ mInw μ n m q k d ∧ Kn (some (.int (gUsers μ x).1)) (pM (gUsers μ x).2 f)
def tX6_reason : List Value → ZH → (Option Value → ZH → Prop) → Prop := fun a h Kn => ∃ (μ : zMS) (f : ZH) (n m q k d : Nat) (x : Int32) (y : Int32), a = [.ref 29, .int x, .int y] ∧ h = pM μ f ∧ mInw μ n m q k d ∧ Kn (some (.int (gReason μ x y).1)) (pM (gReason μ x y).2 f)
def tX6_areSets : List Value → ZH → (Option Value → ZH → Prop) → Prop := fun a h Kn => ∃ (μ : zMS) (f : ZH) (n : Nat) (x y z : Int32), a = [.ref 29, .int x, .int y, .int z] ∧ h = pM μ f ∧ mTg μ = nI n ∧ n ≤ 24 ∧ Kn (some (.int (zb (gSet3 n x y z)))) h
def tX6_isMatch : List Value → ZH → (Option Value → ZH → Prop) → Prop := fun a h Kn => ∃ (μ : zMS) (f : ZH) (n i : Nat) (x y z : Int32), a = [.ref 29, .int (nI i), .int x, .int y, .int z] ∧ h = pM μ f ∧ mRu μ n ∧ i < 20 ∧ Kn (some (.int (zb (gMt μ n i x y z)))) h
def tX6_matches : List Value → ZH → (Option Value → ZH → Prop) → Prop := fun a h Kn => ∃ (μ : zMS) (f : ZH) (n m : Nat) (x y z : Int32), a = [.ref 29, .int x, .int y, .int z] ∧ h = pM μ f ∧ mRu μ n ∧ mTh μ = nI m ∧ m ≤ 20 ∧ Kn (some (.int (nI (gMm μ n x y z m)))) h
def tX6_count : List Value → ZH → (Option Value → ZH → Prop) → Prop := fun a h Kn => ∃ (μ : zMS) (f : ZH) (n m q k d : Nat) (x : Int32) (y : Int32) (z : Int32), a = [.ref 29, .int x, .int y, .int z] ∧ h = pM μ f ∧ mInw μ n m q k d ∧ Kn (some (.int (gCount μ x y z).1)) (pM (gCount μ x y z).2 f)
def tX6_match : List Value → ZH → (Option Value → ZH → Prop) → Prop := fun a h Kn => ∃ (μ : zMS) (f : ZH) (n m q k d : Nat) (p : Int32) (x : Int32) (y : Int32) (z : Int32), a = [.ref 29, .int p, .int x, .int y, .int z] ∧ h = pM μ f ∧ mInw μ n m q k d ∧ Kn (some (.int (gMatch μ p x y z).1)) (pM (gMatch μ p x y z).2 f)
end
