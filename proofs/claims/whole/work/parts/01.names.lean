-- ===== PART A: goes FIRST, ahead of the names: the tables' words, and 'selects' of the private methods out of them =====
/-- a private method of a class that the tables say can be made, by its rows of tables_1 -/
def lw_okq (q : MethodName × Nat) : Prop := (q.1.cls ≠ "java/lang/invoke/MethodHandle" ∧ q.1.cls ≠ "java/lang/invoke/VarHandle") ∧ Cond.instantiable q.1.cls q.2 ∈ tables_1 ∧ Cond.privateMethod q.1 ∈ tables_1 ∧ Cond.instanceMethod q.1 ∈ tables_1
theorem lw_p0 : lw_okq (⟨"LockedInByNext", "refuse", "(I)I"⟩, 11) := ⟨⟨by decide +kernel, by decide +kernel⟩, List.mem_of_getElem? (i := 14) (by decide +kernel), List.mem_of_getElem? (i := 189) (by decide +kernel), List.mem_of_getElem? (i := 190) (by decide +kernel)⟩
theorem lw_p1 : lw_okq (⟨"LockedInByNext$Reader", "allStatementsParse", "()Z"⟩, 6) := ⟨⟨by decide +kernel, by decide +kernel⟩, List.mem_of_getElem? (i := 22) (by decide +kernel), List.mem_of_getElem? (i := 211) (by decide +kernel), List.mem_of_getElem? (i := 212) (by decide +kernel)⟩
theorem lw_p2 : lw_okq (⟨"LockedInByNext$Reader", "parseStatement", "()Z"⟩, 6) := ⟨⟨by decide +kernel, by decide +kernel⟩, List.mem_of_getElem? (i := 22) (by decide +kernel), List.mem_of_getElem? (i := 215) (by decide +kernel), List.mem_of_getElem? (i := 216) (by decide +kernel)⟩
theorem lw_p3 : lw_okq (⟨"LockedInByNext$Reader", "parseKind", "()Z"⟩, 6) := ⟨⟨by decide +kernel, by decide +kernel⟩, List.mem_of_getElem? (i := 22) (by decide +kernel), List.mem_of_getElem? (i := 219) (by decide +kernel), List.mem_of_getElem? (i := 220) (by decide +kernel)⟩
theorem lw_p4 : lw_okq (⟨"LockedInByNext$Reader", "parseSign", "(C)Z"⟩, 6) := ⟨⟨by decide +kernel, by decide +kernel⟩, List.mem_of_getElem? (i := 22) (by decide +kernel), List.mem_of_getElem? (i := 272) (by decide +kernel), List.mem_of_getElem? (i := 273) (by decide +kernel)⟩
theorem lw_p5 : lw_okq (⟨"LockedInByNext$Reader", "keepNumber", "(I)Z"⟩, 6) := ⟨⟨by decide +kernel, by decide +kernel⟩, List.mem_of_getElem? (i := 22) (by decide +kernel), List.mem_of_getElem? (i := 276) (by decide +kernel), List.mem_of_getElem? (i := 277) (by decide +kernel)⟩
theorem lw_p6 : lw_okq (⟨"LockedInByNext$Reader", "parseNumber", "(I)Z"⟩, 6) := ⟨⟨by decide +kernel, by decide +kernel⟩, List.mem_of_getElem? (i := 22) (by decide +kernel), List.mem_of_getElem? (i := 280) (by decide +kernel), List.mem_of_getElem? (i := 281) (by decide +kernel)⟩
theorem lw_p7 : lw_okq (⟨"LockedInByNext$Reader", "tell", "(LLockedInByNext$Town;)Z"⟩, 6) := ⟨⟨by decide +kernel, by decide +kernel⟩, List.mem_of_getElem? (i := 22) (by decide +kernel), List.mem_of_getElem? (i := 284) (by decide +kernel), List.mem_of_getElem? (i := 285) (by decide +kernel)⟩
theorem lw_p8 : lw_okq (⟨"LockedInByNext", "morningOf", "(LLockedInByNext$Town;)V"⟩, 11) := ⟨⟨by decide +kernel, by decide +kernel⟩, List.mem_of_getElem? (i := 14) (by decide +kernel), List.mem_of_getElem? (i := 363) (by decide +kernel), List.mem_of_getElem? (i := 364) (by decide +kernel)⟩
theorem lw_p9 : lw_okq (⟨"LockedInByNext$Morning", "minuteOut", "(IZ)I"⟩, 10) := ⟨⟨by decide +kernel, by decide +kernel⟩, List.mem_of_getElem? (i := 109) (by decide +kernel), List.mem_of_getElem? (i := 395) (by decide +kernel), List.mem_of_getElem? (i := 396) (by decide +kernel)⟩
theorem lw_p10 : lw_okq (⟨"LockedInByNext$Morning", "openDoors", "(I)V"⟩, 10) := ⟨⟨by decide +kernel, by decide +kernel⟩, List.mem_of_getElem? (i := 109) (by decide +kernel), List.mem_of_getElem? (i := 403) (by decide +kernel), List.mem_of_getElem? (i := 404) (by decide +kernel)⟩
theorem lw_p11 : lw_okq (⟨"LockedInByNext", "lastOutOf", "(LLockedInByNext$Town;)I"⟩, 11) := ⟨⟨by decide +kernel, by decide +kernel⟩, List.mem_of_getElem? (i := 14) (by decide +kernel), List.mem_of_getElem? (i := 415) (by decide +kernel), List.mem_of_getElem? (i := 416) (by decide +kernel)⟩
theorem lw_p12 : lw_okq (⟨"LockedInByNext", "fewestWatchers", "()I"⟩, 11) := ⟨⟨by decide +kernel, by decide +kernel⟩, List.mem_of_getElem? (i := 14) (by decide +kernel), List.mem_of_getElem? (i := 435) (by decide +kernel), List.mem_of_getElem? (i := 436) (by decide +kernel)⟩
theorem lw_p13 : lw_okq (⟨"LockedInByNext", "soonestWatchers", "(I)I"⟩, 11) := ⟨⟨by decide +kernel, by decide +kernel⟩, List.mem_of_getElem? (i := 14) (by decide +kernel), List.mem_of_getElem? (i := 449) (by decide +kernel), List.mem_of_getElem? (i := 450) (by decide +kernel)⟩
theorem lw_p14 : lw_okq (⟨"LockedInByNext", "addPair", "(I)Z"⟩, 11) := ⟨⟨by decide +kernel, by decide +kernel⟩, List.mem_of_getElem? (i := 14) (by decide +kernel), List.mem_of_getElem? (i := 457) (by decide +kernel), List.mem_of_getElem? (i := 458) (by decide +kernel)⟩
theorem lw_p15 : lw_okq (⟨"LockedInByNext", "dropPair", "(I)V"⟩, 11) := ⟨⟨by decide +kernel, by decide +kernel⟩, List.mem_of_getElem? (i := 14) (by decide +kernel), List.mem_of_getElem? (i := 467) (by decide +kernel), List.mem_of_getElem? (i := 468) (by decide +kernel)⟩
def lw_privs_1 : List (MethodName × Nat) := [(⟨"LockedInByNext", "refuse", "(I)I"⟩, 11), (⟨"LockedInByNext$Reader", "allStatementsParse", "()Z"⟩, 6), (⟨"LockedInByNext$Reader", "parseStatement", "()Z"⟩, 6), (⟨"LockedInByNext$Reader", "parseKind", "()Z"⟩, 6), (⟨"LockedInByNext$Reader", "parseSign", "(C)Z"⟩, 6), (⟨"LockedInByNext$Reader", "keepNumber", "(I)Z"⟩, 6), (⟨"LockedInByNext$Reader", "parseNumber", "(I)Z"⟩, 6), (⟨"LockedInByNext$Reader", "tell", "(LLockedInByNext$Town;)Z"⟩, 6), (⟨"LockedInByNext", "morningOf", "(LLockedInByNext$Town;)V"⟩, 11), (⟨"LockedInByNext$Morning", "minuteOut", "(IZ)I"⟩, 10), (⟨"LockedInByNext$Morning", "openDoors", "(I)V"⟩, 10), (⟨"LockedInByNext", "lastOutOf", "(LLockedInByNext$Town;)I"⟩, 11), (⟨"LockedInByNext", "fewestWatchers", "()I"⟩, 11), (⟨"LockedInByNext", "soonestWatchers", "(I)I"⟩, 11), (⟨"LockedInByNext", "addPair", "(I)Z"⟩, 11), (⟨"LockedInByNext", "dropPair", "(I)V"⟩, 11)]
theorem lw_r1 : ∀ q ∈ lw_privs_1, lw_okq q := List.forall_mem_cons.mpr ⟨lw_p0, List.forall_mem_cons.mpr ⟨lw_p1, List.forall_mem_cons.mpr ⟨lw_p2, List.forall_mem_cons.mpr ⟨lw_p3, List.forall_mem_cons.mpr ⟨lw_p4, List.forall_mem_cons.mpr ⟨lw_p5, List.forall_mem_cons.mpr ⟨lw_p6, List.forall_mem_cons.mpr ⟨lw_p7, List.forall_mem_cons.mpr ⟨lw_p8, List.forall_mem_cons.mpr ⟨lw_p9, List.forall_mem_cons.mpr ⟨lw_p10, List.forall_mem_cons.mpr ⟨lw_p11, List.forall_mem_cons.mpr ⟨lw_p12, List.forall_mem_cons.mpr ⟨lw_p13, List.forall_mem_cons.mpr ⟨lw_p14, List.forall_mem_cons.mpr ⟨lw_p15, fun _ h => absurd h List.not_mem_nil⟩⟩⟩⟩⟩⟩⟩⟩⟩⟩⟩⟩⟩⟩⟩⟩
theorem lw_p16 : lw_okq (⟨"LockedInByNext", "allOutBy", "(I)Z"⟩, 11) := ⟨⟨by decide +kernel, by decide +kernel⟩, List.mem_of_getElem? (i := 14) (by decide +kernel), List.mem_of_getElem? (i := 475) (by decide +kernel), List.mem_of_getElem? (i := 476) (by decide +kernel)⟩
theorem lw_p17 : lw_okq (⟨"LockedInByNext", "oneMoreHelps", "(II)Z"⟩, 11) := ⟨⟨by decide +kernel, by decide +kernel⟩, List.mem_of_getElem? (i := 14) (by decide +kernel), List.mem_of_getElem? (i := 479) (by decide +kernel), List.mem_of_getElem? (i := 480) (by decide +kernel)⟩
theorem lw_p18 : lw_okq (⟨"LockedInByNext", "twoMoreHelp", "(I)Z"⟩, 11) := ⟨⟨by decide +kernel, by decide +kernel⟩, List.mem_of_getElem? (i := 14) (by decide +kernel), List.mem_of_getElem? (i := 483) (by decide +kernel), List.mem_of_getElem? (i := 484) (by decide +kernel)⟩
theorem lw_p19 : lw_okq (⟨"LockedInByNext$Town", "ringOf", "(I)I"⟩, 12) := ⟨⟨by decide +kernel, by decide +kernel⟩, List.mem_of_getElem? (i := 48) (by decide +kernel), List.mem_of_getElem? (i := 496) (by decide +kernel), List.mem_of_getElem? (i := 497) (by decide +kernel)⟩
theorem lw_p20 : lw_okq (⟨"LockedInByNext$Town", "doorHeldBy", "(I)I"⟩, 12) := ⟨⟨by decide +kernel, by decide +kernel⟩, List.mem_of_getElem? (i := 48) (by decide +kernel), List.mem_of_getElem? (i := 500) (by decide +kernel), List.mem_of_getElem? (i := 501) (by decide +kernel)⟩
theorem lw_p21 : lw_okq (⟨"LockedInByNextModel", "refuse", "(I)I"⟩, 18) := ⟨⟨by decide +kernel, by decide +kernel⟩, List.mem_of_getElem? (i := 580) (by decide +kernel), List.mem_of_getElem? (i := 648) (by decide +kernel), List.mem_of_getElem? (i := 649) (by decide +kernel)⟩
theorem lw_p22 : lw_okq (⟨"LockedInByNextModel", "reads", "()I"⟩, 18) := ⟨⟨by decide +kernel, by decide +kernel⟩, List.mem_of_getElem? (i := 580) (by decide +kernel), List.mem_of_getElem? (i := 656) (by decide +kernel), List.mem_of_getElem? (i := 657) (by decide +kernel)⟩
theorem lw_p23 : lw_okq (⟨"LockedInByNextModel", "readsStatement", "()Z"⟩, 18) := ⟨⟨by decide +kernel, by decide +kernel⟩, List.mem_of_getElem? (i := 580) (by decide +kernel), List.mem_of_getElem? (i := 660) (by decide +kernel), List.mem_of_getElem? (i := 661) (by decide +kernel)⟩
theorem lw_p24 : lw_okq (⟨"LockedInByNextModel", "sign", "()I"⟩, 18) := ⟨⟨by decide +kernel, by decide +kernel⟩, List.mem_of_getElem? (i := 580) (by decide +kernel), List.mem_of_getElem? (i := 664) (by decide +kernel), List.mem_of_getElem? (i := 665) (by decide +kernel)⟩
theorem lw_p25 : lw_okq (⟨"LockedInByNextModel", "readsKind", "()Z"⟩, 18) := ⟨⟨by decide +kernel, by decide +kernel⟩, List.mem_of_getElem? (i := 580) (by decide +kernel), List.mem_of_getElem? (i := 668) (by decide +kernel), List.mem_of_getElem? (i := 669) (by decide +kernel)⟩
theorem lw_p26 : lw_okq (⟨"LockedInByNextModel", "readsNumber", "(II)Z"⟩, 18) := ⟨⟨by decide +kernel, by decide +kernel⟩, List.mem_of_getElem? (i := 580) (by decide +kernel), List.mem_of_getElem? (i := 675) (by decide +kernel), List.mem_of_getElem? (i := 676) (by decide +kernel)⟩
theorem lw_p27 : lw_okq (⟨"LockedInByNextModel", "takes", "(I)Z"⟩, 18) := ⟨⟨by decide +kernel, by decide +kernel⟩, List.mem_of_getElem? (i := 580) (by decide +kernel), List.mem_of_getElem? (i := 682) (by decide +kernel), List.mem_of_getElem? (i := 683) (by decide +kernel)⟩
theorem lw_p28 : lw_okq (⟨"LockedInByNextModel", "comes", "(I)Z"⟩, 18) := ⟨⟨by decide +kernel, by decide +kernel⟩, List.mem_of_getElem? (i := 580) (by decide +kernel), List.mem_of_getElem? (i := 689) (by decide +kernel), List.mem_of_getElem? (i := 690) (by decide +kernel)⟩
theorem lw_p29 : lw_okq (⟨"LockedInByNextModel", "isPerson", "(I)Z"⟩, 18) := ⟨⟨by decide +kernel, by decide +kernel⟩, List.mem_of_getElem? (i := 580) (by decide +kernel), List.mem_of_getElem? (i := 697) (by decide +kernel), List.mem_of_getElem? (i := 698) (by decide +kernel)⟩
theorem lw_p30 : lw_okq (⟨"LockedInByNextModel", "get", "(II)I"⟩, 18) := ⟨⟨by decide +kernel, by decide +kernel⟩, List.mem_of_getElem? (i := 580) (by decide +kernel), List.mem_of_getElem? (i := 701) (by decide +kernel), List.mem_of_getElem? (i := 702) (by decide +kernel)⟩
theorem lw_p31 : lw_okq (⟨"LockedInByNextModel", "upOf", "(I)I"⟩, 18) := ⟨⟨by decide +kernel, by decide +kernel⟩, List.mem_of_getElem? (i := 580) (by decide +kernel), List.mem_of_getElem? (i := 705) (by decide +kernel), List.mem_of_getElem? (i := 706) (by decide +kernel)⟩
def lw_privs_2 : List (MethodName × Nat) := [(⟨"LockedInByNext", "allOutBy", "(I)Z"⟩, 11), (⟨"LockedInByNext", "oneMoreHelps", "(II)Z"⟩, 11), (⟨"LockedInByNext", "twoMoreHelp", "(I)Z"⟩, 11), (⟨"LockedInByNext$Town", "ringOf", "(I)I"⟩, 12), (⟨"LockedInByNext$Town", "doorHeldBy", "(I)I"⟩, 12), (⟨"LockedInByNextModel", "refuse", "(I)I"⟩, 18), (⟨"LockedInByNextModel", "reads", "()I"⟩, 18), (⟨"LockedInByNextModel", "readsStatement", "()Z"⟩, 18), (⟨"LockedInByNextModel", "sign", "()I"⟩, 18), (⟨"LockedInByNextModel", "readsKind", "()Z"⟩, 18), (⟨"LockedInByNextModel", "readsNumber", "(II)Z"⟩, 18), (⟨"LockedInByNextModel", "takes", "(I)Z"⟩, 18), (⟨"LockedInByNextModel", "comes", "(I)Z"⟩, 18), (⟨"LockedInByNextModel", "isPerson", "(I)Z"⟩, 18), (⟨"LockedInByNextModel", "get", "(II)I"⟩, 18), (⟨"LockedInByNextModel", "upOf", "(I)I"⟩, 18)]
theorem lw_r2 : ∀ q ∈ lw_privs_2, lw_okq q := List.forall_mem_cons.mpr ⟨lw_p16, List.forall_mem_cons.mpr ⟨lw_p17, List.forall_mem_cons.mpr ⟨lw_p18, List.forall_mem_cons.mpr ⟨lw_p19, List.forall_mem_cons.mpr ⟨lw_p20, List.forall_mem_cons.mpr ⟨lw_p21, List.forall_mem_cons.mpr ⟨lw_p22, List.forall_mem_cons.mpr ⟨lw_p23, List.forall_mem_cons.mpr ⟨lw_p24, List.forall_mem_cons.mpr ⟨lw_p25, List.forall_mem_cons.mpr ⟨lw_p26, List.forall_mem_cons.mpr ⟨lw_p27, List.forall_mem_cons.mpr ⟨lw_p28, List.forall_mem_cons.mpr ⟨lw_p29, List.forall_mem_cons.mpr ⟨lw_p30, List.forall_mem_cons.mpr ⟨lw_p31, fun _ h => absurd h List.not_mem_nil⟩⟩⟩⟩⟩⟩⟩⟩⟩⟩⟩⟩⟩⟩⟩⟩
theorem lw_p32 : lw_okq (⟨"LockedInByNextModel", "needsOf", "(I)I"⟩, 18) := ⟨⟨by decide +kernel, by decide +kernel⟩, List.mem_of_getElem? (i := 580) (by decide +kernel), List.mem_of_getElem? (i := 709) (by decide +kernel), List.mem_of_getElem? (i := 710) (by decide +kernel)⟩
theorem lw_p33 : lw_okq (⟨"LockedInByNextModel", "isKey", "(I)Z"⟩, 18) := ⟨⟨by decide +kernel, by decide +kernel⟩, List.mem_of_getElem? (i := 580) (by decide +kernel), List.mem_of_getElem? (i := 717) (by decide +kernel), List.mem_of_getElem? (i := 718) (by decide +kernel)⟩
theorem lw_p34 : lw_okq (⟨"LockedInByNextModel", "held", "(I)I"⟩, 18) := ⟨⟨by decide +kernel, by decide +kernel⟩, List.mem_of_getElem? (i := 580) (by decide +kernel), List.mem_of_getElem? (i := 725) (by decide +kernel), List.mem_of_getElem? (i := 726) (by decide +kernel)⟩
theorem lw_p35 : lw_okq (⟨"LockedInByNextModel", "addsKey", "(II)V"⟩, 18) := ⟨⟨by decide +kernel, by decide +kernel⟩, List.mem_of_getElem? (i := 580) (by decide +kernel), List.mem_of_getElem? (i := 733) (by decide +kernel), List.mem_of_getElem? (i := 734) (by decide +kernel)⟩
theorem lw_p36 : lw_okq (⟨"LockedInByNextModel", "takesAway", "(I)V"⟩, 18) := ⟨⟨by decide +kernel, by decide +kernel⟩, List.mem_of_getElem? (i := 580) (by decide +kernel), List.mem_of_getElem? (i := 741) (by decide +kernel), List.mem_of_getElem? (i := 742) (by decide +kernel)⟩
theorem lw_p37 : lw_okq (⟨"LockedInByNextModel", "everybody", "()I"⟩, 18) := ⟨⟨by decide +kernel, by decide +kernel⟩, List.mem_of_getElem? (i := 580) (by decide +kernel), List.mem_of_getElem? (i := 749) (by decide +kernel), List.mem_of_getElem? (i := 750) (by decide +kernel)⟩
theorem lw_p38 : lw_okq (⟨"LockedInByNextModel", "finds", "()V"⟩, 18) := ⟨⟨by decide +kernel, by decide +kernel⟩, List.mem_of_getElem? (i := 580) (by decide +kernel), List.mem_of_getElem? (i := 765) (by decide +kernel), List.mem_of_getElem? (i := 766) (by decide +kernel)⟩
theorem lw_p39 : lw_okq (⟨"LockedInByNextModel", "firstOut", "(I)I"⟩, 18) := ⟨⟨by decide +kernel, by decide +kernel⟩, List.mem_of_getElem? (i := 580) (by decide +kernel), List.mem_of_getElem? (i := 770) (by decide +kernel), List.mem_of_getElem? (i := 771) (by decide +kernel)⟩
theorem lw_p40 : lw_okq (⟨"LockedInByNextModel", "outBy", "(I)I"⟩, 18) := ⟨⟨by decide +kernel, by decide +kernel⟩, List.mem_of_getElem? (i := 580) (by decide +kernel), List.mem_of_getElem? (i := 774) (by decide +kernel), List.mem_of_getElem? (i := 775) (by decide +kernel)⟩
theorem lw_p41 : lw_okq (⟨"LockedInByNextModel", "goesRound", "(I)V"⟩, 18) := ⟨⟨by decide +kernel, by decide +kernel⟩, List.mem_of_getElem? (i := 580) (by decide +kernel), List.mem_of_getElem? (i := 778) (by decide +kernel), List.mem_of_getElem? (i := 779) (by decide +kernel)⟩
theorem lw_p42 : lw_okq (⟨"LockedInByNextModel", "holds", "(II)Z"⟩, 18) := ⟨⟨by decide +kernel, by decide +kernel⟩, List.mem_of_getElem? (i := 580) (by decide +kernel), List.mem_of_getElem? (i := 782) (by decide +kernel), List.mem_of_getElem? (i := 783) (by decide +kernel)⟩
theorem lw_p43 : lw_okq (⟨"LockedInByNextModel", "door", "(I)I"⟩, 18) := ⟨⟨by decide +kernel, by decide +kernel⟩, List.mem_of_getElem? (i := 580) (by decide +kernel), List.mem_of_getElem? (i := 786) (by decide +kernel), List.mem_of_getElem? (i := 787) (by decide +kernel)⟩
theorem lw_p44 : lw_okq (⟨"LockedInByNextModel", "wayOf", "(II)I"⟩, 18) := ⟨⟨by decide +kernel, by decide +kernel⟩, List.mem_of_getElem? (i := 580) (by decide +kernel), List.mem_of_getElem? (i := 790) (by decide +kernel), List.mem_of_getElem? (i := 791) (by decide +kernel)⟩
theorem lw_p45 : lw_okq (⟨"LockedInByNextModel", "allOut", "()I"⟩, 18) := ⟨⟨by decide +kernel, by decide +kernel⟩, List.mem_of_getElem? (i := 580) (by decide +kernel), List.mem_of_getElem? (i := 801) (by decide +kernel), List.mem_of_getElem? (i := 802) (by decide +kernel)⟩
theorem lw_p46 : lw_okq (⟨"LockedInByNextModel", "opensAt", "(II)I"⟩, 18) := ⟨⟨by decide +kernel, by decide +kernel⟩, List.mem_of_getElem? (i := 580) (by decide +kernel), List.mem_of_getElem? (i := 813) (by decide +kernel), List.mem_of_getElem? (i := 814) (by decide +kernel)⟩
theorem lw_p47 : lw_okq (⟨"LockedInByNextModel", "fewestNow", "()I"⟩, 18) := ⟨⟨by decide +kernel, by decide +kernel⟩, List.mem_of_getElem? (i := 580) (by decide +kernel), List.mem_of_getElem? (i := 821) (by decide +kernel), List.mem_of_getElem? (i := 822) (by decide +kernel)⟩
def lw_privs_3 : List (MethodName × Nat) := [(⟨"LockedInByNextModel", "needsOf", "(I)I"⟩, 18), (⟨"LockedInByNextModel", "isKey", "(I)Z"⟩, 18), (⟨"LockedInByNextModel", "held", "(I)I"⟩, 18), (⟨"LockedInByNextModel", "addsKey", "(II)V"⟩, 18), (⟨"LockedInByNextModel", "takesAway", "(I)V"⟩, 18), (⟨"LockedInByNextModel", "everybody", "()I"⟩, 18), (⟨"LockedInByNextModel", "finds", "()V"⟩, 18), (⟨"LockedInByNextModel", "firstOut", "(I)I"⟩, 18), (⟨"LockedInByNextModel", "outBy", "(I)I"⟩, 18), (⟨"LockedInByNextModel", "goesRound", "(I)V"⟩, 18), (⟨"LockedInByNextModel", "holds", "(II)Z"⟩, 18), (⟨"LockedInByNextModel", "door", "(I)I"⟩, 18), (⟨"LockedInByNextModel", "wayOf", "(II)I"⟩, 18), (⟨"LockedInByNextModel", "allOut", "()I"⟩, 18), (⟨"LockedInByNextModel", "opensAt", "(II)I"⟩, 18), (⟨"LockedInByNextModel", "fewestNow", "()I"⟩, 18)]
theorem lw_r3 : ∀ q ∈ lw_privs_3, lw_okq q := List.forall_mem_cons.mpr ⟨lw_p32, List.forall_mem_cons.mpr ⟨lw_p33, List.forall_mem_cons.mpr ⟨lw_p34, List.forall_mem_cons.mpr ⟨lw_p35, List.forall_mem_cons.mpr ⟨lw_p36, List.forall_mem_cons.mpr ⟨lw_p37, List.forall_mem_cons.mpr ⟨lw_p38, List.forall_mem_cons.mpr ⟨lw_p39, List.forall_mem_cons.mpr ⟨lw_p40, List.forall_mem_cons.mpr ⟨lw_p41, List.forall_mem_cons.mpr ⟨lw_p42, List.forall_mem_cons.mpr ⟨lw_p43, List.forall_mem_cons.mpr ⟨lw_p44, List.forall_mem_cons.mpr ⟨lw_p45, List.forall_mem_cons.mpr ⟨lw_p46, List.forall_mem_cons.mpr ⟨lw_p47, fun _ h => absurd h List.not_mem_nil⟩⟩⟩⟩⟩⟩⟩⟩⟩⟩⟩⟩⟩⟩⟩⟩
theorem lw_p48 : lw_okq (⟨"LockedInByNextModel", "leastWithCopy", "(I)I"⟩, 18) := ⟨⟨by decide +kernel, by decide +kernel⟩, List.mem_of_getElem? (i := 580) (by decide +kernel), List.mem_of_getElem? (i := 836) (by decide +kernel), List.mem_of_getElem? (i := 837) (by decide +kernel)⟩
theorem lw_p49 : lw_okq (⟨"LockedInByNextModel", "isByTwo", "(I)Z"⟩, 18) := ⟨⟨by decide +kernel, by decide +kernel⟩, List.mem_of_getElem? (i := 580) (by decide +kernel), List.mem_of_getElem? (i := 845) (by decide +kernel), List.mem_of_getElem? (i := 846) (by decide +kernel)⟩
theorem lw_p50 : lw_okq (⟨"LockedInByNextModel", "ringsNow", "()I"⟩, 18) := ⟨⟨by decide +kernel, by decide +kernel⟩, List.mem_of_getElem? (i := 580) (by decide +kernel), List.mem_of_getElem? (i := 853) (by decide +kernel), List.mem_of_getElem? (i := 854) (by decide +kernel)⟩
theorem lw_p51 : lw_okq (⟨"LockedInByNextModel", "heldBy", "(I)I"⟩, 18) := ⟨⟨by decide +kernel, by decide +kernel⟩, List.mem_of_getElem? (i := 580) (by decide +kernel), List.mem_of_getElem? (i := 857) (by decide +kernel), List.mem_of_getElem? (i := 858) (by decide +kernel)⟩
theorem lw_p52 : lw_okq (⟨"LockedInByNextModel", "changes", "(II)V"⟩, 18) := ⟨⟨by decide +kernel, by decide +kernel⟩, List.mem_of_getElem? (i := 580) (by decide +kernel), List.mem_of_getElem? (i := 865) (by decide +kernel), List.mem_of_getElem? (i := 866) (by decide +kernel)⟩
theorem lw_p53 : lw_okq (⟨"LockedInByNextModel", "neverOut", "()I"⟩, 18) := ⟨⟨by decide +kernel, by decide +kernel⟩, List.mem_of_getElem? (i := 580) (by decide +kernel), List.mem_of_getElem? (i := 873) (by decide +kernel), List.mem_of_getElem? (i := 874) (by decide +kernel)⟩
theorem lw_p54 : lw_okq (⟨"LockedInByNextModel", "costOf", "(I)I"⟩, 18) := ⟨⟨by decide +kernel, by decide +kernel⟩, List.mem_of_getElem? (i := 580) (by decide +kernel), List.mem_of_getElem? (i := 881) (by decide +kernel), List.mem_of_getElem? (i := 882) (by decide +kernel)⟩
def lw_privs_4 : List (MethodName × Nat) := [(⟨"LockedInByNextModel", "leastWithCopy", "(I)I"⟩, 18), (⟨"LockedInByNextModel", "isByTwo", "(I)Z"⟩, 18), (⟨"LockedInByNextModel", "ringsNow", "()I"⟩, 18), (⟨"LockedInByNextModel", "heldBy", "(I)I"⟩, 18), (⟨"LockedInByNextModel", "changes", "(II)V"⟩, 18), (⟨"LockedInByNextModel", "neverOut", "()I"⟩, 18), (⟨"LockedInByNextModel", "costOf", "(I)I"⟩, 18)]
theorem lw_r4 : ∀ q ∈ lw_privs_4, lw_okq q := List.forall_mem_cons.mpr ⟨lw_p48, List.forall_mem_cons.mpr ⟨lw_p49, List.forall_mem_cons.mpr ⟨lw_p50, List.forall_mem_cons.mpr ⟨lw_p51, List.forall_mem_cons.mpr ⟨lw_p52, List.forall_mem_cons.mpr ⟨lw_p53, List.forall_mem_cons.mpr ⟨lw_p54, fun _ h => absurd h List.not_mem_nil⟩⟩⟩⟩⟩⟩⟩
def lw_privs : List (MethodName × Nat) := lw_privs_1 ++ (lw_privs_2 ++ (lw_privs_3 ++ (lw_privs_4)))
def lw_tbl : List Cond := k2_sels lw_privs ++ tables_1
theorem lw_privs_ok : ∀ q ∈ lw_privs, lw_okq q := by
  show ∀ q ∈ lw_privs_1 ++ (lw_privs_2 ++ (lw_privs_3 ++ (lw_privs_4))), lw_okq q
  exact List.forall_mem_append.mpr ⟨lw_r1, List.forall_mem_append.mpr ⟨lw_r2, List.forall_mem_append.mpr ⟨lw_r3, lw_r4⟩⟩⟩
/-! ===== BEGIN words of one list among another's, by their places ===== -/
theorem goodIn_r {big : List Cond} (ws : List Cond) (ps : List Nat) (hp : ws = ps.filterMap (fun i => big[i]?)) (h : ws.all goodWord = true) : GoodIn big ws := by
  intro w hw
  have h1 := List.all_eq_true.mp h w hw
  rw [hp] at hw
  obtain ⟨i, -, hi⟩ := List.mem_filterMap.mp hw
  have hm : w ∈ big := by first | exact List.mem_of_getElem? hi | exact List.getElem?_mem hi
  exact ⟨hm, good_of_word h1⟩
theorem goodIn_app {big a b : List Cond} (ha : GoodIn big a) (hb : GoodIn big b) : GoodIn big (a ++ b) := fun w h => (List.mem_append.mp h).elim (ha w) (hb w)
theorem goodIn_ca {big a b : List Cond} {c : Cond} (ha : GoodIn big (c :: a)) (hb : GoodIn big b) : GoodIn big (c :: (a ++ b)) := fun w h => (List.mem_cons.mp h).elim (fun e => ha w (List.mem_cons.mpr (Or.inl e))) (fun h => (List.mem_append.mp h).elim (fun h => ha w (List.mem_cons.mpr (Or.inr h))) (hb w))
theorem goodIn_sub {big ws : List Cond} (hm : ∀ w ∈ ws, w ∈ big) (h : ws.all goodWord = true) : GoodIn big ws := fun w hw => ⟨hm w hw, good_of_word (List.all_eq_true.mp h w hw)⟩
/-! ===== END ===== -/
def RX0 : String := "LockedInByNext$Morning"
def TX0 : u_T := fun k => match k with
  | 0 => ("LockedInByNext$Morning", "people", "I", false)
  | 1 => ("LockedInByNext$Morning", "ways", "[[I", true)
  | 2 => ("LockedInByNext$Morning", "up", "[I", true)
  | 3 => ("LockedInByNext$Morning", "need", "[I", true)
  | 4 => ("LockedInByNext$Morning", "window", "[I", true)
  | 5 => ("LockedInByNext$Morning", "pace", "[I", true)
  | 6 => ("LockedInByNext$Morning", "doors", "[I", true)
  | 7 => ("LockedInByNext$Morning", "outs", "[I", true)
  | 8 => ("LockedInByNext$Morning", "opened", "[I", true)
  | _ => ("LockedInByNext$Morning", "opener", "[I", true)
def tyX0 : Nat → FieldType := fun k => match k with
  | 0 => .int
  | 1 => .array (.array .int)
  | 2 => .array .int
  | 3 => .array .int
  | 4 => .array .int
  | 5 => .array .int
  | 6 => .array .int
  | 7 => .array .int
  | 8 => .array .int
  | _ => .array .int
abbrev wsX00 : List Cond := u_ws RX0 TX0 10
theorem nmX0 : ∀ a, a < 10 → ∀ b, b < 10 → a ≠ b → (TX0 a).2.1 ≠ (TX0 b).2.1 := by decide +kernel
theorem tyX0_ok : ∀ k, k < 10 → parseFieldDescriptor (TX0 k).2.2.1 = some (tyX0 k) := by decide +kernel
abbrev cX0_init : ByteArray := prog_2_method_1_code
def yX0_init : MethodName := ⟨RX0, "<init>", "()V"⟩
abbrev cX0_prepare : ByteArray := prog_2_method_2_code
def yX0_prepare : MethodName := ⟨RX0, "prepare", "(LLockedInByNext$Town;)V"⟩
abbrev cX0_pass : ByteArray := prog_2_method_3_code
def yX0_pass : MethodName := ⟨RX0, "pass", "(IIZ)V"⟩
abbrev cX0_minuteOut : ByteArray := prog_2_method_4_code
def yX0_minuteOut : MethodName := ⟨RX0, "minuteOut", "(IZ)I"⟩
abbrev cX0_openDoors : ByteArray := prog_2_method_5_code
def yX0_openDoors : MethodName := ⟨RX0, "openDoors", "(I)V"⟩
abbrev cX0_lastOut : ByteArray := prog_2_method_6_code
def yX0_lastOut : MethodName := ⟨RX0, "lastOut", "()I"⟩
abbrev cX0_everOut : ByteArray := prog_2_method_7_code
def yX0_everOut : MethodName := ⟨RX0, "everOut", "()I"⟩
def RX1 : String := "LockedInByNext$Reader"
def TX1 : u_T := fun k => match k with
  | 0 => ("LockedInByNext$Reader", "text", "[I", false)
  | 1 => ("LockedInByNext$Reader", "length", "I", false)
  | 2 => ("LockedInByNext$Reader", "at", "I", false)
  | 3 => ("LockedInByNext$Reader", "first", "I", false)
  | 4 => ("LockedInByNext$Reader", "numbers", "[I", true)
  | _ => ("LockedInByNext$Reader", "numberCount", "I", false)
def tyX1 : Nat → FieldType := fun k => match k with
  | 0 => .array .int
  | 1 => .int
  | 2 => .int
  | 3 => .int
  | 4 => .array .int
  | _ => .int
abbrev wsX10 : List Cond := u_ws RX1 TX1 6
theorem nmX1 : ∀ a, a < 6 → ∀ b, b < 6 → a ≠ b → (TX1 a).2.1 ≠ (TX1 b).2.1 := by decide +kernel
theorem tyX1_ok : ∀ k, k < 6 → parseFieldDescriptor (TX1 k).2.2.1 = some (tyX1 k) := by decide +kernel
abbrev cX1_init : ByteArray := prog_3_method_1_code
def yX1_init : MethodName := ⟨RX1, "<init>", "()V"⟩
abbrev cX1_readInto : ByteArray := prog_3_method_2_code
def yX1_readInto : MethodName := ⟨RX1, "readInto", "(LLockedInByNext$Town;[II)I"⟩
abbrev cX1_allStatementsParse : ByteArray := prog_3_method_3_code
def yX1_allStatementsParse : MethodName := ⟨RX1, "allStatementsParse", "()Z"⟩
abbrev cX1_parseStatement : ByteArray := prog_3_method_4_code
def yX1_parseStatement : MethodName := ⟨RX1, "parseStatement", "()Z"⟩
abbrev cX1_parseSign : ByteArray := prog_3_method_5_code
def yX1_parseSign : MethodName := ⟨RX1, "parseSign", "(C)Z"⟩
abbrev cX1_parseKind : ByteArray := prog_3_method_6_code
def yX1_parseKind : MethodName := ⟨RX1, "parseKind", "()Z"⟩
abbrev cX1_parseNumber : ByteArray := prog_3_method_7_code
def yX1_parseNumber : MethodName := ⟨RX1, "parseNumber", "(I)Z"⟩
abbrev cX1_keepNumber : ByteArray := prog_3_method_8_code
def yX1_keepNumber : MethodName := ⟨RX1, "keepNumber", "(I)Z"⟩
abbrev cX1_tell : ByteArray := prog_3_method_9_code
def yX1_tell : MethodName := ⟨RX1, "tell", "(LLockedInByNext$Town;)Z"⟩
def RX2 : String := "LockedInByNext$Town"
def TX2 : u_T := fun k => match k with
  | 0 => ("LockedInByNext$Town", "kind", "[I", true)
  | 1 => ("LockedInByNext$Town", "wakes", "[I", true)
  | 2 => ("LockedInByNext$Town", "takes", "[I", true)
  | 3 => ("LockedInByNext$Town", "due", "[I", true)
  | 4 => ("LockedInByNext$Town", "cost", "[I", true)
  | 5 => ("LockedInByNext$Town", "people", "I", false)
  | 6 => ("LockedInByNext$Town", "door", "[I", true)
  | 7 => ("LockedInByNext$Town", "held", "[I", true)
  | 8 => ("LockedInByNext$Town", "keys", "I", false)
  | 9 => ("LockedInByNext$Town", "watchers", "I", false)
  | 10 => ("LockedInByNext$Town", "pace", "I", false)
  | _ => ("LockedInByNext$Town", "ring", "Z", false)
def tyX2 : Nat → FieldType := fun k => match k with
  | 0 => .array .int
  | 1 => .array .int
  | 2 => .array .int
  | 3 => .array .int
  | 4 => .array .int
  | 5 => .int
  | 6 => .array .int
  | 7 => .array .int
  | 8 => .int
  | 9 => .int
  | 10 => .int
  | _ => .boolean
abbrev wsX20 : List Cond := u_ws RX2 TX2 12
theorem nmX2 : ∀ a, a < 12 → ∀ b, b < 12 → a ≠ b → (TX2 a).2.1 ≠ (TX2 b).2.1 := by decide +kernel
theorem tyX2_ok : ∀ k, k < 12 → parseFieldDescriptor (TX2 k).2.2.1 = some (tyX2 k) := by decide +kernel
abbrev cX2_init : ByteArray := prog_4_method_1_code
def yX2_init : MethodName := ⟨RX2, "<init>", "()V"⟩
abbrev cX2_become : ByteArray := prog_4_method_2_code
def yX2_become : MethodName := ⟨RX2, "become", "(LLockedInByNext$Town;)V"⟩
abbrev cX2_hasPerson : ByteArray := prog_4_method_3_code
def yX2_hasPerson : MethodName := ⟨RX2, "hasPerson", "(I)Z"⟩
abbrev cX2_hasKey : ByteArray := prog_4_method_4_code
def yX2_hasKey : MethodName := ⟨RX2, "hasKey", "(I)Z"⟩
abbrev cX2_everyone : ByteArray := prog_4_method_5_code
def yX2_everyone : MethodName := ⟨RX2, "everyone", "()I"⟩
abbrev cX2_upOf : ByteArray := prog_4_method_6_code
def yX2_upOf : MethodName := ⟨RX2, "upOf", "(I)I"⟩
abbrev cX2_needOf : ByteArray := prog_4_method_7_code
def yX2_needOf : MethodName := ⟨RX2, "needOf", "(I)I"⟩
abbrev cX2_windowOf : ByteArray := prog_4_method_8_code
def yX2_windowOf : MethodName := ⟨RX2, "windowOf", "(I)I"⟩
abbrev cX2_paceOf : ByteArray := prog_4_method_9_code
def yX2_paceOf : MethodName := ⟨RX2, "paceOf", "(I)I"⟩
abbrev cX2_wayBetween : ByteArray := prog_4_method_10_code
def yX2_wayBetween : MethodName := ⟨RX2, "wayBetween", "(II)I"⟩
abbrev cX2_costOf : ByteArray := prog_4_method_11_code
def yX2_costOf : MethodName := ⟨RX2, "costOf", "(I)I"⟩
abbrev cX2_addPerson : ByteArray := prog_4_method_12_code
def yX2_addPerson : MethodName := ⟨RX2, "addPerson", "([I)Z"⟩
abbrev cX2_addKey : ByteArray := prog_4_method_13_code
def yX2_addKey : MethodName := ⟨RX2, "addKey", "(II)Z"⟩
abbrev cX2_dropKey : ByteArray := prog_4_method_14_code
def yX2_dropKey : MethodName := ⟨RX2, "dropKey", "(I)V"⟩
abbrev cX2_changeWatcher : ByteArray := prog_4_method_15_code
def yX2_changeWatcher : MethodName := ⟨RX2, "changeWatcher", "(I)Z"⟩
abbrev cX2_exchangeHolders : ByteArray := prog_4_method_16_code
def yX2_exchangeHolders : MethodName := ⟨RX2, "exchangeHolders", "(II)V"⟩
abbrev cX2_ringCount : ByteArray := prog_4_method_17_code
def yX2_ringCount : MethodName := ⟨RX2, "ringCount", "()I"⟩
abbrev cX2_ringOf : ByteArray := prog_4_method_18_code
def yX2_ringOf : MethodName := ⟨RX2, "ringOf", "(I)I"⟩
abbrev cX2_doorHeldBy : ByteArray := prog_4_method_19_code
def yX2_doorHeldBy : MethodName := ⟨RX2, "doorHeldBy", "(I)I"⟩
def RX3 : String := "LockedInByNext"
def TX3 : u_T := fun k => match k with
  | 0 => ("LockedInByNext", "letters", "[I", true)
  | 1 => ("LockedInByNext", "letterCount", "I", false)
  | 2 => ("LockedInByNext", "reader", "LLockedInByNext$Reader;", true)
  | 3 => ("LockedInByNext", "now", "LLockedInByNext$Town;", true)
  | 4 => ("LockedInByNext", "draft", "LLockedInByNext$Town;", true)
  | 5 => ("LockedInByNext", "kept", "LLockedInByNext$Town;", true)
  | 6 => ("LockedInByNext", "imageTaken", "Z", false)
  | 7 => ("LockedInByNext", "morning", "LLockedInByNext$Morning;", true)
  | 8 => ("LockedInByNext", "seen", "[I", true)
  | 9 => ("LockedInByNext", "seenCount", "I", false)
  | _ => ("LockedInByNext", "refusals", "[I", true)
def tyX3 : Nat → FieldType := fun k => match k with
  | 0 => .array .int
  | 1 => .int
  | 2 => .object "LockedInByNext$Reader"
  | 3 => .object "LockedInByNext$Town"
  | 4 => .object "LockedInByNext$Town"
  | 5 => .object "LockedInByNext$Town"
  | 6 => .boolean
  | 7 => .object "LockedInByNext$Morning"
  | 8 => .array .int
  | 9 => .int
  | _ => .array .int
abbrev wsX30 : List Cond := u_ws RX3 TX3 11
theorem nmX3 : ∀ a, a < 11 → ∀ b, b < 11 → a ≠ b → (TX3 a).2.1 ≠ (TX3 b).2.1 := by decide +kernel
theorem tyX3_ok : ∀ k, k < 11 → parseFieldDescriptor (TX3 k).2.2.1 = some (tyX3 k) := by decide +kernel
abbrev cX3_init : ByteArray := prog_1_method_1_code
def yX3_init : MethodName := ⟨RX3, "<init>", "()V"⟩
abbrev cX3_letter : ByteArray := prog_1_method_2_code
def yX3_letter : MethodName := ⟨RX3, "letter", "(I)I"⟩
abbrev cX3_town : ByteArray := prog_1_method_3_code
def yX3_town : MethodName := ⟨RX3, "town", "()I"⟩
abbrev cX3_person : ByteArray := prog_1_method_4_code
def yX3_person : MethodName := ⟨RX3, "person", "(II)I"⟩
abbrev cX3_key : ByteArray := prog_1_method_5_code
def yX3_key : MethodName := ⟨RX3, "key", "(II)I"⟩
abbrev cX3_give : ByteArray := prog_1_method_6_code
def yX3_give : MethodName := ⟨RX3, "give", "(II)I"⟩
abbrev cX3_cast : ByteArray := prog_1_method_7_code
def yX3_cast : MethodName := ⟨RX3, "cast", "(II)I"⟩
abbrev cX3_lose : ByteArray := prog_1_method_8_code
def yX3_lose : MethodName := ⟨RX3, "lose", "(I)I"⟩
abbrev cX3_watch : ByteArray := prog_1_method_9_code
def yX3_watch : MethodName := ⟨RX3, "watch", "(I)I"⟩
abbrev cX3_wake : ByteArray := prog_1_method_10_code
def yX3_wake : MethodName := ⟨RX3, "wake", "(II)I"⟩
abbrev cX3_walk : ByteArray := prog_1_method_11_code
def yX3_walk : MethodName := ⟨RX3, "walk", "(I)I"⟩
abbrev cX3_out : ByteArray := prog_1_method_12_code
def yX3_out : MethodName := ⟨RX3, "out", "(I)I"⟩
abbrev cX3_all : ByteArray := prog_1_method_13_code
def yX3_all : MethodName := ⟨RX3, "all", "()I"⟩
abbrev cX3_late : ByteArray := prog_1_method_14_code
def yX3_late : MethodName := ⟨RX3, "late", "()I"⟩
abbrev cX3_by : ByteArray := prog_1_method_15_code
def yX3_by : MethodName := ⟨RX3, "by", "(I)I"⟩
abbrev cX3_fewest : ByteArray := prog_1_method_16_code
def yX3_fewest : MethodName := ⟨RX3, "fewest", "(I)I"⟩
abbrev cX3_soonest : ByteArray := prog_1_method_17_code
def yX3_soonest : MethodName := ⟨RX3, "soonest", "(I)I"⟩
abbrev cX3_copy : ByteArray := prog_1_method_18_code
def yX3_copy : MethodName := ⟨RX3, "copy", "()I"⟩
abbrev cX3_copies : ByteArray := prog_1_method_19_code
def yX3_copies : MethodName := ⟨RX3, "copies", "(I)I"⟩
abbrev cX3_rings : ByteArray := prog_1_method_20_code
def yX3_rings : MethodName := ⟨RX3, "rings", "()I"⟩
abbrev cX3_swap : ByteArray := prog_1_method_21_code
def yX3_swap : MethodName := ⟨RX3, "swap", "()I"⟩
abbrev cX3_gone : ByteArray := prog_1_method_22_code
def yX3_gone : MethodName := ⟨RX3, "gone", "(I)I"⟩
abbrev cX3_breaking : ByteArray := prog_1_method_23_code
def yX3_breaking : MethodName := ⟨RX3, "breaking", "(I)I"⟩
abbrev cX3_fire : ByteArray := prog_1_method_24_code
def yX3_fire : MethodName := ⟨RX3, "fire", "(II)I"⟩
abbrev cX3_lot : ByteArray := prog_1_method_25_code
def yX3_lot : MethodName := ⟨RX3, "lot", "(III)I"⟩
abbrev cX3_row : ByteArray := prog_1_method_26_code
def yX3_row : MethodName := ⟨RX3, "row", "(I)I"⟩
abbrev cX3_overslept : ByteArray := prog_1_method_27_code
def yX3_overslept : MethodName := ⟨RX3, "overslept", "()I"⟩
abbrev cX3_judge : ByteArray := prog_1_method_28_code
def yX3_judge : MethodName := ⟨RX3, "judge", "()I"⟩
abbrev cX3_seeds : ByteArray := prog_1_method_29_code
def yX3_seeds : MethodName := ⟨RX3, "seeds", "(II)I"⟩
abbrev cX3_image : ByteArray := prog_1_method_30_code
def yX3_image : MethodName := ⟨RX3, "image", "()I"⟩
abbrev cX3_on : ByteArray := prog_1_method_31_code
def yX3_on : MethodName := ⟨RX3, "on", "()I"⟩
abbrev cX3_count : ByteArray := prog_1_method_32_code
def yX3_count : MethodName := ⟨RX3, "count", "(I)I"⟩
abbrev cX3_refuse : ByteArray := prog_1_method_33_code
def yX3_refuse : MethodName := ⟨RX3, "refuse", "(I)I"⟩
abbrev cX3_minuteOrNone : ByteArray := prog_1_method_34_code
def yX3_minuteOrNone : MethodName := ⟨RX3, "minuteOrNone", "(I)I"⟩
abbrev cX3_morningOf : ByteArray := prog_1_method_35_code
def yX3_morningOf : MethodName := ⟨RX3, "morningOf", "(LLockedInByNext$Town;)V"⟩
abbrev cX3_lastOutOf : ByteArray := prog_1_method_36_code
def yX3_lastOutOf : MethodName := ⟨RX3, "lastOutOf", "(LLockedInByNext$Town;)I"⟩
abbrev cX3_fewestWatchers : ByteArray := prog_1_method_37_code
def yX3_fewestWatchers : MethodName := ⟨RX3, "fewestWatchers", "()I"⟩
abbrev cX3_soonestWatchers : ByteArray := prog_1_method_38_code
def yX3_soonestWatchers : MethodName := ⟨RX3, "soonestWatchers", "(I)I"⟩
abbrev cX3_doorOf : ByteArray := prog_1_method_39_code
def yX3_doorOf : MethodName := ⟨RX3, "doorOf", "(I)I"⟩
abbrev cX3_holderOf : ByteArray := prog_1_method_40_code
def yX3_holderOf : MethodName := ⟨RX3, "holderOf", "(I)I"⟩
abbrev cX3_addPair : ByteArray := prog_1_method_41_code
def yX3_addPair : MethodName := ⟨RX3, "addPair", "(I)Z"⟩
abbrev cX3_dropPair : ByteArray := prog_1_method_42_code
def yX3_dropPair : MethodName := ⟨RX3, "dropPair", "(I)V"⟩
abbrev cX3_allOutBy : ByteArray := prog_1_method_43_code
def yX3_allOutBy : MethodName := ⟨RX3, "allOutBy", "(I)Z"⟩
abbrev cX3_oneMoreHelps : ByteArray := prog_1_method_44_code
def yX3_oneMoreHelps : MethodName := ⟨RX3, "oneMoreHelps", "(II)Z"⟩
abbrev cX3_twoMoreHelp : ByteArray := prog_1_method_45_code
def yX3_twoMoreHelp : MethodName := ⟨RX3, "twoMoreHelp", "(I)Z"⟩
abbrev cX3_meanRings : ByteArray := prog_1_method_46_code
def yX3_meanRings : MethodName := ⟨RX3, "meanRings", "(II)I"⟩
abbrev cX3_commonDivisor : ByteArray := prog_1_method_47_code
def yX3_commonDivisor : MethodName := ⟨RX3, "commonDivisor", "(II)I"⟩
abbrev cX3_nextSeed : ByteArray := prog_1_method_48_code
def yX3_nextSeed : MethodName := ⟨RX3, "nextSeed", "(I)I"⟩
abbrev cX3_drawBelowHundred : ByteArray := prog_1_method_49_code
def yX3_drawBelowHundred : MethodName := ⟨RX3, "drawBelowHundred", "(I)I"⟩
def RX4 : String := "LockedInByNextModel"
def TX4 : u_T := fun k => match k with
  | 0 => ("LockedInByNextModel", "refusals", "[I", true)
  | 1 => ("LockedInByNextModel", "s", "[I", true)
  | 2 => ("LockedInByNextModel", "image", "[I", true)
  | 3 => ("LockedInByNextModel", "read", "[I", true)
  | 4 => ("LockedInByNextModel", "isImage", "Z", false)
  | 5 => ("LockedInByNextModel", "tape", "[I", true)
  | 6 => ("LockedInByNextModel", "told", "[I", true)
  | 7 => ("LockedInByNextModel", "taped", "I", false)
  | 8 => ("LockedInByNextModel", "at", "I", false)
  | 9 => ("LockedInByNextModel", "out", "[I", true)
  | 10 => ("LockedInByNextModel", "opened", "[I", true)
  | 11 => ("LockedInByNextModel", "broken", "I", false)
  | 12 => ("LockedInByNextModel", "noWindows", "Z", false)
  | 13 => ("LockedInByNextModel", "fewestSet", "I", false)
  | 14 => ("LockedInByNextModel", "bestCopy", "I", false)
  | 15 => ("LockedInByNextModel", "keptRow", "[I", true)
  | 16 => ("LockedInByNextModel", "row", "[I", true)
  | _ => ("LockedInByNextModel", "rowed", "I", false)
def tyX4 : Nat → FieldType := fun k => match k with
  | 0 => .array .int
  | 1 => .array .int
  | 2 => .array .int
  | 3 => .array .int
  | 4 => .boolean
  | 5 => .array .int
  | 6 => .array .int
  | 7 => .int
  | 8 => .int
  | 9 => .array .int
  | 10 => .array .int
  | 11 => .int
  | 12 => .boolean
  | 13 => .int
  | 14 => .int
  | 15 => .array .int
  | 16 => .array .int
  | _ => .int
abbrev wsX40 : List Cond := u_ws RX4 TX4 18
theorem nmX4 : ∀ a, a < 18 → ∀ b, b < 18 → a ≠ b → (TX4 a).2.1 ≠ (TX4 b).2.1 := by decide +kernel
theorem tyX4_ok : ∀ k, k < 18 → parseFieldDescriptor (TX4 k).2.2.1 = some (tyX4 k) := by decide +kernel
abbrev cX4_init : ByteArray := prog_6_method_1_code
def yX4_init : MethodName := ⟨RX4, "<init>", "()V"⟩
abbrev cX4_refuse : ByteArray := prog_6_method_2_code
def yX4_refuse : MethodName := ⟨RX4, "refuse", "(I)I"⟩
abbrev cX4_isIn : ByteArray := prog_6_method_3_code
def yX4_isIn : MethodName := ⟨RX4, "isIn", "(II)Z"⟩
abbrev cX4_within : ByteArray := prog_6_method_4_code
def yX4_within : MethodName := ⟨RX4, "within", "(III)I"⟩
abbrev cX4_copiesTo : ByteArray := prog_6_method_5_code
def yX4_copiesTo : MethodName := ⟨RX4, "copiesTo", "([I[I)V"⟩
abbrev cX4_bits : ByteArray := prog_6_method_6_code
def yX4_bits : MethodName := ⟨RX4, "bits", "(I)I"⟩
abbrev cX4_isPerson : ByteArray := prog_6_method_7_code
def yX4_isPerson : MethodName := ⟨RX4, "isPerson", "(I)Z"⟩
abbrev cX4_isKey : ByteArray := prog_6_method_8_code
def yX4_isKey : MethodName := ⟨RX4, "isKey", "(I)Z"⟩
abbrev cX4_get : ByteArray := prog_6_method_9_code
def yX4_get : MethodName := ⟨RX4, "get", "(II)I"⟩
abbrev cX4_door : ByteArray := prog_6_method_10_code
def yX4_door : MethodName := ⟨RX4, "door", "(I)I"⟩
abbrev cX4_held : ByteArray := prog_6_method_11_code
def yX4_held : MethodName := ⟨RX4, "held", "(I)I"⟩
abbrev cX4_everybody : ByteArray := prog_6_method_12_code
def yX4_everybody : MethodName := ⟨RX4, "everybody", "()I"⟩
abbrev cX4_letter : ByteArray := prog_6_method_13_code
def yX4_letter : MethodName := ⟨RX4, "letter", "(I)I"⟩
abbrev cX4_sign : ByteArray := prog_6_method_14_code
def yX4_sign : MethodName := ⟨RX4, "sign", "()I"⟩
abbrev cX4_takes : ByteArray := prog_6_method_15_code
def yX4_takes : MethodName := ⟨RX4, "takes", "(I)Z"⟩
abbrev cX4_readsNumber : ByteArray := prog_6_method_16_code
def yX4_readsNumber : MethodName := ⟨RX4, "readsNumber", "(II)Z"⟩
abbrev cX4_kindOf : ByteArray := prog_6_method_17_code
def yX4_kindOf : MethodName := ⟨RX4, "kindOf", "(I)I"⟩
abbrev cX4_readsKind : ByteArray := prog_6_method_18_code
def yX4_readsKind : MethodName := ⟨RX4, "readsKind", "()Z"⟩
abbrev cX4_readsStatement : ByteArray := prog_6_method_19_code
def yX4_readsStatement : MethodName := ⟨RX4, "readsStatement", "()Z"⟩
abbrev cX4_comes : ByteArray := prog_6_method_20_code
def yX4_comes : MethodName := ⟨RX4, "comes", "(I)Z"⟩
abbrev cX4_reads : ByteArray := prog_6_method_21_code
def yX4_reads : MethodName := ⟨RX4, "reads", "()I"⟩
abbrev cX4_town : ByteArray := prog_6_method_22_code
def yX4_town : MethodName := ⟨RX4, "town", "()I"⟩
abbrev cX4_upOf : ByteArray := prog_6_method_23_code
def yX4_upOf : MethodName := ⟨RX4, "upOf", "(I)I"⟩
abbrev cX4_needsOf : ByteArray := prog_6_method_24_code
def yX4_needsOf : MethodName := ⟨RX4, "needsOf", "(I)I"⟩
abbrev cX4_person : ByteArray := prog_6_method_25_code
def yX4_person : MethodName := ⟨RX4, "person", "(II)I"⟩
abbrev cX4_key : ByteArray := prog_6_method_26_code
def yX4_key : MethodName := ⟨RX4, "key", "(II)I"⟩
abbrev cX4_give : ByteArray := prog_6_method_27_code
def yX4_give : MethodName := ⟨RX4, "give", "(II)I"⟩
abbrev cX4_cast : ByteArray := prog_6_method_28_code
def yX4_cast : MethodName := ⟨RX4, "cast", "(II)I"⟩
abbrev cX4_addsKey : ByteArray := prog_6_method_29_code
def yX4_addsKey : MethodName := ⟨RX4, "addsKey", "(II)V"⟩
abbrev cX4_takesAway : ByteArray := prog_6_method_30_code
def yX4_takesAway : MethodName := ⟨RX4, "takesAway", "(I)V"⟩
abbrev cX4_lose : ByteArray := prog_6_method_31_code
def yX4_lose : MethodName := ⟨RX4, "lose", "(I)I"⟩
abbrev cX4_watch : ByteArray := prog_6_method_32_code
def yX4_watch : MethodName := ⟨RX4, "watch", "(I)I"⟩
abbrev cX4_wake : ByteArray := prog_6_method_33_code
def yX4_wake : MethodName := ⟨RX4, "wake", "(II)I"⟩
abbrev cX4_walk : ByteArray := prog_6_method_34_code
def yX4_walk : MethodName := ⟨RX4, "walk", "(I)I"⟩
abbrev cX4_wayOf : ByteArray := prog_6_method_35_code
def yX4_wayOf : MethodName := ⟨RX4, "wayOf", "(II)I"⟩
abbrev cX4_holds : ByteArray := prog_6_method_36_code
def yX4_holds : MethodName := ⟨RX4, "holds", "(II)Z"⟩
abbrev cX4_goesRound : ByteArray := prog_6_method_37_code
def yX4_goesRound : MethodName := ⟨RX4, "goesRound", "(I)V"⟩
abbrev cX4_outBy : ByteArray := prog_6_method_38_code
def yX4_outBy : MethodName := ⟨RX4, "outBy", "(I)I"⟩
abbrev cX4_firstOut : ByteArray := prog_6_method_39_code
def yX4_firstOut : MethodName := ⟨RX4, "firstOut", "(I)I"⟩
abbrev cX4_finds : ByteArray := prog_6_method_40_code
def yX4_finds : MethodName := ⟨RX4, "finds", "()V"⟩
abbrev cX4_allOut : ByteArray := prog_6_method_41_code
def yX4_allOut : MethodName := ⟨RX4, "allOut", "()I"⟩
abbrev cX4_orNone : ByteArray := prog_6_method_42_code
def yX4_orNone : MethodName := ⟨RX4, "orNone", "(I)I"⟩
abbrev cX4_out : ByteArray := prog_6_method_43_code
def yX4_out : MethodName := ⟨RX4, "out", "(I)I"⟩
abbrev cX4_all : ByteArray := prog_6_method_44_code
def yX4_all : MethodName := ⟨RX4, "all", "()I"⟩
abbrev cX4_late : ByteArray := prog_6_method_45_code
def yX4_late : MethodName := ⟨RX4, "late", "()I"⟩
abbrev cX4_by : ByteArray := prog_6_method_46_code
def yX4_by : MethodName := ⟨RX4, "by", "(I)I"⟩
abbrev cX4_opensAt : ByteArray := prog_6_method_47_code
def yX4_opensAt : MethodName := ⟨RX4, "opensAt", "(II)I"⟩
abbrev cX4_fewestNow : ByteArray := prog_6_method_48_code
def yX4_fewestNow : MethodName := ⟨RX4, "fewestNow", "()I"⟩
abbrev cX4_fewest : ByteArray := prog_6_method_49_code
def yX4_fewest : MethodName := ⟨RX4, "fewest", "(I)I"⟩
abbrev cX4_soonest : ByteArray := prog_6_method_50_code
def yX4_soonest : MethodName := ⟨RX4, "soonest", "(I)I"⟩
abbrev cX4_leastWithCopy : ByteArray := prog_6_method_51_code
def yX4_leastWithCopy : MethodName := ⟨RX4, "leastWithCopy", "(I)I"⟩
abbrev cX4_copy : ByteArray := prog_6_method_52_code
def yX4_copy : MethodName := ⟨RX4, "copy", "()I"⟩
abbrev cX4_isByTwo : ByteArray := prog_6_method_53_code
def yX4_isByTwo : MethodName := ⟨RX4, "isByTwo", "(I)Z"⟩
abbrev cX4_copies : ByteArray := prog_6_method_54_code
def yX4_copies : MethodName := ⟨RX4, "copies", "(I)I"⟩
abbrev cX4_ringsNow : ByteArray := prog_6_method_55_code
def yX4_ringsNow : MethodName := ⟨RX4, "ringsNow", "()I"⟩
abbrev cX4_heldBy : ByteArray := prog_6_method_56_code
def yX4_heldBy : MethodName := ⟨RX4, "heldBy", "(I)I"⟩
abbrev cX4_rings : ByteArray := prog_6_method_57_code
def yX4_rings : MethodName := ⟨RX4, "rings", "()I"⟩
abbrev cX4_changes : ByteArray := prog_6_method_58_code
def yX4_changes : MethodName := ⟨RX4, "changes", "(II)V"⟩
abbrev cX4_swap : ByteArray := prog_6_method_59_code
def yX4_swap : MethodName := ⟨RX4, "swap", "()I"⟩
abbrev cX4_neverOut : ByteArray := prog_6_method_60_code
def yX4_neverOut : MethodName := ⟨RX4, "neverOut", "()I"⟩
abbrev cX4_gone : ByteArray := prog_6_method_61_code
def yX4_gone : MethodName := ⟨RX4, "gone", "(I)I"⟩
abbrev cX4_costOf : ByteArray := prog_6_method_62_code
def yX4_costOf : MethodName := ⟨RX4, "costOf", "(I)I"⟩
abbrev cX4_breaking : ByteArray := prog_6_method_63_code
def yX4_breaking : MethodName := ⟨RX4, "breaking", "(I)I"⟩
abbrev cX4_fire : ByteArray := prog_6_method_64_code
def yX4_fire : MethodName := ⟨RX4, "fire", "(II)I"⟩
abbrev cX4_common : ByteArray := prog_6_method_65_code
def yX4_common : MethodName := ⟨RX4, "common", "(II)I"⟩
abbrev cX4_lot : ByteArray := prog_6_method_66_code
def yX4_lot : MethodName := ⟨RX4, "lot", "(III)I"⟩
abbrev cX4_row : ByteArray := prog_6_method_67_code
def yX4_row : MethodName := ⟨RX4, "row", "(I)I"⟩
abbrev cX4_overslept : ByteArray := prog_6_method_68_code
def yX4_overslept : MethodName := ⟨RX4, "overslept", "()I"⟩
abbrev cX4_judge : ByteArray := prog_6_method_69_code
def yX4_judge : MethodName := ⟨RX4, "judge", "()I"⟩
abbrev cX4_seeds : ByteArray := prog_6_method_70_code
def yX4_seeds : MethodName := ⟨RX4, "seeds", "(II)I"⟩
abbrev cX4_image : ByteArray := prog_6_method_71_code
def yX4_image : MethodName := ⟨RX4, "image", "()I"⟩
abbrev cX4_on : ByteArray := prog_6_method_72_code
def yX4_on : MethodName := ⟨RX4, "on", "()I"⟩
abbrev cX4_count : ByteArray := prog_6_method_73_code
def yX4_count : MethodName := ⟨RX4, "count", "(I)I"⟩
def RJ6 : String := "java/lang/Integer"
abbrev cJ6_bitCount_0f7a4 : ByteArray := prog_7_method_49_code
def yJ6_bitCount_0f7a4 : MethodName := ⟨RJ6, "bitCount", "(I)I"⟩
def RJ9 : String := "java/lang/Math"
abbrev cJ9_abs_0f7a4 : ByteArray := prog_8_method_59_code
def yJ9_abs_0f7a4 : MethodName := ⟨RJ9, "abs", "(I)I"⟩
abbrev cJ9_max_7cf53 : ByteArray := prog_8_method_65_code
def yJ9_max_7cf53 : MethodName := ⟨RJ9, "max", "(II)I"⟩
abbrev cJ9_min_7cf53 : ByteArray := prog_8_method_69_code
def yJ9_min_7cf53 : MethodName := ⟨RJ9, "min", "(II)I"⟩
def RJ0 : String := "java/lang/String"
abbrev cJ0_length_8abf5 : ByteArray := prog_9_method_54_code
def yJ0_length_8abf5 : MethodName := ⟨RJ0, "length", "()I"⟩
abbrev cJ0_charAt_5068e : ByteArray := prog_9_method_56_code
def yJ0_charAt_5068e : MethodName := ⟨RJ0, "charAt", "(I)C"⟩
abbrev cJ0_coder_7d493 : ByteArray := prog_9_method_152_code
def yJ0_coder_7d493 : MethodName := ⟨RJ0, "coder", "()B"⟩
abbrev cJ0_isLatin1_aae02 : ByteArray := prog_9_method_154_code
def yJ0_isLatin1_aae02 : MethodName := ⟨RJ0, "isLatin1", "()Z"⟩
abbrev cJ0_checkIndex_df160 : ByteArray := prog_9_method_155_code
def yJ0_checkIndex_df160 : MethodName := ⟨RJ0, "checkIndex", "(II)V"⟩
def RJ1 : String := "java/lang/StringLatin1"
abbrev cJ1_charAt_3b067 : ByteArray := prog_10_method_2_code
def yJ1_charAt_3b067 : MethodName := ⟨RJ1, "charAt", "([BI)C"⟩
def RJ2 : String := "java/lang/StringUTF16"
abbrev cJ2_getChar_3b067 : ByteArray := prog_11_method_5_code
def yJ2_getChar_3b067 : MethodName := ⟨RJ2, "getChar", "([BI)C"⟩
abbrev cJ2_length_9d52b : ByteArray := prog_11_method_6_code
def yJ2_length_9d52b : MethodName := ⟨RJ2, "length", "([B)I"⟩
abbrev cJ2_charAt_3b067 : ByteArray := prog_11_method_83_code
def yJ2_charAt_3b067 : MethodName := ⟨RJ2, "charAt", "([BI)C"⟩
abbrev cJ2_checkIndex_2214a : ByteArray := prog_11_method_91_code
def yJ2_checkIndex_2214a : MethodName := ⟨RJ2, "checkIndex", "(I[B)V"⟩
def RJ10 : String := "java/lang/System"
def RJ3 : String := "jdk/internal/util/Preconditions"
abbrev cJ3_checkIndex_8e157 : ByteArray := prog_13_method_11_code
def yJ3_checkIndex_8e157 : MethodName := ⟨RJ3, "checkIndex", "(IILjava/util/function/BiFunction;)I"⟩
def RL : String := "LockedInByNextLaw"
abbrev cL_law : ByteArray := code
theorem dX0_init_0 : decode cX0_init 0 = .ok (.aload_n 0, 1) := by decide +kernel
theorem dX0_init_1 : decode cX0_init 1 = .ok (.invokespecial 3, 3) := by decide +kernel
theorem dX0_init_4 : decode cX0_init 4 = .ok (.aload_n 0, 1) := by decide +kernel
theorem dX0_init_5 : decode cX0_init 5 = .ok (.bipush 7, 2) := by decide +kernel
theorem dX0_init_7 : decode cX0_init 7 = .ok (.bipush 7, 2) := by decide +kernel
theorem dX0_init_9 : decode cX0_init 9 = .ok (.multianewarray 9 2, 4) := by decide +kernel
theorem dX0_init_13 : decode cX0_init 13 = .ok (.putfield 11, 3) := by decide +kernel
theorem dX0_init_16 : decode cX0_init 16 = .ok (.aload_n 0, 1) := by decide +kernel
theorem dX0_init_17 : decode cX0_init 17 = .ok (.bipush 7, 2) := by decide +kernel
theorem dX0_init_19 : decode cX0_init 19 = .ok (.newarray .int, 2) := by decide +kernel
theorem dX0_init_21 : decode cX0_init 21 = .ok (.putfield 16, 3) := by decide +kernel
theorem dX0_init_24 : decode cX0_init 24 = .ok (.aload_n 0, 1) := by decide +kernel
theorem dX0_init_25 : decode cX0_init 25 = .ok (.bipush 7, 2) := by decide +kernel
theorem dX0_init_27 : decode cX0_init 27 = .ok (.newarray .int, 2) := by decide +kernel
theorem dX0_init_29 : decode cX0_init 29 = .ok (.putfield 20, 3) := by decide +kernel
theorem dX0_init_32 : decode cX0_init 32 = .ok (.aload_n 0, 1) := by decide +kernel
theorem dX0_init_33 : decode cX0_init 33 = .ok (.bipush 7, 2) := by decide +kernel
theorem dX0_init_35 : decode cX0_init 35 = .ok (.newarray .int, 2) := by decide +kernel
theorem dX0_init_37 : decode cX0_init 37 = .ok (.putfield 23, 3) := by decide +kernel
theorem dX0_init_40 : decode cX0_init 40 = .ok (.aload_n 0, 1) := by decide +kernel
theorem dX0_init_41 : decode cX0_init 41 = .ok (.bipush 7, 2) := by decide +kernel
theorem dX0_init_43 : decode cX0_init 43 = .ok (.newarray .int, 2) := by decide +kernel
theorem dX0_init_45 : decode cX0_init 45 = .ok (.putfield 26, 3) := by decide +kernel
theorem dX0_init_48 : decode cX0_init 48 = .ok (.aload_n 0, 1) := by decide +kernel
theorem dX0_init_49 : decode cX0_init 49 = .ok (.bipush 7, 2) := by decide +kernel
theorem dX0_init_51 : decode cX0_init 51 = .ok (.newarray .int, 2) := by decide +kernel
theorem dX0_init_53 : decode cX0_init 53 = .ok (.putfield 29, 3) := by decide +kernel
theorem dX0_init_56 : decode cX0_init 56 = .ok (.aload_n 0, 1) := by decide +kernel
theorem dX0_init_57 : decode cX0_init 57 = .ok (.bipush 7, 2) := by decide +kernel
theorem dX0_init_59 : decode cX0_init 59 = .ok (.newarray .int, 2) := by decide +kernel
theorem dX0_init_61 : decode cX0_init 61 = .ok (.putfield 32, 3) := by decide +kernel
theorem dX0_init_64 : decode cX0_init 64 = .ok (.aload_n 0, 1) := by decide +kernel
theorem dX0_init_65 : decode cX0_init 65 = .ok (.bipush 7, 2) := by decide +kernel
theorem dX0_init_67 : decode cX0_init 67 = .ok (.newarray .int, 2) := by decide +kernel
theorem dX0_init_69 : decode cX0_init 69 = .ok (.putfield 35, 3) := by decide +kernel
theorem dX0_init_72 : decode cX0_init 72 = .ok (.aload_n 0, 1) := by decide +kernel
theorem dX0_init_73 : decode cX0_init 73 = .ok (.bipush 7, 2) := by decide +kernel
theorem dX0_init_75 : decode cX0_init 75 = .ok (.newarray .int, 2) := by decide +kernel
theorem dX0_init_77 : decode cX0_init 77 = .ok (.putfield 38, 3) := by decide +kernel
theorem dX0_init_80 : decode cX0_init 80 = .ok (.return_, 1) := by decide +kernel
theorem dX0_prepare_0 : decode cX0_prepare 0 = .ok (.aload_n 0, 1) := by decide +kernel
theorem dX0_prepare_1 : decode cX0_prepare 1 = .ok (.aload_n 1, 1) := by decide +kernel
theorem dX0_prepare_2 : decode cX0_prepare 2 = .ok (.getfield 41, 3) := by decide +kernel
theorem dX0_prepare_5 : decode cX0_prepare 5 = .ok (.putfield 47, 3) := by decide +kernel
theorem dX0_prepare_8 : decode cX0_prepare 8 = .ok (.iconst 0, 1) := by decide +kernel
theorem dX0_prepare_9 : decode cX0_prepare 9 = .ok (.istore_n 2, 1) := by decide +kernel
theorem dX0_prepare_10 : decode cX0_prepare 10 = .ok (.iload_n 2, 1) := by decide +kernel
theorem dX0_prepare_11 : decode cX0_prepare 11 = .ok (.aload_n 0, 1) := by decide +kernel
theorem dX0_prepare_12 : decode cX0_prepare 12 = .ok (.getfield 47, 3) := by decide +kernel
theorem dX0_prepare_15 : decode cX0_prepare 15 = .ok (.if_icmp .ge 90, 3) := by decide +kernel
theorem dX0_prepare_18 : decode cX0_prepare 18 = .ok (.iconst 0, 1) := by decide +kernel
theorem dX0_prepare_19 : decode cX0_prepare 19 = .ok (.istore_n 3, 1) := by decide +kernel
theorem dX0_prepare_20 : decode cX0_prepare 20 = .ok (.iload_n 3, 1) := by decide +kernel
theorem dX0_prepare_21 : decode cX0_prepare 21 = .ok (.aload_n 0, 1) := by decide +kernel
theorem dX0_prepare_22 : decode cX0_prepare 22 = .ok (.getfield 47, 3) := by decide +kernel
theorem dX0_prepare_25 : decode cX0_prepare 25 = .ok (.if_icmp .ge 23, 3) := by decide +kernel
theorem dX0_prepare_28 : decode cX0_prepare 28 = .ok (.aload_n 0, 1) := by decide +kernel
theorem dX0_prepare_29 : decode cX0_prepare 29 = .ok (.getfield 11, 3) := by decide +kernel
theorem dX0_prepare_32 : decode cX0_prepare 32 = .ok (.iload_n 2, 1) := by decide +kernel
theorem dX0_prepare_33 : decode cX0_prepare 33 = .ok (.aaload, 1) := by decide +kernel
theorem dX0_prepare_34 : decode cX0_prepare 34 = .ok (.iload_n 3, 1) := by decide +kernel
theorem dX0_prepare_35 : decode cX0_prepare 35 = .ok (.aload_n 1, 1) := by decide +kernel
theorem dX0_prepare_36 : decode cX0_prepare 36 = .ok (.iload_n 2, 1) := by decide +kernel
theorem dX0_prepare_37 : decode cX0_prepare 37 = .ok (.iload_n 3, 1) := by decide +kernel
theorem dX0_prepare_38 : decode cX0_prepare 38 = .ok (.invokevirtual 48, 3) := by decide +kernel
theorem dX0_prepare_41 : decode cX0_prepare 41 = .ok (.iastore, 1) := by decide +kernel
theorem dX0_prepare_42 : decode cX0_prepare 42 = .ok (.iinc 3 1, 3) := by decide +kernel
theorem dX0_prepare_45 : decode cX0_prepare 45 = .ok (.goto (-25), 3) := by decide +kernel
theorem dX0_prepare_48 : decode cX0_prepare 48 = .ok (.aload_n 0, 1) := by decide +kernel
theorem dX0_prepare_49 : decode cX0_prepare 49 = .ok (.getfield 16, 3) := by decide +kernel
theorem dX0_prepare_52 : decode cX0_prepare 52 = .ok (.iload_n 2, 1) := by decide +kernel
theorem dX0_prepare_53 : decode cX0_prepare 53 = .ok (.aload_n 1, 1) := by decide +kernel
theorem dX0_prepare_54 : decode cX0_prepare 54 = .ok (.iload_n 2, 1) := by decide +kernel
theorem dX0_prepare_55 : decode cX0_prepare 55 = .ok (.invokevirtual 52, 3) := by decide +kernel
theorem dX0_prepare_58 : decode cX0_prepare 58 = .ok (.iastore, 1) := by decide +kernel
theorem dX0_prepare_59 : decode cX0_prepare 59 = .ok (.aload_n 0, 1) := by decide +kernel
theorem dX0_prepare_60 : decode cX0_prepare 60 = .ok (.getfield 20, 3) := by decide +kernel
theorem dX0_prepare_63 : decode cX0_prepare 63 = .ok (.iload_n 2, 1) := by decide +kernel
theorem dX0_prepare_64 : decode cX0_prepare 64 = .ok (.aload_n 1, 1) := by decide +kernel
theorem dX0_prepare_65 : decode cX0_prepare 65 = .ok (.iload_n 2, 1) := by decide +kernel
theorem dX0_prepare_66 : decode cX0_prepare 66 = .ok (.invokevirtual 56, 3) := by decide +kernel
theorem dX0_prepare_69 : decode cX0_prepare 69 = .ok (.iastore, 1) := by decide +kernel
theorem dX0_prepare_70 : decode cX0_prepare 70 = .ok (.aload_n 0, 1) := by decide +kernel
theorem dX0_prepare_71 : decode cX0_prepare 71 = .ok (.getfield 23, 3) := by decide +kernel
theorem dX0_prepare_74 : decode cX0_prepare 74 = .ok (.iload_n 2, 1) := by decide +kernel
theorem dX0_prepare_75 : decode cX0_prepare 75 = .ok (.aload_n 1, 1) := by decide +kernel
theorem dX0_prepare_76 : decode cX0_prepare 76 = .ok (.iload_n 2, 1) := by decide +kernel
theorem dX0_prepare_77 : decode cX0_prepare 77 = .ok (.invokevirtual 59, 3) := by decide +kernel
theorem dX0_prepare_80 : decode cX0_prepare 80 = .ok (.iastore, 1) := by decide +kernel
theorem dX0_prepare_81 : decode cX0_prepare 81 = .ok (.aload_n 0, 1) := by decide +kernel
theorem dX0_prepare_82 : decode cX0_prepare 82 = .ok (.getfield 26, 3) := by decide +kernel
theorem dX0_prepare_85 : decode cX0_prepare 85 = .ok (.iload_n 2, 1) := by decide +kernel
theorem dX0_prepare_86 : decode cX0_prepare 86 = .ok (.aload_n 1, 1) := by decide +kernel
theorem dX0_prepare_87 : decode cX0_prepare 87 = .ok (.iload_n 2, 1) := by decide +kernel
theorem dX0_prepare_88 : decode cX0_prepare 88 = .ok (.invokevirtual 62, 3) := by decide +kernel
theorem dX0_prepare_91 : decode cX0_prepare 91 = .ok (.iastore, 1) := by decide +kernel
theorem dX0_prepare_92 : decode cX0_prepare 92 = .ok (.aload_n 0, 1) := by decide +kernel
theorem dX0_prepare_93 : decode cX0_prepare 93 = .ok (.getfield 29, 3) := by decide +kernel
theorem dX0_prepare_96 : decode cX0_prepare 96 = .ok (.iload_n 2, 1) := by decide +kernel
theorem dX0_prepare_97 : decode cX0_prepare 97 = .ok (.iconst 0, 1) := by decide +kernel
theorem dX0_prepare_98 : decode cX0_prepare 98 = .ok (.iastore, 1) := by decide +kernel
theorem dX0_prepare_99 : decode cX0_prepare 99 = .ok (.iinc 2 1, 3) := by decide +kernel
theorem dX0_prepare_102 : decode cX0_prepare 102 = .ok (.goto (-92), 3) := by decide +kernel
theorem dX0_prepare_105 : decode cX0_prepare 105 = .ok (.iconst 0, 1) := by decide +kernel
theorem dX0_prepare_106 : decode cX0_prepare 106 = .ok (.istore_n 2, 1) := by decide +kernel
theorem dX0_prepare_107 : decode cX0_prepare 107 = .ok (.iload_n 2, 1) := by decide +kernel
theorem dX0_prepare_108 : decode cX0_prepare 108 = .ok (.aload_n 1, 1) := by decide +kernel
theorem dX0_prepare_109 : decode cX0_prepare 109 = .ok (.getfield 65, 3) := by decide +kernel
theorem dX0_prepare_112 : decode cX0_prepare 112 = .ok (.if_icmp .ge 46, 3) := by decide +kernel
theorem dX0_prepare_115 : decode cX0_prepare 115 = .ok (.aload_n 1, 1) := by decide +kernel
theorem dX0_prepare_116 : decode cX0_prepare 116 = .ok (.getfield 68, 3) := by decide +kernel
theorem dX0_prepare_119 : decode cX0_prepare 119 = .ok (.iload_n 2, 1) := by decide +kernel
theorem dX0_prepare_120 : decode cX0_prepare 120 = .ok (.iaload, 1) := by decide +kernel
theorem dX0_prepare_121 : decode cX0_prepare 121 = .ok (.aload_n 1, 1) := by decide +kernel
theorem dX0_prepare_122 : decode cX0_prepare 122 = .ok (.getfield 71, 3) := by decide +kernel
theorem dX0_prepare_125 : decode cX0_prepare 125 = .ok (.iload_n 2, 1) := by decide +kernel
theorem dX0_prepare_126 : decode cX0_prepare 126 = .ok (.iaload, 1) := by decide +kernel
theorem dX0_prepare_127 : decode cX0_prepare 127 = .ok (.if_icmp .eq 25, 3) := by decide +kernel
theorem dX0_prepare_130 : decode cX0_prepare 130 = .ok (.aload_n 0, 1) := by decide +kernel
theorem dX0_prepare_131 : decode cX0_prepare 131 = .ok (.getfield 29, 3) := by decide +kernel
theorem dX0_prepare_134 : decode cX0_prepare 134 = .ok (.aload_n 1, 1) := by decide +kernel
theorem dX0_prepare_135 : decode cX0_prepare 135 = .ok (.getfield 71, 3) := by decide +kernel
theorem dX0_prepare_138 : decode cX0_prepare 138 = .ok (.iload_n 2, 1) := by decide +kernel
theorem dX0_prepare_139 : decode cX0_prepare 139 = .ok (.iaload, 1) := by decide +kernel
theorem dX0_prepare_140 : decode cX0_prepare 140 = .ok (.dup2, 1) := by decide +kernel
theorem dX0_prepare_141 : decode cX0_prepare 141 = .ok (.iaload, 1) := by decide +kernel
theorem dX0_prepare_142 : decode cX0_prepare 142 = .ok (.iconst 1, 1) := by decide +kernel
theorem dX0_prepare_143 : decode cX0_prepare 143 = .ok (.aload_n 1, 1) := by decide +kernel
theorem dX0_prepare_144 : decode cX0_prepare 144 = .ok (.getfield 68, 3) := by decide +kernel
theorem dX0_prepare_147 : decode cX0_prepare 147 = .ok (.iload_n 2, 1) := by decide +kernel
theorem dX0_prepare_148 : decode cX0_prepare 148 = .ok (.iaload, 1) := by decide +kernel
theorem dX0_prepare_149 : decode cX0_prepare 149 = .ok (.ishl, 1) := by decide +kernel
theorem dX0_prepare_150 : decode cX0_prepare 150 = .ok (.ior, 1) := by decide +kernel
theorem dX0_prepare_151 : decode cX0_prepare 151 = .ok (.iastore, 1) := by decide +kernel
theorem dX0_prepare_152 : decode cX0_prepare 152 = .ok (.iinc 2 1, 3) := by decide +kernel
theorem dX0_prepare_155 : decode cX0_prepare 155 = .ok (.goto (-48), 3) := by decide +kernel
theorem dX0_prepare_158 : decode cX0_prepare 158 = .ok (.return_, 1) := by decide +kernel
theorem dX0_pass_0 : decode cX0_pass 0 = .ok (.iconst 0, 1) := by decide +kernel
theorem dX0_pass_1 : decode cX0_pass 1 = .ok (.istore 4, 2) := by decide +kernel
theorem dX0_pass_3 : decode cX0_pass 3 = .ok (.iload 4, 2) := by decide +kernel
theorem dX0_pass_5 : decode cX0_pass 5 = .ok (.aload_n 0, 1) := by decide +kernel
theorem dX0_pass_6 : decode cX0_pass 6 = .ok (.getfield 47, 3) := by decide +kernel
theorem dX0_pass_9 : decode cX0_pass 9 = .ok (.if_icmp .ge 49, 3) := by decide +kernel
theorem dX0_pass_12 : decode cX0_pass 12 = .ok (.aload_n 0, 1) := by decide +kernel
theorem dX0_pass_13 : decode cX0_pass 13 = .ok (.getfield 32, 3) := by decide +kernel
theorem dX0_pass_16 : decode cX0_pass 16 = .ok (.iload 4, 2) := by decide +kernel
theorem dX0_pass_18 : decode cX0_pass 18 = .ok (.ldc 74, 2) := by decide +kernel
theorem dX0_pass_20 : decode cX0_pass 20 = .ok (.iastore, 1) := by decide +kernel
theorem dX0_pass_21 : decode cX0_pass 21 = .ok (.aload_n 0, 1) := by decide +kernel
theorem dX0_pass_22 : decode cX0_pass 22 = .ok (.getfield 35, 3) := by decide +kernel
theorem dX0_pass_25 : decode cX0_pass 25 = .ok (.iload 4, 2) := by decide +kernel
theorem dX0_pass_27 : decode cX0_pass 27 = .ok (.iload_n 2, 1) := by decide +kernel
theorem dX0_pass_28 : decode cX0_pass 28 = .ok (.iload 4, 2) := by decide +kernel
theorem dX0_pass_30 : decode cX0_pass 30 = .ok (.ishr, 1) := by decide +kernel
theorem dX0_pass_31 : decode cX0_pass 31 = .ok (.iconst 1, 1) := by decide +kernel
theorem dX0_pass_32 : decode cX0_pass 32 = .ok (.iand, 1) := by decide +kernel
theorem dX0_pass_33 : decode cX0_pass 33 = .ok (.ifCond .eq 7, 3) := by decide +kernel
theorem dX0_pass_36 : decode cX0_pass 36 = .ok (.iconst 0, 1) := by decide +kernel
theorem dX0_pass_37 : decode cX0_pass 37 = .ok (.goto 5, 3) := by decide +kernel
theorem dX0_pass_40 : decode cX0_pass 40 = .ok (.ldc 74, 2) := by decide +kernel
theorem dX0_pass_42 : decode cX0_pass 42 = .ok (.iastore, 1) := by decide +kernel
theorem dX0_pass_43 : decode cX0_pass 43 = .ok (.aload_n 0, 1) := by decide +kernel
theorem dX0_pass_44 : decode cX0_pass 44 = .ok (.getfield 38, 3) := by decide +kernel
theorem dX0_pass_47 : decode cX0_pass 47 = .ok (.iload 4, 2) := by decide +kernel
theorem dX0_pass_49 : decode cX0_pass 49 = .ok (.bipush (-9), 2) := by decide +kernel
theorem dX0_pass_51 : decode cX0_pass 51 = .ok (.iastore, 1) := by decide +kernel
theorem dX0_pass_52 : decode cX0_pass 52 = .ok (.iinc 4 1, 3) := by decide +kernel
theorem dX0_pass_55 : decode cX0_pass 55 = .ok (.goto (-52), 3) := by decide +kernel
theorem dX0_pass_58 : decode cX0_pass 58 = .ok (.iconst 0, 1) := by decide +kernel
theorem dX0_pass_59 : decode cX0_pass 59 = .ok (.istore 4, 2) := by decide +kernel
theorem dX0_pass_61 : decode cX0_pass 61 = .ok (.iconst 0, 1) := by decide +kernel
theorem dX0_pass_62 : decode cX0_pass 62 = .ok (.istore 5, 2) := by decide +kernel
theorem dX0_pass_64 : decode cX0_pass 64 = .ok (.iload 5, 2) := by decide +kernel
theorem dX0_pass_66 : decode cX0_pass 66 = .ok (.aload_n 0, 1) := by decide +kernel
theorem dX0_pass_67 : decode cX0_pass 67 = .ok (.getfield 47, 3) := by decide +kernel
theorem dX0_pass_70 : decode cX0_pass 70 = .ok (.if_icmp .ge 112, 3) := by decide +kernel
theorem dX0_pass_73 : decode cX0_pass 73 = .ok (.bipush (-9), 2) := by decide +kernel
theorem dX0_pass_75 : decode cX0_pass 75 = .ok (.istore 6, 2) := by decide +kernel
theorem dX0_pass_77 : decode cX0_pass 77 = .ok (.ldc 74, 2) := by decide +kernel
theorem dX0_pass_79 : decode cX0_pass 79 = .ok (.istore 7, 2) := by decide +kernel
theorem dX0_pass_81 : decode cX0_pass 81 = .ok (.iconst 0, 1) := by decide +kernel
theorem dX0_pass_82 : decode cX0_pass 82 = .ok (.istore 8, 2) := by decide +kernel
theorem dX0_pass_84 : decode cX0_pass 84 = .ok (.iload 8, 2) := by decide +kernel
theorem dX0_pass_86 : decode cX0_pass 86 = .ok (.aload_n 0, 1) := by decide +kernel
theorem dX0_pass_87 : decode cX0_pass 87 = .ok (.getfield 47, 3) := by decide +kernel
theorem dX0_pass_90 : decode cX0_pass 90 = .ok (.if_icmp .ge 56, 3) := by decide +kernel
theorem dX0_pass_93 : decode cX0_pass 93 = .ok (.iload 4, 2) := by decide +kernel
theorem dX0_pass_95 : decode cX0_pass 95 = .ok (.iload 8, 2) := by decide +kernel
theorem dX0_pass_97 : decode cX0_pass 97 = .ok (.ishr, 1) := by decide +kernel
theorem dX0_pass_98 : decode cX0_pass 98 = .ok (.iconst 1, 1) := by decide +kernel
theorem dX0_pass_99 : decode cX0_pass 99 = .ok (.iand, 1) := by decide +kernel
theorem dX0_pass_100 : decode cX0_pass 100 = .ok (.ifCond .ne 40, 3) := by decide +kernel
theorem dX0_pass_103 : decode cX0_pass 103 = .ok (.iload_n 1, 1) := by decide +kernel
theorem dX0_pass_104 : decode cX0_pass 104 = .ok (.iload 8, 2) := by decide +kernel
theorem dX0_pass_106 : decode cX0_pass 106 = .ok (.ishr, 1) := by decide +kernel
theorem dX0_pass_107 : decode cX0_pass 107 = .ok (.iconst 1, 1) := by decide +kernel
theorem dX0_pass_108 : decode cX0_pass 108 = .ok (.iand, 1) := by decide +kernel
theorem dX0_pass_109 : decode cX0_pass 109 = .ok (.ifCond .eq 7, 3) := by decide +kernel
theorem dX0_pass_112 : decode cX0_pass 112 = .ok (.iconst 0, 1) := by decide +kernel
theorem dX0_pass_113 : decode cX0_pass 113 = .ok (.goto 10, 3) := by decide +kernel
theorem dX0_pass_116 : decode cX0_pass 116 = .ok (.aload_n 0, 1) := by decide +kernel
theorem dX0_pass_117 : decode cX0_pass 117 = .ok (.iload 8, 2) := by decide +kernel
theorem dX0_pass_119 : decode cX0_pass 119 = .ok (.iload_n 3, 1) := by decide +kernel
theorem dX0_pass_120 : decode cX0_pass 120 = .ok (.invokevirtual 75, 3) := by decide +kernel
theorem dX0_pass_123 : decode cX0_pass 123 = .ok (.istore 9, 2) := by decide +kernel
theorem dX0_pass_125 : decode cX0_pass 125 = .ok (.iload 9, 2) := by decide +kernel
theorem dX0_pass_127 : decode cX0_pass 127 = .ok (.iload 7, 2) := by decide +kernel
theorem dX0_pass_129 : decode cX0_pass 129 = .ok (.if_icmp .ge 11, 3) := by decide +kernel
theorem dX0_pass_132 : decode cX0_pass 132 = .ok (.iload 9, 2) := by decide +kernel
theorem dX0_pass_134 : decode cX0_pass 134 = .ok (.istore 7, 2) := by decide +kernel
theorem dX0_pass_136 : decode cX0_pass 136 = .ok (.iload 8, 2) := by decide +kernel
theorem dX0_pass_138 : decode cX0_pass 138 = .ok (.istore 6, 2) := by decide +kernel
theorem dX0_pass_140 : decode cX0_pass 140 = .ok (.iinc 8 1, 3) := by decide +kernel
theorem dX0_pass_143 : decode cX0_pass 143 = .ok (.goto (-59), 3) := by decide +kernel
theorem dX0_pass_146 : decode cX0_pass 146 = .ok (.iload 6, 2) := by decide +kernel
theorem dX0_pass_148 : decode cX0_pass 148 = .ok (.ifCond .ge 4, 3) := by decide +kernel
theorem dX0_pass_151 : decode cX0_pass 151 = .ok (.return_, 1) := by decide +kernel
theorem dX0_pass_152 : decode cX0_pass 152 = .ok (.iload 4, 2) := by decide +kernel
theorem dX0_pass_154 : decode cX0_pass 154 = .ok (.iconst 1, 1) := by decide +kernel
theorem dX0_pass_155 : decode cX0_pass 155 = .ok (.iload 6, 2) := by decide +kernel
theorem dX0_pass_157 : decode cX0_pass 157 = .ok (.ishl, 1) := by decide +kernel
theorem dX0_pass_158 : decode cX0_pass 158 = .ok (.ior, 1) := by decide +kernel
theorem dX0_pass_159 : decode cX0_pass 159 = .ok (.istore 4, 2) := by decide +kernel
theorem dX0_pass_161 : decode cX0_pass 161 = .ok (.aload_n 0, 1) := by decide +kernel
theorem dX0_pass_162 : decode cX0_pass 162 = .ok (.getfield 32, 3) := by decide +kernel
theorem dX0_pass_165 : decode cX0_pass 165 = .ok (.iload 6, 2) := by decide +kernel
theorem dX0_pass_167 : decode cX0_pass 167 = .ok (.iload 7, 2) := by decide +kernel
theorem dX0_pass_169 : decode cX0_pass 169 = .ok (.iastore, 1) := by decide +kernel
theorem dX0_pass_170 : decode cX0_pass 170 = .ok (.aload_n 0, 1) := by decide +kernel
theorem dX0_pass_171 : decode cX0_pass 171 = .ok (.iload 6, 2) := by decide +kernel
theorem dX0_pass_173 : decode cX0_pass 173 = .ok (.invokevirtual 79, 3) := by decide +kernel
theorem dX0_pass_176 : decode cX0_pass 176 = .ok (.iinc 5 1, 3) := by decide +kernel
theorem dX0_pass_179 : decode cX0_pass 179 = .ok (.goto (-115), 3) := by decide +kernel
theorem dX0_pass_182 : decode cX0_pass 182 = .ok (.return_, 1) := by decide +kernel
theorem dX0_minuteOut_0 : decode cX0_minuteOut 0 = .ok (.aload_n 0, 1) := by decide +kernel
theorem dX0_minuteOut_1 : decode cX0_minuteOut 1 = .ok (.getfield 35, 3) := by decide +kernel
theorem dX0_minuteOut_4 : decode cX0_minuteOut 4 = .ok (.iload_n 1, 1) := by decide +kernel
theorem dX0_minuteOut_5 : decode cX0_minuteOut 5 = .ok (.iaload, 1) := by decide +kernel
theorem dX0_minuteOut_6 : decode cX0_minuteOut 6 = .ok (.aload_n 0, 1) := by decide +kernel
theorem dX0_minuteOut_7 : decode cX0_minuteOut 7 = .ok (.getfield 16, 3) := by decide +kernel
theorem dX0_minuteOut_10 : decode cX0_minuteOut 10 = .ok (.iload_n 1, 1) := by decide +kernel
theorem dX0_minuteOut_11 : decode cX0_minuteOut 11 = .ok (.iaload, 1) := by decide +kernel
theorem dX0_minuteOut_12 : decode cX0_minuteOut 12 = .ok (.invokestatic 83, 3) := by decide +kernel
theorem dX0_minuteOut_15 : decode cX0_minuteOut 15 = .ok (.istore_n 3, 1) := by decide +kernel
theorem dX0_minuteOut_16 : decode cX0_minuteOut 16 = .ok (.iload_n 2, 1) := by decide +kernel
theorem dX0_minuteOut_17 : decode cX0_minuteOut 17 = .ok (.ifCond .eq 16, 3) := by decide +kernel
theorem dX0_minuteOut_20 : decode cX0_minuteOut 20 = .ok (.iload_n 3, 1) := by decide +kernel
theorem dX0_minuteOut_21 : decode cX0_minuteOut 21 = .ok (.aload_n 0, 1) := by decide +kernel
theorem dX0_minuteOut_22 : decode cX0_minuteOut 22 = .ok (.getfield 23, 3) := by decide +kernel
theorem dX0_minuteOut_25 : decode cX0_minuteOut 25 = .ok (.iload_n 1, 1) := by decide +kernel
theorem dX0_minuteOut_26 : decode cX0_minuteOut 26 = .ok (.iaload, 1) := by decide +kernel
theorem dX0_minuteOut_27 : decode cX0_minuteOut 27 = .ok (.invokestatic 88, 3) := by decide +kernel
theorem dX0_minuteOut_30 : decode cX0_minuteOut 30 = .ok (.goto 4, 3) := by decide +kernel
theorem dX0_minuteOut_33 : decode cX0_minuteOut 33 = .ok (.iload_n 3, 1) := by decide +kernel
theorem dX0_minuteOut_34 : decode cX0_minuteOut 34 = .ok (.ireturn, 1) := by decide +kernel
theorem dX0_openDoors_0 : decode cX0_openDoors 0 = .ok (.aload_n 0, 1) := by decide +kernel
theorem dX0_openDoors_1 : decode cX0_openDoors 1 = .ok (.getfield 32, 3) := by decide +kernel
theorem dX0_openDoors_4 : decode cX0_openDoors 4 = .ok (.iload_n 1, 1) := by decide +kernel
theorem dX0_openDoors_5 : decode cX0_openDoors 5 = .ok (.iaload, 1) := by decide +kernel
theorem dX0_openDoors_6 : decode cX0_openDoors 6 = .ok (.istore_n 2, 1) := by decide +kernel
theorem dX0_openDoors_7 : decode cX0_openDoors 7 = .ok (.iload_n 1, 1) := by decide +kernel
theorem dX0_openDoors_8 : decode cX0_openDoors 8 = .ok (.istore_n 3, 1) := by decide +kernel
theorem dX0_openDoors_9 : decode cX0_openDoors 9 = .ok (.iconst 0, 1) := by decide +kernel
theorem dX0_openDoors_10 : decode cX0_openDoors 10 = .ok (.istore 4, 2) := by decide +kernel
theorem dX0_openDoors_12 : decode cX0_openDoors 12 = .ok (.iload 4, 2) := by decide +kernel
theorem dX0_openDoors_14 : decode cX0_openDoors 14 = .ok (.aload_n 0, 1) := by decide +kernel
theorem dX0_openDoors_15 : decode cX0_openDoors 15 = .ok (.getfield 47, 3) := by decide +kernel
theorem dX0_openDoors_18 : decode cX0_openDoors 18 = .ok (.if_icmp .ge 101, 3) := by decide +kernel
theorem dX0_openDoors_21 : decode cX0_openDoors 21 = .ok (.aload_n 0, 1) := by decide +kernel
theorem dX0_openDoors_22 : decode cX0_openDoors 22 = .ok (.getfield 29, 3) := by decide +kernel
theorem dX0_openDoors_25 : decode cX0_openDoors 25 = .ok (.iload_n 1, 1) := by decide +kernel
theorem dX0_openDoors_26 : decode cX0_openDoors 26 = .ok (.iaload, 1) := by decide +kernel
theorem dX0_openDoors_27 : decode cX0_openDoors 27 = .ok (.iload 4, 2) := by decide +kernel
theorem dX0_openDoors_29 : decode cX0_openDoors 29 = .ok (.ishr, 1) := by decide +kernel
theorem dX0_openDoors_30 : decode cX0_openDoors 30 = .ok (.iconst 1, 1) := by decide +kernel
theorem dX0_openDoors_31 : decode cX0_openDoors 31 = .ok (.iand, 1) := by decide +kernel
theorem dX0_openDoors_32 : decode cX0_openDoors 32 = .ok (.ifCond .eq 81, 3) := by decide +kernel
theorem dX0_openDoors_35 : decode cX0_openDoors 35 = .ok (.iload_n 2, 1) := by decide +kernel
theorem dX0_openDoors_36 : decode cX0_openDoors 36 = .ok (.aload_n 0, 1) := by decide +kernel
theorem dX0_openDoors_37 : decode cX0_openDoors 37 = .ok (.getfield 26, 3) := by decide +kernel
theorem dX0_openDoors_40 : decode cX0_openDoors 40 = .ok (.iload_n 1, 1) := by decide +kernel
theorem dX0_openDoors_41 : decode cX0_openDoors 41 = .ok (.iaload, 1) := by decide +kernel
theorem dX0_openDoors_42 : decode cX0_openDoors 42 = .ok (.aload_n 0, 1) := by decide +kernel
theorem dX0_openDoors_43 : decode cX0_openDoors 43 = .ok (.getfield 11, 3) := by decide +kernel
theorem dX0_openDoors_46 : decode cX0_openDoors 46 = .ok (.iload_n 3, 1) := by decide +kernel
theorem dX0_openDoors_47 : decode cX0_openDoors 47 = .ok (.aaload, 1) := by decide +kernel
theorem dX0_openDoors_48 : decode cX0_openDoors 48 = .ok (.iload 4, 2) := by decide +kernel
theorem dX0_openDoors_50 : decode cX0_openDoors 50 = .ok (.iaload, 1) := by decide +kernel
theorem dX0_openDoors_51 : decode cX0_openDoors 51 = .ok (.imul, 1) := by decide +kernel
theorem dX0_openDoors_52 : decode cX0_openDoors 52 = .ok (.aload_n 0, 1) := by decide +kernel
theorem dX0_openDoors_53 : decode cX0_openDoors 53 = .ok (.getfield 20, 3) := by decide +kernel
theorem dX0_openDoors_56 : decode cX0_openDoors 56 = .ok (.iload_n 1, 1) := by decide +kernel
theorem dX0_openDoors_57 : decode cX0_openDoors 57 = .ok (.iaload, 1) := by decide +kernel
theorem dX0_openDoors_58 : decode cX0_openDoors 58 = .ok (.iadd, 1) := by decide +kernel
theorem dX0_openDoors_59 : decode cX0_openDoors 59 = .ok (.iadd, 1) := by decide +kernel
theorem dX0_openDoors_60 : decode cX0_openDoors 60 = .ok (.istore_n 2, 1) := by decide +kernel
theorem dX0_openDoors_61 : decode cX0_openDoors 61 = .ok (.iload 4, 2) := by decide +kernel
theorem dX0_openDoors_63 : decode cX0_openDoors 63 = .ok (.istore_n 3, 1) := by decide +kernel
theorem dX0_openDoors_64 : decode cX0_openDoors 64 = .ok (.iload_n 2, 1) := by decide +kernel
theorem dX0_openDoors_65 : decode cX0_openDoors 65 = .ok (.aload_n 0, 1) := by decide +kernel
theorem dX0_openDoors_66 : decode cX0_openDoors 66 = .ok (.getfield 35, 3) := by decide +kernel
theorem dX0_openDoors_69 : decode cX0_openDoors 69 = .ok (.iload 4, 2) := by decide +kernel
theorem dX0_openDoors_71 : decode cX0_openDoors 71 = .ok (.iaload, 1) := by decide +kernel
theorem dX0_openDoors_72 : decode cX0_openDoors 72 = .ok (.if_icmp .lt 25, 3) := by decide +kernel
theorem dX0_openDoors_75 : decode cX0_openDoors 75 = .ok (.iload_n 2, 1) := by decide +kernel
theorem dX0_openDoors_76 : decode cX0_openDoors 76 = .ok (.aload_n 0, 1) := by decide +kernel
theorem dX0_openDoors_77 : decode cX0_openDoors 77 = .ok (.getfield 35, 3) := by decide +kernel
theorem dX0_openDoors_80 : decode cX0_openDoors 80 = .ok (.iload 4, 2) := by decide +kernel
theorem dX0_openDoors_82 : decode cX0_openDoors 82 = .ok (.iaload, 1) := by decide +kernel
theorem dX0_openDoors_83 : decode cX0_openDoors 83 = .ok (.if_icmp .ne 30, 3) := by decide +kernel
theorem dX0_openDoors_86 : decode cX0_openDoors 86 = .ok (.iload_n 1, 1) := by decide +kernel
theorem dX0_openDoors_87 : decode cX0_openDoors 87 = .ok (.aload_n 0, 1) := by decide +kernel
theorem dX0_openDoors_88 : decode cX0_openDoors 88 = .ok (.getfield 38, 3) := by decide +kernel
theorem dX0_openDoors_91 : decode cX0_openDoors 91 = .ok (.iload 4, 2) := by decide +kernel
theorem dX0_openDoors_93 : decode cX0_openDoors 93 = .ok (.iaload, 1) := by decide +kernel
theorem dX0_openDoors_94 : decode cX0_openDoors 94 = .ok (.if_icmp .ge 19, 3) := by decide +kernel
theorem dX0_openDoors_97 : decode cX0_openDoors 97 = .ok (.aload_n 0, 1) := by decide +kernel
theorem dX0_openDoors_98 : decode cX0_openDoors 98 = .ok (.getfield 35, 3) := by decide +kernel
theorem dX0_openDoors_101 : decode cX0_openDoors 101 = .ok (.iload 4, 2) := by decide +kernel
theorem dX0_openDoors_103 : decode cX0_openDoors 103 = .ok (.iload_n 2, 1) := by decide +kernel
theorem dX0_openDoors_104 : decode cX0_openDoors 104 = .ok (.iastore, 1) := by decide +kernel
theorem dX0_openDoors_105 : decode cX0_openDoors 105 = .ok (.aload_n 0, 1) := by decide +kernel
theorem dX0_openDoors_106 : decode cX0_openDoors 106 = .ok (.getfield 38, 3) := by decide +kernel
theorem dX0_openDoors_109 : decode cX0_openDoors 109 = .ok (.iload 4, 2) := by decide +kernel
theorem dX0_openDoors_111 : decode cX0_openDoors 111 = .ok (.iload_n 1, 1) := by decide +kernel
theorem dX0_openDoors_112 : decode cX0_openDoors 112 = .ok (.iastore, 1) := by decide +kernel
theorem dX0_openDoors_113 : decode cX0_openDoors 113 = .ok (.iinc 4 1, 3) := by decide +kernel
theorem dX0_openDoors_116 : decode cX0_openDoors 116 = .ok (.goto (-104), 3) := by decide +kernel
theorem dX0_openDoors_119 : decode cX0_openDoors 119 = .ok (.return_, 1) := by decide +kernel
theorem dX0_lastOut_0 : decode cX0_lastOut 0 = .ok (.iconst 0, 1) := by decide +kernel
theorem dX0_lastOut_1 : decode cX0_lastOut 1 = .ok (.istore_n 1, 1) := by decide +kernel
theorem dX0_lastOut_2 : decode cX0_lastOut 2 = .ok (.iconst 0, 1) := by decide +kernel
theorem dX0_lastOut_3 : decode cX0_lastOut 3 = .ok (.istore_n 2, 1) := by decide +kernel
theorem dX0_lastOut_4 : decode cX0_lastOut 4 = .ok (.iload_n 2, 1) := by decide +kernel
theorem dX0_lastOut_5 : decode cX0_lastOut 5 = .ok (.aload_n 0, 1) := by decide +kernel
theorem dX0_lastOut_6 : decode cX0_lastOut 6 = .ok (.getfield 47, 3) := by decide +kernel
theorem dX0_lastOut_9 : decode cX0_lastOut 9 = .ok (.if_icmp .ge 20, 3) := by decide +kernel
theorem dX0_lastOut_12 : decode cX0_lastOut 12 = .ok (.iload_n 1, 1) := by decide +kernel
theorem dX0_lastOut_13 : decode cX0_lastOut 13 = .ok (.aload_n 0, 1) := by decide +kernel
theorem dX0_lastOut_14 : decode cX0_lastOut 14 = .ok (.getfield 32, 3) := by decide +kernel
theorem dX0_lastOut_17 : decode cX0_lastOut 17 = .ok (.iload_n 2, 1) := by decide +kernel
theorem dX0_lastOut_18 : decode cX0_lastOut 18 = .ok (.iaload, 1) := by decide +kernel
theorem dX0_lastOut_19 : decode cX0_lastOut 19 = .ok (.invokestatic 83, 3) := by decide +kernel
theorem dX0_lastOut_22 : decode cX0_lastOut 22 = .ok (.istore_n 1, 1) := by decide +kernel
theorem dX0_lastOut_23 : decode cX0_lastOut 23 = .ok (.iinc 2 1, 3) := by decide +kernel
theorem dX0_lastOut_26 : decode cX0_lastOut 26 = .ok (.goto (-22), 3) := by decide +kernel
theorem dX0_lastOut_29 : decode cX0_lastOut 29 = .ok (.iload_n 1, 1) := by decide +kernel
theorem dX0_lastOut_30 : decode cX0_lastOut 30 = .ok (.ireturn, 1) := by decide +kernel
theorem dX0_everOut_0 : decode cX0_everOut 0 = .ok (.iconst 0, 1) := by decide +kernel
theorem dX0_everOut_1 : decode cX0_everOut 1 = .ok (.istore_n 1, 1) := by decide +kernel
theorem dX0_everOut_2 : decode cX0_everOut 2 = .ok (.iconst 0, 1) := by decide +kernel
theorem dX0_everOut_3 : decode cX0_everOut 3 = .ok (.istore_n 2, 1) := by decide +kernel
theorem dX0_everOut_4 : decode cX0_everOut 4 = .ok (.iload_n 2, 1) := by decide +kernel
theorem dX0_everOut_5 : decode cX0_everOut 5 = .ok (.aload_n 0, 1) := by decide +kernel
theorem dX0_everOut_6 : decode cX0_everOut 6 = .ok (.getfield 47, 3) := by decide +kernel
theorem dX0_everOut_9 : decode cX0_everOut 9 = .ok (.if_icmp .ge 26, 3) := by decide +kernel
theorem dX0_everOut_12 : decode cX0_everOut 12 = .ok (.aload_n 0, 1) := by decide +kernel
theorem dX0_everOut_13 : decode cX0_everOut 13 = .ok (.getfield 32, 3) := by decide +kernel
theorem dX0_everOut_16 : decode cX0_everOut 16 = .ok (.iload_n 2, 1) := by decide +kernel
theorem dX0_everOut_17 : decode cX0_everOut 17 = .ok (.iaload, 1) := by decide +kernel
theorem dX0_everOut_18 : decode cX0_everOut 18 = .ok (.ldc 74, 2) := by decide +kernel
theorem dX0_everOut_20 : decode cX0_everOut 20 = .ok (.if_icmp .eq 9, 3) := by decide +kernel
theorem dX0_everOut_23 : decode cX0_everOut 23 = .ok (.iload_n 1, 1) := by decide +kernel
theorem dX0_everOut_24 : decode cX0_everOut 24 = .ok (.iconst 1, 1) := by decide +kernel
theorem dX0_everOut_25 : decode cX0_everOut 25 = .ok (.iload_n 2, 1) := by decide +kernel
theorem dX0_everOut_26 : decode cX0_everOut 26 = .ok (.ishl, 1) := by decide +kernel
theorem dX0_everOut_27 : decode cX0_everOut 27 = .ok (.ior, 1) := by decide +kernel
theorem dX0_everOut_28 : decode cX0_everOut 28 = .ok (.istore_n 1, 1) := by decide +kernel
theorem dX0_everOut_29 : decode cX0_everOut 29 = .ok (.iinc 2 1, 3) := by decide +kernel
theorem dX0_everOut_32 : decode cX0_everOut 32 = .ok (.goto (-28), 3) := by decide +kernel
theorem dX0_everOut_35 : decode cX0_everOut 35 = .ok (.iload_n 1, 1) := by decide +kernel
theorem dX0_everOut_36 : decode cX0_everOut 36 = .ok (.ireturn, 1) := by decide +kernel
theorem dX1_init_0 : decode cX1_init 0 = .ok (.aload_n 0, 1) := by decide +kernel
theorem dX1_init_1 : decode cX1_init 1 = .ok (.invokespecial 3, 3) := by decide +kernel
theorem dX1_init_4 : decode cX1_init 4 = .ok (.aload_n 0, 1) := by decide +kernel
theorem dX1_init_5 : decode cX1_init 5 = .ok (.iconst 0, 1) := by decide +kernel
theorem dX1_init_6 : decode cX1_init 6 = .ok (.newarray .int, 2) := by decide +kernel
theorem dX1_init_8 : decode cX1_init 8 = .ok (.putfield 9, 3) := by decide +kernel
theorem dX1_init_11 : decode cX1_init 11 = .ok (.aload_n 0, 1) := by decide +kernel
theorem dX1_init_12 : decode cX1_init 12 = .ok (.iconst 5, 1) := by decide +kernel
theorem dX1_init_13 : decode cX1_init 13 = .ok (.newarray .int, 2) := by decide +kernel
theorem dX1_init_15 : decode cX1_init 15 = .ok (.putfield 15, 3) := by decide +kernel
theorem dX1_init_18 : decode cX1_init 18 = .ok (.return_, 1) := by decide +kernel
theorem dX1_readInto_0 : decode cX1_readInto 0 = .ok (.aload_n 0, 1) := by decide +kernel
theorem dX1_readInto_1 : decode cX1_readInto 1 = .ok (.aload_n 2, 1) := by decide +kernel
theorem dX1_readInto_2 : decode cX1_readInto 2 = .ok (.putfield 9, 3) := by decide +kernel
theorem dX1_readInto_5 : decode cX1_readInto 5 = .ok (.aload_n 0, 1) := by decide +kernel
theorem dX1_readInto_6 : decode cX1_readInto 6 = .ok (.iload_n 3, 1) := by decide +kernel
theorem dX1_readInto_7 : decode cX1_readInto 7 = .ok (.aload_n 2, 1) := by decide +kernel
theorem dX1_readInto_8 : decode cX1_readInto 8 = .ok (.arraylength, 1) := by decide +kernel
theorem dX1_readInto_9 : decode cX1_readInto 9 = .ok (.invokestatic 18, 3) := by decide +kernel
theorem dX1_readInto_12 : decode cX1_readInto 12 = .ok (.putfield 24, 3) := by decide +kernel
theorem dX1_readInto_15 : decode cX1_readInto 15 = .ok (.aload_n 0, 1) := by decide +kernel
theorem dX1_readInto_16 : decode cX1_readInto 16 = .ok (.invokevirtual 28, 3) := by decide +kernel
theorem dX1_readInto_19 : decode cX1_readInto 19 = .ok (.ifCond .ne 12, 3) := by decide +kernel
theorem dX1_readInto_22 : decode cX1_readInto 22 = .ok (.sipush (-1000), 3) := by decide +kernel
theorem dX1_readInto_25 : decode cX1_readInto 25 = .ok (.aload_n 0, 1) := by decide +kernel
theorem dX1_readInto_26 : decode cX1_readInto 26 = .ok (.getfield 32, 3) := by decide +kernel
theorem dX1_readInto_29 : decode cX1_readInto 29 = .ok (.isub, 1) := by decide +kernel
theorem dX1_readInto_30 : decode cX1_readInto 30 = .ok (.ireturn, 1) := by decide +kernel
theorem dX1_readInto_31 : decode cX1_readInto 31 = .ok (.aload_n 0, 1) := by decide +kernel
theorem dX1_readInto_32 : decode cX1_readInto 32 = .ok (.iconst 0, 1) := by decide +kernel
theorem dX1_readInto_33 : decode cX1_readInto 33 = .ok (.putfield 32, 3) := by decide +kernel
theorem dX1_readInto_36 : decode cX1_readInto 36 = .ok (.iconst 0, 1) := by decide +kernel
theorem dX1_readInto_37 : decode cX1_readInto 37 = .ok (.istore 4, 2) := by decide +kernel
theorem dX1_readInto_39 : decode cX1_readInto 39 = .ok (.iconst 0, 1) := by decide +kernel
theorem dX1_readInto_40 : decode cX1_readInto 40 = .ok (.istore 5, 2) := by decide +kernel
theorem dX1_readInto_42 : decode cX1_readInto 42 = .ok (.iload 5, 2) := by decide +kernel
theorem dX1_readInto_44 : decode cX1_readInto 44 = .ok (.bipush 80, 2) := by decide +kernel
theorem dX1_readInto_46 : decode cX1_readInto 46 = .ok (.if_icmp .ge 51, 3) := by decide +kernel
theorem dX1_readInto_49 : decode cX1_readInto 49 = .ok (.aload_n 0, 1) := by decide +kernel
theorem dX1_readInto_50 : decode cX1_readInto 50 = .ok (.getfield 32, 3) := by decide +kernel
theorem dX1_readInto_53 : decode cX1_readInto 53 = .ok (.aload_n 0, 1) := by decide +kernel
theorem dX1_readInto_54 : decode cX1_readInto 54 = .ok (.getfield 24, 3) := by decide +kernel
theorem dX1_readInto_57 : decode cX1_readInto 57 = .ok (.if_icmp .ge 40, 3) := by decide +kernel
theorem dX1_readInto_60 : decode cX1_readInto 60 = .ok (.aload_n 0, 1) := by decide +kernel
theorem dX1_readInto_61 : decode cX1_readInto 61 = .ok (.getfield 32, 3) := by decide +kernel
theorem dX1_readInto_64 : decode cX1_readInto 64 = .ok (.istore 6, 2) := by decide +kernel
theorem dX1_readInto_66 : decode cX1_readInto 66 = .ok (.aload_n 0, 1) := by decide +kernel
theorem dX1_readInto_67 : decode cX1_readInto 67 = .ok (.invokevirtual 35, 3) := by decide +kernel
theorem dX1_readInto_70 : decode cX1_readInto 70 = .ok (.ifCond .eq 11, 3) := by decide +kernel
theorem dX1_readInto_73 : decode cX1_readInto 73 = .ok (.aload_n 0, 1) := by decide +kernel
theorem dX1_readInto_74 : decode cX1_readInto 74 = .ok (.aload_n 1, 1) := by decide +kernel
theorem dX1_readInto_75 : decode cX1_readInto 75 = .ok (.invokevirtual 38, 3) := by decide +kernel
theorem dX1_readInto_78 : decode cX1_readInto 78 = .ok (.ifCond .ne 10, 3) := by decide +kernel
theorem dX1_readInto_81 : decode cX1_readInto 81 = .ok (.sipush (-2000), 3) := by decide +kernel
theorem dX1_readInto_84 : decode cX1_readInto 84 = .ok (.iload 6, 2) := by decide +kernel
theorem dX1_readInto_86 : decode cX1_readInto 86 = .ok (.isub, 1) := by decide +kernel
theorem dX1_readInto_87 : decode cX1_readInto 87 = .ok (.ireturn, 1) := by decide +kernel
theorem dX1_readInto_88 : decode cX1_readInto 88 = .ok (.iinc 4 1, 3) := by decide +kernel
theorem dX1_readInto_91 : decode cX1_readInto 91 = .ok (.iinc 5 1, 3) := by decide +kernel
theorem dX1_readInto_94 : decode cX1_readInto 94 = .ok (.goto (-52), 3) := by decide +kernel
theorem dX1_readInto_97 : decode cX1_readInto 97 = .ok (.iload 4, 2) := by decide +kernel
theorem dX1_readInto_99 : decode cX1_readInto 99 = .ok (.ireturn, 1) := by decide +kernel
theorem dX1_allStatementsParse_0 : decode cX1_allStatementsParse 0 = .ok (.aload_n 0, 1) := by decide +kernel
theorem dX1_allStatementsParse_1 : decode cX1_allStatementsParse 1 = .ok (.iconst 0, 1) := by decide +kernel
theorem dX1_allStatementsParse_2 : decode cX1_allStatementsParse 2 = .ok (.putfield 32, 3) := by decide +kernel
theorem dX1_allStatementsParse_5 : decode cX1_allStatementsParse 5 = .ok (.aload_n 0, 1) := by decide +kernel
theorem dX1_allStatementsParse_6 : decode cX1_allStatementsParse 6 = .ok (.invokevirtual 35, 3) := by decide +kernel
theorem dX1_allStatementsParse_9 : decode cX1_allStatementsParse 9 = .ok (.ifCond .ne 5, 3) := by decide +kernel
theorem dX1_allStatementsParse_12 : decode cX1_allStatementsParse 12 = .ok (.iconst 0, 1) := by decide +kernel
theorem dX1_allStatementsParse_13 : decode cX1_allStatementsParse 13 = .ok (.ireturn, 1) := by decide +kernel
theorem dX1_allStatementsParse_14 : decode cX1_allStatementsParse 14 = .ok (.iconst 0, 1) := by decide +kernel
theorem dX1_allStatementsParse_15 : decode cX1_allStatementsParse 15 = .ok (.istore_n 1, 1) := by decide +kernel
theorem dX1_allStatementsParse_16 : decode cX1_allStatementsParse 16 = .ok (.iload_n 1, 1) := by decide +kernel
theorem dX1_allStatementsParse_17 : decode cX1_allStatementsParse 17 = .ok (.bipush 80, 2) := by decide +kernel
theorem dX1_allStatementsParse_19 : decode cX1_allStatementsParse 19 = .ok (.if_icmp .ge 29, 3) := by decide +kernel
theorem dX1_allStatementsParse_22 : decode cX1_allStatementsParse 22 = .ok (.aload_n 0, 1) := by decide +kernel
theorem dX1_allStatementsParse_23 : decode cX1_allStatementsParse 23 = .ok (.getfield 32, 3) := by decide +kernel
theorem dX1_allStatementsParse_26 : decode cX1_allStatementsParse 26 = .ok (.aload_n 0, 1) := by decide +kernel
theorem dX1_allStatementsParse_27 : decode cX1_allStatementsParse 27 = .ok (.getfield 24, 3) := by decide +kernel
theorem dX1_allStatementsParse_30 : decode cX1_allStatementsParse 30 = .ok (.if_icmp .ge 18, 3) := by decide +kernel
theorem dX1_allStatementsParse_33 : decode cX1_allStatementsParse 33 = .ok (.aload_n 0, 1) := by decide +kernel
theorem dX1_allStatementsParse_34 : decode cX1_allStatementsParse 34 = .ok (.invokevirtual 35, 3) := by decide +kernel
theorem dX1_allStatementsParse_37 : decode cX1_allStatementsParse 37 = .ok (.ifCond .ne 5, 3) := by decide +kernel
theorem dX1_allStatementsParse_40 : decode cX1_allStatementsParse 40 = .ok (.iconst 0, 1) := by decide +kernel
theorem dX1_allStatementsParse_41 : decode cX1_allStatementsParse 41 = .ok (.ireturn, 1) := by decide +kernel
theorem dX1_allStatementsParse_42 : decode cX1_allStatementsParse 42 = .ok (.iinc 1 1, 3) := by decide +kernel
theorem dX1_allStatementsParse_45 : decode cX1_allStatementsParse 45 = .ok (.goto (-29), 3) := by decide +kernel
theorem dX1_allStatementsParse_48 : decode cX1_allStatementsParse 48 = .ok (.iconst 1, 1) := by decide +kernel
theorem dX1_allStatementsParse_49 : decode cX1_allStatementsParse 49 = .ok (.ireturn, 1) := by decide +kernel
theorem dX1_parseStatement_0 : decode cX1_parseStatement 0 = .ok (.aload_n 0, 1) := by decide +kernel
theorem dX1_parseStatement_1 : decode cX1_parseStatement 1 = .ok (.getfield 32, 3) := by decide +kernel
theorem dX1_parseStatement_4 : decode cX1_parseStatement 4 = .ok (.aload_n 0, 1) := by decide +kernel
theorem dX1_parseStatement_5 : decode cX1_parseStatement 5 = .ok (.getfield 24, 3) := by decide +kernel
theorem dX1_parseStatement_8 : decode cX1_parseStatement 8 = .ok (.if_icmp .ge 15, 3) := by decide +kernel
theorem dX1_parseStatement_11 : decode cX1_parseStatement 11 = .ok (.aload_n 0, 1) := by decide +kernel
theorem dX1_parseStatement_12 : decode cX1_parseStatement 12 = .ok (.getfield 32, 3) := by decide +kernel
theorem dX1_parseStatement_15 : decode cX1_parseStatement 15 = .ok (.aload_n 0, 1) := by decide +kernel
theorem dX1_parseStatement_16 : decode cX1_parseStatement 16 = .ok (.getfield 9, 3) := by decide +kernel
theorem dX1_parseStatement_19 : decode cX1_parseStatement 19 = .ok (.arraylength, 1) := by decide +kernel
theorem dX1_parseStatement_20 : decode cX1_parseStatement 20 = .ok (.if_icmp .lt 5, 3) := by decide +kernel
theorem dX1_parseStatement_23 : decode cX1_parseStatement 23 = .ok (.iconst 0, 1) := by decide +kernel
theorem dX1_parseStatement_24 : decode cX1_parseStatement 24 = .ok (.ireturn, 1) := by decide +kernel
theorem dX1_parseStatement_25 : decode cX1_parseStatement 25 = .ok (.aload_n 0, 1) := by decide +kernel
theorem dX1_parseStatement_26 : decode cX1_parseStatement 26 = .ok (.aload_n 0, 1) := by decide +kernel
theorem dX1_parseStatement_27 : decode cX1_parseStatement 27 = .ok (.getfield 9, 3) := by decide +kernel
theorem dX1_parseStatement_30 : decode cX1_parseStatement 30 = .ok (.aload_n 0, 1) := by decide +kernel
theorem dX1_parseStatement_31 : decode cX1_parseStatement 31 = .ok (.getfield 32, 3) := by decide +kernel
theorem dX1_parseStatement_34 : decode cX1_parseStatement 34 = .ok (.iaload, 1) := by decide +kernel
theorem dX1_parseStatement_35 : decode cX1_parseStatement 35 = .ok (.putfield 42, 3) := by decide +kernel
theorem dX1_parseStatement_38 : decode cX1_parseStatement 38 = .ok (.aload_n 0, 1) := by decide +kernel
theorem dX1_parseStatement_39 : decode cX1_parseStatement 39 = .ok (.iconst 0, 1) := by decide +kernel
theorem dX1_parseStatement_40 : decode cX1_parseStatement 40 = .ok (.putfield 45, 3) := by decide +kernel
theorem dX1_parseStatement_43 : decode cX1_parseStatement 43 = .ok (.aload_n 0, 1) := by decide +kernel
theorem dX1_parseStatement_44 : decode cX1_parseStatement 44 = .ok (.getfield 42, 3) := by decide +kernel
theorem dX1_parseStatement_47 : decode cX1_parseStatement 47 = .ok (.tableswitch 247 107 119 #[156, 247, 247, 247, 230, 65, 247, 230, 197, 247, 247, 247, 197], 65) := by decide +kernel
theorem dX1_parseStatement_112 : decode cX1_parseStatement 112 = .ok (.aload_n 0, 1) := by decide +kernel
theorem dX1_parseStatement_113 : decode cX1_parseStatement 113 = .ok (.dup, 1) := by decide +kernel
theorem dX1_parseStatement_114 : decode cX1_parseStatement 114 = .ok (.getfield 32, 3) := by decide +kernel
theorem dX1_parseStatement_117 : decode cX1_parseStatement 117 = .ok (.iconst 1, 1) := by decide +kernel
theorem dX1_parseStatement_118 : decode cX1_parseStatement 118 = .ok (.iadd, 1) := by decide +kernel
theorem dX1_parseStatement_119 : decode cX1_parseStatement 119 = .ok (.putfield 32, 3) := by decide +kernel
theorem dX1_parseStatement_122 : decode cX1_parseStatement 122 = .ok (.aload_n 0, 1) := by decide +kernel
theorem dX1_parseStatement_123 : decode cX1_parseStatement 123 = .ok (.invokevirtual 48, 3) := by decide +kernel
theorem dX1_parseStatement_126 : decode cX1_parseStatement 126 = .ok (.ifCond .eq 75, 3) := by decide +kernel
theorem dX1_parseStatement_129 : decode cX1_parseStatement 129 = .ok (.aload_n 0, 1) := by decide +kernel
theorem dX1_parseStatement_130 : decode cX1_parseStatement 130 = .ok (.iconst 2, 1) := by decide +kernel
theorem dX1_parseStatement_131 : decode cX1_parseStatement 131 = .ok (.invokevirtual 51, 3) := by decide +kernel
theorem dX1_parseStatement_134 : decode cX1_parseStatement 134 = .ok (.ifCond .eq 67, 3) := by decide +kernel
theorem dX1_parseStatement_137 : decode cX1_parseStatement 137 = .ok (.aload_n 0, 1) := by decide +kernel
theorem dX1_parseStatement_138 : decode cX1_parseStatement 138 = .ok (.bipush 44, 2) := by decide +kernel
theorem dX1_parseStatement_140 : decode cX1_parseStatement 140 = .ok (.invokevirtual 55, 3) := by decide +kernel
theorem dX1_parseStatement_143 : decode cX1_parseStatement 143 = .ok (.ifCond .eq 58, 3) := by decide +kernel
theorem dX1_parseStatement_146 : decode cX1_parseStatement 146 = .ok (.aload_n 0, 1) := by decide +kernel
theorem dX1_parseStatement_147 : decode cX1_parseStatement 147 = .ok (.iconst 1, 1) := by decide +kernel
theorem dX1_parseStatement_148 : decode cX1_parseStatement 148 = .ok (.invokevirtual 51, 3) := by decide +kernel
theorem dX1_parseStatement_151 : decode cX1_parseStatement 151 = .ok (.ifCond .eq 50, 3) := by decide +kernel
theorem dX1_parseStatement_154 : decode cX1_parseStatement 154 = .ok (.aload_n 0, 1) := by decide +kernel
theorem dX1_parseStatement_155 : decode cX1_parseStatement 155 = .ok (.bipush 44, 2) := by decide +kernel
theorem dX1_parseStatement_157 : decode cX1_parseStatement 157 = .ok (.invokevirtual 55, 3) := by decide +kernel
theorem dX1_parseStatement_160 : decode cX1_parseStatement 160 = .ok (.ifCond .eq 41, 3) := by decide +kernel
theorem dX1_parseStatement_163 : decode cX1_parseStatement 163 = .ok (.aload_n 0, 1) := by decide +kernel
theorem dX1_parseStatement_164 : decode cX1_parseStatement 164 = .ok (.iconst 3, 1) := by decide +kernel
theorem dX1_parseStatement_165 : decode cX1_parseStatement 165 = .ok (.invokevirtual 51, 3) := by decide +kernel
theorem dX1_parseStatement_168 : decode cX1_parseStatement 168 = .ok (.ifCond .eq 33, 3) := by decide +kernel
theorem dX1_parseStatement_171 : decode cX1_parseStatement 171 = .ok (.aload_n 0, 1) := by decide +kernel
theorem dX1_parseStatement_172 : decode cX1_parseStatement 172 = .ok (.bipush 44, 2) := by decide +kernel
theorem dX1_parseStatement_174 : decode cX1_parseStatement 174 = .ok (.invokevirtual 55, 3) := by decide +kernel
theorem dX1_parseStatement_177 : decode cX1_parseStatement 177 = .ok (.ifCond .eq 24, 3) := by decide +kernel
theorem dX1_parseStatement_180 : decode cX1_parseStatement 180 = .ok (.aload_n 0, 1) := by decide +kernel
theorem dX1_parseStatement_181 : decode cX1_parseStatement 181 = .ok (.iconst 1, 1) := by decide +kernel
theorem dX1_parseStatement_182 : decode cX1_parseStatement 182 = .ok (.invokevirtual 51, 3) := by decide +kernel
theorem dX1_parseStatement_185 : decode cX1_parseStatement 185 = .ok (.ifCond .eq 16, 3) := by decide +kernel
theorem dX1_parseStatement_188 : decode cX1_parseStatement 188 = .ok (.aload_n 0, 1) := by decide +kernel
theorem dX1_parseStatement_189 : decode cX1_parseStatement 189 = .ok (.bipush 59, 2) := by decide +kernel
theorem dX1_parseStatement_191 : decode cX1_parseStatement 191 = .ok (.invokevirtual 55, 3) := by decide +kernel
theorem dX1_parseStatement_194 : decode cX1_parseStatement 194 = .ok (.ifCond .eq 7, 3) := by decide +kernel
theorem dX1_parseStatement_197 : decode cX1_parseStatement 197 = .ok (.iconst 1, 1) := by decide +kernel
theorem dX1_parseStatement_198 : decode cX1_parseStatement 198 = .ok (.goto 4, 3) := by decide +kernel
theorem dX1_parseStatement_201 : decode cX1_parseStatement 201 = .ok (.iconst 0, 1) := by decide +kernel
theorem dX1_parseStatement_202 : decode cX1_parseStatement 202 = .ok (.ireturn, 1) := by decide +kernel
theorem dX1_parseStatement_203 : decode cX1_parseStatement 203 = .ok (.aload_n 0, 1) := by decide +kernel
theorem dX1_parseStatement_204 : decode cX1_parseStatement 204 = .ok (.dup, 1) := by decide +kernel
theorem dX1_parseStatement_205 : decode cX1_parseStatement 205 = .ok (.getfield 32, 3) := by decide +kernel
theorem dX1_parseStatement_208 : decode cX1_parseStatement 208 = .ok (.iconst 1, 1) := by decide +kernel
theorem dX1_parseStatement_209 : decode cX1_parseStatement 209 = .ok (.iadd, 1) := by decide +kernel
theorem dX1_parseStatement_210 : decode cX1_parseStatement 210 = .ok (.putfield 32, 3) := by decide +kernel
theorem dX1_parseStatement_213 : decode cX1_parseStatement 213 = .ok (.aload_n 0, 1) := by decide +kernel
theorem dX1_parseStatement_214 : decode cX1_parseStatement 214 = .ok (.iconst 1, 1) := by decide +kernel
theorem dX1_parseStatement_215 : decode cX1_parseStatement 215 = .ok (.invokevirtual 51, 3) := by decide +kernel
theorem dX1_parseStatement_218 : decode cX1_parseStatement 218 = .ok (.ifCond .eq 24, 3) := by decide +kernel
theorem dX1_parseStatement_221 : decode cX1_parseStatement 221 = .ok (.aload_n 0, 1) := by decide +kernel
theorem dX1_parseStatement_222 : decode cX1_parseStatement 222 = .ok (.iconst 1, 1) := by decide +kernel
theorem dX1_parseStatement_223 : decode cX1_parseStatement 223 = .ok (.invokevirtual 51, 3) := by decide +kernel
theorem dX1_parseStatement_226 : decode cX1_parseStatement 226 = .ok (.ifCond .eq 16, 3) := by decide +kernel
theorem dX1_parseStatement_229 : decode cX1_parseStatement 229 = .ok (.aload_n 0, 1) := by decide +kernel
theorem dX1_parseStatement_230 : decode cX1_parseStatement 230 = .ok (.bipush 59, 2) := by decide +kernel
theorem dX1_parseStatement_232 : decode cX1_parseStatement 232 = .ok (.invokevirtual 55, 3) := by decide +kernel
theorem dX1_parseStatement_235 : decode cX1_parseStatement 235 = .ok (.ifCond .eq 7, 3) := by decide +kernel
theorem dX1_parseStatement_238 : decode cX1_parseStatement 238 = .ok (.iconst 1, 1) := by decide +kernel
theorem dX1_parseStatement_239 : decode cX1_parseStatement 239 = .ok (.goto 4, 3) := by decide +kernel
theorem dX1_parseStatement_242 : decode cX1_parseStatement 242 = .ok (.iconst 0, 1) := by decide +kernel
theorem dX1_parseStatement_243 : decode cX1_parseStatement 243 = .ok (.ireturn, 1) := by decide +kernel
theorem dX1_parseStatement_244 : decode cX1_parseStatement 244 = .ok (.aload_n 0, 1) := by decide +kernel
theorem dX1_parseStatement_245 : decode cX1_parseStatement 245 = .ok (.dup, 1) := by decide +kernel
theorem dX1_parseStatement_246 : decode cX1_parseStatement 246 = .ok (.getfield 32, 3) := by decide +kernel
theorem dX1_parseStatement_249 : decode cX1_parseStatement 249 = .ok (.iconst 1, 1) := by decide +kernel
theorem dX1_parseStatement_250 : decode cX1_parseStatement 250 = .ok (.iadd, 1) := by decide +kernel
theorem dX1_parseStatement_251 : decode cX1_parseStatement 251 = .ok (.putfield 32, 3) := by decide +kernel
theorem dX1_parseStatement_254 : decode cX1_parseStatement 254 = .ok (.aload_n 0, 1) := by decide +kernel
theorem dX1_parseStatement_255 : decode cX1_parseStatement 255 = .ok (.iconst 1, 1) := by decide +kernel
theorem dX1_parseStatement_256 : decode cX1_parseStatement 256 = .ok (.invokevirtual 51, 3) := by decide +kernel
theorem dX1_parseStatement_259 : decode cX1_parseStatement 259 = .ok (.ifCond .eq 16, 3) := by decide +kernel
theorem dX1_parseStatement_262 : decode cX1_parseStatement 262 = .ok (.aload_n 0, 1) := by decide +kernel
theorem dX1_parseStatement_263 : decode cX1_parseStatement 263 = .ok (.bipush 59, 2) := by decide +kernel
theorem dX1_parseStatement_265 : decode cX1_parseStatement 265 = .ok (.invokevirtual 55, 3) := by decide +kernel
theorem dX1_parseStatement_268 : decode cX1_parseStatement 268 = .ok (.ifCond .eq 7, 3) := by decide +kernel
theorem dX1_parseStatement_271 : decode cX1_parseStatement 271 = .ok (.iconst 1, 1) := by decide +kernel
theorem dX1_parseStatement_272 : decode cX1_parseStatement 272 = .ok (.goto 4, 3) := by decide +kernel
theorem dX1_parseStatement_275 : decode cX1_parseStatement 275 = .ok (.iconst 0, 1) := by decide +kernel
theorem dX1_parseStatement_276 : decode cX1_parseStatement 276 = .ok (.ireturn, 1) := by decide +kernel
theorem dX1_parseStatement_277 : decode cX1_parseStatement 277 = .ok (.aload_n 0, 1) := by decide +kernel
theorem dX1_parseStatement_278 : decode cX1_parseStatement 278 = .ok (.dup, 1) := by decide +kernel
theorem dX1_parseStatement_279 : decode cX1_parseStatement 279 = .ok (.getfield 32, 3) := by decide +kernel
theorem dX1_parseStatement_282 : decode cX1_parseStatement 282 = .ok (.iconst 1, 1) := by decide +kernel
theorem dX1_parseStatement_283 : decode cX1_parseStatement 283 = .ok (.iadd, 1) := by decide +kernel
theorem dX1_parseStatement_284 : decode cX1_parseStatement 284 = .ok (.putfield 32, 3) := by decide +kernel
theorem dX1_parseStatement_287 : decode cX1_parseStatement 287 = .ok (.aload_n 0, 1) := by decide +kernel
theorem dX1_parseStatement_288 : decode cX1_parseStatement 288 = .ok (.bipush 59, 2) := by decide +kernel
theorem dX1_parseStatement_290 : decode cX1_parseStatement 290 = .ok (.invokevirtual 55, 3) := by decide +kernel
theorem dX1_parseStatement_293 : decode cX1_parseStatement 293 = .ok (.ireturn, 1) := by decide +kernel
theorem dX1_parseStatement_294 : decode cX1_parseStatement 294 = .ok (.iconst 0, 1) := by decide +kernel
theorem dX1_parseStatement_295 : decode cX1_parseStatement 295 = .ok (.ireturn, 1) := by decide +kernel
theorem dX1_parseSign_0 : decode cX1_parseSign 0 = .ok (.aload_n 0, 1) := by decide +kernel
theorem dX1_parseSign_1 : decode cX1_parseSign 1 = .ok (.getfield 32, 3) := by decide +kernel
theorem dX1_parseSign_4 : decode cX1_parseSign 4 = .ok (.aload_n 0, 1) := by decide +kernel
theorem dX1_parseSign_5 : decode cX1_parseSign 5 = .ok (.getfield 24, 3) := by decide +kernel
theorem dX1_parseSign_8 : decode cX1_parseSign 8 = .ok (.if_icmp .ge 16, 3) := by decide +kernel
theorem dX1_parseSign_11 : decode cX1_parseSign 11 = .ok (.aload_n 0, 1) := by decide +kernel
theorem dX1_parseSign_12 : decode cX1_parseSign 12 = .ok (.getfield 9, 3) := by decide +kernel
theorem dX1_parseSign_15 : decode cX1_parseSign 15 = .ok (.aload_n 0, 1) := by decide +kernel
theorem dX1_parseSign_16 : decode cX1_parseSign 16 = .ok (.getfield 32, 3) := by decide +kernel
theorem dX1_parseSign_19 : decode cX1_parseSign 19 = .ok (.iaload, 1) := by decide +kernel
theorem dX1_parseSign_20 : decode cX1_parseSign 20 = .ok (.iload_n 1, 1) := by decide +kernel
theorem dX1_parseSign_21 : decode cX1_parseSign 21 = .ok (.if_icmp .eq 5, 3) := by decide +kernel
theorem dX1_parseSign_24 : decode cX1_parseSign 24 = .ok (.iconst 0, 1) := by decide +kernel
theorem dX1_parseSign_25 : decode cX1_parseSign 25 = .ok (.ireturn, 1) := by decide +kernel
theorem dX1_parseSign_26 : decode cX1_parseSign 26 = .ok (.aload_n 0, 1) := by decide +kernel
theorem dX1_parseSign_27 : decode cX1_parseSign 27 = .ok (.dup, 1) := by decide +kernel
theorem dX1_parseSign_28 : decode cX1_parseSign 28 = .ok (.getfield 32, 3) := by decide +kernel
theorem dX1_parseSign_31 : decode cX1_parseSign 31 = .ok (.iconst 1, 1) := by decide +kernel
theorem dX1_parseSign_32 : decode cX1_parseSign 32 = .ok (.iadd, 1) := by decide +kernel
theorem dX1_parseSign_33 : decode cX1_parseSign 33 = .ok (.putfield 32, 3) := by decide +kernel
theorem dX1_parseSign_36 : decode cX1_parseSign 36 = .ok (.iconst 1, 1) := by decide +kernel
theorem dX1_parseSign_37 : decode cX1_parseSign 37 = .ok (.ireturn, 1) := by decide +kernel
theorem dX1_parseKind_0 : decode cX1_parseKind 0 = .ok (.iconst 0, 1) := by decide +kernel
theorem dX1_parseKind_1 : decode cX1_parseKind 1 = .ok (.istore_n 1, 1) := by decide +kernel
theorem dX1_parseKind_2 : decode cX1_parseKind 2 = .ok (.iload_n 1, 1) := by decide +kernel
theorem dX1_parseKind_3 : decode cX1_parseKind 3 = .ok (.ldc 59, 2) := by decide +kernel
theorem dX1_parseKind_5 : decode cX1_parseKind 5 = .ok (.invokevirtual 61, 3) := by decide +kernel
theorem dX1_parseKind_8 : decode cX1_parseKind 8 = .ok (.if_icmp .ge 28, 3) := by decide +kernel
theorem dX1_parseKind_11 : decode cX1_parseKind 11 = .ok (.aload_n 0, 1) := by decide +kernel
theorem dX1_parseKind_12 : decode cX1_parseKind 12 = .ok (.ldc 59, 2) := by decide +kernel
theorem dX1_parseKind_14 : decode cX1_parseKind 14 = .ok (.iload_n 1, 1) := by decide +kernel
theorem dX1_parseKind_15 : decode cX1_parseKind 15 = .ok (.invokevirtual 66, 3) := by decide +kernel
theorem dX1_parseKind_18 : decode cX1_parseKind 18 = .ok (.invokevirtual 55, 3) := by decide +kernel
theorem dX1_parseKind_21 : decode cX1_parseKind 21 = .ok (.ifCond .eq 9, 3) := by decide +kernel
theorem dX1_parseKind_24 : decode cX1_parseKind 24 = .ok (.aload_n 0, 1) := by decide +kernel
theorem dX1_parseKind_25 : decode cX1_parseKind 25 = .ok (.iload_n 1, 1) := by decide +kernel
theorem dX1_parseKind_26 : decode cX1_parseKind 26 = .ok (.invokevirtual 70, 3) := by decide +kernel
theorem dX1_parseKind_29 : decode cX1_parseKind 29 = .ok (.ireturn, 1) := by decide +kernel
theorem dX1_parseKind_30 : decode cX1_parseKind 30 = .ok (.iinc 1 1, 3) := by decide +kernel
theorem dX1_parseKind_33 : decode cX1_parseKind 33 = .ok (.goto (-31), 3) := by decide +kernel
theorem dX1_parseKind_36 : decode cX1_parseKind 36 = .ok (.iconst 0, 1) := by decide +kernel
theorem dX1_parseKind_37 : decode cX1_parseKind 37 = .ok (.ireturn, 1) := by decide +kernel
theorem dX1_parseNumber_0 : decode cX1_parseNumber 0 = .ok (.iconst 0, 1) := by decide +kernel
theorem dX1_parseNumber_1 : decode cX1_parseNumber 1 = .ok (.istore_n 2, 1) := by decide +kernel
theorem dX1_parseNumber_2 : decode cX1_parseNumber 2 = .ok (.iconst 0, 1) := by decide +kernel
theorem dX1_parseNumber_3 : decode cX1_parseNumber 3 = .ok (.istore_n 3, 1) := by decide +kernel
theorem dX1_parseNumber_4 : decode cX1_parseNumber 4 = .ok (.iload_n 3, 1) := by decide +kernel
theorem dX1_parseNumber_5 : decode cX1_parseNumber 5 = .ok (.iload_n 1, 1) := by decide +kernel
theorem dX1_parseNumber_6 : decode cX1_parseNumber 6 = .ok (.if_icmp .ge 76, 3) := by decide +kernel
theorem dX1_parseNumber_9 : decode cX1_parseNumber 9 = .ok (.aload_n 0, 1) := by decide +kernel
theorem dX1_parseNumber_10 : decode cX1_parseNumber 10 = .ok (.getfield 32, 3) := by decide +kernel
theorem dX1_parseNumber_13 : decode cX1_parseNumber 13 = .ok (.aload_n 0, 1) := by decide +kernel
theorem dX1_parseNumber_14 : decode cX1_parseNumber 14 = .ok (.getfield 24, 3) := by decide +kernel
theorem dX1_parseNumber_17 : decode cX1_parseNumber 17 = .ok (.if_icmp .ge 65, 3) := by decide +kernel
theorem dX1_parseNumber_20 : decode cX1_parseNumber 20 = .ok (.aload_n 0, 1) := by decide +kernel
theorem dX1_parseNumber_21 : decode cX1_parseNumber 21 = .ok (.getfield 9, 3) := by decide +kernel
theorem dX1_parseNumber_24 : decode cX1_parseNumber 24 = .ok (.aload_n 0, 1) := by decide +kernel
theorem dX1_parseNumber_25 : decode cX1_parseNumber 25 = .ok (.getfield 32, 3) := by decide +kernel
theorem dX1_parseNumber_28 : decode cX1_parseNumber 28 = .ok (.iaload, 1) := by decide +kernel
theorem dX1_parseNumber_29 : decode cX1_parseNumber 29 = .ok (.bipush 48, 2) := by decide +kernel
theorem dX1_parseNumber_31 : decode cX1_parseNumber 31 = .ok (.if_icmp .lt 51, 3) := by decide +kernel
theorem dX1_parseNumber_34 : decode cX1_parseNumber 34 = .ok (.aload_n 0, 1) := by decide +kernel
theorem dX1_parseNumber_35 : decode cX1_parseNumber 35 = .ok (.getfield 9, 3) := by decide +kernel
theorem dX1_parseNumber_38 : decode cX1_parseNumber 38 = .ok (.aload_n 0, 1) := by decide +kernel
theorem dX1_parseNumber_39 : decode cX1_parseNumber 39 = .ok (.getfield 32, 3) := by decide +kernel
theorem dX1_parseNumber_42 : decode cX1_parseNumber 42 = .ok (.iaload, 1) := by decide +kernel
theorem dX1_parseNumber_43 : decode cX1_parseNumber 43 = .ok (.bipush 57, 2) := by decide +kernel
theorem dX1_parseNumber_45 : decode cX1_parseNumber 45 = .ok (.if_icmp .gt 37, 3) := by decide +kernel
theorem dX1_parseNumber_48 : decode cX1_parseNumber 48 = .ok (.bipush 10, 2) := by decide +kernel
theorem dX1_parseNumber_50 : decode cX1_parseNumber 50 = .ok (.iload_n 2, 1) := by decide +kernel
theorem dX1_parseNumber_51 : decode cX1_parseNumber 51 = .ok (.imul, 1) := by decide +kernel
theorem dX1_parseNumber_52 : decode cX1_parseNumber 52 = .ok (.aload_n 0, 1) := by decide +kernel
theorem dX1_parseNumber_53 : decode cX1_parseNumber 53 = .ok (.getfield 9, 3) := by decide +kernel
theorem dX1_parseNumber_56 : decode cX1_parseNumber 56 = .ok (.aload_n 0, 1) := by decide +kernel
theorem dX1_parseNumber_57 : decode cX1_parseNumber 57 = .ok (.getfield 32, 3) := by decide +kernel
theorem dX1_parseNumber_60 : decode cX1_parseNumber 60 = .ok (.iaload, 1) := by decide +kernel
theorem dX1_parseNumber_61 : decode cX1_parseNumber 61 = .ok (.iadd, 1) := by decide +kernel
theorem dX1_parseNumber_62 : decode cX1_parseNumber 62 = .ok (.bipush 48, 2) := by decide +kernel
theorem dX1_parseNumber_64 : decode cX1_parseNumber 64 = .ok (.isub, 1) := by decide +kernel
theorem dX1_parseNumber_65 : decode cX1_parseNumber 65 = .ok (.istore_n 2, 1) := by decide +kernel
theorem dX1_parseNumber_66 : decode cX1_parseNumber 66 = .ok (.iinc 3 1, 3) := by decide +kernel
theorem dX1_parseNumber_69 : decode cX1_parseNumber 69 = .ok (.aload_n 0, 1) := by decide +kernel
theorem dX1_parseNumber_70 : decode cX1_parseNumber 70 = .ok (.dup, 1) := by decide +kernel
theorem dX1_parseNumber_71 : decode cX1_parseNumber 71 = .ok (.getfield 32, 3) := by decide +kernel
theorem dX1_parseNumber_74 : decode cX1_parseNumber 74 = .ok (.iconst 1, 1) := by decide +kernel
theorem dX1_parseNumber_75 : decode cX1_parseNumber 75 = .ok (.iadd, 1) := by decide +kernel
theorem dX1_parseNumber_76 : decode cX1_parseNumber 76 = .ok (.putfield 32, 3) := by decide +kernel
theorem dX1_parseNumber_79 : decode cX1_parseNumber 79 = .ok (.goto (-75), 3) := by decide +kernel
theorem dX1_parseNumber_82 : decode cX1_parseNumber 82 = .ok (.iload_n 3, 1) := by decide +kernel
theorem dX1_parseNumber_83 : decode cX1_parseNumber 83 = .ok (.ifCond .le 15, 3) := by decide +kernel
theorem dX1_parseNumber_86 : decode cX1_parseNumber 86 = .ok (.aload_n 0, 1) := by decide +kernel
theorem dX1_parseNumber_87 : decode cX1_parseNumber 87 = .ok (.iload_n 2, 1) := by decide +kernel
theorem dX1_parseNumber_88 : decode cX1_parseNumber 88 = .ok (.invokevirtual 70, 3) := by decide +kernel
theorem dX1_parseNumber_91 : decode cX1_parseNumber 91 = .ok (.ifCond .eq 7, 3) := by decide +kernel
theorem dX1_parseNumber_94 : decode cX1_parseNumber 94 = .ok (.iconst 1, 1) := by decide +kernel
theorem dX1_parseNumber_95 : decode cX1_parseNumber 95 = .ok (.goto 4, 3) := by decide +kernel
theorem dX1_parseNumber_98 : decode cX1_parseNumber 98 = .ok (.iconst 0, 1) := by decide +kernel
theorem dX1_parseNumber_99 : decode cX1_parseNumber 99 = .ok (.ireturn, 1) := by decide +kernel
theorem dX1_keepNumber_0 : decode cX1_keepNumber 0 = .ok (.aload_n 0, 1) := by decide +kernel
theorem dX1_keepNumber_1 : decode cX1_keepNumber 1 = .ok (.getfield 45, 3) := by decide +kernel
theorem dX1_keepNumber_4 : decode cX1_keepNumber 4 = .ok (.aload_n 0, 1) := by decide +kernel
theorem dX1_keepNumber_5 : decode cX1_keepNumber 5 = .ok (.getfield 15, 3) := by decide +kernel
theorem dX1_keepNumber_8 : decode cX1_keepNumber 8 = .ok (.arraylength, 1) := by decide +kernel
theorem dX1_keepNumber_9 : decode cX1_keepNumber 9 = .ok (.if_icmp .lt 5, 3) := by decide +kernel
theorem dX1_keepNumber_12 : decode cX1_keepNumber 12 = .ok (.iconst 0, 1) := by decide +kernel
theorem dX1_keepNumber_13 : decode cX1_keepNumber 13 = .ok (.ireturn, 1) := by decide +kernel
theorem dX1_keepNumber_14 : decode cX1_keepNumber 14 = .ok (.aload_n 0, 1) := by decide +kernel
theorem dX1_keepNumber_15 : decode cX1_keepNumber 15 = .ok (.getfield 15, 3) := by decide +kernel
theorem dX1_keepNumber_18 : decode cX1_keepNumber 18 = .ok (.aload_n 0, 1) := by decide +kernel
theorem dX1_keepNumber_19 : decode cX1_keepNumber 19 = .ok (.getfield 45, 3) := by decide +kernel
theorem dX1_keepNumber_22 : decode cX1_keepNumber 22 = .ok (.iload_n 1, 1) := by decide +kernel
theorem dX1_keepNumber_23 : decode cX1_keepNumber 23 = .ok (.iastore, 1) := by decide +kernel
theorem dX1_keepNumber_24 : decode cX1_keepNumber 24 = .ok (.aload_n 0, 1) := by decide +kernel
theorem dX1_keepNumber_25 : decode cX1_keepNumber 25 = .ok (.dup, 1) := by decide +kernel
theorem dX1_keepNumber_26 : decode cX1_keepNumber 26 = .ok (.getfield 45, 3) := by decide +kernel
theorem dX1_keepNumber_29 : decode cX1_keepNumber 29 = .ok (.iconst 1, 1) := by decide +kernel
theorem dX1_keepNumber_30 : decode cX1_keepNumber 30 = .ok (.iadd, 1) := by decide +kernel
theorem dX1_keepNumber_31 : decode cX1_keepNumber 31 = .ok (.putfield 45, 3) := by decide +kernel
theorem dX1_keepNumber_34 : decode cX1_keepNumber 34 = .ok (.iconst 1, 1) := by decide +kernel
theorem dX1_keepNumber_35 : decode cX1_keepNumber 35 = .ok (.ireturn, 1) := by decide +kernel
theorem dX1_tell_0 : decode cX1_tell 0 = .ok (.aload_n 0, 1) := by decide +kernel
theorem dX1_tell_1 : decode cX1_tell 1 = .ok (.getfield 42, 3) := by decide +kernel
theorem dX1_tell_4 : decode cX1_tell 4 = .ok (.lookupswitch 93 #[(107, 53), (112, 44), (115, 81), (119, 70)], 44) := by decide +kernel
theorem dX1_tell_48 : decode cX1_tell 48 = .ok (.aload_n 1, 1) := by decide +kernel
theorem dX1_tell_49 : decode cX1_tell 49 = .ok (.aload_n 0, 1) := by decide +kernel
theorem dX1_tell_50 : decode cX1_tell 50 = .ok (.getfield 15, 3) := by decide +kernel
theorem dX1_tell_53 : decode cX1_tell 53 = .ok (.invokevirtual 73, 3) := by decide +kernel
theorem dX1_tell_56 : decode cX1_tell 56 = .ok (.ireturn, 1) := by decide +kernel
theorem dX1_tell_57 : decode cX1_tell 57 = .ok (.aload_n 1, 1) := by decide +kernel
theorem dX1_tell_58 : decode cX1_tell 58 = .ok (.aload_n 0, 1) := by decide +kernel
theorem dX1_tell_59 : decode cX1_tell 59 = .ok (.getfield 15, 3) := by decide +kernel
theorem dX1_tell_62 : decode cX1_tell 62 = .ok (.iconst 0, 1) := by decide +kernel
theorem dX1_tell_63 : decode cX1_tell 63 = .ok (.iaload, 1) := by decide +kernel
theorem dX1_tell_64 : decode cX1_tell 64 = .ok (.aload_n 0, 1) := by decide +kernel
theorem dX1_tell_65 : decode cX1_tell 65 = .ok (.getfield 15, 3) := by decide +kernel
theorem dX1_tell_68 : decode cX1_tell 68 = .ok (.iconst 1, 1) := by decide +kernel
theorem dX1_tell_69 : decode cX1_tell 69 = .ok (.iaload, 1) := by decide +kernel
theorem dX1_tell_70 : decode cX1_tell 70 = .ok (.invokevirtual 79, 3) := by decide +kernel
theorem dX1_tell_73 : decode cX1_tell 73 = .ok (.ireturn, 1) := by decide +kernel
theorem dX1_tell_74 : decode cX1_tell 74 = .ok (.aload_n 1, 1) := by decide +kernel
theorem dX1_tell_75 : decode cX1_tell 75 = .ok (.aload_n 0, 1) := by decide +kernel
theorem dX1_tell_76 : decode cX1_tell 76 = .ok (.getfield 15, 3) := by decide +kernel
theorem dX1_tell_79 : decode cX1_tell 79 = .ok (.iconst 0, 1) := by decide +kernel
theorem dX1_tell_80 : decode cX1_tell 80 = .ok (.iaload, 1) := by decide +kernel
theorem dX1_tell_81 : decode cX1_tell 81 = .ok (.invokevirtual 83, 3) := by decide +kernel
theorem dX1_tell_84 : decode cX1_tell 84 = .ok (.ireturn, 1) := by decide +kernel
theorem dX1_tell_85 : decode cX1_tell 85 = .ok (.aload_n 1, 1) := by decide +kernel
theorem dX1_tell_86 : decode cX1_tell 86 = .ok (.aload_n 0, 1) := by decide +kernel
theorem dX1_tell_87 : decode cX1_tell 87 = .ok (.getfield 15, 3) := by decide +kernel
theorem dX1_tell_90 : decode cX1_tell 90 = .ok (.iconst 0, 1) := by decide +kernel
theorem dX1_tell_91 : decode cX1_tell 91 = .ok (.iaload, 1) := by decide +kernel
theorem dX1_tell_92 : decode cX1_tell 92 = .ok (.putfield 86, 3) := by decide +kernel
theorem dX1_tell_95 : decode cX1_tell 95 = .ok (.iconst 1, 1) := by decide +kernel
theorem dX1_tell_96 : decode cX1_tell 96 = .ok (.ireturn, 1) := by decide +kernel
theorem dX1_tell_97 : decode cX1_tell 97 = .ok (.aload_n 1, 1) := by decide +kernel
theorem dX1_tell_98 : decode cX1_tell 98 = .ok (.aload_n 0, 1) := by decide +kernel
theorem dX1_tell_99 : decode cX1_tell 99 = .ok (.getfield 42, 3) := by decide +kernel
theorem dX1_tell_102 : decode cX1_tell 102 = .ok (.bipush 114, 2) := by decide +kernel
theorem dX1_tell_104 : decode cX1_tell 104 = .ok (.if_icmp .ne 7, 3) := by decide +kernel
theorem dX1_tell_107 : decode cX1_tell 107 = .ok (.iconst 1, 1) := by decide +kernel
theorem dX1_tell_108 : decode cX1_tell 108 = .ok (.goto 4, 3) := by decide +kernel
theorem dX1_tell_111 : decode cX1_tell 111 = .ok (.iconst 0, 1) := by decide +kernel
theorem dX1_tell_112 : decode cX1_tell 112 = .ok (.putfield 89, 3) := by decide +kernel
theorem dX1_tell_115 : decode cX1_tell 115 = .ok (.iconst 1, 1) := by decide +kernel
theorem dX1_tell_116 : decode cX1_tell 116 = .ok (.ireturn, 1) := by decide +kernel
theorem dX2_init_0 : decode cX2_init 0 = .ok (.aload_n 0, 1) := by decide +kernel
theorem dX2_init_1 : decode cX2_init 1 = .ok (.invokespecial 3, 3) := by decide +kernel
theorem dX2_init_4 : decode cX2_init 4 = .ok (.aload_n 0, 1) := by decide +kernel
theorem dX2_init_5 : decode cX2_init 5 = .ok (.bipush 7, 2) := by decide +kernel
theorem dX2_init_7 : decode cX2_init 7 = .ok (.newarray .int, 2) := by decide +kernel
theorem dX2_init_9 : decode cX2_init 9 = .ok (.putfield 9, 3) := by decide +kernel
theorem dX2_init_12 : decode cX2_init 12 = .ok (.aload_n 0, 1) := by decide +kernel
theorem dX2_init_13 : decode cX2_init 13 = .ok (.bipush 7, 2) := by decide +kernel
theorem dX2_init_15 : decode cX2_init 15 = .ok (.newarray .int, 2) := by decide +kernel
theorem dX2_init_17 : decode cX2_init 17 = .ok (.putfield 15, 3) := by decide +kernel
theorem dX2_init_20 : decode cX2_init 20 = .ok (.aload_n 0, 1) := by decide +kernel
theorem dX2_init_21 : decode cX2_init 21 = .ok (.bipush 7, 2) := by decide +kernel
theorem dX2_init_23 : decode cX2_init 23 = .ok (.newarray .int, 2) := by decide +kernel
theorem dX2_init_25 : decode cX2_init 25 = .ok (.putfield 18, 3) := by decide +kernel
theorem dX2_init_28 : decode cX2_init 28 = .ok (.aload_n 0, 1) := by decide +kernel
theorem dX2_init_29 : decode cX2_init 29 = .ok (.bipush 7, 2) := by decide +kernel
theorem dX2_init_31 : decode cX2_init 31 = .ok (.newarray .int, 2) := by decide +kernel
theorem dX2_init_33 : decode cX2_init 33 = .ok (.putfield 21, 3) := by decide +kernel
theorem dX2_init_36 : decode cX2_init 36 = .ok (.aload_n 0, 1) := by decide +kernel
theorem dX2_init_37 : decode cX2_init 37 = .ok (.bipush 7, 2) := by decide +kernel
theorem dX2_init_39 : decode cX2_init 39 = .ok (.newarray .int, 2) := by decide +kernel
theorem dX2_init_41 : decode cX2_init 41 = .ok (.putfield 24, 3) := by decide +kernel
theorem dX2_init_44 : decode cX2_init 44 = .ok (.aload_n 0, 1) := by decide +kernel
theorem dX2_init_45 : decode cX2_init 45 = .ok (.bipush 10, 2) := by decide +kernel
theorem dX2_init_47 : decode cX2_init 47 = .ok (.newarray .int, 2) := by decide +kernel
theorem dX2_init_49 : decode cX2_init 49 = .ok (.putfield 27, 3) := by decide +kernel
theorem dX2_init_52 : decode cX2_init 52 = .ok (.aload_n 0, 1) := by decide +kernel
theorem dX2_init_53 : decode cX2_init 53 = .ok (.bipush 10, 2) := by decide +kernel
theorem dX2_init_55 : decode cX2_init 55 = .ok (.newarray .int, 2) := by decide +kernel
theorem dX2_init_57 : decode cX2_init 57 = .ok (.putfield 30, 3) := by decide +kernel
theorem dX2_init_60 : decode cX2_init 60 = .ok (.aload_n 0, 1) := by decide +kernel
theorem dX2_init_61 : decode cX2_init 61 = .ok (.iconst 1, 1) := by decide +kernel
theorem dX2_init_62 : decode cX2_init 62 = .ok (.putfield 33, 3) := by decide +kernel
theorem dX2_init_65 : decode cX2_init 65 = .ok (.return_, 1) := by decide +kernel
theorem dX2_become_0 : decode cX2_become 0 = .ok (.aload_n 1, 1) := by decide +kernel
theorem dX2_become_1 : decode cX2_become 1 = .ok (.getfield 9, 3) := by decide +kernel
theorem dX2_become_4 : decode cX2_become 4 = .ok (.iconst 0, 1) := by decide +kernel
theorem dX2_become_5 : decode cX2_become 5 = .ok (.aload_n 0, 1) := by decide +kernel
theorem dX2_become_6 : decode cX2_become 6 = .ok (.getfield 9, 3) := by decide +kernel
theorem dX2_become_9 : decode cX2_become 9 = .ok (.iconst 0, 1) := by decide +kernel
theorem dX2_become_10 : decode cX2_become 10 = .ok (.bipush 7, 2) := by decide +kernel
theorem dX2_become_12 : decode cX2_become 12 = .ok (.invokestatic 37, 3) := by decide +kernel
theorem dX2_become_15 : decode cX2_become 15 = .ok (.aload_n 1, 1) := by decide +kernel
theorem dX2_become_16 : decode cX2_become 16 = .ok (.getfield 15, 3) := by decide +kernel
theorem dX2_become_19 : decode cX2_become 19 = .ok (.iconst 0, 1) := by decide +kernel
theorem dX2_become_20 : decode cX2_become 20 = .ok (.aload_n 0, 1) := by decide +kernel
theorem dX2_become_21 : decode cX2_become 21 = .ok (.getfield 15, 3) := by decide +kernel
theorem dX2_become_24 : decode cX2_become 24 = .ok (.iconst 0, 1) := by decide +kernel
theorem dX2_become_25 : decode cX2_become 25 = .ok (.bipush 7, 2) := by decide +kernel
theorem dX2_become_27 : decode cX2_become 27 = .ok (.invokestatic 37, 3) := by decide +kernel
theorem dX2_become_30 : decode cX2_become 30 = .ok (.aload_n 1, 1) := by decide +kernel
theorem dX2_become_31 : decode cX2_become 31 = .ok (.getfield 18, 3) := by decide +kernel
theorem dX2_become_34 : decode cX2_become 34 = .ok (.iconst 0, 1) := by decide +kernel
theorem dX2_become_35 : decode cX2_become 35 = .ok (.aload_n 0, 1) := by decide +kernel
theorem dX2_become_36 : decode cX2_become 36 = .ok (.getfield 18, 3) := by decide +kernel
theorem dX2_become_39 : decode cX2_become 39 = .ok (.iconst 0, 1) := by decide +kernel
theorem dX2_become_40 : decode cX2_become 40 = .ok (.bipush 7, 2) := by decide +kernel
theorem dX2_become_42 : decode cX2_become 42 = .ok (.invokestatic 37, 3) := by decide +kernel
theorem dX2_become_45 : decode cX2_become 45 = .ok (.aload_n 1, 1) := by decide +kernel
theorem dX2_become_46 : decode cX2_become 46 = .ok (.getfield 21, 3) := by decide +kernel
theorem dX2_become_49 : decode cX2_become 49 = .ok (.iconst 0, 1) := by decide +kernel
theorem dX2_become_50 : decode cX2_become 50 = .ok (.aload_n 0, 1) := by decide +kernel
theorem dX2_become_51 : decode cX2_become 51 = .ok (.getfield 21, 3) := by decide +kernel
theorem dX2_become_54 : decode cX2_become 54 = .ok (.iconst 0, 1) := by decide +kernel
theorem dX2_become_55 : decode cX2_become 55 = .ok (.bipush 7, 2) := by decide +kernel
theorem dX2_become_57 : decode cX2_become 57 = .ok (.invokestatic 37, 3) := by decide +kernel
theorem dX2_become_60 : decode cX2_become 60 = .ok (.aload_n 1, 1) := by decide +kernel
theorem dX2_become_61 : decode cX2_become 61 = .ok (.getfield 24, 3) := by decide +kernel
theorem dX2_become_64 : decode cX2_become 64 = .ok (.iconst 0, 1) := by decide +kernel
theorem dX2_become_65 : decode cX2_become 65 = .ok (.aload_n 0, 1) := by decide +kernel
theorem dX2_become_66 : decode cX2_become 66 = .ok (.getfield 24, 3) := by decide +kernel
theorem dX2_become_69 : decode cX2_become 69 = .ok (.iconst 0, 1) := by decide +kernel
theorem dX2_become_70 : decode cX2_become 70 = .ok (.bipush 7, 2) := by decide +kernel
theorem dX2_become_72 : decode cX2_become 72 = .ok (.invokestatic 37, 3) := by decide +kernel
theorem dX2_become_75 : decode cX2_become 75 = .ok (.aload_n 0, 1) := by decide +kernel
theorem dX2_become_76 : decode cX2_become 76 = .ok (.aload_n 1, 1) := by decide +kernel
theorem dX2_become_77 : decode cX2_become 77 = .ok (.getfield 43, 3) := by decide +kernel
theorem dX2_become_80 : decode cX2_become 80 = .ok (.putfield 43, 3) := by decide +kernel
theorem dX2_become_83 : decode cX2_become 83 = .ok (.aload_n 1, 1) := by decide +kernel
theorem dX2_become_84 : decode cX2_become 84 = .ok (.getfield 27, 3) := by decide +kernel
theorem dX2_become_87 : decode cX2_become 87 = .ok (.iconst 0, 1) := by decide +kernel
theorem dX2_become_88 : decode cX2_become 88 = .ok (.aload_n 0, 1) := by decide +kernel
theorem dX2_become_89 : decode cX2_become 89 = .ok (.getfield 27, 3) := by decide +kernel
theorem dX2_become_92 : decode cX2_become 92 = .ok (.iconst 0, 1) := by decide +kernel
theorem dX2_become_93 : decode cX2_become 93 = .ok (.bipush 10, 2) := by decide +kernel
theorem dX2_become_95 : decode cX2_become 95 = .ok (.invokestatic 37, 3) := by decide +kernel
theorem dX2_become_98 : decode cX2_become 98 = .ok (.aload_n 1, 1) := by decide +kernel
theorem dX2_become_99 : decode cX2_become 99 = .ok (.getfield 30, 3) := by decide +kernel
theorem dX2_become_102 : decode cX2_become 102 = .ok (.iconst 0, 1) := by decide +kernel
theorem dX2_become_103 : decode cX2_become 103 = .ok (.aload_n 0, 1) := by decide +kernel
theorem dX2_become_104 : decode cX2_become 104 = .ok (.getfield 30, 3) := by decide +kernel
theorem dX2_become_107 : decode cX2_become 107 = .ok (.iconst 0, 1) := by decide +kernel
theorem dX2_become_108 : decode cX2_become 108 = .ok (.bipush 10, 2) := by decide +kernel
theorem dX2_become_110 : decode cX2_become 110 = .ok (.invokestatic 37, 3) := by decide +kernel
theorem dX2_become_113 : decode cX2_become 113 = .ok (.aload_n 0, 1) := by decide +kernel
theorem dX2_become_114 : decode cX2_become 114 = .ok (.aload_n 1, 1) := by decide +kernel
theorem dX2_become_115 : decode cX2_become 115 = .ok (.getfield 46, 3) := by decide +kernel
theorem dX2_become_118 : decode cX2_become 118 = .ok (.putfield 46, 3) := by decide +kernel
theorem dX2_become_121 : decode cX2_become 121 = .ok (.aload_n 0, 1) := by decide +kernel
theorem dX2_become_122 : decode cX2_become 122 = .ok (.aload_n 1, 1) := by decide +kernel
theorem dX2_become_123 : decode cX2_become 123 = .ok (.getfield 49, 3) := by decide +kernel
theorem dX2_become_126 : decode cX2_become 126 = .ok (.putfield 49, 3) := by decide +kernel
theorem dX2_become_129 : decode cX2_become 129 = .ok (.aload_n 0, 1) := by decide +kernel
theorem dX2_become_130 : decode cX2_become 130 = .ok (.aload_n 1, 1) := by decide +kernel
theorem dX2_become_131 : decode cX2_become 131 = .ok (.getfield 33, 3) := by decide +kernel
theorem dX2_become_134 : decode cX2_become 134 = .ok (.putfield 33, 3) := by decide +kernel
theorem dX2_become_137 : decode cX2_become 137 = .ok (.aload_n 0, 1) := by decide +kernel
theorem dX2_become_138 : decode cX2_become 138 = .ok (.aload_n 1, 1) := by decide +kernel
theorem dX2_become_139 : decode cX2_become 139 = .ok (.getfield 52, 3) := by decide +kernel
theorem dX2_become_142 : decode cX2_become 142 = .ok (.putfield 52, 3) := by decide +kernel
theorem dX2_become_145 : decode cX2_become 145 = .ok (.return_, 1) := by decide +kernel
theorem dX2_hasPerson_0 : decode cX2_hasPerson 0 = .ok (.iload_n 1, 1) := by decide +kernel
theorem dX2_hasPerson_1 : decode cX2_hasPerson 1 = .ok (.ifCond .lt 15, 3) := by decide +kernel
theorem dX2_hasPerson_4 : decode cX2_hasPerson 4 = .ok (.iload_n 1, 1) := by decide +kernel
theorem dX2_hasPerson_5 : decode cX2_hasPerson 5 = .ok (.aload_n 0, 1) := by decide +kernel
theorem dX2_hasPerson_6 : decode cX2_hasPerson 6 = .ok (.getfield 43, 3) := by decide +kernel
theorem dX2_hasPerson_9 : decode cX2_hasPerson 9 = .ok (.if_icmp .ge 7, 3) := by decide +kernel
theorem dX2_hasPerson_12 : decode cX2_hasPerson 12 = .ok (.iconst 1, 1) := by decide +kernel
theorem dX2_hasPerson_13 : decode cX2_hasPerson 13 = .ok (.goto 4, 3) := by decide +kernel
theorem dX2_hasPerson_16 : decode cX2_hasPerson 16 = .ok (.iconst 0, 1) := by decide +kernel
theorem dX2_hasPerson_17 : decode cX2_hasPerson 17 = .ok (.ireturn, 1) := by decide +kernel
theorem dX2_hasKey_0 : decode cX2_hasKey 0 = .ok (.iload_n 1, 1) := by decide +kernel
theorem dX2_hasKey_1 : decode cX2_hasKey 1 = .ok (.ifCond .lt 15, 3) := by decide +kernel
theorem dX2_hasKey_4 : decode cX2_hasKey 4 = .ok (.iload_n 1, 1) := by decide +kernel
theorem dX2_hasKey_5 : decode cX2_hasKey 5 = .ok (.aload_n 0, 1) := by decide +kernel
theorem dX2_hasKey_6 : decode cX2_hasKey 6 = .ok (.getfield 46, 3) := by decide +kernel
theorem dX2_hasKey_9 : decode cX2_hasKey 9 = .ok (.if_icmp .ge 7, 3) := by decide +kernel
theorem dX2_hasKey_12 : decode cX2_hasKey 12 = .ok (.iconst 1, 1) := by decide +kernel
theorem dX2_hasKey_13 : decode cX2_hasKey 13 = .ok (.goto 4, 3) := by decide +kernel
theorem dX2_hasKey_16 : decode cX2_hasKey 16 = .ok (.iconst 0, 1) := by decide +kernel
theorem dX2_hasKey_17 : decode cX2_hasKey 17 = .ok (.ireturn, 1) := by decide +kernel
theorem dX2_everyone_0 : decode cX2_everyone 0 = .ok (.iconst 1, 1) := by decide +kernel
theorem dX2_everyone_1 : decode cX2_everyone 1 = .ok (.aload_n 0, 1) := by decide +kernel
theorem dX2_everyone_2 : decode cX2_everyone 2 = .ok (.getfield 43, 3) := by decide +kernel
theorem dX2_everyone_5 : decode cX2_everyone 5 = .ok (.ishl, 1) := by decide +kernel
theorem dX2_everyone_6 : decode cX2_everyone 6 = .ok (.iconst 1, 1) := by decide +kernel
theorem dX2_everyone_7 : decode cX2_everyone 7 = .ok (.isub, 1) := by decide +kernel
theorem dX2_everyone_8 : decode cX2_everyone 8 = .ok (.ireturn, 1) := by decide +kernel
theorem dX2_upOf_0 : decode cX2_upOf 0 = .ok (.aload_n 0, 1) := by decide +kernel
theorem dX2_upOf_1 : decode cX2_upOf 1 = .ok (.getfield 9, 3) := by decide +kernel
theorem dX2_upOf_4 : decode cX2_upOf 4 = .ok (.iload_n 1, 1) := by decide +kernel
theorem dX2_upOf_5 : decode cX2_upOf 5 = .ok (.iaload, 1) := by decide +kernel
theorem dX2_upOf_6 : decode cX2_upOf 6 = .ok (.lookupswitch 37 #[(2, 26), (4, 35)], 26) := by decide +kernel
theorem dX2_upOf_32 : decode cX2_upOf 32 = .ok (.iconst 2, 1) := by decide +kernel
theorem dX2_upOf_33 : decode cX2_upOf 33 = .ok (.aload_n 0, 1) := by decide +kernel
theorem dX2_upOf_34 : decode cX2_upOf 34 = .ok (.getfield 15, 3) := by decide +kernel
theorem dX2_upOf_37 : decode cX2_upOf 37 = .ok (.iload_n 1, 1) := by decide +kernel
theorem dX2_upOf_38 : decode cX2_upOf 38 = .ok (.iaload, 1) := by decide +kernel
theorem dX2_upOf_39 : decode cX2_upOf 39 = .ok (.imul, 1) := by decide +kernel
theorem dX2_upOf_40 : decode cX2_upOf 40 = .ok (.ireturn, 1) := by decide +kernel
theorem dX2_upOf_41 : decode cX2_upOf 41 = .ok (.iconst 0, 1) := by decide +kernel
theorem dX2_upOf_42 : decode cX2_upOf 42 = .ok (.ireturn, 1) := by decide +kernel
theorem dX2_upOf_43 : decode cX2_upOf 43 = .ok (.aload_n 0, 1) := by decide +kernel
theorem dX2_upOf_44 : decode cX2_upOf 44 = .ok (.getfield 15, 3) := by decide +kernel
theorem dX2_upOf_47 : decode cX2_upOf 47 = .ok (.iload_n 1, 1) := by decide +kernel
theorem dX2_upOf_48 : decode cX2_upOf 48 = .ok (.iaload, 1) := by decide +kernel
theorem dX2_upOf_49 : decode cX2_upOf 49 = .ok (.ireturn, 1) := by decide +kernel
theorem dX2_needOf_0 : decode cX2_needOf 0 = .ok (.aload_n 0, 1) := by decide +kernel
theorem dX2_needOf_1 : decode cX2_needOf 1 = .ok (.getfield 9, 3) := by decide +kernel
theorem dX2_needOf_4 : decode cX2_needOf 4 = .ok (.iload_n 1, 1) := by decide +kernel
theorem dX2_needOf_5 : decode cX2_needOf 5 = .ok (.iaload, 1) := by decide +kernel
theorem dX2_needOf_6 : decode cX2_needOf 6 = .ok (.tableswitch 43 1 5 #[34, 43, 43, 34, 34], 34) := by decide +kernel
theorem dX2_needOf_40 : decode cX2_needOf 40 = .ok (.aload_n 0, 1) := by decide +kernel
theorem dX2_needOf_41 : decode cX2_needOf 41 = .ok (.getfield 18, 3) := by decide +kernel
theorem dX2_needOf_44 : decode cX2_needOf 44 = .ok (.iload_n 1, 1) := by decide +kernel
theorem dX2_needOf_45 : decode cX2_needOf 45 = .ok (.iaload, 1) := by decide +kernel
theorem dX2_needOf_46 : decode cX2_needOf 46 = .ok (.iconst 2, 1) := by decide +kernel
theorem dX2_needOf_47 : decode cX2_needOf 47 = .ok (.idiv, 1) := by decide +kernel
theorem dX2_needOf_48 : decode cX2_needOf 48 = .ok (.ireturn, 1) := by decide +kernel
theorem dX2_needOf_49 : decode cX2_needOf 49 = .ok (.aload_n 0, 1) := by decide +kernel
theorem dX2_needOf_50 : decode cX2_needOf 50 = .ok (.getfield 18, 3) := by decide +kernel
theorem dX2_needOf_53 : decode cX2_needOf 53 = .ok (.iload_n 1, 1) := by decide +kernel
theorem dX2_needOf_54 : decode cX2_needOf 54 = .ok (.iaload, 1) := by decide +kernel
theorem dX2_needOf_55 : decode cX2_needOf 55 = .ok (.ireturn, 1) := by decide +kernel
theorem dX2_windowOf_0 : decode cX2_windowOf 0 = .ok (.aload_n 0, 1) := by decide +kernel
theorem dX2_windowOf_1 : decode cX2_windowOf 1 = .ok (.getfield 9, 3) := by decide +kernel
theorem dX2_windowOf_4 : decode cX2_windowOf 4 = .ok (.iload_n 1, 1) := by decide +kernel
theorem dX2_windowOf_5 : decode cX2_windowOf 5 = .ok (.iaload, 1) := by decide +kernel
theorem dX2_windowOf_6 : decode cX2_windowOf 6 = .ok (.iconst 3, 1) := by decide +kernel
theorem dX2_windowOf_7 : decode cX2_windowOf 7 = .ok (.if_icmp .ne 15, 3) := by decide +kernel
theorem dX2_windowOf_10 : decode cX2_windowOf 10 = .ok (.bipush 60, 2) := by decide +kernel
theorem dX2_windowOf_12 : decode cX2_windowOf 12 = .ok (.aload_n 0, 1) := by decide +kernel
theorem dX2_windowOf_13 : decode cX2_windowOf 13 = .ok (.getfield 15, 3) := by decide +kernel
theorem dX2_windowOf_16 : decode cX2_windowOf 16 = .ok (.iload_n 1, 1) := by decide +kernel
theorem dX2_windowOf_17 : decode cX2_windowOf 17 = .ok (.iaload, 1) := by decide +kernel
theorem dX2_windowOf_18 : decode cX2_windowOf 18 = .ok (.iadd, 1) := by decide +kernel
theorem dX2_windowOf_19 : decode cX2_windowOf 19 = .ok (.goto 5, 3) := by decide +kernel
theorem dX2_windowOf_22 : decode cX2_windowOf 22 = .ok (.ldc 56, 2) := by decide +kernel
theorem dX2_windowOf_24 : decode cX2_windowOf 24 = .ok (.ireturn, 1) := by decide +kernel
theorem dX2_paceOf_0 : decode cX2_paceOf 0 = .ok (.aload_n 0, 1) := by decide +kernel
theorem dX2_paceOf_1 : decode cX2_paceOf 1 = .ok (.getfield 9, 3) := by decide +kernel
theorem dX2_paceOf_4 : decode cX2_paceOf 4 = .ok (.iload_n 1, 1) := by decide +kernel
theorem dX2_paceOf_5 : decode cX2_paceOf 5 = .ok (.iaload, 1) := by decide +kernel
theorem dX2_paceOf_6 : decode cX2_paceOf 6 = .ok (.iconst 5, 1) := by decide +kernel
theorem dX2_paceOf_7 : decode cX2_paceOf 7 = .ok (.if_icmp .ne 7, 3) := by decide +kernel
theorem dX2_paceOf_10 : decode cX2_paceOf 10 = .ok (.iconst 0, 1) := by decide +kernel
theorem dX2_paceOf_11 : decode cX2_paceOf 11 = .ok (.goto 7, 3) := by decide +kernel
theorem dX2_paceOf_14 : decode cX2_paceOf 14 = .ok (.aload_n 0, 1) := by decide +kernel
theorem dX2_paceOf_15 : decode cX2_paceOf 15 = .ok (.getfield 33, 3) := by decide +kernel
theorem dX2_paceOf_18 : decode cX2_paceOf 18 = .ok (.ireturn, 1) := by decide +kernel
theorem dX2_wayBetween_0 : decode cX2_wayBetween 0 = .ok (.iload_n 1, 1) := by decide +kernel
theorem dX2_wayBetween_1 : decode cX2_wayBetween 1 = .ok (.iload_n 2, 1) := by decide +kernel
theorem dX2_wayBetween_2 : decode cX2_wayBetween 2 = .ok (.isub, 1) := by decide +kernel
theorem dX2_wayBetween_3 : decode cX2_wayBetween 3 = .ok (.invokestatic 57, 3) := by decide +kernel
theorem dX2_wayBetween_6 : decode cX2_wayBetween 6 = .ok (.istore_n 3, 1) := by decide +kernel
theorem dX2_wayBetween_7 : decode cX2_wayBetween 7 = .ok (.aload_n 0, 1) := by decide +kernel
theorem dX2_wayBetween_8 : decode cX2_wayBetween 8 = .ok (.getfield 52, 3) := by decide +kernel
theorem dX2_wayBetween_11 : decode cX2_wayBetween 11 = .ok (.ifCond .eq 16, 3) := by decide +kernel
theorem dX2_wayBetween_14 : decode cX2_wayBetween 14 = .ok (.iload_n 3, 1) := by decide +kernel
theorem dX2_wayBetween_15 : decode cX2_wayBetween 15 = .ok (.aload_n 0, 1) := by decide +kernel
theorem dX2_wayBetween_16 : decode cX2_wayBetween 16 = .ok (.getfield 43, 3) := by decide +kernel
theorem dX2_wayBetween_19 : decode cX2_wayBetween 19 = .ok (.iload_n 3, 1) := by decide +kernel
theorem dX2_wayBetween_20 : decode cX2_wayBetween 20 = .ok (.isub, 1) := by decide +kernel
theorem dX2_wayBetween_21 : decode cX2_wayBetween 21 = .ok (.invokestatic 63, 3) := by decide +kernel
theorem dX2_wayBetween_24 : decode cX2_wayBetween 24 = .ok (.goto 4, 3) := by decide +kernel
theorem dX2_wayBetween_27 : decode cX2_wayBetween 27 = .ok (.iload_n 3, 1) := by decide +kernel
theorem dX2_wayBetween_28 : decode cX2_wayBetween 28 = .ok (.ireturn, 1) := by decide +kernel
theorem dX2_costOf_0 : decode cX2_costOf 0 = .ok (.iconst 0, 1) := by decide +kernel
theorem dX2_costOf_1 : decode cX2_costOf 1 = .ok (.istore_n 2, 1) := by decide +kernel
theorem dX2_costOf_2 : decode cX2_costOf 2 = .ok (.iconst 0, 1) := by decide +kernel
theorem dX2_costOf_3 : decode cX2_costOf 3 = .ok (.istore_n 3, 1) := by decide +kernel
theorem dX2_costOf_4 : decode cX2_costOf 4 = .ok (.iload_n 3, 1) := by decide +kernel
theorem dX2_costOf_5 : decode cX2_costOf 5 = .ok (.aload_n 0, 1) := by decide +kernel
theorem dX2_costOf_6 : decode cX2_costOf 6 = .ok (.getfield 43, 3) := by decide +kernel
theorem dX2_costOf_9 : decode cX2_costOf 9 = .ok (.if_icmp .ge 26, 3) := by decide +kernel
theorem dX2_costOf_12 : decode cX2_costOf 12 = .ok (.iload_n 1, 1) := by decide +kernel
theorem dX2_costOf_13 : decode cX2_costOf 13 = .ok (.iload_n 3, 1) := by decide +kernel
theorem dX2_costOf_14 : decode cX2_costOf 14 = .ok (.ishr, 1) := by decide +kernel
theorem dX2_costOf_15 : decode cX2_costOf 15 = .ok (.iconst 1, 1) := by decide +kernel
theorem dX2_costOf_16 : decode cX2_costOf 16 = .ok (.iand, 1) := by decide +kernel
theorem dX2_costOf_17 : decode cX2_costOf 17 = .ok (.ifCond .eq 12, 3) := by decide +kernel
theorem dX2_costOf_20 : decode cX2_costOf 20 = .ok (.iload_n 2, 1) := by decide +kernel
theorem dX2_costOf_21 : decode cX2_costOf 21 = .ok (.aload_n 0, 1) := by decide +kernel
theorem dX2_costOf_22 : decode cX2_costOf 22 = .ok (.getfield 24, 3) := by decide +kernel
theorem dX2_costOf_25 : decode cX2_costOf 25 = .ok (.iload_n 3, 1) := by decide +kernel
theorem dX2_costOf_26 : decode cX2_costOf 26 = .ok (.iaload, 1) := by decide +kernel
theorem dX2_costOf_27 : decode cX2_costOf 27 = .ok (.iadd, 1) := by decide +kernel
theorem dX2_costOf_28 : decode cX2_costOf 28 = .ok (.istore_n 2, 1) := by decide +kernel
theorem dX2_costOf_29 : decode cX2_costOf 29 = .ok (.iinc 3 1, 3) := by decide +kernel
theorem dX2_costOf_32 : decode cX2_costOf 32 = .ok (.goto (-28), 3) := by decide +kernel
theorem dX2_costOf_35 : decode cX2_costOf 35 = .ok (.iload_n 2, 1) := by decide +kernel
theorem dX2_costOf_36 : decode cX2_costOf 36 = .ok (.ireturn, 1) := by decide +kernel
theorem dX2_addPerson_0 : decode cX2_addPerson 0 = .ok (.aload_n 0, 1) := by decide +kernel
theorem dX2_addPerson_1 : decode cX2_addPerson 1 = .ok (.getfield 43, 3) := by decide +kernel
theorem dX2_addPerson_4 : decode cX2_addPerson 4 = .ok (.bipush 7, 2) := by decide +kernel
theorem dX2_addPerson_6 : decode cX2_addPerson 6 = .ok (.if_icmp .ge 9, 3) := by decide +kernel
theorem dX2_addPerson_9 : decode cX2_addPerson 9 = .ok (.aload_n 1, 1) := by decide +kernel
theorem dX2_addPerson_10 : decode cX2_addPerson 10 = .ok (.arraylength, 1) := by decide +kernel
theorem dX2_addPerson_11 : decode cX2_addPerson 11 = .ok (.iconst 5, 1) := by decide +kernel
theorem dX2_addPerson_12 : decode cX2_addPerson 12 = .ok (.if_icmp .ge 5, 3) := by decide +kernel
theorem dX2_addPerson_15 : decode cX2_addPerson 15 = .ok (.iconst 0, 1) := by decide +kernel
theorem dX2_addPerson_16 : decode cX2_addPerson 16 = .ok (.ireturn, 1) := by decide +kernel
theorem dX2_addPerson_17 : decode cX2_addPerson 17 = .ok (.aload_n 0, 1) := by decide +kernel
theorem dX2_addPerson_18 : decode cX2_addPerson 18 = .ok (.getfield 9, 3) := by decide +kernel
theorem dX2_addPerson_21 : decode cX2_addPerson 21 = .ok (.aload_n 0, 1) := by decide +kernel
theorem dX2_addPerson_22 : decode cX2_addPerson 22 = .ok (.getfield 43, 3) := by decide +kernel
theorem dX2_addPerson_25 : decode cX2_addPerson 25 = .ok (.aload_n 1, 1) := by decide +kernel
theorem dX2_addPerson_26 : decode cX2_addPerson 26 = .ok (.iconst 0, 1) := by decide +kernel
theorem dX2_addPerson_27 : decode cX2_addPerson 27 = .ok (.iaload, 1) := by decide +kernel
theorem dX2_addPerson_28 : decode cX2_addPerson 28 = .ok (.iastore, 1) := by decide +kernel
theorem dX2_addPerson_29 : decode cX2_addPerson 29 = .ok (.aload_n 0, 1) := by decide +kernel
theorem dX2_addPerson_30 : decode cX2_addPerson 30 = .ok (.getfield 15, 3) := by decide +kernel
theorem dX2_addPerson_33 : decode cX2_addPerson 33 = .ok (.aload_n 0, 1) := by decide +kernel
theorem dX2_addPerson_34 : decode cX2_addPerson 34 = .ok (.getfield 43, 3) := by decide +kernel
theorem dX2_addPerson_37 : decode cX2_addPerson 37 = .ok (.aload_n 1, 1) := by decide +kernel
theorem dX2_addPerson_38 : decode cX2_addPerson 38 = .ok (.iconst 1, 1) := by decide +kernel
theorem dX2_addPerson_39 : decode cX2_addPerson 39 = .ok (.iaload, 1) := by decide +kernel
theorem dX2_addPerson_40 : decode cX2_addPerson 40 = .ok (.iastore, 1) := by decide +kernel
theorem dX2_addPerson_41 : decode cX2_addPerson 41 = .ok (.aload_n 0, 1) := by decide +kernel
theorem dX2_addPerson_42 : decode cX2_addPerson 42 = .ok (.getfield 18, 3) := by decide +kernel
theorem dX2_addPerson_45 : decode cX2_addPerson 45 = .ok (.aload_n 0, 1) := by decide +kernel
theorem dX2_addPerson_46 : decode cX2_addPerson 46 = .ok (.getfield 43, 3) := by decide +kernel
theorem dX2_addPerson_49 : decode cX2_addPerson 49 = .ok (.aload_n 1, 1) := by decide +kernel
theorem dX2_addPerson_50 : decode cX2_addPerson 50 = .ok (.iconst 2, 1) := by decide +kernel
theorem dX2_addPerson_51 : decode cX2_addPerson 51 = .ok (.iaload, 1) := by decide +kernel
theorem dX2_addPerson_52 : decode cX2_addPerson 52 = .ok (.iastore, 1) := by decide +kernel
theorem dX2_addPerson_53 : decode cX2_addPerson 53 = .ok (.aload_n 0, 1) := by decide +kernel
theorem dX2_addPerson_54 : decode cX2_addPerson 54 = .ok (.getfield 21, 3) := by decide +kernel
theorem dX2_addPerson_57 : decode cX2_addPerson 57 = .ok (.aload_n 0, 1) := by decide +kernel
theorem dX2_addPerson_58 : decode cX2_addPerson 58 = .ok (.getfield 43, 3) := by decide +kernel
theorem dX2_addPerson_61 : decode cX2_addPerson 61 = .ok (.aload_n 1, 1) := by decide +kernel
theorem dX2_addPerson_62 : decode cX2_addPerson 62 = .ok (.iconst 3, 1) := by decide +kernel
theorem dX2_addPerson_63 : decode cX2_addPerson 63 = .ok (.iaload, 1) := by decide +kernel
theorem dX2_addPerson_64 : decode cX2_addPerson 64 = .ok (.iastore, 1) := by decide +kernel
theorem dX2_addPerson_65 : decode cX2_addPerson 65 = .ok (.aload_n 0, 1) := by decide +kernel
theorem dX2_addPerson_66 : decode cX2_addPerson 66 = .ok (.getfield 24, 3) := by decide +kernel
theorem dX2_addPerson_69 : decode cX2_addPerson 69 = .ok (.aload_n 0, 1) := by decide +kernel
theorem dX2_addPerson_70 : decode cX2_addPerson 70 = .ok (.getfield 43, 3) := by decide +kernel
theorem dX2_addPerson_73 : decode cX2_addPerson 73 = .ok (.aload_n 1, 1) := by decide +kernel
theorem dX2_addPerson_74 : decode cX2_addPerson 74 = .ok (.iconst 4, 1) := by decide +kernel
theorem dX2_addPerson_75 : decode cX2_addPerson 75 = .ok (.iaload, 1) := by decide +kernel
theorem dX2_addPerson_76 : decode cX2_addPerson 76 = .ok (.iastore, 1) := by decide +kernel
theorem dX2_addPerson_77 : decode cX2_addPerson 77 = .ok (.aload_n 0, 1) := by decide +kernel
theorem dX2_addPerson_78 : decode cX2_addPerson 78 = .ok (.dup, 1) := by decide +kernel
theorem dX2_addPerson_79 : decode cX2_addPerson 79 = .ok (.getfield 43, 3) := by decide +kernel
theorem dX2_addPerson_82 : decode cX2_addPerson 82 = .ok (.iconst 1, 1) := by decide +kernel
theorem dX2_addPerson_83 : decode cX2_addPerson 83 = .ok (.iadd, 1) := by decide +kernel
theorem dX2_addPerson_84 : decode cX2_addPerson 84 = .ok (.putfield 43, 3) := by decide +kernel
theorem dX2_addPerson_87 : decode cX2_addPerson 87 = .ok (.iconst 1, 1) := by decide +kernel
theorem dX2_addPerson_88 : decode cX2_addPerson 88 = .ok (.ireturn, 1) := by decide +kernel
theorem dX2_addKey_0 : decode cX2_addKey 0 = .ok (.aload_n 0, 1) := by decide +kernel
theorem dX2_addKey_1 : decode cX2_addKey 1 = .ok (.getfield 46, 3) := by decide +kernel
theorem dX2_addKey_4 : decode cX2_addKey 4 = .ok (.bipush 10, 2) := by decide +kernel
theorem dX2_addKey_6 : decode cX2_addKey 6 = .ok (.if_icmp .ge 19, 3) := by decide +kernel
theorem dX2_addKey_9 : decode cX2_addKey 9 = .ok (.aload_n 0, 1) := by decide +kernel
theorem dX2_addKey_10 : decode cX2_addKey 10 = .ok (.iload_n 1, 1) := by decide +kernel
theorem dX2_addKey_11 : decode cX2_addKey 11 = .ok (.invokevirtual 67, 3) := by decide +kernel
theorem dX2_addKey_14 : decode cX2_addKey 14 = .ok (.ifCond .eq 11, 3) := by decide +kernel
theorem dX2_addKey_17 : decode cX2_addKey 17 = .ok (.aload_n 0, 1) := by decide +kernel
theorem dX2_addKey_18 : decode cX2_addKey 18 = .ok (.iload_n 2, 1) := by decide +kernel
theorem dX2_addKey_19 : decode cX2_addKey 19 = .ok (.invokevirtual 67, 3) := by decide +kernel
theorem dX2_addKey_22 : decode cX2_addKey 22 = .ok (.ifCond .ne 5, 3) := by decide +kernel
theorem dX2_addKey_25 : decode cX2_addKey 25 = .ok (.iconst 0, 1) := by decide +kernel
theorem dX2_addKey_26 : decode cX2_addKey 26 = .ok (.ireturn, 1) := by decide +kernel
theorem dX2_addKey_27 : decode cX2_addKey 27 = .ok (.aload_n 0, 1) := by decide +kernel
theorem dX2_addKey_28 : decode cX2_addKey 28 = .ok (.getfield 27, 3) := by decide +kernel
theorem dX2_addKey_31 : decode cX2_addKey 31 = .ok (.aload_n 0, 1) := by decide +kernel
theorem dX2_addKey_32 : decode cX2_addKey 32 = .ok (.getfield 46, 3) := by decide +kernel
theorem dX2_addKey_35 : decode cX2_addKey 35 = .ok (.iload_n 1, 1) := by decide +kernel
theorem dX2_addKey_36 : decode cX2_addKey 36 = .ok (.iastore, 1) := by decide +kernel
theorem dX2_addKey_37 : decode cX2_addKey 37 = .ok (.aload_n 0, 1) := by decide +kernel
theorem dX2_addKey_38 : decode cX2_addKey 38 = .ok (.getfield 30, 3) := by decide +kernel
theorem dX2_addKey_41 : decode cX2_addKey 41 = .ok (.aload_n 0, 1) := by decide +kernel
theorem dX2_addKey_42 : decode cX2_addKey 42 = .ok (.getfield 46, 3) := by decide +kernel
theorem dX2_addKey_45 : decode cX2_addKey 45 = .ok (.iload_n 2, 1) := by decide +kernel
theorem dX2_addKey_46 : decode cX2_addKey 46 = .ok (.iastore, 1) := by decide +kernel
theorem dX2_addKey_47 : decode cX2_addKey 47 = .ok (.aload_n 0, 1) := by decide +kernel
theorem dX2_addKey_48 : decode cX2_addKey 48 = .ok (.dup, 1) := by decide +kernel
theorem dX2_addKey_49 : decode cX2_addKey 49 = .ok (.getfield 46, 3) := by decide +kernel
theorem dX2_addKey_52 : decode cX2_addKey 52 = .ok (.iconst 1, 1) := by decide +kernel
theorem dX2_addKey_53 : decode cX2_addKey 53 = .ok (.iadd, 1) := by decide +kernel
theorem dX2_addKey_54 : decode cX2_addKey 54 = .ok (.putfield 46, 3) := by decide +kernel
theorem dX2_addKey_57 : decode cX2_addKey 57 = .ok (.iconst 1, 1) := by decide +kernel
theorem dX2_addKey_58 : decode cX2_addKey 58 = .ok (.ireturn, 1) := by decide +kernel
theorem dX2_dropKey_0 : decode cX2_dropKey 0 = .ok (.iload_n 1, 1) := by decide +kernel
theorem dX2_dropKey_1 : decode cX2_dropKey 1 = .ok (.istore_n 2, 1) := by decide +kernel
theorem dX2_dropKey_2 : decode cX2_dropKey 2 = .ok (.iload_n 2, 1) := by decide +kernel
theorem dX2_dropKey_3 : decode cX2_dropKey 3 = .ok (.iconst 1, 1) := by decide +kernel
theorem dX2_dropKey_4 : decode cX2_dropKey 4 = .ok (.iadd, 1) := by decide +kernel
theorem dX2_dropKey_5 : decode cX2_dropKey 5 = .ok (.aload_n 0, 1) := by decide +kernel
theorem dX2_dropKey_6 : decode cX2_dropKey 6 = .ok (.getfield 46, 3) := by decide +kernel
theorem dX2_dropKey_9 : decode cX2_dropKey 9 = .ok (.if_icmp .ge 37, 3) := by decide +kernel
theorem dX2_dropKey_12 : decode cX2_dropKey 12 = .ok (.aload_n 0, 1) := by decide +kernel
theorem dX2_dropKey_13 : decode cX2_dropKey 13 = .ok (.getfield 27, 3) := by decide +kernel
theorem dX2_dropKey_16 : decode cX2_dropKey 16 = .ok (.iload_n 2, 1) := by decide +kernel
theorem dX2_dropKey_17 : decode cX2_dropKey 17 = .ok (.aload_n 0, 1) := by decide +kernel
theorem dX2_dropKey_18 : decode cX2_dropKey 18 = .ok (.getfield 27, 3) := by decide +kernel
theorem dX2_dropKey_21 : decode cX2_dropKey 21 = .ok (.iload_n 2, 1) := by decide +kernel
theorem dX2_dropKey_22 : decode cX2_dropKey 22 = .ok (.iconst 1, 1) := by decide +kernel
theorem dX2_dropKey_23 : decode cX2_dropKey 23 = .ok (.iadd, 1) := by decide +kernel
theorem dX2_dropKey_24 : decode cX2_dropKey 24 = .ok (.iaload, 1) := by decide +kernel
theorem dX2_dropKey_25 : decode cX2_dropKey 25 = .ok (.iastore, 1) := by decide +kernel
theorem dX2_dropKey_26 : decode cX2_dropKey 26 = .ok (.aload_n 0, 1) := by decide +kernel
theorem dX2_dropKey_27 : decode cX2_dropKey 27 = .ok (.getfield 30, 3) := by decide +kernel
theorem dX2_dropKey_30 : decode cX2_dropKey 30 = .ok (.iload_n 2, 1) := by decide +kernel
theorem dX2_dropKey_31 : decode cX2_dropKey 31 = .ok (.aload_n 0, 1) := by decide +kernel
theorem dX2_dropKey_32 : decode cX2_dropKey 32 = .ok (.getfield 30, 3) := by decide +kernel
theorem dX2_dropKey_35 : decode cX2_dropKey 35 = .ok (.iload_n 2, 1) := by decide +kernel
theorem dX2_dropKey_36 : decode cX2_dropKey 36 = .ok (.iconst 1, 1) := by decide +kernel
theorem dX2_dropKey_37 : decode cX2_dropKey 37 = .ok (.iadd, 1) := by decide +kernel
theorem dX2_dropKey_38 : decode cX2_dropKey 38 = .ok (.iaload, 1) := by decide +kernel
theorem dX2_dropKey_39 : decode cX2_dropKey 39 = .ok (.iastore, 1) := by decide +kernel
theorem dX2_dropKey_40 : decode cX2_dropKey 40 = .ok (.iinc 2 1, 3) := by decide +kernel
theorem dX2_dropKey_43 : decode cX2_dropKey 43 = .ok (.goto (-41), 3) := by decide +kernel
theorem dX2_dropKey_46 : decode cX2_dropKey 46 = .ok (.aload_n 0, 1) := by decide +kernel
theorem dX2_dropKey_47 : decode cX2_dropKey 47 = .ok (.dup, 1) := by decide +kernel
theorem dX2_dropKey_48 : decode cX2_dropKey 48 = .ok (.getfield 46, 3) := by decide +kernel
theorem dX2_dropKey_51 : decode cX2_dropKey 51 = .ok (.iconst 1, 1) := by decide +kernel
theorem dX2_dropKey_52 : decode cX2_dropKey 52 = .ok (.isub, 1) := by decide +kernel
theorem dX2_dropKey_53 : decode cX2_dropKey 53 = .ok (.putfield 46, 3) := by decide +kernel
theorem dX2_dropKey_56 : decode cX2_dropKey 56 = .ok (.return_, 1) := by decide +kernel
theorem dX2_changeWatcher_0 : decode cX2_changeWatcher 0 = .ok (.aload_n 0, 1) := by decide +kernel
theorem dX2_changeWatcher_1 : decode cX2_changeWatcher 1 = .ok (.iload_n 1, 1) := by decide +kernel
theorem dX2_changeWatcher_2 : decode cX2_changeWatcher 2 = .ok (.invokevirtual 67, 3) := by decide +kernel
theorem dX2_changeWatcher_5 : decode cX2_changeWatcher 5 = .ok (.ifCond .ne 5, 3) := by decide +kernel
theorem dX2_changeWatcher_8 : decode cX2_changeWatcher 8 = .ok (.iconst 0, 1) := by decide +kernel
theorem dX2_changeWatcher_9 : decode cX2_changeWatcher 9 = .ok (.ireturn, 1) := by decide +kernel
theorem dX2_changeWatcher_10 : decode cX2_changeWatcher 10 = .ok (.aload_n 0, 1) := by decide +kernel
theorem dX2_changeWatcher_11 : decode cX2_changeWatcher 11 = .ok (.dup, 1) := by decide +kernel
theorem dX2_changeWatcher_12 : decode cX2_changeWatcher 12 = .ok (.getfield 49, 3) := by decide +kernel
theorem dX2_changeWatcher_15 : decode cX2_changeWatcher 15 = .ok (.iconst 1, 1) := by decide +kernel
theorem dX2_changeWatcher_16 : decode cX2_changeWatcher 16 = .ok (.iload_n 1, 1) := by decide +kernel
theorem dX2_changeWatcher_17 : decode cX2_changeWatcher 17 = .ok (.ishl, 1) := by decide +kernel
theorem dX2_changeWatcher_18 : decode cX2_changeWatcher 18 = .ok (.ixor, 1) := by decide +kernel
theorem dX2_changeWatcher_19 : decode cX2_changeWatcher 19 = .ok (.putfield 49, 3) := by decide +kernel
theorem dX2_changeWatcher_22 : decode cX2_changeWatcher 22 = .ok (.iconst 1, 1) := by decide +kernel
theorem dX2_changeWatcher_23 : decode cX2_changeWatcher 23 = .ok (.ireturn, 1) := by decide +kernel
theorem dX2_exchangeHolders_0 : decode cX2_exchangeHolders 0 = .ok (.aload_n 0, 1) := by decide +kernel
theorem dX2_exchangeHolders_1 : decode cX2_exchangeHolders 1 = .ok (.getfield 30, 3) := by decide +kernel
theorem dX2_exchangeHolders_4 : decode cX2_exchangeHolders 4 = .ok (.iload_n 1, 1) := by decide +kernel
theorem dX2_exchangeHolders_5 : decode cX2_exchangeHolders 5 = .ok (.iaload, 1) := by decide +kernel
theorem dX2_exchangeHolders_6 : decode cX2_exchangeHolders 6 = .ok (.istore_n 3, 1) := by decide +kernel
theorem dX2_exchangeHolders_7 : decode cX2_exchangeHolders 7 = .ok (.aload_n 0, 1) := by decide +kernel
theorem dX2_exchangeHolders_8 : decode cX2_exchangeHolders 8 = .ok (.getfield 30, 3) := by decide +kernel
theorem dX2_exchangeHolders_11 : decode cX2_exchangeHolders 11 = .ok (.iload_n 1, 1) := by decide +kernel
theorem dX2_exchangeHolders_12 : decode cX2_exchangeHolders 12 = .ok (.aload_n 0, 1) := by decide +kernel
theorem dX2_exchangeHolders_13 : decode cX2_exchangeHolders 13 = .ok (.getfield 30, 3) := by decide +kernel
theorem dX2_exchangeHolders_16 : decode cX2_exchangeHolders 16 = .ok (.iload_n 2, 1) := by decide +kernel
theorem dX2_exchangeHolders_17 : decode cX2_exchangeHolders 17 = .ok (.iaload, 1) := by decide +kernel
theorem dX2_exchangeHolders_18 : decode cX2_exchangeHolders 18 = .ok (.iastore, 1) := by decide +kernel
theorem dX2_exchangeHolders_19 : decode cX2_exchangeHolders 19 = .ok (.aload_n 0, 1) := by decide +kernel
theorem dX2_exchangeHolders_20 : decode cX2_exchangeHolders 20 = .ok (.getfield 30, 3) := by decide +kernel
theorem dX2_exchangeHolders_23 : decode cX2_exchangeHolders 23 = .ok (.iload_n 2, 1) := by decide +kernel
theorem dX2_exchangeHolders_24 : decode cX2_exchangeHolders 24 = .ok (.iload_n 3, 1) := by decide +kernel
theorem dX2_exchangeHolders_25 : decode cX2_exchangeHolders 25 = .ok (.iastore, 1) := by decide +kernel
theorem dX2_exchangeHolders_26 : decode cX2_exchangeHolders 26 = .ok (.return_, 1) := by decide +kernel
theorem dX2_ringCount_0 : decode cX2_ringCount 0 = .ok (.iconst 0, 1) := by decide +kernel
theorem dX2_ringCount_1 : decode cX2_ringCount 1 = .ok (.istore_n 1, 1) := by decide +kernel
theorem dX2_ringCount_2 : decode cX2_ringCount 2 = .ok (.iconst 0, 1) := by decide +kernel
theorem dX2_ringCount_3 : decode cX2_ringCount 3 = .ok (.istore_n 2, 1) := by decide +kernel
theorem dX2_ringCount_4 : decode cX2_ringCount 4 = .ok (.iconst 0, 1) := by decide +kernel
theorem dX2_ringCount_5 : decode cX2_ringCount 5 = .ok (.istore_n 3, 1) := by decide +kernel
theorem dX2_ringCount_6 : decode cX2_ringCount 6 = .ok (.iload_n 3, 1) := by decide +kernel
theorem dX2_ringCount_7 : decode cX2_ringCount 7 = .ok (.aload_n 0, 1) := by decide +kernel
theorem dX2_ringCount_8 : decode cX2_ringCount 8 = .ok (.getfield 46, 3) := by decide +kernel
theorem dX2_ringCount_11 : decode cX2_ringCount 11 = .ok (.if_icmp .ge 31, 3) := by decide +kernel
theorem dX2_ringCount_14 : decode cX2_ringCount 14 = .ok (.iload_n 1, 1) := by decide +kernel
theorem dX2_ringCount_15 : decode cX2_ringCount 15 = .ok (.iconst 1, 1) := by decide +kernel
theorem dX2_ringCount_16 : decode cX2_ringCount 16 = .ok (.aload_n 0, 1) := by decide +kernel
theorem dX2_ringCount_17 : decode cX2_ringCount 17 = .ok (.getfield 27, 3) := by decide +kernel
theorem dX2_ringCount_20 : decode cX2_ringCount 20 = .ok (.iload_n 3, 1) := by decide +kernel
theorem dX2_ringCount_21 : decode cX2_ringCount 21 = .ok (.iaload, 1) := by decide +kernel
theorem dX2_ringCount_22 : decode cX2_ringCount 22 = .ok (.ishl, 1) := by decide +kernel
theorem dX2_ringCount_23 : decode cX2_ringCount 23 = .ok (.ior, 1) := by decide +kernel
theorem dX2_ringCount_24 : decode cX2_ringCount 24 = .ok (.istore_n 1, 1) := by decide +kernel
theorem dX2_ringCount_25 : decode cX2_ringCount 25 = .ok (.iload_n 2, 1) := by decide +kernel
theorem dX2_ringCount_26 : decode cX2_ringCount 26 = .ok (.iconst 1, 1) := by decide +kernel
theorem dX2_ringCount_27 : decode cX2_ringCount 27 = .ok (.aload_n 0, 1) := by decide +kernel
theorem dX2_ringCount_28 : decode cX2_ringCount 28 = .ok (.getfield 30, 3) := by decide +kernel
theorem dX2_ringCount_31 : decode cX2_ringCount 31 = .ok (.iload_n 3, 1) := by decide +kernel
theorem dX2_ringCount_32 : decode cX2_ringCount 32 = .ok (.iaload, 1) := by decide +kernel
theorem dX2_ringCount_33 : decode cX2_ringCount 33 = .ok (.ishl, 1) := by decide +kernel
theorem dX2_ringCount_34 : decode cX2_ringCount 34 = .ok (.ior, 1) := by decide +kernel
theorem dX2_ringCount_35 : decode cX2_ringCount 35 = .ok (.istore_n 2, 1) := by decide +kernel
theorem dX2_ringCount_36 : decode cX2_ringCount 36 = .ok (.iinc 3 1, 3) := by decide +kernel
theorem dX2_ringCount_39 : decode cX2_ringCount 39 = .ok (.goto (-33), 3) := by decide +kernel
theorem dX2_ringCount_42 : decode cX2_ringCount 42 = .ok (.aload_n 0, 1) := by decide +kernel
theorem dX2_ringCount_43 : decode cX2_ringCount 43 = .ok (.getfield 46, 3) := by decide +kernel
theorem dX2_ringCount_46 : decode cX2_ringCount 46 = .ok (.aload_n 0, 1) := by decide +kernel
theorem dX2_ringCount_47 : decode cX2_ringCount 47 = .ok (.getfield 43, 3) := by decide +kernel
theorem dX2_ringCount_50 : decode cX2_ringCount 50 = .ok (.if_icmp .ne 19, 3) := by decide +kernel
theorem dX2_ringCount_53 : decode cX2_ringCount 53 = .ok (.iload_n 1, 1) := by decide +kernel
theorem dX2_ringCount_54 : decode cX2_ringCount 54 = .ok (.aload_n 0, 1) := by decide +kernel
theorem dX2_ringCount_55 : decode cX2_ringCount 55 = .ok (.invokevirtual 71, 3) := by decide +kernel
theorem dX2_ringCount_58 : decode cX2_ringCount 58 = .ok (.if_icmp .ne 11, 3) := by decide +kernel
theorem dX2_ringCount_61 : decode cX2_ringCount 61 = .ok (.iload_n 2, 1) := by decide +kernel
theorem dX2_ringCount_62 : decode cX2_ringCount 62 = .ok (.aload_n 0, 1) := by decide +kernel
theorem dX2_ringCount_63 : decode cX2_ringCount 63 = .ok (.invokevirtual 71, 3) := by decide +kernel
theorem dX2_ringCount_66 : decode cX2_ringCount 66 = .ok (.if_icmp .eq 6, 3) := by decide +kernel
theorem dX2_ringCount_69 : decode cX2_ringCount 69 = .ok (.bipush (-9), 2) := by decide +kernel
theorem dX2_ringCount_71 : decode cX2_ringCount 71 = .ok (.ireturn, 1) := by decide +kernel
theorem dX2_ringCount_72 : decode cX2_ringCount 72 = .ok (.iconst 0, 1) := by decide +kernel
theorem dX2_ringCount_73 : decode cX2_ringCount 73 = .ok (.istore_n 3, 1) := by decide +kernel
theorem dX2_ringCount_74 : decode cX2_ringCount 74 = .ok (.iconst 0, 1) := by decide +kernel
theorem dX2_ringCount_75 : decode cX2_ringCount 75 = .ok (.istore 4, 2) := by decide +kernel
theorem dX2_ringCount_77 : decode cX2_ringCount 77 = .ok (.iconst 0, 1) := by decide +kernel
theorem dX2_ringCount_78 : decode cX2_ringCount 78 = .ok (.istore 5, 2) := by decide +kernel
theorem dX2_ringCount_80 : decode cX2_ringCount 80 = .ok (.iload 5, 2) := by decide +kernel
theorem dX2_ringCount_82 : decode cX2_ringCount 82 = .ok (.aload_n 0, 1) := by decide +kernel
theorem dX2_ringCount_83 : decode cX2_ringCount 83 = .ok (.getfield 43, 3) := by decide +kernel
theorem dX2_ringCount_86 : decode cX2_ringCount 86 = .ok (.if_icmp .ge 30, 3) := by decide +kernel
theorem dX2_ringCount_89 : decode cX2_ringCount 89 = .ok (.iload_n 3, 1) := by decide +kernel
theorem dX2_ringCount_90 : decode cX2_ringCount 90 = .ok (.iload 5, 2) := by decide +kernel
theorem dX2_ringCount_92 : decode cX2_ringCount 92 = .ok (.ishr, 1) := by decide +kernel
theorem dX2_ringCount_93 : decode cX2_ringCount 93 = .ok (.iconst 1, 1) := by decide +kernel
theorem dX2_ringCount_94 : decode cX2_ringCount 94 = .ok (.iand, 1) := by decide +kernel
theorem dX2_ringCount_95 : decode cX2_ringCount 95 = .ok (.ifCond .ne 15, 3) := by decide +kernel
theorem dX2_ringCount_98 : decode cX2_ringCount 98 = .ok (.iinc 4 1, 3) := by decide +kernel
theorem dX2_ringCount_101 : decode cX2_ringCount 101 = .ok (.iload_n 3, 1) := by decide +kernel
theorem dX2_ringCount_102 : decode cX2_ringCount 102 = .ok (.aload_n 0, 1) := by decide +kernel
theorem dX2_ringCount_103 : decode cX2_ringCount 103 = .ok (.iload 5, 2) := by decide +kernel
theorem dX2_ringCount_105 : decode cX2_ringCount 105 = .ok (.invokevirtual 75, 3) := by decide +kernel
theorem dX2_ringCount_108 : decode cX2_ringCount 108 = .ok (.ior, 1) := by decide +kernel
theorem dX2_ringCount_109 : decode cX2_ringCount 109 = .ok (.istore_n 3, 1) := by decide +kernel
theorem dX2_ringCount_110 : decode cX2_ringCount 110 = .ok (.iinc 5 1, 3) := by decide +kernel
theorem dX2_ringCount_113 : decode cX2_ringCount 113 = .ok (.goto (-33), 3) := by decide +kernel
theorem dX2_ringCount_116 : decode cX2_ringCount 116 = .ok (.iload 4, 2) := by decide +kernel
theorem dX2_ringCount_118 : decode cX2_ringCount 118 = .ok (.ireturn, 1) := by decide +kernel
theorem dX2_ringOf_0 : decode cX2_ringOf 0 = .ok (.iconst 0, 1) := by decide +kernel
theorem dX2_ringOf_1 : decode cX2_ringOf 1 = .ok (.istore_n 2, 1) := by decide +kernel
theorem dX2_ringOf_2 : decode cX2_ringOf 2 = .ok (.iload_n 1, 1) := by decide +kernel
theorem dX2_ringOf_3 : decode cX2_ringOf 3 = .ok (.istore_n 3, 1) := by decide +kernel
theorem dX2_ringOf_4 : decode cX2_ringOf 4 = .ok (.iconst 0, 1) := by decide +kernel
theorem dX2_ringOf_5 : decode cX2_ringOf 5 = .ok (.istore 4, 2) := by decide +kernel
theorem dX2_ringOf_7 : decode cX2_ringOf 7 = .ok (.iload 4, 2) := by decide +kernel
theorem dX2_ringOf_9 : decode cX2_ringOf 9 = .ok (.aload_n 0, 1) := by decide +kernel
theorem dX2_ringOf_10 : decode cX2_ringOf 10 = .ok (.getfield 43, 3) := by decide +kernel
theorem dX2_ringOf_13 : decode cX2_ringOf 13 = .ok (.if_icmp .ge 21, 3) := by decide +kernel
theorem dX2_ringOf_16 : decode cX2_ringOf 16 = .ok (.iload_n 2, 1) := by decide +kernel
theorem dX2_ringOf_17 : decode cX2_ringOf 17 = .ok (.iconst 1, 1) := by decide +kernel
theorem dX2_ringOf_18 : decode cX2_ringOf 18 = .ok (.iload_n 3, 1) := by decide +kernel
theorem dX2_ringOf_19 : decode cX2_ringOf 19 = .ok (.ishl, 1) := by decide +kernel
theorem dX2_ringOf_20 : decode cX2_ringOf 20 = .ok (.ior, 1) := by decide +kernel
theorem dX2_ringOf_21 : decode cX2_ringOf 21 = .ok (.istore_n 2, 1) := by decide +kernel
theorem dX2_ringOf_22 : decode cX2_ringOf 22 = .ok (.aload_n 0, 1) := by decide +kernel
theorem dX2_ringOf_23 : decode cX2_ringOf 23 = .ok (.iload_n 3, 1) := by decide +kernel
theorem dX2_ringOf_24 : decode cX2_ringOf 24 = .ok (.invokevirtual 78, 3) := by decide +kernel
theorem dX2_ringOf_27 : decode cX2_ringOf 27 = .ok (.istore_n 3, 1) := by decide +kernel
theorem dX2_ringOf_28 : decode cX2_ringOf 28 = .ok (.iinc 4 1, 3) := by decide +kernel
theorem dX2_ringOf_31 : decode cX2_ringOf 31 = .ok (.goto (-24), 3) := by decide +kernel
theorem dX2_ringOf_34 : decode cX2_ringOf 34 = .ok (.iload_n 2, 1) := by decide +kernel
theorem dX2_ringOf_35 : decode cX2_ringOf 35 = .ok (.ireturn, 1) := by decide +kernel
theorem dX2_doorHeldBy_0 : decode cX2_doorHeldBy 0 = .ok (.iconst 0, 1) := by decide +kernel
theorem dX2_doorHeldBy_1 : decode cX2_doorHeldBy 1 = .ok (.istore_n 2, 1) := by decide +kernel
theorem dX2_doorHeldBy_2 : decode cX2_doorHeldBy 2 = .ok (.iload_n 2, 1) := by decide +kernel
theorem dX2_doorHeldBy_3 : decode cX2_doorHeldBy 3 = .ok (.aload_n 0, 1) := by decide +kernel
theorem dX2_doorHeldBy_4 : decode cX2_doorHeldBy 4 = .ok (.getfield 46, 3) := by decide +kernel
theorem dX2_doorHeldBy_7 : decode cX2_doorHeldBy 7 = .ok (.if_icmp .ge 26, 3) := by decide +kernel
theorem dX2_doorHeldBy_10 : decode cX2_doorHeldBy 10 = .ok (.aload_n 0, 1) := by decide +kernel
theorem dX2_doorHeldBy_11 : decode cX2_doorHeldBy 11 = .ok (.getfield 30, 3) := by decide +kernel
theorem dX2_doorHeldBy_14 : decode cX2_doorHeldBy 14 = .ok (.iload_n 2, 1) := by decide +kernel
theorem dX2_doorHeldBy_15 : decode cX2_doorHeldBy 15 = .ok (.iaload, 1) := by decide +kernel
theorem dX2_doorHeldBy_16 : decode cX2_doorHeldBy 16 = .ok (.iload_n 1, 1) := by decide +kernel
theorem dX2_doorHeldBy_17 : decode cX2_doorHeldBy 17 = .ok (.if_icmp .ne 10, 3) := by decide +kernel
theorem dX2_doorHeldBy_20 : decode cX2_doorHeldBy 20 = .ok (.aload_n 0, 1) := by decide +kernel
theorem dX2_doorHeldBy_21 : decode cX2_doorHeldBy 21 = .ok (.getfield 27, 3) := by decide +kernel
theorem dX2_doorHeldBy_24 : decode cX2_doorHeldBy 24 = .ok (.iload_n 2, 1) := by decide +kernel
theorem dX2_doorHeldBy_25 : decode cX2_doorHeldBy 25 = .ok (.iaload, 1) := by decide +kernel
theorem dX2_doorHeldBy_26 : decode cX2_doorHeldBy 26 = .ok (.ireturn, 1) := by decide +kernel
theorem dX2_doorHeldBy_27 : decode cX2_doorHeldBy 27 = .ok (.iinc 2 1, 3) := by decide +kernel
theorem dX2_doorHeldBy_30 : decode cX2_doorHeldBy 30 = .ok (.goto (-28), 3) := by decide +kernel
theorem dX2_doorHeldBy_33 : decode cX2_doorHeldBy 33 = .ok (.iload_n 1, 1) := by decide +kernel
theorem dX2_doorHeldBy_34 : decode cX2_doorHeldBy 34 = .ok (.ireturn, 1) := by decide +kernel
theorem dX3_init_0 : decode cX3_init 0 = .ok (.aload_n 0, 1) := by decide +kernel
theorem dX3_init_1 : decode cX3_init 1 = .ok (.invokespecial 1, 3) := by decide +kernel
theorem dX3_init_4 : decode cX3_init 4 = .ok (.aload_n 0, 1) := by decide +kernel
theorem dX3_init_5 : decode cX3_init 5 = .ok (.bipush 80, 2) := by decide +kernel
theorem dX3_init_7 : decode cX3_init 7 = .ok (.newarray .int, 2) := by decide +kernel
theorem dX3_init_9 : decode cX3_init 9 = .ok (.putfield 9, 3) := by decide +kernel
theorem dX3_init_12 : decode cX3_init 12 = .ok (.aload_n 0, 1) := by decide +kernel
theorem dX3_init_13 : decode cX3_init 13 = .ok (.new 13, 3) := by decide +kernel
theorem dX3_init_16 : decode cX3_init 16 = .ok (.dup, 1) := by decide +kernel
theorem dX3_init_17 : decode cX3_init 17 = .ok (.invokespecial 15, 3) := by decide +kernel
theorem dX3_init_20 : decode cX3_init 20 = .ok (.putfield 16, 3) := by decide +kernel
theorem dX3_init_23 : decode cX3_init 23 = .ok (.aload_n 0, 1) := by decide +kernel
theorem dX3_init_24 : decode cX3_init 24 = .ok (.new 20, 3) := by decide +kernel
theorem dX3_init_27 : decode cX3_init 27 = .ok (.dup, 1) := by decide +kernel
theorem dX3_init_28 : decode cX3_init 28 = .ok (.invokespecial 22, 3) := by decide +kernel
theorem dX3_init_31 : decode cX3_init 31 = .ok (.putfield 23, 3) := by decide +kernel
theorem dX3_init_34 : decode cX3_init 34 = .ok (.aload_n 0, 1) := by decide +kernel
theorem dX3_init_35 : decode cX3_init 35 = .ok (.new 20, 3) := by decide +kernel
theorem dX3_init_38 : decode cX3_init 38 = .ok (.dup, 1) := by decide +kernel
theorem dX3_init_39 : decode cX3_init 39 = .ok (.invokespecial 22, 3) := by decide +kernel
theorem dX3_init_42 : decode cX3_init 42 = .ok (.putfield 27, 3) := by decide +kernel
theorem dX3_init_45 : decode cX3_init 45 = .ok (.aload_n 0, 1) := by decide +kernel
theorem dX3_init_46 : decode cX3_init 46 = .ok (.new 20, 3) := by decide +kernel
theorem dX3_init_49 : decode cX3_init 49 = .ok (.dup, 1) := by decide +kernel
theorem dX3_init_50 : decode cX3_init 50 = .ok (.invokespecial 22, 3) := by decide +kernel
theorem dX3_init_53 : decode cX3_init 53 = .ok (.putfield 30, 3) := by decide +kernel
theorem dX3_init_56 : decode cX3_init 56 = .ok (.aload_n 0, 1) := by decide +kernel
theorem dX3_init_57 : decode cX3_init 57 = .ok (.new 33, 3) := by decide +kernel
theorem dX3_init_60 : decode cX3_init 60 = .ok (.dup, 1) := by decide +kernel
theorem dX3_init_61 : decode cX3_init 61 = .ok (.invokespecial 35, 3) := by decide +kernel
theorem dX3_init_64 : decode cX3_init 64 = .ok (.putfield 36, 3) := by decide +kernel
theorem dX3_init_67 : decode cX3_init 67 = .ok (.aload_n 0, 1) := by decide +kernel
theorem dX3_init_68 : decode cX3_init 68 = .ok (.bipush 7, 2) := by decide +kernel
theorem dX3_init_70 : decode cX3_init 70 = .ok (.newarray .int, 2) := by decide +kernel
theorem dX3_init_72 : decode cX3_init 72 = .ok (.putfield 40, 3) := by decide +kernel
theorem dX3_init_75 : decode cX3_init 75 = .ok (.aload_n 0, 1) := by decide +kernel
theorem dX3_init_76 : decode cX3_init 76 = .ok (.bipush 7, 2) := by decide +kernel
theorem dX3_init_78 : decode cX3_init 78 = .ok (.newarray .int, 2) := by decide +kernel
theorem dX3_init_80 : decode cX3_init 80 = .ok (.putfield 43, 3) := by decide +kernel
theorem dX3_init_83 : decode cX3_init 83 = .ok (.return_, 1) := by decide +kernel
theorem dX3_letter_0 : decode cX3_letter 0 = .ok (.iload_n 1, 1) := by decide +kernel
theorem dX3_letter_1 : decode cX3_letter 1 = .ok (.ifCond .ge 10, 3) := by decide +kernel
theorem dX3_letter_4 : decode cX3_letter 4 = .ok (.aload_n 0, 1) := by decide +kernel
theorem dX3_letter_5 : decode cX3_letter 5 = .ok (.bipush (-4), 2) := by decide +kernel
theorem dX3_letter_7 : decode cX3_letter 7 = .ok (.invokevirtual 46, 3) := by decide +kernel
theorem dX3_letter_10 : decode cX3_letter 10 = .ok (.ireturn, 1) := by decide +kernel
theorem dX3_letter_11 : decode cX3_letter 11 = .ok (.iload_n 1, 1) := by decide +kernel
theorem dX3_letter_12 : decode cX3_letter 12 = .ok (.sipush 255, 3) := by decide +kernel
theorem dX3_letter_15 : decode cX3_letter 15 = .ok (.if_icmp .gt 12, 3) := by decide +kernel
theorem dX3_letter_18 : decode cX3_letter 18 = .ok (.aload_n 0, 1) := by decide +kernel
theorem dX3_letter_19 : decode cX3_letter 19 = .ok (.getfield 50, 3) := by decide +kernel
theorem dX3_letter_22 : decode cX3_letter 22 = .ok (.bipush 80, 2) := by decide +kernel
theorem dX3_letter_24 : decode cX3_letter 24 = .ok (.if_icmp .lt 10, 3) := by decide +kernel
theorem dX3_letter_27 : decode cX3_letter 27 = .ok (.aload_n 0, 1) := by decide +kernel
theorem dX3_letter_28 : decode cX3_letter 28 = .ok (.bipush (-6), 2) := by decide +kernel
theorem dX3_letter_30 : decode cX3_letter 30 = .ok (.invokevirtual 46, 3) := by decide +kernel
theorem dX3_letter_33 : decode cX3_letter 33 = .ok (.ireturn, 1) := by decide +kernel
theorem dX3_letter_34 : decode cX3_letter 34 = .ok (.aload_n 0, 1) := by decide +kernel
theorem dX3_letter_35 : decode cX3_letter 35 = .ok (.getfield 9, 3) := by decide +kernel
theorem dX3_letter_38 : decode cX3_letter 38 = .ok (.aload_n 0, 1) := by decide +kernel
theorem dX3_letter_39 : decode cX3_letter 39 = .ok (.getfield 50, 3) := by decide +kernel
theorem dX3_letter_42 : decode cX3_letter 42 = .ok (.iload_n 1, 1) := by decide +kernel
theorem dX3_letter_43 : decode cX3_letter 43 = .ok (.iastore, 1) := by decide +kernel
theorem dX3_letter_44 : decode cX3_letter 44 = .ok (.aload_n 0, 1) := by decide +kernel
theorem dX3_letter_45 : decode cX3_letter 45 = .ok (.dup, 1) := by decide +kernel
theorem dX3_letter_46 : decode cX3_letter 46 = .ok (.getfield 50, 3) := by decide +kernel
theorem dX3_letter_49 : decode cX3_letter 49 = .ok (.iconst 1, 1) := by decide +kernel
theorem dX3_letter_50 : decode cX3_letter 50 = .ok (.iadd, 1) := by decide +kernel
theorem dX3_letter_51 : decode cX3_letter 51 = .ok (.putfield 50, 3) := by decide +kernel
theorem dX3_letter_54 : decode cX3_letter 54 = .ok (.aload_n 0, 1) := by decide +kernel
theorem dX3_letter_55 : decode cX3_letter 55 = .ok (.getfield 50, 3) := by decide +kernel
theorem dX3_letter_58 : decode cX3_letter 58 = .ok (.ireturn, 1) := by decide +kernel
theorem dX3_town_0 : decode cX3_town 0 = .ok (.aload_n 0, 1) := by decide +kernel
theorem dX3_town_1 : decode cX3_town 1 = .ok (.getfield 27, 3) := by decide +kernel
theorem dX3_town_4 : decode cX3_town 4 = .ok (.aload_n 0, 1) := by decide +kernel
theorem dX3_town_5 : decode cX3_town 5 = .ok (.getfield 23, 3) := by decide +kernel
theorem dX3_town_8 : decode cX3_town 8 = .ok (.invokevirtual 54, 3) := by decide +kernel
theorem dX3_town_11 : decode cX3_town 11 = .ok (.aload_n 0, 1) := by decide +kernel
theorem dX3_town_12 : decode cX3_town 12 = .ok (.getfield 16, 3) := by decide +kernel
theorem dX3_town_15 : decode cX3_town 15 = .ok (.aload_n 0, 1) := by decide +kernel
theorem dX3_town_16 : decode cX3_town 16 = .ok (.getfield 27, 3) := by decide +kernel
theorem dX3_town_19 : decode cX3_town 19 = .ok (.aload_n 0, 1) := by decide +kernel
theorem dX3_town_20 : decode cX3_town 20 = .ok (.getfield 9, 3) := by decide +kernel
theorem dX3_town_23 : decode cX3_town 23 = .ok (.aload_n 0, 1) := by decide +kernel
theorem dX3_town_24 : decode cX3_town 24 = .ok (.getfield 50, 3) := by decide +kernel
theorem dX3_town_27 : decode cX3_town 27 = .ok (.invokevirtual 58, 3) := by decide +kernel
theorem dX3_town_30 : decode cX3_town 30 = .ok (.istore_n 1, 1) := by decide +kernel
theorem dX3_town_31 : decode cX3_town 31 = .ok (.aload_n 0, 1) := by decide +kernel
theorem dX3_town_32 : decode cX3_town 32 = .ok (.iconst 0, 1) := by decide +kernel
theorem dX3_town_33 : decode cX3_town 33 = .ok (.putfield 50, 3) := by decide +kernel
theorem dX3_town_36 : decode cX3_town 36 = .ok (.iload_n 1, 1) := by decide +kernel
theorem dX3_town_37 : decode cX3_town 37 = .ok (.ifCond .lt 14, 3) := by decide +kernel
theorem dX3_town_40 : decode cX3_town 40 = .ok (.aload_n 0, 1) := by decide +kernel
theorem dX3_town_41 : decode cX3_town 41 = .ok (.getfield 23, 3) := by decide +kernel
theorem dX3_town_44 : decode cX3_town 44 = .ok (.aload_n 0, 1) := by decide +kernel
theorem dX3_town_45 : decode cX3_town 45 = .ok (.getfield 27, 3) := by decide +kernel
theorem dX3_town_48 : decode cX3_town 48 = .ok (.invokevirtual 54, 3) := by decide +kernel
theorem dX3_town_51 : decode cX3_town 51 = .ok (.iload_n 1, 1) := by decide +kernel
theorem dX3_town_52 : decode cX3_town 52 = .ok (.ireturn, 1) := by decide +kernel
theorem dX3_person_0 : decode cX3_person 0 = .ok (.aload_n 0, 1) := by decide +kernel
theorem dX3_person_1 : decode cX3_person 1 = .ok (.getfield 23, 3) := by decide +kernel
theorem dX3_person_4 : decode cX3_person 4 = .ok (.iload_n 1, 1) := by decide +kernel
theorem dX3_person_5 : decode cX3_person 5 = .ok (.invokevirtual 62, 3) := by decide +kernel
theorem dX3_person_8 : decode cX3_person 8 = .ok (.ifCond .ne 9, 3) := by decide +kernel
theorem dX3_person_11 : decode cX3_person 11 = .ok (.aload_n 0, 1) := by decide +kernel
theorem dX3_person_12 : decode cX3_person 12 = .ok (.iconst (-1), 1) := by decide +kernel
theorem dX3_person_13 : decode cX3_person 13 = .ok (.invokevirtual 46, 3) := by decide +kernel
theorem dX3_person_16 : decode cX3_person 16 = .ok (.ireturn, 1) := by decide +kernel
theorem dX3_person_17 : decode cX3_person 17 = .ok (.iload_n 2, 1) := by decide +kernel
theorem dX3_person_18 : decode cX3_person 18 = .ok (.tableswitch 126 0 7 #[46, 56, 66, 76, 86, 96, 105, 114], 46) := by decide +kernel
theorem dX3_person_64 : decode cX3_person 64 = .ok (.aload_n 0, 1) := by decide +kernel
theorem dX3_person_65 : decode cX3_person 65 = .ok (.getfield 23, 3) := by decide +kernel
theorem dX3_person_68 : decode cX3_person 68 = .ok (.getfield 66, 3) := by decide +kernel
theorem dX3_person_71 : decode cX3_person 71 = .ok (.iload_n 1, 1) := by decide +kernel
theorem dX3_person_72 : decode cX3_person 72 = .ok (.iaload, 1) := by decide +kernel
theorem dX3_person_73 : decode cX3_person 73 = .ok (.ireturn, 1) := by decide +kernel
theorem dX3_person_74 : decode cX3_person 74 = .ok (.aload_n 0, 1) := by decide +kernel
theorem dX3_person_75 : decode cX3_person 75 = .ok (.getfield 23, 3) := by decide +kernel
theorem dX3_person_78 : decode cX3_person 78 = .ok (.getfield 69, 3) := by decide +kernel
theorem dX3_person_81 : decode cX3_person 81 = .ok (.iload_n 1, 1) := by decide +kernel
theorem dX3_person_82 : decode cX3_person 82 = .ok (.iaload, 1) := by decide +kernel
theorem dX3_person_83 : decode cX3_person 83 = .ok (.ireturn, 1) := by decide +kernel
theorem dX3_person_84 : decode cX3_person 84 = .ok (.aload_n 0, 1) := by decide +kernel
theorem dX3_person_85 : decode cX3_person 85 = .ok (.getfield 23, 3) := by decide +kernel
theorem dX3_person_88 : decode cX3_person 88 = .ok (.getfield 72, 3) := by decide +kernel
theorem dX3_person_91 : decode cX3_person 91 = .ok (.iload_n 1, 1) := by decide +kernel
theorem dX3_person_92 : decode cX3_person 92 = .ok (.iaload, 1) := by decide +kernel
theorem dX3_person_93 : decode cX3_person 93 = .ok (.ireturn, 1) := by decide +kernel
theorem dX3_person_94 : decode cX3_person 94 = .ok (.aload_n 0, 1) := by decide +kernel
theorem dX3_person_95 : decode cX3_person 95 = .ok (.getfield 23, 3) := by decide +kernel
theorem dX3_person_98 : decode cX3_person 98 = .ok (.getfield 75, 3) := by decide +kernel
theorem dX3_person_101 : decode cX3_person 101 = .ok (.iload_n 1, 1) := by decide +kernel
theorem dX3_person_102 : decode cX3_person 102 = .ok (.iaload, 1) := by decide +kernel
theorem dX3_person_103 : decode cX3_person 103 = .ok (.ireturn, 1) := by decide +kernel
theorem dX3_person_104 : decode cX3_person 104 = .ok (.aload_n 0, 1) := by decide +kernel
theorem dX3_person_105 : decode cX3_person 105 = .ok (.getfield 23, 3) := by decide +kernel
theorem dX3_person_108 : decode cX3_person 108 = .ok (.getfield 78, 3) := by decide +kernel
theorem dX3_person_111 : decode cX3_person 111 = .ok (.iload_n 1, 1) := by decide +kernel
theorem dX3_person_112 : decode cX3_person 112 = .ok (.iaload, 1) := by decide +kernel
theorem dX3_person_113 : decode cX3_person 113 = .ok (.ireturn, 1) := by decide +kernel
theorem dX3_person_114 : decode cX3_person 114 = .ok (.aload_n 0, 1) := by decide +kernel
theorem dX3_person_115 : decode cX3_person 115 = .ok (.getfield 23, 3) := by decide +kernel
theorem dX3_person_118 : decode cX3_person 118 = .ok (.iload_n 1, 1) := by decide +kernel
theorem dX3_person_119 : decode cX3_person 119 = .ok (.invokevirtual 81, 3) := by decide +kernel
theorem dX3_person_122 : decode cX3_person 122 = .ok (.ireturn, 1) := by decide +kernel
theorem dX3_person_123 : decode cX3_person 123 = .ok (.aload_n 0, 1) := by decide +kernel
theorem dX3_person_124 : decode cX3_person 124 = .ok (.getfield 23, 3) := by decide +kernel
theorem dX3_person_127 : decode cX3_person 127 = .ok (.iload_n 1, 1) := by decide +kernel
theorem dX3_person_128 : decode cX3_person 128 = .ok (.invokevirtual 84, 3) := by decide +kernel
theorem dX3_person_131 : decode cX3_person 131 = .ok (.ireturn, 1) := by decide +kernel
theorem dX3_person_132 : decode cX3_person 132 = .ok (.aload_n 0, 1) := by decide +kernel
theorem dX3_person_133 : decode cX3_person 133 = .ok (.getfield 23, 3) := by decide +kernel
theorem dX3_person_136 : decode cX3_person 136 = .ok (.getfield 87, 3) := by decide +kernel
theorem dX3_person_139 : decode cX3_person 139 = .ok (.iload_n 1, 1) := by decide +kernel
theorem dX3_person_140 : decode cX3_person 140 = .ok (.ishr, 1) := by decide +kernel
theorem dX3_person_141 : decode cX3_person 141 = .ok (.iconst 1, 1) := by decide +kernel
theorem dX3_person_142 : decode cX3_person 142 = .ok (.iand, 1) := by decide +kernel
theorem dX3_person_143 : decode cX3_person 143 = .ok (.ireturn, 1) := by decide +kernel
theorem dX3_person_144 : decode cX3_person 144 = .ok (.aload_n 0, 1) := by decide +kernel
theorem dX3_person_145 : decode cX3_person 145 = .ok (.bipush (-2), 2) := by decide +kernel
theorem dX3_person_147 : decode cX3_person 147 = .ok (.invokevirtual 46, 3) := by decide +kernel
theorem dX3_person_150 : decode cX3_person 150 = .ok (.ireturn, 1) := by decide +kernel
theorem dX3_key_0 : decode cX3_key 0 = .ok (.aload_n 0, 1) := by decide +kernel
theorem dX3_key_1 : decode cX3_key 1 = .ok (.getfield 23, 3) := by decide +kernel
theorem dX3_key_4 : decode cX3_key 4 = .ok (.iload_n 1, 1) := by decide +kernel
theorem dX3_key_5 : decode cX3_key 5 = .ok (.invokevirtual 90, 3) := by decide +kernel
theorem dX3_key_8 : decode cX3_key 8 = .ok (.ifCond .ne 9, 3) := by decide +kernel
theorem dX3_key_11 : decode cX3_key 11 = .ok (.aload_n 0, 1) := by decide +kernel
theorem dX3_key_12 : decode cX3_key 12 = .ok (.iconst (-1), 1) := by decide +kernel
theorem dX3_key_13 : decode cX3_key 13 = .ok (.invokevirtual 46, 3) := by decide +kernel
theorem dX3_key_16 : decode cX3_key 16 = .ok (.ireturn, 1) := by decide +kernel
theorem dX3_key_17 : decode cX3_key 17 = .ok (.iload_n 2, 1) := by decide +kernel
theorem dX3_key_18 : decode cX3_key 18 = .ok (.lookupswitch 46 #[(0, 26), (1, 36)], 26) := by decide +kernel
theorem dX3_key_44 : decode cX3_key 44 = .ok (.aload_n 0, 1) := by decide +kernel
theorem dX3_key_45 : decode cX3_key 45 = .ok (.getfield 23, 3) := by decide +kernel
theorem dX3_key_48 : decode cX3_key 48 = .ok (.getfield 93, 3) := by decide +kernel
theorem dX3_key_51 : decode cX3_key 51 = .ok (.iload_n 1, 1) := by decide +kernel
theorem dX3_key_52 : decode cX3_key 52 = .ok (.iaload, 1) := by decide +kernel
theorem dX3_key_53 : decode cX3_key 53 = .ok (.ireturn, 1) := by decide +kernel
theorem dX3_key_54 : decode cX3_key 54 = .ok (.aload_n 0, 1) := by decide +kernel
theorem dX3_key_55 : decode cX3_key 55 = .ok (.getfield 23, 3) := by decide +kernel
theorem dX3_key_58 : decode cX3_key 58 = .ok (.getfield 96, 3) := by decide +kernel
theorem dX3_key_61 : decode cX3_key 61 = .ok (.iload_n 1, 1) := by decide +kernel
theorem dX3_key_62 : decode cX3_key 62 = .ok (.iaload, 1) := by decide +kernel
theorem dX3_key_63 : decode cX3_key 63 = .ok (.ireturn, 1) := by decide +kernel
theorem dX3_key_64 : decode cX3_key 64 = .ok (.aload_n 0, 1) := by decide +kernel
theorem dX3_key_65 : decode cX3_key 65 = .ok (.bipush (-2), 2) := by decide +kernel
theorem dX3_key_67 : decode cX3_key 67 = .ok (.invokevirtual 46, 3) := by decide +kernel
theorem dX3_key_70 : decode cX3_key 70 = .ok (.ireturn, 1) := by decide +kernel
theorem dX3_give_0 : decode cX3_give 0 = .ok (.aload_n 0, 1) := by decide +kernel
theorem dX3_give_1 : decode cX3_give 1 = .ok (.getfield 23, 3) := by decide +kernel
theorem dX3_give_4 : decode cX3_give 4 = .ok (.iload_n 1, 1) := by decide +kernel
theorem dX3_give_5 : decode cX3_give 5 = .ok (.invokevirtual 90, 3) := by decide +kernel
theorem dX3_give_8 : decode cX3_give 8 = .ok (.ifCond .eq 14, 3) := by decide +kernel
theorem dX3_give_11 : decode cX3_give 11 = .ok (.aload_n 0, 1) := by decide +kernel
theorem dX3_give_12 : decode cX3_give 12 = .ok (.getfield 23, 3) := by decide +kernel
theorem dX3_give_15 : decode cX3_give 15 = .ok (.iload_n 2, 1) := by decide +kernel
theorem dX3_give_16 : decode cX3_give 16 = .ok (.invokevirtual 62, 3) := by decide +kernel
theorem dX3_give_19 : decode cX3_give 19 = .ok (.ifCond .ne 9, 3) := by decide +kernel
theorem dX3_give_22 : decode cX3_give 22 = .ok (.aload_n 0, 1) := by decide +kernel
theorem dX3_give_23 : decode cX3_give 23 = .ok (.iconst (-1), 1) := by decide +kernel
theorem dX3_give_24 : decode cX3_give 24 = .ok (.invokevirtual 46, 3) := by decide +kernel
theorem dX3_give_27 : decode cX3_give 27 = .ok (.ireturn, 1) := by decide +kernel
theorem dX3_give_28 : decode cX3_give 28 = .ok (.aload_n 0, 1) := by decide +kernel
theorem dX3_give_29 : decode cX3_give 29 = .ok (.getfield 23, 3) := by decide +kernel
theorem dX3_give_32 : decode cX3_give 32 = .ok (.getfield 96, 3) := by decide +kernel
theorem dX3_give_35 : decode cX3_give 35 = .ok (.iload_n 1, 1) := by decide +kernel
theorem dX3_give_36 : decode cX3_give 36 = .ok (.iaload, 1) := by decide +kernel
theorem dX3_give_37 : decode cX3_give 37 = .ok (.istore_n 3, 1) := by decide +kernel
theorem dX3_give_38 : decode cX3_give 38 = .ok (.aload_n 0, 1) := by decide +kernel
theorem dX3_give_39 : decode cX3_give 39 = .ok (.getfield 23, 3) := by decide +kernel
theorem dX3_give_42 : decode cX3_give 42 = .ok (.getfield 96, 3) := by decide +kernel
theorem dX3_give_45 : decode cX3_give 45 = .ok (.iload_n 1, 1) := by decide +kernel
theorem dX3_give_46 : decode cX3_give 46 = .ok (.iload_n 2, 1) := by decide +kernel
theorem dX3_give_47 : decode cX3_give 47 = .ok (.iastore, 1) := by decide +kernel
theorem dX3_give_48 : decode cX3_give 48 = .ok (.iload_n 3, 1) := by decide +kernel
theorem dX3_give_49 : decode cX3_give 49 = .ok (.ireturn, 1) := by decide +kernel
theorem dX3_cast_0 : decode cX3_cast 0 = .ok (.aload_n 0, 1) := by decide +kernel
theorem dX3_cast_1 : decode cX3_cast 1 = .ok (.getfield 23, 3) := by decide +kernel
theorem dX3_cast_4 : decode cX3_cast 4 = .ok (.iload_n 1, 1) := by decide +kernel
theorem dX3_cast_5 : decode cX3_cast 5 = .ok (.invokevirtual 62, 3) := by decide +kernel
theorem dX3_cast_8 : decode cX3_cast 8 = .ok (.ifCond .eq 14, 3) := by decide +kernel
theorem dX3_cast_11 : decode cX3_cast 11 = .ok (.aload_n 0, 1) := by decide +kernel
theorem dX3_cast_12 : decode cX3_cast 12 = .ok (.getfield 23, 3) := by decide +kernel
theorem dX3_cast_15 : decode cX3_cast 15 = .ok (.iload_n 2, 1) := by decide +kernel
theorem dX3_cast_16 : decode cX3_cast 16 = .ok (.invokevirtual 62, 3) := by decide +kernel
theorem dX3_cast_19 : decode cX3_cast 19 = .ok (.ifCond .ne 9, 3) := by decide +kernel
theorem dX3_cast_22 : decode cX3_cast 22 = .ok (.aload_n 0, 1) := by decide +kernel
theorem dX3_cast_23 : decode cX3_cast 23 = .ok (.iconst (-1), 1) := by decide +kernel
theorem dX3_cast_24 : decode cX3_cast 24 = .ok (.invokevirtual 46, 3) := by decide +kernel
theorem dX3_cast_27 : decode cX3_cast 27 = .ok (.ireturn, 1) := by decide +kernel
theorem dX3_cast_28 : decode cX3_cast 28 = .ok (.aload_n 0, 1) := by decide +kernel
theorem dX3_cast_29 : decode cX3_cast 29 = .ok (.getfield 23, 3) := by decide +kernel
theorem dX3_cast_32 : decode cX3_cast 32 = .ok (.iload_n 1, 1) := by decide +kernel
theorem dX3_cast_33 : decode cX3_cast 33 = .ok (.iload_n 2, 1) := by decide +kernel
theorem dX3_cast_34 : decode cX3_cast 34 = .ok (.invokevirtual 99, 3) := by decide +kernel
theorem dX3_cast_37 : decode cX3_cast 37 = .ok (.ifCond .ne 10, 3) := by decide +kernel
theorem dX3_cast_40 : decode cX3_cast 40 = .ok (.aload_n 0, 1) := by decide +kernel
theorem dX3_cast_41 : decode cX3_cast 41 = .ok (.bipush (-6), 2) := by decide +kernel
theorem dX3_cast_43 : decode cX3_cast 43 = .ok (.invokevirtual 46, 3) := by decide +kernel
theorem dX3_cast_46 : decode cX3_cast 46 = .ok (.ireturn, 1) := by decide +kernel
theorem dX3_cast_47 : decode cX3_cast 47 = .ok (.aload_n 0, 1) := by decide +kernel
theorem dX3_cast_48 : decode cX3_cast 48 = .ok (.getfield 23, 3) := by decide +kernel
theorem dX3_cast_51 : decode cX3_cast 51 = .ok (.getfield 103, 3) := by decide +kernel
theorem dX3_cast_54 : decode cX3_cast 54 = .ok (.iconst 1, 1) := by decide +kernel
theorem dX3_cast_55 : decode cX3_cast 55 = .ok (.isub, 1) := by decide +kernel
theorem dX3_cast_56 : decode cX3_cast 56 = .ok (.ireturn, 1) := by decide +kernel
theorem dX3_lose_0 : decode cX3_lose 0 = .ok (.aload_n 0, 1) := by decide +kernel
theorem dX3_lose_1 : decode cX3_lose 1 = .ok (.getfield 23, 3) := by decide +kernel
theorem dX3_lose_4 : decode cX3_lose 4 = .ok (.iload_n 1, 1) := by decide +kernel
theorem dX3_lose_5 : decode cX3_lose 5 = .ok (.invokevirtual 90, 3) := by decide +kernel
theorem dX3_lose_8 : decode cX3_lose 8 = .ok (.ifCond .ne 9, 3) := by decide +kernel
theorem dX3_lose_11 : decode cX3_lose 11 = .ok (.aload_n 0, 1) := by decide +kernel
theorem dX3_lose_12 : decode cX3_lose 12 = .ok (.iconst (-1), 1) := by decide +kernel
theorem dX3_lose_13 : decode cX3_lose 13 = .ok (.invokevirtual 46, 3) := by decide +kernel
theorem dX3_lose_16 : decode cX3_lose 16 = .ok (.ireturn, 1) := by decide +kernel
theorem dX3_lose_17 : decode cX3_lose 17 = .ok (.aload_n 0, 1) := by decide +kernel
theorem dX3_lose_18 : decode cX3_lose 18 = .ok (.getfield 23, 3) := by decide +kernel
theorem dX3_lose_21 : decode cX3_lose 21 = .ok (.iload_n 1, 1) := by decide +kernel
theorem dX3_lose_22 : decode cX3_lose 22 = .ok (.invokevirtual 106, 3) := by decide +kernel
theorem dX3_lose_25 : decode cX3_lose 25 = .ok (.aload_n 0, 1) := by decide +kernel
theorem dX3_lose_26 : decode cX3_lose 26 = .ok (.getfield 23, 3) := by decide +kernel
theorem dX3_lose_29 : decode cX3_lose 29 = .ok (.getfield 103, 3) := by decide +kernel
theorem dX3_lose_32 : decode cX3_lose 32 = .ok (.ireturn, 1) := by decide +kernel
theorem dX3_watch_0 : decode cX3_watch 0 = .ok (.iload_n 1, 1) := by decide +kernel
theorem dX3_watch_1 : decode cX3_watch 1 = .ok (.aload_n 0, 1) := by decide +kernel
theorem dX3_watch_2 : decode cX3_watch 2 = .ok (.getfield 23, 3) := by decide +kernel
theorem dX3_watch_5 : decode cX3_watch 5 = .ok (.invokevirtual 110, 3) := by decide +kernel
theorem dX3_watch_8 : decode cX3_watch 8 = .ok (.iconst (-1), 1) := by decide +kernel
theorem dX3_watch_9 : decode cX3_watch 9 = .ok (.ixor, 1) := by decide +kernel
theorem dX3_watch_10 : decode cX3_watch 10 = .ok (.iand, 1) := by decide +kernel
theorem dX3_watch_11 : decode cX3_watch 11 = .ok (.ifCond .eq 9, 3) := by decide +kernel
theorem dX3_watch_14 : decode cX3_watch 14 = .ok (.aload_n 0, 1) := by decide +kernel
theorem dX3_watch_15 : decode cX3_watch 15 = .ok (.iconst (-1), 1) := by decide +kernel
theorem dX3_watch_16 : decode cX3_watch 16 = .ok (.invokevirtual 46, 3) := by decide +kernel
theorem dX3_watch_19 : decode cX3_watch 19 = .ok (.ireturn, 1) := by decide +kernel
theorem dX3_watch_20 : decode cX3_watch 20 = .ok (.aload_n 0, 1) := by decide +kernel
theorem dX3_watch_21 : decode cX3_watch 21 = .ok (.getfield 23, 3) := by decide +kernel
theorem dX3_watch_24 : decode cX3_watch 24 = .ok (.getfield 87, 3) := by decide +kernel
theorem dX3_watch_27 : decode cX3_watch 27 = .ok (.istore_n 2, 1) := by decide +kernel
theorem dX3_watch_28 : decode cX3_watch 28 = .ok (.aload_n 0, 1) := by decide +kernel
theorem dX3_watch_29 : decode cX3_watch 29 = .ok (.getfield 23, 3) := by decide +kernel
theorem dX3_watch_32 : decode cX3_watch 32 = .ok (.iload_n 1, 1) := by decide +kernel
theorem dX3_watch_33 : decode cX3_watch 33 = .ok (.putfield 87, 3) := by decide +kernel
theorem dX3_watch_36 : decode cX3_watch 36 = .ok (.iload_n 2, 1) := by decide +kernel
theorem dX3_watch_37 : decode cX3_watch 37 = .ok (.ireturn, 1) := by decide +kernel
theorem dX3_wake_0 : decode cX3_wake 0 = .ok (.aload_n 0, 1) := by decide +kernel
theorem dX3_wake_1 : decode cX3_wake 1 = .ok (.getfield 23, 3) := by decide +kernel
theorem dX3_wake_4 : decode cX3_wake 4 = .ok (.iload_n 1, 1) := by decide +kernel
theorem dX3_wake_5 : decode cX3_wake 5 = .ok (.invokevirtual 62, 3) := by decide +kernel
theorem dX3_wake_8 : decode cX3_wake 8 = .ok (.ifCond .ne 9, 3) := by decide +kernel
theorem dX3_wake_11 : decode cX3_wake 11 = .ok (.aload_n 0, 1) := by decide +kernel
theorem dX3_wake_12 : decode cX3_wake 12 = .ok (.iconst (-1), 1) := by decide +kernel
theorem dX3_wake_13 : decode cX3_wake 13 = .ok (.invokevirtual 46, 3) := by decide +kernel
theorem dX3_wake_16 : decode cX3_wake 16 = .ok (.ireturn, 1) := by decide +kernel
theorem dX3_wake_17 : decode cX3_wake 17 = .ok (.iload_n 2, 1) := by decide +kernel
theorem dX3_wake_18 : decode cX3_wake 18 = .ok (.ifCond .ge 10, 3) := by decide +kernel
theorem dX3_wake_21 : decode cX3_wake 21 = .ok (.aload_n 0, 1) := by decide +kernel
theorem dX3_wake_22 : decode cX3_wake 22 = .ok (.bipush (-4), 2) := by decide +kernel
theorem dX3_wake_24 : decode cX3_wake 24 = .ok (.invokevirtual 46, 3) := by decide +kernel
theorem dX3_wake_27 : decode cX3_wake 27 = .ok (.ireturn, 1) := by decide +kernel
theorem dX3_wake_28 : decode cX3_wake 28 = .ok (.iload_n 2, 1) := by decide +kernel
theorem dX3_wake_29 : decode cX3_wake 29 = .ok (.bipush 99, 2) := by decide +kernel
theorem dX3_wake_31 : decode cX3_wake 31 = .ok (.if_icmp .le 10, 3) := by decide +kernel
theorem dX3_wake_34 : decode cX3_wake 34 = .ok (.aload_n 0, 1) := by decide +kernel
theorem dX3_wake_35 : decode cX3_wake 35 = .ok (.bipush (-6), 2) := by decide +kernel
theorem dX3_wake_37 : decode cX3_wake 37 = .ok (.invokevirtual 46, 3) := by decide +kernel
theorem dX3_wake_40 : decode cX3_wake 40 = .ok (.ireturn, 1) := by decide +kernel
theorem dX3_wake_41 : decode cX3_wake 41 = .ok (.aload_n 0, 1) := by decide +kernel
theorem dX3_wake_42 : decode cX3_wake 42 = .ok (.getfield 23, 3) := by decide +kernel
theorem dX3_wake_45 : decode cX3_wake 45 = .ok (.getfield 69, 3) := by decide +kernel
theorem dX3_wake_48 : decode cX3_wake 48 = .ok (.iload_n 1, 1) := by decide +kernel
theorem dX3_wake_49 : decode cX3_wake 49 = .ok (.iaload, 1) := by decide +kernel
theorem dX3_wake_50 : decode cX3_wake 50 = .ok (.istore_n 3, 1) := by decide +kernel
theorem dX3_wake_51 : decode cX3_wake 51 = .ok (.aload_n 0, 1) := by decide +kernel
theorem dX3_wake_52 : decode cX3_wake 52 = .ok (.getfield 23, 3) := by decide +kernel
theorem dX3_wake_55 : decode cX3_wake 55 = .ok (.getfield 69, 3) := by decide +kernel
theorem dX3_wake_58 : decode cX3_wake 58 = .ok (.iload_n 1, 1) := by decide +kernel
theorem dX3_wake_59 : decode cX3_wake 59 = .ok (.iload_n 2, 1) := by decide +kernel
theorem dX3_wake_60 : decode cX3_wake 60 = .ok (.iastore, 1) := by decide +kernel
theorem dX3_wake_61 : decode cX3_wake 61 = .ok (.iload_n 3, 1) := by decide +kernel
theorem dX3_wake_62 : decode cX3_wake 62 = .ok (.ireturn, 1) := by decide +kernel
theorem dX3_walk_0 : decode cX3_walk 0 = .ok (.iload_n 1, 1) := by decide +kernel
theorem dX3_walk_1 : decode cX3_walk 1 = .ok (.ifCond .ge 10, 3) := by decide +kernel
theorem dX3_walk_4 : decode cX3_walk 4 = .ok (.aload_n 0, 1) := by decide +kernel
theorem dX3_walk_5 : decode cX3_walk 5 = .ok (.bipush (-4), 2) := by decide +kernel
theorem dX3_walk_7 : decode cX3_walk 7 = .ok (.invokevirtual 46, 3) := by decide +kernel
theorem dX3_walk_10 : decode cX3_walk 10 = .ok (.ireturn, 1) := by decide +kernel
theorem dX3_walk_11 : decode cX3_walk 11 = .ok (.iload_n 1, 1) := by decide +kernel
theorem dX3_walk_12 : decode cX3_walk 12 = .ok (.bipush 9, 2) := by decide +kernel
theorem dX3_walk_14 : decode cX3_walk 14 = .ok (.if_icmp .le 10, 3) := by decide +kernel
theorem dX3_walk_17 : decode cX3_walk 17 = .ok (.aload_n 0, 1) := by decide +kernel
theorem dX3_walk_18 : decode cX3_walk 18 = .ok (.bipush (-6), 2) := by decide +kernel
theorem dX3_walk_20 : decode cX3_walk 20 = .ok (.invokevirtual 46, 3) := by decide +kernel
theorem dX3_walk_23 : decode cX3_walk 23 = .ok (.ireturn, 1) := by decide +kernel
theorem dX3_walk_24 : decode cX3_walk 24 = .ok (.aload_n 0, 1) := by decide +kernel
theorem dX3_walk_25 : decode cX3_walk 25 = .ok (.getfield 23, 3) := by decide +kernel
theorem dX3_walk_28 : decode cX3_walk 28 = .ok (.getfield 114, 3) := by decide +kernel
theorem dX3_walk_31 : decode cX3_walk 31 = .ok (.istore_n 2, 1) := by decide +kernel
theorem dX3_walk_32 : decode cX3_walk 32 = .ok (.aload_n 0, 1) := by decide +kernel
theorem dX3_walk_33 : decode cX3_walk 33 = .ok (.getfield 23, 3) := by decide +kernel
theorem dX3_walk_36 : decode cX3_walk 36 = .ok (.iload_n 1, 1) := by decide +kernel
theorem dX3_walk_37 : decode cX3_walk 37 = .ok (.putfield 114, 3) := by decide +kernel
theorem dX3_walk_40 : decode cX3_walk 40 = .ok (.iload_n 2, 1) := by decide +kernel
theorem dX3_walk_41 : decode cX3_walk 41 = .ok (.ireturn, 1) := by decide +kernel
theorem dX3_out_0 : decode cX3_out 0 = .ok (.aload_n 0, 1) := by decide +kernel
theorem dX3_out_1 : decode cX3_out 1 = .ok (.getfield 23, 3) := by decide +kernel
theorem dX3_out_4 : decode cX3_out 4 = .ok (.iload_n 1, 1) := by decide +kernel
theorem dX3_out_5 : decode cX3_out 5 = .ok (.invokevirtual 62, 3) := by decide +kernel
theorem dX3_out_8 : decode cX3_out 8 = .ok (.ifCond .ne 9, 3) := by decide +kernel
theorem dX3_out_11 : decode cX3_out 11 = .ok (.aload_n 0, 1) := by decide +kernel
theorem dX3_out_12 : decode cX3_out 12 = .ok (.iconst (-1), 1) := by decide +kernel
theorem dX3_out_13 : decode cX3_out 13 = .ok (.invokevirtual 46, 3) := by decide +kernel
theorem dX3_out_16 : decode cX3_out 16 = .ok (.ireturn, 1) := by decide +kernel
theorem dX3_out_17 : decode cX3_out 17 = .ok (.aload_n 0, 1) := by decide +kernel
theorem dX3_out_18 : decode cX3_out 18 = .ok (.aload_n 0, 1) := by decide +kernel
theorem dX3_out_19 : decode cX3_out 19 = .ok (.getfield 23, 3) := by decide +kernel
theorem dX3_out_22 : decode cX3_out 22 = .ok (.invokevirtual 117, 3) := by decide +kernel
theorem dX3_out_25 : decode cX3_out 25 = .ok (.aload_n 0, 1) := by decide +kernel
theorem dX3_out_26 : decode cX3_out 26 = .ok (.getfield 36, 3) := by decide +kernel
theorem dX3_out_29 : decode cX3_out 29 = .ok (.getfield 120, 3) := by decide +kernel
theorem dX3_out_32 : decode cX3_out 32 = .ok (.iload_n 1, 1) := by decide +kernel
theorem dX3_out_33 : decode cX3_out 33 = .ok (.iaload, 1) := by decide +kernel
theorem dX3_out_34 : decode cX3_out 34 = .ok (.invokestatic 123, 3) := by decide +kernel
theorem dX3_out_37 : decode cX3_out 37 = .ok (.ireturn, 1) := by decide +kernel
theorem dX3_all_0 : decode cX3_all 0 = .ok (.aload_n 0, 1) := by decide +kernel
theorem dX3_all_1 : decode cX3_all 1 = .ok (.aload_n 0, 1) := by decide +kernel
theorem dX3_all_2 : decode cX3_all 2 = .ok (.getfield 23, 3) := by decide +kernel
theorem dX3_all_5 : decode cX3_all 5 = .ok (.invokevirtual 126, 3) := by decide +kernel
theorem dX3_all_8 : decode cX3_all 8 = .ok (.invokestatic 123, 3) := by decide +kernel
theorem dX3_all_11 : decode cX3_all 11 = .ok (.ireturn, 1) := by decide +kernel
theorem dX3_late_0 : decode cX3_late 0 = .ok (.aload_n 0, 1) := by decide +kernel
theorem dX3_late_1 : decode cX3_late 1 = .ok (.aload_n 0, 1) := by decide +kernel
theorem dX3_late_2 : decode cX3_late 2 = .ok (.getfield 23, 3) := by decide +kernel
theorem dX3_late_5 : decode cX3_late 5 = .ok (.invokevirtual 117, 3) := by decide +kernel
theorem dX3_late_8 : decode cX3_late 8 = .ok (.iconst 0, 1) := by decide +kernel
theorem dX3_late_9 : decode cX3_late 9 = .ok (.istore_n 1, 1) := by decide +kernel
theorem dX3_late_10 : decode cX3_late 10 = .ok (.iconst 0, 1) := by decide +kernel
theorem dX3_late_11 : decode cX3_late 11 = .ok (.istore_n 2, 1) := by decide +kernel
theorem dX3_late_12 : decode cX3_late 12 = .ok (.iload_n 2, 1) := by decide +kernel
theorem dX3_late_13 : decode cX3_late 13 = .ok (.aload_n 0, 1) := by decide +kernel
theorem dX3_late_14 : decode cX3_late 14 = .ok (.getfield 23, 3) := by decide +kernel
theorem dX3_late_17 : decode cX3_late 17 = .ok (.getfield 130, 3) := by decide +kernel
theorem dX3_late_20 : decode cX3_late 20 = .ok (.if_icmp .ge 36, 3) := by decide +kernel
theorem dX3_late_23 : decode cX3_late 23 = .ok (.aload_n 0, 1) := by decide +kernel
theorem dX3_late_24 : decode cX3_late 24 = .ok (.getfield 36, 3) := by decide +kernel
theorem dX3_late_27 : decode cX3_late 27 = .ok (.getfield 120, 3) := by decide +kernel
theorem dX3_late_30 : decode cX3_late 30 = .ok (.iload_n 2, 1) := by decide +kernel
theorem dX3_late_31 : decode cX3_late 31 = .ok (.iaload, 1) := by decide +kernel
theorem dX3_late_32 : decode cX3_late 32 = .ok (.aload_n 0, 1) := by decide +kernel
theorem dX3_late_33 : decode cX3_late 33 = .ok (.getfield 23, 3) := by decide +kernel
theorem dX3_late_36 : decode cX3_late 36 = .ok (.getfield 75, 3) := by decide +kernel
theorem dX3_late_39 : decode cX3_late 39 = .ok (.iload_n 2, 1) := by decide +kernel
theorem dX3_late_40 : decode cX3_late 40 = .ok (.iaload, 1) := by decide +kernel
theorem dX3_late_41 : decode cX3_late 41 = .ok (.if_icmp .le 9, 3) := by decide +kernel
theorem dX3_late_44 : decode cX3_late 44 = .ok (.iload_n 1, 1) := by decide +kernel
theorem dX3_late_45 : decode cX3_late 45 = .ok (.iconst 1, 1) := by decide +kernel
theorem dX3_late_46 : decode cX3_late 46 = .ok (.iload_n 2, 1) := by decide +kernel
theorem dX3_late_47 : decode cX3_late 47 = .ok (.ishl, 1) := by decide +kernel
theorem dX3_late_48 : decode cX3_late 48 = .ok (.ior, 1) := by decide +kernel
theorem dX3_late_49 : decode cX3_late 49 = .ok (.istore_n 1, 1) := by decide +kernel
theorem dX3_late_50 : decode cX3_late 50 = .ok (.iinc 2 1, 3) := by decide +kernel
theorem dX3_late_53 : decode cX3_late 53 = .ok (.goto (-41), 3) := by decide +kernel
theorem dX3_late_56 : decode cX3_late 56 = .ok (.iload_n 1, 1) := by decide +kernel
theorem dX3_late_57 : decode cX3_late 57 = .ok (.ireturn, 1) := by decide +kernel
theorem dX3_by_0 : decode cX3_by 0 = .ok (.aload_n 0, 1) := by decide +kernel
theorem dX3_by_1 : decode cX3_by 1 = .ok (.getfield 23, 3) := by decide +kernel
theorem dX3_by_4 : decode cX3_by 4 = .ok (.iload_n 1, 1) := by decide +kernel
theorem dX3_by_5 : decode cX3_by 5 = .ok (.invokevirtual 62, 3) := by decide +kernel
theorem dX3_by_8 : decode cX3_by 8 = .ok (.ifCond .ne 9, 3) := by decide +kernel
theorem dX3_by_11 : decode cX3_by 11 = .ok (.aload_n 0, 1) := by decide +kernel
theorem dX3_by_12 : decode cX3_by 12 = .ok (.iconst (-1), 1) := by decide +kernel
theorem dX3_by_13 : decode cX3_by 13 = .ok (.invokevirtual 46, 3) := by decide +kernel
theorem dX3_by_16 : decode cX3_by 16 = .ok (.ireturn, 1) := by decide +kernel
theorem dX3_by_17 : decode cX3_by 17 = .ok (.aload_n 0, 1) := by decide +kernel
theorem dX3_by_18 : decode cX3_by 18 = .ok (.aload_n 0, 1) := by decide +kernel
theorem dX3_by_19 : decode cX3_by 19 = .ok (.getfield 23, 3) := by decide +kernel
theorem dX3_by_22 : decode cX3_by 22 = .ok (.invokevirtual 117, 3) := by decide +kernel
theorem dX3_by_25 : decode cX3_by 25 = .ok (.aload_n 0, 1) := by decide +kernel
theorem dX3_by_26 : decode cX3_by 26 = .ok (.getfield 36, 3) := by decide +kernel
theorem dX3_by_29 : decode cX3_by 29 = .ok (.getfield 133, 3) := by decide +kernel
theorem dX3_by_32 : decode cX3_by 32 = .ok (.iload_n 1, 1) := by decide +kernel
theorem dX3_by_33 : decode cX3_by 33 = .ok (.iaload, 1) := by decide +kernel
theorem dX3_by_34 : decode cX3_by 34 = .ok (.ireturn, 1) := by decide +kernel
theorem dX3_fewest_0 : decode cX3_fewest 0 = .ok (.iload_n 1, 1) := by decide +kernel
theorem dX3_fewest_1 : decode cX3_fewest 1 = .ok (.ifCond .eq 15, 3) := by decide +kernel
theorem dX3_fewest_4 : decode cX3_fewest 4 = .ok (.iload_n 1, 1) := by decide +kernel
theorem dX3_fewest_5 : decode cX3_fewest 5 = .ok (.iconst 1, 1) := by decide +kernel
theorem dX3_fewest_6 : decode cX3_fewest 6 = .ok (.if_icmp .eq 10, 3) := by decide +kernel
theorem dX3_fewest_9 : decode cX3_fewest 9 = .ok (.aload_n 0, 1) := by decide +kernel
theorem dX3_fewest_10 : decode cX3_fewest 10 = .ok (.bipush (-2), 2) := by decide +kernel
theorem dX3_fewest_12 : decode cX3_fewest 12 = .ok (.invokevirtual 46, 3) := by decide +kernel
theorem dX3_fewest_15 : decode cX3_fewest 15 = .ok (.ireturn, 1) := by decide +kernel
theorem dX3_fewest_16 : decode cX3_fewest 16 = .ok (.aload_n 0, 1) := by decide +kernel
theorem dX3_fewest_17 : decode cX3_fewest 17 = .ok (.invokevirtual 136, 3) := by decide +kernel
theorem dX3_fewest_20 : decode cX3_fewest 20 = .ok (.istore_n 2, 1) := by decide +kernel
theorem dX3_fewest_21 : decode cX3_fewest 21 = .ok (.iload_n 1, 1) := by decide +kernel
theorem dX3_fewest_22 : decode cX3_fewest 22 = .ok (.ifCond .ne 10, 3) := by decide +kernel
theorem dX3_fewest_25 : decode cX3_fewest 25 = .ok (.iload_n 2, 1) := by decide +kernel
theorem dX3_fewest_26 : decode cX3_fewest 26 = .ok (.invokestatic 139, 3) := by decide +kernel
theorem dX3_fewest_29 : decode cX3_fewest 29 = .ok (.goto 4, 3) := by decide +kernel
theorem dX3_fewest_32 : decode cX3_fewest 32 = .ok (.iload_n 2, 1) := by decide +kernel
theorem dX3_fewest_33 : decode cX3_fewest 33 = .ok (.ireturn, 1) := by decide +kernel
theorem dX3_soonest_0 : decode cX3_soonest 0 = .ok (.iload_n 1, 1) := by decide +kernel
theorem dX3_soonest_1 : decode cX3_soonest 1 = .ok (.ifCond .eq 15, 3) := by decide +kernel
theorem dX3_soonest_4 : decode cX3_soonest 4 = .ok (.iload_n 1, 1) := by decide +kernel
theorem dX3_soonest_5 : decode cX3_soonest 5 = .ok (.iconst 1, 1) := by decide +kernel
theorem dX3_soonest_6 : decode cX3_soonest 6 = .ok (.if_icmp .eq 10, 3) := by decide +kernel
theorem dX3_soonest_9 : decode cX3_soonest 9 = .ok (.aload_n 0, 1) := by decide +kernel
theorem dX3_soonest_10 : decode cX3_soonest 10 = .ok (.bipush (-2), 2) := by decide +kernel
theorem dX3_soonest_12 : decode cX3_soonest 12 = .ok (.invokevirtual 46, 3) := by decide +kernel
theorem dX3_soonest_15 : decode cX3_soonest 15 = .ok (.ireturn, 1) := by decide +kernel
theorem dX3_soonest_16 : decode cX3_soonest 16 = .ok (.aload_n 0, 1) := by decide +kernel
theorem dX3_soonest_17 : decode cX3_soonest 17 = .ok (.aload_n 0, 1) := by decide +kernel
theorem dX3_soonest_18 : decode cX3_soonest 18 = .ok (.invokevirtual 136, 3) := by decide +kernel
theorem dX3_soonest_21 : decode cX3_soonest 21 = .ok (.invokestatic 139, 3) := by decide +kernel
theorem dX3_soonest_24 : decode cX3_soonest 24 = .ok (.invokevirtual 144, 3) := by decide +kernel
theorem dX3_soonest_27 : decode cX3_soonest 27 = .ok (.istore_n 2, 1) := by decide +kernel
theorem dX3_soonest_28 : decode cX3_soonest 28 = .ok (.iload_n 1, 1) := by decide +kernel
theorem dX3_soonest_29 : decode cX3_soonest 29 = .ok (.ifCond .ne 5, 3) := by decide +kernel
theorem dX3_soonest_32 : decode cX3_soonest 32 = .ok (.iload_n 2, 1) := by decide +kernel
theorem dX3_soonest_33 : decode cX3_soonest 33 = .ok (.ireturn, 1) := by decide +kernel
theorem dX3_soonest_34 : decode cX3_soonest 34 = .ok (.aload_n 0, 1) := by decide +kernel
theorem dX3_soonest_35 : decode cX3_soonest 35 = .ok (.getfield 36, 3) := by decide +kernel
theorem dX3_soonest_38 : decode cX3_soonest 38 = .ok (.iload_n 2, 1) := by decide +kernel
theorem dX3_soonest_39 : decode cX3_soonest 39 = .ok (.iconst 0, 1) := by decide +kernel
theorem dX3_soonest_40 : decode cX3_soonest 40 = .ok (.iconst 1, 1) := by decide +kernel
theorem dX3_soonest_41 : decode cX3_soonest 41 = .ok (.invokevirtual 147, 3) := by decide +kernel
theorem dX3_soonest_44 : decode cX3_soonest 44 = .ok (.aload_n 0, 1) := by decide +kernel
theorem dX3_soonest_45 : decode cX3_soonest 45 = .ok (.getfield 36, 3) := by decide +kernel
theorem dX3_soonest_48 : decode cX3_soonest 48 = .ok (.invokevirtual 151, 3) := by decide +kernel
theorem dX3_soonest_51 : decode cX3_soonest 51 = .ok (.invokestatic 123, 3) := by decide +kernel
theorem dX3_soonest_54 : decode cX3_soonest 54 = .ok (.ireturn, 1) := by decide +kernel
theorem dX3_copy_0 : decode cX3_copy 0 = .ok (.aload_n 0, 1) := by decide +kernel
theorem dX3_copy_1 : decode cX3_copy 1 = .ok (.getfield 23, 3) := by decide +kernel
theorem dX3_copy_4 : decode cX3_copy 4 = .ok (.getfield 130, 3) := by decide +kernel
theorem dX3_copy_7 : decode cX3_copy 7 = .ok (.ifCond .ne 10, 3) := by decide +kernel
theorem dX3_copy_10 : decode cX3_copy 10 = .ok (.aload_n 0, 1) := by decide +kernel
theorem dX3_copy_11 : decode cX3_copy 11 = .ok (.bipush (-3), 2) := by decide +kernel
theorem dX3_copy_13 : decode cX3_copy 13 = .ok (.invokevirtual 46, 3) := by decide +kernel
theorem dX3_copy_16 : decode cX3_copy 16 = .ok (.ireturn, 1) := by decide +kernel
theorem dX3_copy_17 : decode cX3_copy 17 = .ok (.aload_n 0, 1) := by decide +kernel
theorem dX3_copy_18 : decode cX3_copy 18 = .ok (.aload_n 0, 1) := by decide +kernel
theorem dX3_copy_19 : decode cX3_copy 19 = .ok (.getfield 23, 3) := by decide +kernel
theorem dX3_copy_22 : decode cX3_copy 22 = .ok (.invokevirtual 126, 3) := by decide +kernel
theorem dX3_copy_25 : decode cX3_copy 25 = .ok (.istore_n 1, 1) := by decide +kernel
theorem dX3_copy_26 : decode cX3_copy 26 = .ok (.bipush (-9), 2) := by decide +kernel
theorem dX3_copy_28 : decode cX3_copy 28 = .ok (.istore_n 2, 1) := by decide +kernel
theorem dX3_copy_29 : decode cX3_copy 29 = .ok (.iconst 0, 1) := by decide +kernel
theorem dX3_copy_30 : decode cX3_copy 30 = .ok (.istore_n 3, 1) := by decide +kernel
theorem dX3_copy_31 : decode cX3_copy 31 = .ok (.iload_n 3, 1) := by decide +kernel
theorem dX3_copy_32 : decode cX3_copy 32 = .ok (.bipush 49, 2) := by decide +kernel
theorem dX3_copy_34 : decode cX3_copy 34 = .ok (.if_icmp .ge 72, 3) := by decide +kernel
theorem dX3_copy_37 : decode cX3_copy 37 = .ok (.aload_n 0, 1) := by decide +kernel
theorem dX3_copy_38 : decode cX3_copy 38 = .ok (.iload_n 3, 1) := by decide +kernel
theorem dX3_copy_39 : decode cX3_copy 39 = .ok (.invokevirtual 154, 3) := by decide +kernel
theorem dX3_copy_42 : decode cX3_copy 42 = .ok (.ifCond .ne 6, 3) := by decide +kernel
theorem dX3_copy_45 : decode cX3_copy 45 = .ok (.goto 55, 3) := by decide +kernel
theorem dX3_copy_48 : decode cX3_copy 48 = .ok (.aload_n 0, 1) := by decide +kernel
theorem dX3_copy_49 : decode cX3_copy 49 = .ok (.getfield 36, 3) := by decide +kernel
theorem dX3_copy_52 : decode cX3_copy 52 = .ok (.aload_n 0, 1) := by decide +kernel
theorem dX3_copy_53 : decode cX3_copy 53 = .ok (.getfield 23, 3) := by decide +kernel
theorem dX3_copy_56 : decode cX3_copy 56 = .ok (.getfield 87, 3) := by decide +kernel
theorem dX3_copy_59 : decode cX3_copy 59 = .ok (.iconst 0, 1) := by decide +kernel
theorem dX3_copy_60 : decode cX3_copy 60 = .ok (.iconst 1, 1) := by decide +kernel
theorem dX3_copy_61 : decode cX3_copy 61 = .ok (.invokevirtual 147, 3) := by decide +kernel
theorem dX3_copy_64 : decode cX3_copy 64 = .ok (.aload_n 0, 1) := by decide +kernel
theorem dX3_copy_65 : decode cX3_copy 65 = .ok (.getfield 36, 3) := by decide +kernel
theorem dX3_copy_68 : decode cX3_copy 68 = .ok (.invokevirtual 151, 3) := by decide +kernel
theorem dX3_copy_71 : decode cX3_copy 71 = .ok (.istore 4, 2) := by decide +kernel
theorem dX3_copy_73 : decode cX3_copy 73 = .ok (.aload_n 0, 1) := by decide +kernel
theorem dX3_copy_74 : decode cX3_copy 74 = .ok (.iload_n 3, 1) := by decide +kernel
theorem dX3_copy_75 : decode cX3_copy 75 = .ok (.invokevirtual 157, 3) := by decide +kernel
theorem dX3_copy_78 : decode cX3_copy 78 = .ok (.iload 4, 2) := by decide +kernel
theorem dX3_copy_80 : decode cX3_copy 80 = .ok (.iload_n 1, 1) := by decide +kernel
theorem dX3_copy_81 : decode cX3_copy 81 = .ok (.if_icmp .ge 19, 3) := by decide +kernel
theorem dX3_copy_84 : decode cX3_copy 84 = .ok (.iload 4, 2) := by decide +kernel
theorem dX3_copy_86 : decode cX3_copy 86 = .ok (.istore_n 1, 1) := by decide +kernel
theorem dX3_copy_87 : decode cX3_copy 87 = .ok (.bipush 10, 2) := by decide +kernel
theorem dX3_copy_89 : decode cX3_copy 89 = .ok (.iload_n 3, 1) := by decide +kernel
theorem dX3_copy_90 : decode cX3_copy 90 = .ok (.invokestatic 160, 3) := by decide +kernel
theorem dX3_copy_93 : decode cX3_copy 93 = .ok (.imul, 1) := by decide +kernel
theorem dX3_copy_94 : decode cX3_copy 94 = .ok (.iload_n 3, 1) := by decide +kernel
theorem dX3_copy_95 : decode cX3_copy 95 = .ok (.invokestatic 163, 3) := by decide +kernel
theorem dX3_copy_98 : decode cX3_copy 98 = .ok (.iadd, 1) := by decide +kernel
theorem dX3_copy_99 : decode cX3_copy 99 = .ok (.istore_n 2, 1) := by decide +kernel
theorem dX3_copy_100 : decode cX3_copy 100 = .ok (.iinc 3 1, 3) := by decide +kernel
theorem dX3_copy_103 : decode cX3_copy 103 = .ok (.goto (-72), 3) := by decide +kernel
theorem dX3_copy_106 : decode cX3_copy 106 = .ok (.iload_n 2, 1) := by decide +kernel
theorem dX3_copy_107 : decode cX3_copy 107 = .ok (.ireturn, 1) := by decide +kernel
theorem dX3_copies_0 : decode cX3_copies 0 = .ok (.iload_n 1, 1) := by decide +kernel
theorem dX3_copies_1 : decode cX3_copies 1 = .ok (.ifCond .ge 10, 3) := by decide +kernel
theorem dX3_copies_4 : decode cX3_copies 4 = .ok (.aload_n 0, 1) := by decide +kernel
theorem dX3_copies_5 : decode cX3_copies 5 = .ok (.bipush (-4), 2) := by decide +kernel
theorem dX3_copies_7 : decode cX3_copies 7 = .ok (.invokevirtual 46, 3) := by decide +kernel
theorem dX3_copies_10 : decode cX3_copies 10 = .ok (.ireturn, 1) := by decide +kernel
theorem dX3_copies_11 : decode cX3_copies 11 = .ok (.aload_n 0, 1) := by decide +kernel
theorem dX3_copies_12 : decode cX3_copies 12 = .ok (.getfield 36, 3) := by decide +kernel
theorem dX3_copies_15 : decode cX3_copies 15 = .ok (.aload_n 0, 1) := by decide +kernel
theorem dX3_copies_16 : decode cX3_copies 16 = .ok (.getfield 23, 3) := by decide +kernel
theorem dX3_copies_19 : decode cX3_copies 19 = .ok (.invokevirtual 166, 3) := by decide +kernel
theorem dX3_copies_22 : decode cX3_copies 22 = .ok (.aload_n 0, 1) := by decide +kernel
theorem dX3_copies_23 : decode cX3_copies 23 = .ok (.iload_n 1, 1) := by decide +kernel
theorem dX3_copies_24 : decode cX3_copies 24 = .ok (.invokevirtual 169, 3) := by decide +kernel
theorem dX3_copies_27 : decode cX3_copies 27 = .ok (.ifCond .eq 5, 3) := by decide +kernel
theorem dX3_copies_30 : decode cX3_copies 30 = .ok (.iconst 0, 1) := by decide +kernel
theorem dX3_copies_31 : decode cX3_copies 31 = .ok (.ireturn, 1) := by decide +kernel
theorem dX3_copies_32 : decode cX3_copies 32 = .ok (.aload_n 0, 1) := by decide +kernel
theorem dX3_copies_33 : decode cX3_copies 33 = .ok (.iconst 0, 1) := by decide +kernel
theorem dX3_copies_34 : decode cX3_copies 34 = .ok (.iload_n 1, 1) := by decide +kernel
theorem dX3_copies_35 : decode cX3_copies 35 = .ok (.invokevirtual 172, 3) := by decide +kernel
theorem dX3_copies_38 : decode cX3_copies 38 = .ok (.ifCond .eq 5, 3) := by decide +kernel
theorem dX3_copies_41 : decode cX3_copies 41 = .ok (.iconst 1, 1) := by decide +kernel
theorem dX3_copies_42 : decode cX3_copies 42 = .ok (.ireturn, 1) := by decide +kernel
theorem dX3_copies_43 : decode cX3_copies 43 = .ok (.aload_n 0, 1) := by decide +kernel
theorem dX3_copies_44 : decode cX3_copies 44 = .ok (.iload_n 1, 1) := by decide +kernel
theorem dX3_copies_45 : decode cX3_copies 45 = .ok (.invokevirtual 175, 3) := by decide +kernel
theorem dX3_copies_48 : decode cX3_copies 48 = .ok (.ifCond .eq 7, 3) := by decide +kernel
theorem dX3_copies_51 : decode cX3_copies 51 = .ok (.iconst 2, 1) := by decide +kernel
theorem dX3_copies_52 : decode cX3_copies 52 = .ok (.goto 5, 3) := by decide +kernel
theorem dX3_copies_55 : decode cX3_copies 55 = .ok (.bipush (-9), 2) := by decide +kernel
theorem dX3_copies_57 : decode cX3_copies 57 = .ok (.ireturn, 1) := by decide +kernel
theorem dX3_rings_0 : decode cX3_rings 0 = .ok (.aload_n 0, 1) := by decide +kernel
theorem dX3_rings_1 : decode cX3_rings 1 = .ok (.getfield 23, 3) := by decide +kernel
theorem dX3_rings_4 : decode cX3_rings 4 = .ok (.invokevirtual 178, 3) := by decide +kernel
theorem dX3_rings_7 : decode cX3_rings 7 = .ok (.ireturn, 1) := by decide +kernel
theorem dX3_swap_0 : decode cX3_swap 0 = .ok (.aload_n 0, 1) := by decide +kernel
theorem dX3_swap_1 : decode cX3_swap 1 = .ok (.getfield 23, 3) := by decide +kernel
theorem dX3_swap_4 : decode cX3_swap 4 = .ok (.invokevirtual 178, 3) := by decide +kernel
theorem dX3_swap_7 : decode cX3_swap 7 = .ok (.istore_n 1, 1) := by decide +kernel
theorem dX3_swap_8 : decode cX3_swap 8 = .ok (.iload_n 1, 1) := by decide +kernel
theorem dX3_swap_9 : decode cX3_swap 9 = .ok (.bipush (-9), 2) := by decide +kernel
theorem dX3_swap_11 : decode cX3_swap 11 = .ok (.if_icmp .ne 6, 3) := by decide +kernel
theorem dX3_swap_14 : decode cX3_swap 14 = .ok (.bipush (-9), 2) := by decide +kernel
theorem dX3_swap_16 : decode cX3_swap 16 = .ok (.ireturn, 1) := by decide +kernel
theorem dX3_swap_17 : decode cX3_swap 17 = .ok (.iconst 0, 1) := by decide +kernel
theorem dX3_swap_18 : decode cX3_swap 18 = .ok (.istore_n 2, 1) := by decide +kernel
theorem dX3_swap_19 : decode cX3_swap 19 = .ok (.iload_n 2, 1) := by decide +kernel
theorem dX3_swap_20 : decode cX3_swap 20 = .ok (.aload_n 0, 1) := by decide +kernel
theorem dX3_swap_21 : decode cX3_swap 21 = .ok (.getfield 23, 3) := by decide +kernel
theorem dX3_swap_24 : decode cX3_swap 24 = .ok (.getfield 103, 3) := by decide +kernel
theorem dX3_swap_27 : decode cX3_swap 27 = .ok (.if_icmp .ge 68, 3) := by decide +kernel
theorem dX3_swap_30 : decode cX3_swap 30 = .ok (.iload_n 2, 1) := by decide +kernel
theorem dX3_swap_31 : decode cX3_swap 31 = .ok (.iconst 1, 1) := by decide +kernel
theorem dX3_swap_32 : decode cX3_swap 32 = .ok (.iadd, 1) := by decide +kernel
theorem dX3_swap_33 : decode cX3_swap 33 = .ok (.istore_n 3, 1) := by decide +kernel
theorem dX3_swap_34 : decode cX3_swap 34 = .ok (.iload_n 3, 1) := by decide +kernel
theorem dX3_swap_35 : decode cX3_swap 35 = .ok (.aload_n 0, 1) := by decide +kernel
theorem dX3_swap_36 : decode cX3_swap 36 = .ok (.getfield 23, 3) := by decide +kernel
theorem dX3_swap_39 : decode cX3_swap 39 = .ok (.getfield 103, 3) := by decide +kernel
theorem dX3_swap_42 : decode cX3_swap 42 = .ok (.if_icmp .ge 47, 3) := by decide +kernel
theorem dX3_swap_45 : decode cX3_swap 45 = .ok (.aload_n 0, 1) := by decide +kernel
theorem dX3_swap_46 : decode cX3_swap 46 = .ok (.getfield 27, 3) := by decide +kernel
theorem dX3_swap_49 : decode cX3_swap 49 = .ok (.aload_n 0, 1) := by decide +kernel
theorem dX3_swap_50 : decode cX3_swap 50 = .ok (.getfield 23, 3) := by decide +kernel
theorem dX3_swap_53 : decode cX3_swap 53 = .ok (.invokevirtual 54, 3) := by decide +kernel
theorem dX3_swap_56 : decode cX3_swap 56 = .ok (.aload_n 0, 1) := by decide +kernel
theorem dX3_swap_57 : decode cX3_swap 57 = .ok (.getfield 27, 3) := by decide +kernel
theorem dX3_swap_60 : decode cX3_swap 60 = .ok (.iload_n 2, 1) := by decide +kernel
theorem dX3_swap_61 : decode cX3_swap 61 = .ok (.iload_n 3, 1) := by decide +kernel
theorem dX3_swap_62 : decode cX3_swap 62 = .ok (.invokevirtual 181, 3) := by decide +kernel
theorem dX3_swap_65 : decode cX3_swap 65 = .ok (.aload_n 0, 1) := by decide +kernel
theorem dX3_swap_66 : decode cX3_swap 66 = .ok (.getfield 27, 3) := by decide +kernel
theorem dX3_swap_69 : decode cX3_swap 69 = .ok (.invokevirtual 178, 3) := by decide +kernel
theorem dX3_swap_72 : decode cX3_swap 72 = .ok (.iload_n 1, 1) := by decide +kernel
theorem dX3_swap_73 : decode cX3_swap 73 = .ok (.if_icmp .ge 10, 3) := by decide +kernel
theorem dX3_swap_76 : decode cX3_swap 76 = .ok (.bipush 10, 2) := by decide +kernel
theorem dX3_swap_78 : decode cX3_swap 78 = .ok (.iload_n 2, 1) := by decide +kernel
theorem dX3_swap_79 : decode cX3_swap 79 = .ok (.imul, 1) := by decide +kernel
theorem dX3_swap_80 : decode cX3_swap 80 = .ok (.iload_n 3, 1) := by decide +kernel
theorem dX3_swap_81 : decode cX3_swap 81 = .ok (.iadd, 1) := by decide +kernel
theorem dX3_swap_82 : decode cX3_swap 82 = .ok (.ireturn, 1) := by decide +kernel
theorem dX3_swap_83 : decode cX3_swap 83 = .ok (.iinc 3 1, 3) := by decide +kernel
theorem dX3_swap_86 : decode cX3_swap 86 = .ok (.goto (-52), 3) := by decide +kernel
theorem dX3_swap_89 : decode cX3_swap 89 = .ok (.iinc 2 1, 3) := by decide +kernel
theorem dX3_swap_92 : decode cX3_swap 92 = .ok (.goto (-73), 3) := by decide +kernel
theorem dX3_swap_95 : decode cX3_swap 95 = .ok (.bipush (-9), 2) := by decide +kernel
theorem dX3_swap_97 : decode cX3_swap 97 = .ok (.ireturn, 1) := by decide +kernel
theorem dX3_gone_0 : decode cX3_gone 0 = .ok (.aload_n 0, 1) := by decide +kernel
theorem dX3_gone_1 : decode cX3_gone 1 = .ok (.getfield 23, 3) := by decide +kernel
theorem dX3_gone_4 : decode cX3_gone 4 = .ok (.iload_n 1, 1) := by decide +kernel
theorem dX3_gone_5 : decode cX3_gone 5 = .ok (.invokevirtual 90, 3) := by decide +kernel
theorem dX3_gone_8 : decode cX3_gone 8 = .ok (.ifCond .ne 9, 3) := by decide +kernel
theorem dX3_gone_11 : decode cX3_gone 11 = .ok (.aload_n 0, 1) := by decide +kernel
theorem dX3_gone_12 : decode cX3_gone 12 = .ok (.iconst (-1), 1) := by decide +kernel
theorem dX3_gone_13 : decode cX3_gone 13 = .ok (.invokevirtual 46, 3) := by decide +kernel
theorem dX3_gone_16 : decode cX3_gone 16 = .ok (.ireturn, 1) := by decide +kernel
theorem dX3_gone_17 : decode cX3_gone 17 = .ok (.aload_n 0, 1) := by decide +kernel
theorem dX3_gone_18 : decode cX3_gone 18 = .ok (.aload_n 0, 1) := by decide +kernel
theorem dX3_gone_19 : decode cX3_gone 19 = .ok (.getfield 23, 3) := by decide +kernel
theorem dX3_gone_22 : decode cX3_gone 22 = .ok (.invokevirtual 117, 3) := by decide +kernel
theorem dX3_gone_25 : decode cX3_gone 25 = .ok (.aload_n 0, 1) := by decide +kernel
theorem dX3_gone_26 : decode cX3_gone 26 = .ok (.getfield 36, 3) := by decide +kernel
theorem dX3_gone_29 : decode cX3_gone 29 = .ok (.invokevirtual 185, 3) := by decide +kernel
theorem dX3_gone_32 : decode cX3_gone 32 = .ok (.istore_n 2, 1) := by decide +kernel
theorem dX3_gone_33 : decode cX3_gone 33 = .ok (.aload_n 0, 1) := by decide +kernel
theorem dX3_gone_34 : decode cX3_gone 34 = .ok (.getfield 27, 3) := by decide +kernel
theorem dX3_gone_37 : decode cX3_gone 37 = .ok (.aload_n 0, 1) := by decide +kernel
theorem dX3_gone_38 : decode cX3_gone 38 = .ok (.getfield 23, 3) := by decide +kernel
theorem dX3_gone_41 : decode cX3_gone 41 = .ok (.invokevirtual 54, 3) := by decide +kernel
theorem dX3_gone_44 : decode cX3_gone 44 = .ok (.aload_n 0, 1) := by decide +kernel
theorem dX3_gone_45 : decode cX3_gone 45 = .ok (.getfield 27, 3) := by decide +kernel
theorem dX3_gone_48 : decode cX3_gone 48 = .ok (.iload_n 1, 1) := by decide +kernel
theorem dX3_gone_49 : decode cX3_gone 49 = .ok (.invokevirtual 106, 3) := by decide +kernel
theorem dX3_gone_52 : decode cX3_gone 52 = .ok (.aload_n 0, 1) := by decide +kernel
theorem dX3_gone_53 : decode cX3_gone 53 = .ok (.aload_n 0, 1) := by decide +kernel
theorem dX3_gone_54 : decode cX3_gone 54 = .ok (.getfield 27, 3) := by decide +kernel
theorem dX3_gone_57 : decode cX3_gone 57 = .ok (.invokevirtual 117, 3) := by decide +kernel
theorem dX3_gone_60 : decode cX3_gone 60 = .ok (.iload_n 2, 1) := by decide +kernel
theorem dX3_gone_61 : decode cX3_gone 61 = .ok (.aload_n 0, 1) := by decide +kernel
theorem dX3_gone_62 : decode cX3_gone 62 = .ok (.getfield 36, 3) := by decide +kernel
theorem dX3_gone_65 : decode cX3_gone 65 = .ok (.invokevirtual 185, 3) := by decide +kernel
theorem dX3_gone_68 : decode cX3_gone 68 = .ok (.iconst (-1), 1) := by decide +kernel
theorem dX3_gone_69 : decode cX3_gone 69 = .ok (.ixor, 1) := by decide +kernel
theorem dX3_gone_70 : decode cX3_gone 70 = .ok (.iand, 1) := by decide +kernel
theorem dX3_gone_71 : decode cX3_gone 71 = .ok (.ireturn, 1) := by decide +kernel
theorem dX3_breaking_0 : decode cX3_breaking 0 = .ok (.iload_n 1, 1) := by decide +kernel
theorem dX3_breaking_1 : decode cX3_breaking 1 = .ok (.ifCond .eq 15, 3) := by decide +kernel
theorem dX3_breaking_4 : decode cX3_breaking 4 = .ok (.iload_n 1, 1) := by decide +kernel
theorem dX3_breaking_5 : decode cX3_breaking 5 = .ok (.iconst 1, 1) := by decide +kernel
theorem dX3_breaking_6 : decode cX3_breaking 6 = .ok (.if_icmp .eq 10, 3) := by decide +kernel
theorem dX3_breaking_9 : decode cX3_breaking 9 = .ok (.aload_n 0, 1) := by decide +kernel
theorem dX3_breaking_10 : decode cX3_breaking 10 = .ok (.bipush (-2), 2) := by decide +kernel
theorem dX3_breaking_12 : decode cX3_breaking 12 = .ok (.invokevirtual 46, 3) := by decide +kernel
theorem dX3_breaking_15 : decode cX3_breaking 15 = .ok (.ireturn, 1) := by decide +kernel
theorem dX3_breaking_16 : decode cX3_breaking 16 = .ok (.aload_n 0, 1) := by decide +kernel
theorem dX3_breaking_17 : decode cX3_breaking 17 = .ok (.getfield 36, 3) := by decide +kernel
theorem dX3_breaking_20 : decode cX3_breaking 20 = .ok (.aload_n 0, 1) := by decide +kernel
theorem dX3_breaking_21 : decode cX3_breaking 21 = .ok (.getfield 23, 3) := by decide +kernel
theorem dX3_breaking_24 : decode cX3_breaking 24 = .ok (.invokevirtual 166, 3) := by decide +kernel
theorem dX3_breaking_27 : decode cX3_breaking 27 = .ok (.aload_n 0, 1) := by decide +kernel
theorem dX3_breaking_28 : decode cX3_breaking 28 = .ok (.getfield 23, 3) := by decide +kernel
theorem dX3_breaking_31 : decode cX3_breaking 31 = .ok (.invokevirtual 110, 3) := by decide +kernel
theorem dX3_breaking_34 : decode cX3_breaking 34 = .ok (.istore_n 2, 1) := by decide +kernel
theorem dX3_breaking_35 : decode cX3_breaking 35 = .ok (.ldc 188, 2) := by decide +kernel
theorem dX3_breaking_37 : decode cX3_breaking 37 = .ok (.istore_n 3, 1) := by decide +kernel
theorem dX3_breaking_38 : decode cX3_breaking 38 = .ok (.iconst 0, 1) := by decide +kernel
theorem dX3_breaking_39 : decode cX3_breaking 39 = .ok (.istore 4, 2) := by decide +kernel
theorem dX3_breaking_41 : decode cX3_breaking 41 = .ok (.iload 4, 2) := by decide +kernel
theorem dX3_breaking_43 : decode cX3_breaking 43 = .ok (.aload_n 0, 1) := by decide +kernel
theorem dX3_breaking_44 : decode cX3_breaking 44 = .ok (.getfield 23, 3) := by decide +kernel
theorem dX3_breaking_47 : decode cX3_breaking 47 = .ok (.invokevirtual 110, 3) := by decide +kernel
theorem dX3_breaking_50 : decode cX3_breaking 50 = .ok (.if_icmp .gt 61, 3) := by decide +kernel
theorem dX3_breaking_53 : decode cX3_breaking 53 = .ok (.aload_n 0, 1) := by decide +kernel
theorem dX3_breaking_54 : decode cX3_breaking 54 = .ok (.getfield 23, 3) := by decide +kernel
theorem dX3_breaking_57 : decode cX3_breaking 57 = .ok (.iload 4, 2) := by decide +kernel
theorem dX3_breaking_59 : decode cX3_breaking 59 = .ok (.invokevirtual 189, 3) := by decide +kernel
theorem dX3_breaking_62 : decode cX3_breaking 62 = .ok (.istore 5, 2) := by decide +kernel
theorem dX3_breaking_64 : decode cX3_breaking 64 = .ok (.iload 5, 2) := by decide +kernel
theorem dX3_breaking_66 : decode cX3_breaking 66 = .ok (.iload_n 3, 1) := by decide +kernel
theorem dX3_breaking_67 : decode cX3_breaking 67 = .ok (.if_icmp .ge 38, 3) := by decide +kernel
theorem dX3_breaking_70 : decode cX3_breaking 70 = .ok (.aload_n 0, 1) := by decide +kernel
theorem dX3_breaking_71 : decode cX3_breaking 71 = .ok (.getfield 36, 3) := by decide +kernel
theorem dX3_breaking_74 : decode cX3_breaking 74 = .ok (.aload_n 0, 1) := by decide +kernel
theorem dX3_breaking_75 : decode cX3_breaking 75 = .ok (.getfield 23, 3) := by decide +kernel
theorem dX3_breaking_78 : decode cX3_breaking 78 = .ok (.getfield 87, 3) := by decide +kernel
theorem dX3_breaking_81 : decode cX3_breaking 81 = .ok (.iload 4, 2) := by decide +kernel
theorem dX3_breaking_83 : decode cX3_breaking 83 = .ok (.iconst 1, 1) := by decide +kernel
theorem dX3_breaking_84 : decode cX3_breaking 84 = .ok (.invokevirtual 147, 3) := by decide +kernel
theorem dX3_breaking_87 : decode cX3_breaking 87 = .ok (.aload_n 0, 1) := by decide +kernel
theorem dX3_breaking_88 : decode cX3_breaking 88 = .ok (.getfield 36, 3) := by decide +kernel
theorem dX3_breaking_91 : decode cX3_breaking 91 = .ok (.invokevirtual 151, 3) := by decide +kernel
theorem dX3_breaking_94 : decode cX3_breaking 94 = .ok (.ldc 188, 2) := by decide +kernel
theorem dX3_breaking_96 : decode cX3_breaking 96 = .ok (.if_icmp .eq 9, 3) := by decide +kernel
theorem dX3_breaking_99 : decode cX3_breaking 99 = .ok (.iload 4, 2) := by decide +kernel
theorem dX3_breaking_101 : decode cX3_breaking 101 = .ok (.istore_n 2, 1) := by decide +kernel
theorem dX3_breaking_102 : decode cX3_breaking 102 = .ok (.iload 5, 2) := by decide +kernel
theorem dX3_breaking_104 : decode cX3_breaking 104 = .ok (.istore_n 3, 1) := by decide +kernel
theorem dX3_breaking_105 : decode cX3_breaking 105 = .ok (.iinc 4 1, 3) := by decide +kernel
theorem dX3_breaking_108 : decode cX3_breaking 108 = .ok (.goto (-67), 3) := by decide +kernel
theorem dX3_breaking_111 : decode cX3_breaking 111 = .ok (.iload_n 1, 1) := by decide +kernel
theorem dX3_breaking_112 : decode cX3_breaking 112 = .ok (.ifCond .ne 7, 3) := by decide +kernel
theorem dX3_breaking_115 : decode cX3_breaking 115 = .ok (.iload_n 2, 1) := by decide +kernel
theorem dX3_breaking_116 : decode cX3_breaking 116 = .ok (.goto 11, 3) := by decide +kernel
theorem dX3_breaking_119 : decode cX3_breaking 119 = .ok (.aload_n 0, 1) := by decide +kernel
theorem dX3_breaking_120 : decode cX3_breaking 120 = .ok (.getfield 23, 3) := by decide +kernel
theorem dX3_breaking_123 : decode cX3_breaking 123 = .ok (.iload_n 2, 1) := by decide +kernel
theorem dX3_breaking_124 : decode cX3_breaking 124 = .ok (.invokevirtual 189, 3) := by decide +kernel
theorem dX3_breaking_127 : decode cX3_breaking 127 = .ok (.ireturn, 1) := by decide +kernel
theorem dX3_fire_0 : decode cX3_fire 0 = .ok (.aload_n 0, 1) := by decide +kernel
theorem dX3_fire_1 : decode cX3_fire 1 = .ok (.getfield 23, 3) := by decide +kernel
theorem dX3_fire_4 : decode cX3_fire 4 = .ok (.iload_n 1, 1) := by decide +kernel
theorem dX3_fire_5 : decode cX3_fire 5 = .ok (.invokevirtual 62, 3) := by decide +kernel
theorem dX3_fire_8 : decode cX3_fire 8 = .ok (.ifCond .ne 9, 3) := by decide +kernel
theorem dX3_fire_11 : decode cX3_fire 11 = .ok (.aload_n 0, 1) := by decide +kernel
theorem dX3_fire_12 : decode cX3_fire 12 = .ok (.iconst (-1), 1) := by decide +kernel
theorem dX3_fire_13 : decode cX3_fire 13 = .ok (.invokevirtual 46, 3) := by decide +kernel
theorem dX3_fire_16 : decode cX3_fire 16 = .ok (.ireturn, 1) := by decide +kernel
theorem dX3_fire_17 : decode cX3_fire 17 = .ok (.iload_n 2, 1) := by decide +kernel
theorem dX3_fire_18 : decode cX3_fire 18 = .ok (.ifCond .ge 10, 3) := by decide +kernel
theorem dX3_fire_21 : decode cX3_fire 21 = .ok (.aload_n 0, 1) := by decide +kernel
theorem dX3_fire_22 : decode cX3_fire 22 = .ok (.bipush (-4), 2) := by decide +kernel
theorem dX3_fire_24 : decode cX3_fire 24 = .ok (.invokevirtual 46, 3) := by decide +kernel
theorem dX3_fire_27 : decode cX3_fire 27 = .ok (.ireturn, 1) := by decide +kernel
theorem dX3_fire_28 : decode cX3_fire 28 = .ok (.aload_n 0, 1) := by decide +kernel
theorem dX3_fire_29 : decode cX3_fire 29 = .ok (.aload_n 0, 1) := by decide +kernel
theorem dX3_fire_30 : decode cX3_fire 30 = .ok (.getfield 23, 3) := by decide +kernel
theorem dX3_fire_33 : decode cX3_fire 33 = .ok (.invokevirtual 117, 3) := by decide +kernel
theorem dX3_fire_36 : decode cX3_fire 36 = .ok (.aload_n 0, 1) := by decide +kernel
theorem dX3_fire_37 : decode cX3_fire 37 = .ok (.getfield 36, 3) := by decide +kernel
theorem dX3_fire_40 : decode cX3_fire 40 = .ok (.getfield 120, 3) := by decide +kernel
theorem dX3_fire_43 : decode cX3_fire 43 = .ok (.iload_n 1, 1) := by decide +kernel
theorem dX3_fire_44 : decode cX3_fire 44 = .ok (.iaload, 1) := by decide +kernel
theorem dX3_fire_45 : decode cX3_fire 45 = .ok (.istore_n 3, 1) := by decide +kernel
theorem dX3_fire_46 : decode cX3_fire 46 = .ok (.iload_n 3, 1) := by decide +kernel
theorem dX3_fire_47 : decode cX3_fire 47 = .ok (.ldc 188, 2) := by decide +kernel
theorem dX3_fire_49 : decode cX3_fire 49 = .ok (.if_icmp .ne 6, 3) := by decide +kernel
theorem dX3_fire_52 : decode cX3_fire 52 = .ok (.bipush (-9), 2) := by decide +kernel
theorem dX3_fire_54 : decode cX3_fire 54 = .ok (.ireturn, 1) := by decide +kernel
theorem dX3_fire_55 : decode cX3_fire 55 = .ok (.iconst 0, 1) := by decide +kernel
theorem dX3_fire_56 : decode cX3_fire 56 = .ok (.iload_n 3, 1) := by decide +kernel
theorem dX3_fire_57 : decode cX3_fire 57 = .ok (.iload_n 2, 1) := by decide +kernel
theorem dX3_fire_58 : decode cX3_fire 58 = .ok (.isub, 1) := by decide +kernel
theorem dX3_fire_59 : decode cX3_fire 59 = .ok (.invokestatic 192, 3) := by decide +kernel
theorem dX3_fire_62 : decode cX3_fire 62 = .ok (.ireturn, 1) := by decide +kernel
theorem dX3_lot_0 : decode cX3_lot 0 = .ok (.iload_n 1, 1) := by decide +kernel
theorem dX3_lot_1 : decode cX3_lot 1 = .ok (.iconst 1, 1) := by decide +kernel
theorem dX3_lot_2 : decode cX3_lot 2 = .ok (.if_icmp .ge 10, 3) := by decide +kernel
theorem dX3_lot_5 : decode cX3_lot 5 = .ok (.aload_n 0, 1) := by decide +kernel
theorem dX3_lot_6 : decode cX3_lot 6 = .ok (.bipush (-4), 2) := by decide +kernel
theorem dX3_lot_8 : decode cX3_lot 8 = .ok (.invokevirtual 46, 3) := by decide +kernel
theorem dX3_lot_11 : decode cX3_lot 11 = .ok (.ireturn, 1) := by decide +kernel
theorem dX3_lot_12 : decode cX3_lot 12 = .ok (.iload_n 1, 1) := by decide +kernel
theorem dX3_lot_13 : decode cX3_lot 13 = .ok (.bipush 9, 2) := by decide +kernel
theorem dX3_lot_15 : decode cX3_lot 15 = .ok (.if_icmp .le 10, 3) := by decide +kernel
theorem dX3_lot_18 : decode cX3_lot 18 = .ok (.aload_n 0, 1) := by decide +kernel
theorem dX3_lot_19 : decode cX3_lot 19 = .ok (.bipush (-6), 2) := by decide +kernel
theorem dX3_lot_21 : decode cX3_lot 21 = .ok (.invokevirtual 46, 3) := by decide +kernel
theorem dX3_lot_24 : decode cX3_lot 24 = .ok (.ireturn, 1) := by decide +kernel
theorem dX3_lot_25 : decode cX3_lot 25 = .ok (.iload_n 2, 1) := by decide +kernel
theorem dX3_lot_26 : decode cX3_lot 26 = .ok (.ifCond .lt 17, 3) := by decide +kernel
theorem dX3_lot_29 : decode cX3_lot 29 = .ok (.iload_n 2, 1) := by decide +kernel
theorem dX3_lot_30 : decode cX3_lot 30 = .ok (.iconst 1, 1) := by decide +kernel
theorem dX3_lot_31 : decode cX3_lot 31 = .ok (.if_icmp .gt 12, 3) := by decide +kernel
theorem dX3_lot_34 : decode cX3_lot 34 = .ok (.iload_n 3, 1) := by decide +kernel
theorem dX3_lot_35 : decode cX3_lot 35 = .ok (.ifCond .lt 8, 3) := by decide +kernel
theorem dX3_lot_38 : decode cX3_lot 38 = .ok (.iload_n 3, 1) := by decide +kernel
theorem dX3_lot_39 : decode cX3_lot 39 = .ok (.iconst 1, 1) := by decide +kernel
theorem dX3_lot_40 : decode cX3_lot 40 = .ok (.if_icmp .le 10, 3) := by decide +kernel
theorem dX3_lot_43 : decode cX3_lot 43 = .ok (.aload_n 0, 1) := by decide +kernel
theorem dX3_lot_44 : decode cX3_lot 44 = .ok (.bipush (-2), 2) := by decide +kernel
theorem dX3_lot_46 : decode cX3_lot 46 = .ok (.invokevirtual 46, 3) := by decide +kernel
theorem dX3_lot_49 : decode cX3_lot 49 = .ok (.ireturn, 1) := by decide +kernel
theorem dX3_lot_50 : decode cX3_lot 50 = .ok (.iload_n 2, 1) := by decide +kernel
theorem dX3_lot_51 : decode cX3_lot 51 = .ok (.ifCond .ne 13, 3) := by decide +kernel
theorem dX3_lot_54 : decode cX3_lot 54 = .ok (.iload_n 3, 1) := by decide +kernel
theorem dX3_lot_55 : decode cX3_lot 55 = .ok (.ifCond .ne 7, 3) := by decide +kernel
theorem dX3_lot_58 : decode cX3_lot 58 = .ok (.iconst 1, 1) := by decide +kernel
theorem dX3_lot_59 : decode cX3_lot 59 = .ok (.goto 4, 3) := by decide +kernel
theorem dX3_lot_62 : decode cX3_lot 62 = .ok (.iload_n 1, 1) := by decide +kernel
theorem dX3_lot_63 : decode cX3_lot 63 = .ok (.ireturn, 1) := by decide +kernel
theorem dX3_lot_64 : decode cX3_lot 64 = .ok (.iload_n 1, 1) := by decide +kernel
theorem dX3_lot_65 : decode cX3_lot 65 = .ok (.iload_n 3, 1) := by decide +kernel
theorem dX3_lot_66 : decode cX3_lot 66 = .ok (.invokestatic 198, 3) := by decide +kernel
theorem dX3_lot_69 : decode cX3_lot 69 = .ok (.ireturn, 1) := by decide +kernel
theorem dX3_row_0 : decode cX3_row 0 = .ok (.iload_n 1, 1) := by decide +kernel
theorem dX3_row_1 : decode cX3_row 1 = .ok (.ifCond .ge 10, 3) := by decide +kernel
theorem dX3_row_4 : decode cX3_row 4 = .ok (.aload_n 0, 1) := by decide +kernel
theorem dX3_row_5 : decode cX3_row 5 = .ok (.bipush (-4), 2) := by decide +kernel
theorem dX3_row_7 : decode cX3_row 7 = .ok (.invokevirtual 46, 3) := by decide +kernel
theorem dX3_row_10 : decode cX3_row 10 = .ok (.ireturn, 1) := by decide +kernel
theorem dX3_row_11 : decode cX3_row 11 = .ok (.iload_n 1, 1) := by decide +kernel
theorem dX3_row_12 : decode cX3_row 12 = .ok (.sipush 999, 3) := by decide +kernel
theorem dX3_row_15 : decode cX3_row 15 = .ok (.if_icmp .gt 12, 3) := by decide +kernel
theorem dX3_row_18 : decode cX3_row 18 = .ok (.aload_n 0, 1) := by decide +kernel
theorem dX3_row_19 : decode cX3_row 19 = .ok (.getfield 201, 3) := by decide +kernel
theorem dX3_row_22 : decode cX3_row 22 = .ok (.bipush 7, 2) := by decide +kernel
theorem dX3_row_24 : decode cX3_row 24 = .ok (.if_icmp .lt 10, 3) := by decide +kernel
theorem dX3_row_27 : decode cX3_row 27 = .ok (.aload_n 0, 1) := by decide +kernel
theorem dX3_row_28 : decode cX3_row 28 = .ok (.bipush (-6), 2) := by decide +kernel
theorem dX3_row_30 : decode cX3_row 30 = .ok (.invokevirtual 46, 3) := by decide +kernel
theorem dX3_row_33 : decode cX3_row 33 = .ok (.ireturn, 1) := by decide +kernel
theorem dX3_row_34 : decode cX3_row 34 = .ok (.aload_n 0, 1) := by decide +kernel
theorem dX3_row_35 : decode cX3_row 35 = .ok (.getfield 40, 3) := by decide +kernel
theorem dX3_row_38 : decode cX3_row 38 = .ok (.aload_n 0, 1) := by decide +kernel
theorem dX3_row_39 : decode cX3_row 39 = .ok (.getfield 201, 3) := by decide +kernel
theorem dX3_row_42 : decode cX3_row 42 = .ok (.iload_n 1, 1) := by decide +kernel
theorem dX3_row_43 : decode cX3_row 43 = .ok (.iastore, 1) := by decide +kernel
theorem dX3_row_44 : decode cX3_row 44 = .ok (.aload_n 0, 1) := by decide +kernel
theorem dX3_row_45 : decode cX3_row 45 = .ok (.dup, 1) := by decide +kernel
theorem dX3_row_46 : decode cX3_row 46 = .ok (.getfield 201, 3) := by decide +kernel
theorem dX3_row_49 : decode cX3_row 49 = .ok (.iconst 1, 1) := by decide +kernel
theorem dX3_row_50 : decode cX3_row 50 = .ok (.iadd, 1) := by decide +kernel
theorem dX3_row_51 : decode cX3_row 51 = .ok (.putfield 201, 3) := by decide +kernel
theorem dX3_row_54 : decode cX3_row 54 = .ok (.aload_n 0, 1) := by decide +kernel
theorem dX3_row_55 : decode cX3_row 55 = .ok (.getfield 201, 3) := by decide +kernel
theorem dX3_row_58 : decode cX3_row 58 = .ok (.ireturn, 1) := by decide +kernel
theorem dX3_overslept_0 : decode cX3_overslept 0 = .ok (.aload_n 0, 1) := by decide +kernel
theorem dX3_overslept_1 : decode cX3_overslept 1 = .ok (.getfield 201, 3) := by decide +kernel
theorem dX3_overslept_4 : decode cX3_overslept 4 = .ok (.aload_n 0, 1) := by decide +kernel
theorem dX3_overslept_5 : decode cX3_overslept 5 = .ok (.getfield 23, 3) := by decide +kernel
theorem dX3_overslept_8 : decode cX3_overslept 8 = .ok (.getfield 130, 3) := by decide +kernel
theorem dX3_overslept_11 : decode cX3_overslept 11 = .ok (.if_icmp .eq 10, 3) := by decide +kernel
theorem dX3_overslept_14 : decode cX3_overslept 14 = .ok (.aload_n 0, 1) := by decide +kernel
theorem dX3_overslept_15 : decode cX3_overslept 15 = .ok (.bipush (-3), 2) := by decide +kernel
theorem dX3_overslept_17 : decode cX3_overslept 17 = .ok (.invokevirtual 46, 3) := by decide +kernel
theorem dX3_overslept_20 : decode cX3_overslept 20 = .ok (.ireturn, 1) := by decide +kernel
theorem dX3_overslept_21 : decode cX3_overslept 21 = .ok (.aload_n 0, 1) := by decide +kernel
theorem dX3_overslept_22 : decode cX3_overslept 22 = .ok (.aload_n 0, 1) := by decide +kernel
theorem dX3_overslept_23 : decode cX3_overslept 23 = .ok (.getfield 23, 3) := by decide +kernel
theorem dX3_overslept_26 : decode cX3_overslept 26 = .ok (.invokevirtual 117, 3) := by decide +kernel
theorem dX3_overslept_29 : decode cX3_overslept 29 = .ok (.iconst 0, 1) := by decide +kernel
theorem dX3_overslept_30 : decode cX3_overslept 30 = .ok (.istore_n 1, 1) := by decide +kernel
theorem dX3_overslept_31 : decode cX3_overslept 31 = .ok (.iconst 0, 1) := by decide +kernel
theorem dX3_overslept_32 : decode cX3_overslept 32 = .ok (.istore_n 2, 1) := by decide +kernel
theorem dX3_overslept_33 : decode cX3_overslept 33 = .ok (.iload_n 2, 1) := by decide +kernel
theorem dX3_overslept_34 : decode cX3_overslept 34 = .ok (.aload_n 0, 1) := by decide +kernel
theorem dX3_overslept_35 : decode cX3_overslept 35 = .ok (.getfield 23, 3) := by decide +kernel
theorem dX3_overslept_38 : decode cX3_overslept 38 = .ok (.getfield 130, 3) := by decide +kernel
theorem dX3_overslept_41 : decode cX3_overslept 41 = .ok (.if_icmp .ge 33, 3) := by decide +kernel
theorem dX3_overslept_44 : decode cX3_overslept 44 = .ok (.aload_n 0, 1) := by decide +kernel
theorem dX3_overslept_45 : decode cX3_overslept 45 = .ok (.getfield 40, 3) := by decide +kernel
theorem dX3_overslept_48 : decode cX3_overslept 48 = .ok (.iload_n 2, 1) := by decide +kernel
theorem dX3_overslept_49 : decode cX3_overslept 49 = .ok (.iaload, 1) := by decide +kernel
theorem dX3_overslept_50 : decode cX3_overslept 50 = .ok (.aload_n 0, 1) := by decide +kernel
theorem dX3_overslept_51 : decode cX3_overslept 51 = .ok (.getfield 36, 3) := by decide +kernel
theorem dX3_overslept_54 : decode cX3_overslept 54 = .ok (.getfield 120, 3) := by decide +kernel
theorem dX3_overslept_57 : decode cX3_overslept 57 = .ok (.iload_n 2, 1) := by decide +kernel
theorem dX3_overslept_58 : decode cX3_overslept 58 = .ok (.iaload, 1) := by decide +kernel
theorem dX3_overslept_59 : decode cX3_overslept 59 = .ok (.if_icmp .le 9, 3) := by decide +kernel
theorem dX3_overslept_62 : decode cX3_overslept 62 = .ok (.iload_n 1, 1) := by decide +kernel
theorem dX3_overslept_63 : decode cX3_overslept 63 = .ok (.iconst 1, 1) := by decide +kernel
theorem dX3_overslept_64 : decode cX3_overslept 64 = .ok (.iload_n 2, 1) := by decide +kernel
theorem dX3_overslept_65 : decode cX3_overslept 65 = .ok (.ishl, 1) := by decide +kernel
theorem dX3_overslept_66 : decode cX3_overslept 66 = .ok (.ior, 1) := by decide +kernel
theorem dX3_overslept_67 : decode cX3_overslept 67 = .ok (.istore_n 1, 1) := by decide +kernel
theorem dX3_overslept_68 : decode cX3_overslept 68 = .ok (.iinc 2 1, 3) := by decide +kernel
theorem dX3_overslept_71 : decode cX3_overslept 71 = .ok (.goto (-38), 3) := by decide +kernel
theorem dX3_overslept_74 : decode cX3_overslept 74 = .ok (.iload_n 1, 1) := by decide +kernel
theorem dX3_overslept_75 : decode cX3_overslept 75 = .ok (.ireturn, 1) := by decide +kernel
theorem dX3_judge_0 : decode cX3_judge 0 = .ok (.aload_n 0, 1) := by decide +kernel
theorem dX3_judge_1 : decode cX3_judge 1 = .ok (.getfield 201, 3) := by decide +kernel
theorem dX3_judge_4 : decode cX3_judge 4 = .ok (.istore_n 1, 1) := by decide +kernel
theorem dX3_judge_5 : decode cX3_judge 5 = .ok (.aload_n 0, 1) := by decide +kernel
theorem dX3_judge_6 : decode cX3_judge 6 = .ok (.iconst 0, 1) := by decide +kernel
theorem dX3_judge_7 : decode cX3_judge 7 = .ok (.putfield 201, 3) := by decide +kernel
theorem dX3_judge_10 : decode cX3_judge 10 = .ok (.aload_n 0, 1) := by decide +kernel
theorem dX3_judge_11 : decode cX3_judge 11 = .ok (.aload_n 0, 1) := by decide +kernel
theorem dX3_judge_12 : decode cX3_judge 12 = .ok (.getfield 23, 3) := by decide +kernel
theorem dX3_judge_15 : decode cX3_judge 15 = .ok (.invokevirtual 117, 3) := by decide +kernel
theorem dX3_judge_18 : decode cX3_judge 18 = .ok (.iload_n 1, 1) := by decide +kernel
theorem dX3_judge_19 : decode cX3_judge 19 = .ok (.aload_n 0, 1) := by decide +kernel
theorem dX3_judge_20 : decode cX3_judge 20 = .ok (.getfield 23, 3) := by decide +kernel
theorem dX3_judge_23 : decode cX3_judge 23 = .ok (.getfield 130, 3) := by decide +kernel
theorem dX3_judge_26 : decode cX3_judge 26 = .ok (.invokestatic 204, 3) := by decide +kernel
theorem dX3_judge_29 : decode cX3_judge 29 = .ok (.istore_n 2, 1) := by decide +kernel
theorem dX3_judge_30 : decode cX3_judge 30 = .ok (.iconst 0, 1) := by decide +kernel
theorem dX3_judge_31 : decode cX3_judge 31 = .ok (.istore_n 3, 1) := by decide +kernel
theorem dX3_judge_32 : decode cX3_judge 32 = .ok (.iload_n 3, 1) := by decide +kernel
theorem dX3_judge_33 : decode cX3_judge 33 = .ok (.iload_n 2, 1) := by decide +kernel
theorem dX3_judge_34 : decode cX3_judge 34 = .ok (.if_icmp .ge 29, 3) := by decide +kernel
theorem dX3_judge_37 : decode cX3_judge 37 = .ok (.aload_n 0, 1) := by decide +kernel
theorem dX3_judge_38 : decode cX3_judge 38 = .ok (.getfield 40, 3) := by decide +kernel
theorem dX3_judge_41 : decode cX3_judge 41 = .ok (.iload_n 3, 1) := by decide +kernel
theorem dX3_judge_42 : decode cX3_judge 42 = .ok (.iaload, 1) := by decide +kernel
theorem dX3_judge_43 : decode cX3_judge 43 = .ok (.aload_n 0, 1) := by decide +kernel
theorem dX3_judge_44 : decode cX3_judge 44 = .ok (.getfield 36, 3) := by decide +kernel
theorem dX3_judge_47 : decode cX3_judge 47 = .ok (.getfield 120, 3) := by decide +kernel
theorem dX3_judge_50 : decode cX3_judge 50 = .ok (.iload_n 3, 1) := by decide +kernel
theorem dX3_judge_51 : decode cX3_judge 51 = .ok (.iaload, 1) := by decide +kernel
theorem dX3_judge_52 : decode cX3_judge 52 = .ok (.if_icmp .eq 5, 3) := by decide +kernel
theorem dX3_judge_55 : decode cX3_judge 55 = .ok (.iload_n 3, 1) := by decide +kernel
theorem dX3_judge_56 : decode cX3_judge 56 = .ok (.ireturn, 1) := by decide +kernel
theorem dX3_judge_57 : decode cX3_judge 57 = .ok (.iinc 3 1, 3) := by decide +kernel
theorem dX3_judge_60 : decode cX3_judge 60 = .ok (.goto (-28), 3) := by decide +kernel
theorem dX3_judge_63 : decode cX3_judge 63 = .ok (.iload_n 1, 1) := by decide +kernel
theorem dX3_judge_64 : decode cX3_judge 64 = .ok (.aload_n 0, 1) := by decide +kernel
theorem dX3_judge_65 : decode cX3_judge 65 = .ok (.getfield 23, 3) := by decide +kernel
theorem dX3_judge_68 : decode cX3_judge 68 = .ok (.getfield 130, 3) := by decide +kernel
theorem dX3_judge_71 : decode cX3_judge 71 = .ok (.if_icmp .ne 8, 3) := by decide +kernel
theorem dX3_judge_74 : decode cX3_judge 74 = .ok (.bipush (-9), 2) := by decide +kernel
theorem dX3_judge_76 : decode cX3_judge 76 = .ok (.goto 4, 3) := by decide +kernel
theorem dX3_judge_79 : decode cX3_judge 79 = .ok (.iload_n 2, 1) := by decide +kernel
theorem dX3_judge_80 : decode cX3_judge 80 = .ok (.ireturn, 1) := by decide +kernel
theorem dX3_seeds_0 : decode cX3_seeds 0 = .ok (.iload_n 1, 1) := by decide +kernel
theorem dX3_seeds_1 : decode cX3_seeds 1 = .ok (.iconst 1, 1) := by decide +kernel
theorem dX3_seeds_2 : decode cX3_seeds 2 = .ok (.if_icmp .ge 10, 3) := by decide +kernel
theorem dX3_seeds_5 : decode cX3_seeds 5 = .ok (.aload_n 0, 1) := by decide +kernel
theorem dX3_seeds_6 : decode cX3_seeds 6 = .ok (.bipush (-4), 2) := by decide +kernel
theorem dX3_seeds_8 : decode cX3_seeds 8 = .ok (.invokevirtual 46, 3) := by decide +kernel
theorem dX3_seeds_11 : decode cX3_seeds 11 = .ok (.ireturn, 1) := by decide +kernel
theorem dX3_seeds_12 : decode cX3_seeds 12 = .ok (.iload_n 1, 1) := by decide +kernel
theorem dX3_seeds_13 : decode cX3_seeds 13 = .ok (.bipush 20, 2) := by decide +kernel
theorem dX3_seeds_15 : decode cX3_seeds 15 = .ok (.if_icmp .le 10, 3) := by decide +kernel
theorem dX3_seeds_18 : decode cX3_seeds 18 = .ok (.aload_n 0, 1) := by decide +kernel
theorem dX3_seeds_19 : decode cX3_seeds 19 = .ok (.bipush (-6), 2) := by decide +kernel
theorem dX3_seeds_21 : decode cX3_seeds 21 = .ok (.invokevirtual 46, 3) := by decide +kernel
theorem dX3_seeds_24 : decode cX3_seeds 24 = .ok (.ireturn, 1) := by decide +kernel
theorem dX3_seeds_25 : decode cX3_seeds 25 = .ok (.aload_n 0, 1) := by decide +kernel
theorem dX3_seeds_26 : decode cX3_seeds 26 = .ok (.getfield 27, 3) := by decide +kernel
theorem dX3_seeds_29 : decode cX3_seeds 29 = .ok (.aload_n 0, 1) := by decide +kernel
theorem dX3_seeds_30 : decode cX3_seeds 30 = .ok (.getfield 23, 3) := by decide +kernel
theorem dX3_seeds_33 : decode cX3_seeds 33 = .ok (.invokevirtual 54, 3) := by decide +kernel
theorem dX3_seeds_36 : decode cX3_seeds 36 = .ok (.iload_n 2, 1) := by decide +kernel
theorem dX3_seeds_37 : decode cX3_seeds 37 = .ok (.istore_n 3, 1) := by decide +kernel
theorem dX3_seeds_38 : decode cX3_seeds 38 = .ok (.iconst 0, 1) := by decide +kernel
theorem dX3_seeds_39 : decode cX3_seeds 39 = .ok (.istore 4, 2) := by decide +kernel
theorem dX3_seeds_41 : decode cX3_seeds 41 = .ok (.iconst 0, 1) := by decide +kernel
theorem dX3_seeds_42 : decode cX3_seeds 42 = .ok (.istore 5, 2) := by decide +kernel
theorem dX3_seeds_44 : decode cX3_seeds 44 = .ok (.iload 5, 2) := by decide +kernel
theorem dX3_seeds_46 : decode cX3_seeds 46 = .ok (.iload_n 1, 1) := by decide +kernel
theorem dX3_seeds_47 : decode cX3_seeds 47 = .ok (.if_icmp .ge 73, 3) := by decide +kernel
theorem dX3_seeds_50 : decode cX3_seeds 50 = .ok (.iconst 0, 1) := by decide +kernel
theorem dX3_seeds_51 : decode cX3_seeds 51 = .ok (.istore 6, 2) := by decide +kernel
theorem dX3_seeds_53 : decode cX3_seeds 53 = .ok (.iload 6, 2) := by decide +kernel
theorem dX3_seeds_55 : decode cX3_seeds 55 = .ok (.aload_n 0, 1) := by decide +kernel
theorem dX3_seeds_56 : decode cX3_seeds 56 = .ok (.getfield 27, 3) := by decide +kernel
theorem dX3_seeds_59 : decode cX3_seeds 59 = .ok (.getfield 130, 3) := by decide +kernel
theorem dX3_seeds_62 : decode cX3_seeds 62 = .ok (.if_icmp .ge 28, 3) := by decide +kernel
theorem dX3_seeds_65 : decode cX3_seeds 65 = .ok (.iload_n 3, 1) := by decide +kernel
theorem dX3_seeds_66 : decode cX3_seeds 66 = .ok (.invokestatic 207, 3) := by decide +kernel
theorem dX3_seeds_69 : decode cX3_seeds 69 = .ok (.istore_n 3, 1) := by decide +kernel
theorem dX3_seeds_70 : decode cX3_seeds 70 = .ok (.aload_n 0, 1) := by decide +kernel
theorem dX3_seeds_71 : decode cX3_seeds 71 = .ok (.getfield 27, 3) := by decide +kernel
theorem dX3_seeds_74 : decode cX3_seeds 74 = .ok (.getfield 69, 3) := by decide +kernel
theorem dX3_seeds_77 : decode cX3_seeds 77 = .ok (.iload 6, 2) := by decide +kernel
theorem dX3_seeds_79 : decode cX3_seeds 79 = .ok (.iload_n 3, 1) := by decide +kernel
theorem dX3_seeds_80 : decode cX3_seeds 80 = .ok (.invokestatic 210, 3) := by decide +kernel
theorem dX3_seeds_83 : decode cX3_seeds 83 = .ok (.iastore, 1) := by decide +kernel
theorem dX3_seeds_84 : decode cX3_seeds 84 = .ok (.iinc 6 1, 3) := by decide +kernel
theorem dX3_seeds_87 : decode cX3_seeds 87 = .ok (.goto (-34), 3) := by decide +kernel
theorem dX3_seeds_90 : decode cX3_seeds 90 = .ok (.aload_n 0, 1) := by decide +kernel
theorem dX3_seeds_91 : decode cX3_seeds 91 = .ok (.aload_n 0, 1) := by decide +kernel
theorem dX3_seeds_92 : decode cX3_seeds 92 = .ok (.getfield 27, 3) := by decide +kernel
theorem dX3_seeds_95 : decode cX3_seeds 95 = .ok (.invokevirtual 126, 3) := by decide +kernel
theorem dX3_seeds_98 : decode cX3_seeds 98 = .ok (.istore 6, 2) := by decide +kernel
theorem dX3_seeds_100 : decode cX3_seeds 100 = .ok (.iload 6, 2) := by decide +kernel
theorem dX3_seeds_102 : decode cX3_seeds 102 = .ok (.ldc 188, 2) := by decide +kernel
theorem dX3_seeds_104 : decode cX3_seeds 104 = .ok (.if_icmp .eq 10, 3) := by decide +kernel
theorem dX3_seeds_107 : decode cX3_seeds 107 = .ok (.iload 4, 2) := by decide +kernel
theorem dX3_seeds_109 : decode cX3_seeds 109 = .ok (.iload 6, 2) := by decide +kernel
theorem dX3_seeds_111 : decode cX3_seeds 111 = .ok (.iadd, 1) := by decide +kernel
theorem dX3_seeds_112 : decode cX3_seeds 112 = .ok (.istore 4, 2) := by decide +kernel
theorem dX3_seeds_114 : decode cX3_seeds 114 = .ok (.iinc 5 1, 3) := by decide +kernel
theorem dX3_seeds_117 : decode cX3_seeds 117 = .ok (.goto (-73), 3) := by decide +kernel
theorem dX3_seeds_120 : decode cX3_seeds 120 = .ok (.iload 4, 2) := by decide +kernel
theorem dX3_seeds_122 : decode cX3_seeds 122 = .ok (.ireturn, 1) := by decide +kernel
theorem dX3_image_0 : decode cX3_image 0 = .ok (.aload_n 0, 1) := by decide +kernel
theorem dX3_image_1 : decode cX3_image 1 = .ok (.getfield 30, 3) := by decide +kernel
theorem dX3_image_4 : decode cX3_image 4 = .ok (.aload_n 0, 1) := by decide +kernel
theorem dX3_image_5 : decode cX3_image 5 = .ok (.getfield 23, 3) := by decide +kernel
theorem dX3_image_8 : decode cX3_image 8 = .ok (.invokevirtual 54, 3) := by decide +kernel
theorem dX3_image_11 : decode cX3_image 11 = .ok (.aload_n 0, 1) := by decide +kernel
theorem dX3_image_12 : decode cX3_image 12 = .ok (.iconst 1, 1) := by decide +kernel
theorem dX3_image_13 : decode cX3_image 13 = .ok (.putfield 213, 3) := by decide +kernel
theorem dX3_image_16 : decode cX3_image 16 = .ok (.aload_n 0, 1) := by decide +kernel
theorem dX3_image_17 : decode cX3_image 17 = .ok (.getfield 30, 3) := by decide +kernel
theorem dX3_image_20 : decode cX3_image 20 = .ok (.getfield 130, 3) := by decide +kernel
theorem dX3_image_23 : decode cX3_image 23 = .ok (.ireturn, 1) := by decide +kernel
theorem dX3_on_0 : decode cX3_on 0 = .ok (.aload_n 0, 1) := by decide +kernel
theorem dX3_on_1 : decode cX3_on 1 = .ok (.getfield 213, 3) := by decide +kernel
theorem dX3_on_4 : decode cX3_on 4 = .ok (.ifCond .ne 10, 3) := by decide +kernel
theorem dX3_on_7 : decode cX3_on 7 = .ok (.aload_n 0, 1) := by decide +kernel
theorem dX3_on_8 : decode cX3_on 8 = .ok (.bipush (-3), 2) := by decide +kernel
theorem dX3_on_10 : decode cX3_on 10 = .ok (.invokevirtual 46, 3) := by decide +kernel
theorem dX3_on_13 : decode cX3_on 13 = .ok (.ireturn, 1) := by decide +kernel
theorem dX3_on_14 : decode cX3_on 14 = .ok (.aload_n 0, 1) := by decide +kernel
theorem dX3_on_15 : decode cX3_on 15 = .ok (.getfield 23, 3) := by decide +kernel
theorem dX3_on_18 : decode cX3_on 18 = .ok (.aload_n 0, 1) := by decide +kernel
theorem dX3_on_19 : decode cX3_on 19 = .ok (.getfield 30, 3) := by decide +kernel
theorem dX3_on_22 : decode cX3_on 22 = .ok (.invokevirtual 54, 3) := by decide +kernel
theorem dX3_on_25 : decode cX3_on 25 = .ok (.aload_n 0, 1) := by decide +kernel
theorem dX3_on_26 : decode cX3_on 26 = .ok (.getfield 23, 3) := by decide +kernel
theorem dX3_on_29 : decode cX3_on 29 = .ok (.getfield 130, 3) := by decide +kernel
theorem dX3_on_32 : decode cX3_on 32 = .ok (.ireturn, 1) := by decide +kernel
theorem dX3_count_0 : decode cX3_count 0 = .ok (.iload_n 1, 1) := by decide +kernel
theorem dX3_count_1 : decode cX3_count 1 = .ok (.tableswitch 101 0 6 #[43, 51, 59, 67, 75, 91, 96], 43) := by decide +kernel
theorem dX3_count_44 : decode cX3_count 44 = .ok (.aload_n 0, 1) := by decide +kernel
theorem dX3_count_45 : decode cX3_count 45 = .ok (.getfield 23, 3) := by decide +kernel
theorem dX3_count_48 : decode cX3_count 48 = .ok (.getfield 130, 3) := by decide +kernel
theorem dX3_count_51 : decode cX3_count 51 = .ok (.ireturn, 1) := by decide +kernel
theorem dX3_count_52 : decode cX3_count 52 = .ok (.aload_n 0, 1) := by decide +kernel
theorem dX3_count_53 : decode cX3_count 53 = .ok (.getfield 23, 3) := by decide +kernel
theorem dX3_count_56 : decode cX3_count 56 = .ok (.getfield 103, 3) := by decide +kernel
theorem dX3_count_59 : decode cX3_count 59 = .ok (.ireturn, 1) := by decide +kernel
theorem dX3_count_60 : decode cX3_count 60 = .ok (.aload_n 0, 1) := by decide +kernel
theorem dX3_count_61 : decode cX3_count 61 = .ok (.getfield 23, 3) := by decide +kernel
theorem dX3_count_64 : decode cX3_count 64 = .ok (.getfield 87, 3) := by decide +kernel
theorem dX3_count_67 : decode cX3_count 67 = .ok (.ireturn, 1) := by decide +kernel
theorem dX3_count_68 : decode cX3_count 68 = .ok (.aload_n 0, 1) := by decide +kernel
theorem dX3_count_69 : decode cX3_count 69 = .ok (.getfield 23, 3) := by decide +kernel
theorem dX3_count_72 : decode cX3_count 72 = .ok (.getfield 114, 3) := by decide +kernel
theorem dX3_count_75 : decode cX3_count 75 = .ok (.ireturn, 1) := by decide +kernel
theorem dX3_count_76 : decode cX3_count 76 = .ok (.aload_n 0, 1) := by decide +kernel
theorem dX3_count_77 : decode cX3_count 77 = .ok (.getfield 23, 3) := by decide +kernel
theorem dX3_count_80 : decode cX3_count 80 = .ok (.getfield 217, 3) := by decide +kernel
theorem dX3_count_83 : decode cX3_count 83 = .ok (.ifCond .eq 7, 3) := by decide +kernel
theorem dX3_count_86 : decode cX3_count 86 = .ok (.iconst 1, 1) := by decide +kernel
theorem dX3_count_87 : decode cX3_count 87 = .ok (.goto 4, 3) := by decide +kernel
theorem dX3_count_90 : decode cX3_count 90 = .ok (.iconst 0, 1) := by decide +kernel
theorem dX3_count_91 : decode cX3_count 91 = .ok (.ireturn, 1) := by decide +kernel
theorem dX3_count_92 : decode cX3_count 92 = .ok (.aload_n 0, 1) := by decide +kernel
theorem dX3_count_93 : decode cX3_count 93 = .ok (.getfield 201, 3) := by decide +kernel
theorem dX3_count_96 : decode cX3_count 96 = .ok (.ireturn, 1) := by decide +kernel
theorem dX3_count_97 : decode cX3_count 97 = .ok (.aload_n 0, 1) := by decide +kernel
theorem dX3_count_98 : decode cX3_count 98 = .ok (.getfield 50, 3) := by decide +kernel
theorem dX3_count_101 : decode cX3_count 101 = .ok (.ireturn, 1) := by decide +kernel
theorem dX3_count_102 : decode cX3_count 102 = .ok (.iload_n 1, 1) := by decide +kernel
theorem dX3_count_103 : decode cX3_count 103 = .ok (.bipush 11, 2) := by decide +kernel
theorem dX3_count_105 : decode cX3_count 105 = .ok (.if_icmp .lt 21, 3) := by decide +kernel
theorem dX3_count_108 : decode cX3_count 108 = .ok (.iload_n 1, 1) := by decide +kernel
theorem dX3_count_109 : decode cX3_count 109 = .ok (.bipush 16, 2) := by decide +kernel
theorem dX3_count_111 : decode cX3_count 111 = .ok (.if_icmp .gt 15, 3) := by decide +kernel
theorem dX3_count_114 : decode cX3_count 114 = .ok (.aload_n 0, 1) := by decide +kernel
theorem dX3_count_115 : decode cX3_count 115 = .ok (.getfield 43, 3) := by decide +kernel
theorem dX3_count_118 : decode cX3_count 118 = .ok (.iload_n 1, 1) := by decide +kernel
theorem dX3_count_119 : decode cX3_count 119 = .ok (.bipush 10, 2) := by decide +kernel
theorem dX3_count_121 : decode cX3_count 121 = .ok (.isub, 1) := by decide +kernel
theorem dX3_count_122 : decode cX3_count 122 = .ok (.iaload, 1) := by decide +kernel
theorem dX3_count_123 : decode cX3_count 123 = .ok (.goto 5, 3) := by decide +kernel
theorem dX3_count_126 : decode cX3_count 126 = .ok (.bipush (-9), 2) := by decide +kernel
theorem dX3_count_128 : decode cX3_count 128 = .ok (.ireturn, 1) := by decide +kernel
theorem dX3_refuse_0 : decode cX3_refuse 0 = .ok (.aload_n 0, 1) := by decide +kernel
theorem dX3_refuse_1 : decode cX3_refuse 1 = .ok (.getfield 43, 3) := by decide +kernel
theorem dX3_refuse_4 : decode cX3_refuse 4 = .ok (.iload_n 1, 1) := by decide +kernel
theorem dX3_refuse_5 : decode cX3_refuse 5 = .ok (.ineg, 1) := by decide +kernel
theorem dX3_refuse_6 : decode cX3_refuse 6 = .ok (.dup2, 1) := by decide +kernel
theorem dX3_refuse_7 : decode cX3_refuse 7 = .ok (.iaload, 1) := by decide +kernel
theorem dX3_refuse_8 : decode cX3_refuse 8 = .ok (.iconst 1, 1) := by decide +kernel
theorem dX3_refuse_9 : decode cX3_refuse 9 = .ok (.iadd, 1) := by decide +kernel
theorem dX3_refuse_10 : decode cX3_refuse 10 = .ok (.iastore, 1) := by decide +kernel
theorem dX3_refuse_11 : decode cX3_refuse 11 = .ok (.iload_n 1, 1) := by decide +kernel
theorem dX3_refuse_12 : decode cX3_refuse 12 = .ok (.ireturn, 1) := by decide +kernel
theorem dX3_minuteOrNone_0 : decode cX3_minuteOrNone 0 = .ok (.iload_n 0, 1) := by decide +kernel
theorem dX3_minuteOrNone_1 : decode cX3_minuteOrNone 1 = .ok (.ldc 188, 2) := by decide +kernel
theorem dX3_minuteOrNone_3 : decode cX3_minuteOrNone 3 = .ok (.if_icmp .ne 8, 3) := by decide +kernel
theorem dX3_minuteOrNone_6 : decode cX3_minuteOrNone 6 = .ok (.bipush (-9), 2) := by decide +kernel
theorem dX3_minuteOrNone_8 : decode cX3_minuteOrNone 8 = .ok (.goto 4, 3) := by decide +kernel
theorem dX3_minuteOrNone_11 : decode cX3_minuteOrNone 11 = .ok (.iload_n 0, 1) := by decide +kernel
theorem dX3_minuteOrNone_12 : decode cX3_minuteOrNone 12 = .ok (.ireturn, 1) := by decide +kernel
theorem dX3_morningOf_0 : decode cX3_morningOf 0 = .ok (.aload_n 0, 1) := by decide +kernel
theorem dX3_morningOf_1 : decode cX3_morningOf 1 = .ok (.getfield 36, 3) := by decide +kernel
theorem dX3_morningOf_4 : decode cX3_morningOf 4 = .ok (.aload_n 1, 1) := by decide +kernel
theorem dX3_morningOf_5 : decode cX3_morningOf 5 = .ok (.invokevirtual 166, 3) := by decide +kernel
theorem dX3_morningOf_8 : decode cX3_morningOf 8 = .ok (.aload_n 0, 1) := by decide +kernel
theorem dX3_morningOf_9 : decode cX3_morningOf 9 = .ok (.getfield 36, 3) := by decide +kernel
theorem dX3_morningOf_12 : decode cX3_morningOf 12 = .ok (.aload_n 1, 1) := by decide +kernel
theorem dX3_morningOf_13 : decode cX3_morningOf 13 = .ok (.getfield 87, 3) := by decide +kernel
theorem dX3_morningOf_16 : decode cX3_morningOf 16 = .ok (.iconst 0, 1) := by decide +kernel
theorem dX3_morningOf_17 : decode cX3_morningOf 17 = .ok (.iconst 1, 1) := by decide +kernel
theorem dX3_morningOf_18 : decode cX3_morningOf 18 = .ok (.invokevirtual 147, 3) := by decide +kernel
theorem dX3_morningOf_21 : decode cX3_morningOf 21 = .ok (.return_, 1) := by decide +kernel
theorem dX3_lastOutOf_0 : decode cX3_lastOutOf 0 = .ok (.aload_n 0, 1) := by decide +kernel
theorem dX3_lastOutOf_1 : decode cX3_lastOutOf 1 = .ok (.aload_n 1, 1) := by decide +kernel
theorem dX3_lastOutOf_2 : decode cX3_lastOutOf 2 = .ok (.invokevirtual 117, 3) := by decide +kernel
theorem dX3_lastOutOf_5 : decode cX3_lastOutOf 5 = .ok (.aload_n 0, 1) := by decide +kernel
theorem dX3_lastOutOf_6 : decode cX3_lastOutOf 6 = .ok (.getfield 36, 3) := by decide +kernel
theorem dX3_lastOutOf_9 : decode cX3_lastOutOf 9 = .ok (.invokevirtual 151, 3) := by decide +kernel
theorem dX3_lastOutOf_12 : decode cX3_lastOutOf 12 = .ok (.ireturn, 1) := by decide +kernel
theorem dX3_fewestWatchers_0 : decode cX3_fewestWatchers 0 = .ok (.aload_n 0, 1) := by decide +kernel
theorem dX3_fewestWatchers_1 : decode cX3_fewestWatchers 1 = .ok (.getfield 36, 3) := by decide +kernel
theorem dX3_fewestWatchers_4 : decode cX3_fewestWatchers 4 = .ok (.aload_n 0, 1) := by decide +kernel
theorem dX3_fewestWatchers_5 : decode cX3_fewestWatchers 5 = .ok (.getfield 23, 3) := by decide +kernel
theorem dX3_fewestWatchers_8 : decode cX3_fewestWatchers 8 = .ok (.invokevirtual 166, 3) := by decide +kernel
theorem dX3_fewestWatchers_11 : decode cX3_fewestWatchers 11 = .ok (.aload_n 0, 1) := by decide +kernel
theorem dX3_fewestWatchers_12 : decode cX3_fewestWatchers 12 = .ok (.getfield 23, 3) := by decide +kernel
theorem dX3_fewestWatchers_15 : decode cX3_fewestWatchers 15 = .ok (.invokevirtual 110, 3) := by decide +kernel
theorem dX3_fewestWatchers_18 : decode cX3_fewestWatchers 18 = .ok (.istore_n 1, 1) := by decide +kernel
theorem dX3_fewestWatchers_19 : decode cX3_fewestWatchers 19 = .ok (.iconst 0, 1) := by decide +kernel
theorem dX3_fewestWatchers_20 : decode cX3_fewestWatchers 20 = .ok (.istore_n 2, 1) := by decide +kernel
theorem dX3_fewestWatchers_21 : decode cX3_fewestWatchers 21 = .ok (.iload_n 2, 1) := by decide +kernel
theorem dX3_fewestWatchers_22 : decode cX3_fewestWatchers 22 = .ok (.aload_n 0, 1) := by decide +kernel
theorem dX3_fewestWatchers_23 : decode cX3_fewestWatchers 23 = .ok (.getfield 23, 3) := by decide +kernel
theorem dX3_fewestWatchers_26 : decode cX3_fewestWatchers 26 = .ok (.invokevirtual 110, 3) := by decide +kernel
theorem dX3_fewestWatchers_29 : decode cX3_fewestWatchers 29 = .ok (.if_icmp .ge 44, 3) := by decide +kernel
theorem dX3_fewestWatchers_32 : decode cX3_fewestWatchers 32 = .ok (.iload_n 2, 1) := by decide +kernel
theorem dX3_fewestWatchers_33 : decode cX3_fewestWatchers 33 = .ok (.invokestatic 139, 3) := by decide +kernel
theorem dX3_fewestWatchers_36 : decode cX3_fewestWatchers 36 = .ok (.iload_n 1, 1) := by decide +kernel
theorem dX3_fewestWatchers_37 : decode cX3_fewestWatchers 37 = .ok (.invokestatic 139, 3) := by decide +kernel
theorem dX3_fewestWatchers_40 : decode cX3_fewestWatchers 40 = .ok (.if_icmp .ge 27, 3) := by decide +kernel
theorem dX3_fewestWatchers_43 : decode cX3_fewestWatchers 43 = .ok (.aload_n 0, 1) := by decide +kernel
theorem dX3_fewestWatchers_44 : decode cX3_fewestWatchers 44 = .ok (.getfield 36, 3) := by decide +kernel
theorem dX3_fewestWatchers_47 : decode cX3_fewestWatchers 47 = .ok (.iload_n 2, 1) := by decide +kernel
theorem dX3_fewestWatchers_48 : decode cX3_fewestWatchers 48 = .ok (.iconst 0, 1) := by decide +kernel
theorem dX3_fewestWatchers_49 : decode cX3_fewestWatchers 49 = .ok (.iconst 0, 1) := by decide +kernel
theorem dX3_fewestWatchers_50 : decode cX3_fewestWatchers 50 = .ok (.invokevirtual 147, 3) := by decide +kernel
theorem dX3_fewestWatchers_53 : decode cX3_fewestWatchers 53 = .ok (.aload_n 0, 1) := by decide +kernel
theorem dX3_fewestWatchers_54 : decode cX3_fewestWatchers 54 = .ok (.getfield 36, 3) := by decide +kernel
theorem dX3_fewestWatchers_57 : decode cX3_fewestWatchers 57 = .ok (.invokevirtual 151, 3) := by decide +kernel
theorem dX3_fewestWatchers_60 : decode cX3_fewestWatchers 60 = .ok (.ldc 188, 2) := by decide +kernel
theorem dX3_fewestWatchers_62 : decode cX3_fewestWatchers 62 = .ok (.if_icmp .eq 5, 3) := by decide +kernel
theorem dX3_fewestWatchers_65 : decode cX3_fewestWatchers 65 = .ok (.iload_n 2, 1) := by decide +kernel
theorem dX3_fewestWatchers_66 : decode cX3_fewestWatchers 66 = .ok (.istore_n 1, 1) := by decide +kernel
theorem dX3_fewestWatchers_67 : decode cX3_fewestWatchers 67 = .ok (.iinc 2 1, 3) := by decide +kernel
theorem dX3_fewestWatchers_70 : decode cX3_fewestWatchers 70 = .ok (.goto (-49), 3) := by decide +kernel
theorem dX3_fewestWatchers_73 : decode cX3_fewestWatchers 73 = .ok (.iload_n 1, 1) := by decide +kernel
theorem dX3_fewestWatchers_74 : decode cX3_fewestWatchers 74 = .ok (.ireturn, 1) := by decide +kernel
theorem dX3_soonestWatchers_0 : decode cX3_soonestWatchers 0 = .ok (.aload_n 0, 1) := by decide +kernel
theorem dX3_soonestWatchers_1 : decode cX3_soonestWatchers 1 = .ok (.getfield 36, 3) := by decide +kernel
theorem dX3_soonestWatchers_4 : decode cX3_soonestWatchers 4 = .ok (.aload_n 0, 1) := by decide +kernel
theorem dX3_soonestWatchers_5 : decode cX3_soonestWatchers 5 = .ok (.getfield 23, 3) := by decide +kernel
theorem dX3_soonestWatchers_8 : decode cX3_soonestWatchers 8 = .ok (.invokevirtual 166, 3) := by decide +kernel
theorem dX3_soonestWatchers_11 : decode cX3_soonestWatchers 11 = .ok (.aload_n 0, 1) := by decide +kernel
theorem dX3_soonestWatchers_12 : decode cX3_soonestWatchers 12 = .ok (.getfield 23, 3) := by decide +kernel
theorem dX3_soonestWatchers_15 : decode cX3_soonestWatchers 15 = .ok (.invokevirtual 110, 3) := by decide +kernel
theorem dX3_soonestWatchers_18 : decode cX3_soonestWatchers 18 = .ok (.istore_n 2, 1) := by decide +kernel
theorem dX3_soonestWatchers_19 : decode cX3_soonestWatchers 19 = .ok (.ldc 188, 2) := by decide +kernel
theorem dX3_soonestWatchers_21 : decode cX3_soonestWatchers 21 = .ok (.istore_n 3, 1) := by decide +kernel
theorem dX3_soonestWatchers_22 : decode cX3_soonestWatchers 22 = .ok (.iconst 0, 1) := by decide +kernel
theorem dX3_soonestWatchers_23 : decode cX3_soonestWatchers 23 = .ok (.istore 4, 2) := by decide +kernel
theorem dX3_soonestWatchers_25 : decode cX3_soonestWatchers 25 = .ok (.iload 4, 2) := by decide +kernel
theorem dX3_soonestWatchers_27 : decode cX3_soonestWatchers 27 = .ok (.aload_n 0, 1) := by decide +kernel
theorem dX3_soonestWatchers_28 : decode cX3_soonestWatchers 28 = .ok (.getfield 23, 3) := by decide +kernel
theorem dX3_soonestWatchers_31 : decode cX3_soonestWatchers 31 = .ok (.invokevirtual 110, 3) := by decide +kernel
theorem dX3_soonestWatchers_34 : decode cX3_soonestWatchers 34 = .ok (.if_icmp .gt 51, 3) := by decide +kernel
theorem dX3_soonestWatchers_37 : decode cX3_soonestWatchers 37 = .ok (.iload 4, 2) := by decide +kernel
theorem dX3_soonestWatchers_39 : decode cX3_soonestWatchers 39 = .ok (.invokestatic 139, 3) := by decide +kernel
theorem dX3_soonestWatchers_42 : decode cX3_soonestWatchers 42 = .ok (.iload_n 1, 1) := by decide +kernel
theorem dX3_soonestWatchers_43 : decode cX3_soonestWatchers 43 = .ok (.if_icmp .ne 36, 3) := by decide +kernel
theorem dX3_soonestWatchers_46 : decode cX3_soonestWatchers 46 = .ok (.aload_n 0, 1) := by decide +kernel
theorem dX3_soonestWatchers_47 : decode cX3_soonestWatchers 47 = .ok (.getfield 36, 3) := by decide +kernel
theorem dX3_soonestWatchers_50 : decode cX3_soonestWatchers 50 = .ok (.iload 4, 2) := by decide +kernel
theorem dX3_soonestWatchers_52 : decode cX3_soonestWatchers 52 = .ok (.iconst 0, 1) := by decide +kernel
theorem dX3_soonestWatchers_53 : decode cX3_soonestWatchers 53 = .ok (.iconst 1, 1) := by decide +kernel
theorem dX3_soonestWatchers_54 : decode cX3_soonestWatchers 54 = .ok (.invokevirtual 147, 3) := by decide +kernel
theorem dX3_soonestWatchers_57 : decode cX3_soonestWatchers 57 = .ok (.aload_n 0, 1) := by decide +kernel
theorem dX3_soonestWatchers_58 : decode cX3_soonestWatchers 58 = .ok (.getfield 36, 3) := by decide +kernel
theorem dX3_soonestWatchers_61 : decode cX3_soonestWatchers 61 = .ok (.invokevirtual 151, 3) := by decide +kernel
theorem dX3_soonestWatchers_64 : decode cX3_soonestWatchers 64 = .ok (.iload_n 3, 1) := by decide +kernel
theorem dX3_soonestWatchers_65 : decode cX3_soonestWatchers 65 = .ok (.if_icmp .ge 14, 3) := by decide +kernel
theorem dX3_soonestWatchers_68 : decode cX3_soonestWatchers 68 = .ok (.aload_n 0, 1) := by decide +kernel
theorem dX3_soonestWatchers_69 : decode cX3_soonestWatchers 69 = .ok (.getfield 36, 3) := by decide +kernel
theorem dX3_soonestWatchers_72 : decode cX3_soonestWatchers 72 = .ok (.invokevirtual 151, 3) := by decide +kernel
theorem dX3_soonestWatchers_75 : decode cX3_soonestWatchers 75 = .ok (.istore_n 3, 1) := by decide +kernel
theorem dX3_soonestWatchers_76 : decode cX3_soonestWatchers 76 = .ok (.iload 4, 2) := by decide +kernel
theorem dX3_soonestWatchers_78 : decode cX3_soonestWatchers 78 = .ok (.istore_n 2, 1) := by decide +kernel
theorem dX3_soonestWatchers_79 : decode cX3_soonestWatchers 79 = .ok (.iinc 4 1, 3) := by decide +kernel
theorem dX3_soonestWatchers_82 : decode cX3_soonestWatchers 82 = .ok (.goto (-57), 3) := by decide +kernel
theorem dX3_soonestWatchers_85 : decode cX3_soonestWatchers 85 = .ok (.iload_n 2, 1) := by decide +kernel
theorem dX3_soonestWatchers_86 : decode cX3_soonestWatchers 86 = .ok (.ireturn, 1) := by decide +kernel
theorem dX3_doorOf_0 : decode cX3_doorOf 0 = .ok (.iload_n 0, 1) := by decide +kernel
theorem dX3_doorOf_1 : decode cX3_doorOf 1 = .ok (.bipush 7, 2) := by decide +kernel
theorem dX3_doorOf_3 : decode cX3_doorOf 3 = .ok (.idiv, 1) := by decide +kernel
theorem dX3_doorOf_4 : decode cX3_doorOf 4 = .ok (.ireturn, 1) := by decide +kernel
theorem dX3_holderOf_0 : decode cX3_holderOf 0 = .ok (.iload_n 0, 1) := by decide +kernel
theorem dX3_holderOf_1 : decode cX3_holderOf 1 = .ok (.bipush 7, 2) := by decide +kernel
theorem dX3_holderOf_3 : decode cX3_holderOf 3 = .ok (.irem, 1) := by decide +kernel
theorem dX3_holderOf_4 : decode cX3_holderOf 4 = .ok (.ireturn, 1) := by decide +kernel
theorem dX3_addPair_0 : decode cX3_addPair 0 = .ok (.iload_n 1, 1) := by decide +kernel
theorem dX3_addPair_1 : decode cX3_addPair 1 = .ok (.invokestatic 160, 3) := by decide +kernel
theorem dX3_addPair_4 : decode cX3_addPair 4 = .ok (.istore_n 2, 1) := by decide +kernel
theorem dX3_addPair_5 : decode cX3_addPair 5 = .ok (.iload_n 1, 1) := by decide +kernel
theorem dX3_addPair_6 : decode cX3_addPair 6 = .ok (.invokestatic 163, 3) := by decide +kernel
theorem dX3_addPair_9 : decode cX3_addPair 9 = .ok (.istore_n 3, 1) := by decide +kernel
theorem dX3_addPair_10 : decode cX3_addPair 10 = .ok (.aload_n 0, 1) := by decide +kernel
theorem dX3_addPair_11 : decode cX3_addPair 11 = .ok (.getfield 23, 3) := by decide +kernel
theorem dX3_addPair_14 : decode cX3_addPair 14 = .ok (.iload_n 2, 1) := by decide +kernel
theorem dX3_addPair_15 : decode cX3_addPair 15 = .ok (.invokevirtual 62, 3) := by decide +kernel
theorem dX3_addPair_18 : decode cX3_addPair 18 = .ok (.ifCond .eq 19, 3) := by decide +kernel
theorem dX3_addPair_21 : decode cX3_addPair 21 = .ok (.aload_n 0, 1) := by decide +kernel
theorem dX3_addPair_22 : decode cX3_addPair 22 = .ok (.getfield 23, 3) := by decide +kernel
theorem dX3_addPair_25 : decode cX3_addPair 25 = .ok (.iload_n 3, 1) := by decide +kernel
theorem dX3_addPair_26 : decode cX3_addPair 26 = .ok (.invokevirtual 62, 3) := by decide +kernel
theorem dX3_addPair_29 : decode cX3_addPair 29 = .ok (.ifCond .eq 8, 3) := by decide +kernel
theorem dX3_addPair_32 : decode cX3_addPair 32 = .ok (.iload_n 2, 1) := by decide +kernel
theorem dX3_addPair_33 : decode cX3_addPair 33 = .ok (.iload_n 3, 1) := by decide +kernel
theorem dX3_addPair_34 : decode cX3_addPair 34 = .ok (.if_icmp .ne 5, 3) := by decide +kernel
theorem dX3_addPair_37 : decode cX3_addPair 37 = .ok (.iconst 0, 1) := by decide +kernel
theorem dX3_addPair_38 : decode cX3_addPair 38 = .ok (.ireturn, 1) := by decide +kernel
theorem dX3_addPair_39 : decode cX3_addPair 39 = .ok (.aload_n 0, 1) := by decide +kernel
theorem dX3_addPair_40 : decode cX3_addPair 40 = .ok (.getfield 36, 3) := by decide +kernel
theorem dX3_addPair_43 : decode cX3_addPair 43 = .ok (.getfield 220, 3) := by decide +kernel
theorem dX3_addPair_46 : decode cX3_addPair 46 = .ok (.iload_n 3, 1) := by decide +kernel
theorem dX3_addPair_47 : decode cX3_addPair 47 = .ok (.iaload, 1) := by decide +kernel
theorem dX3_addPair_48 : decode cX3_addPair 48 = .ok (.iload_n 2, 1) := by decide +kernel
theorem dX3_addPair_49 : decode cX3_addPair 49 = .ok (.ishr, 1) := by decide +kernel
theorem dX3_addPair_50 : decode cX3_addPair 50 = .ok (.iconst 1, 1) := by decide +kernel
theorem dX3_addPair_51 : decode cX3_addPair 51 = .ok (.iand, 1) := by decide +kernel
theorem dX3_addPair_52 : decode cX3_addPair 52 = .ok (.ifCond .eq 5, 3) := by decide +kernel
theorem dX3_addPair_55 : decode cX3_addPair 55 = .ok (.iconst 0, 1) := by decide +kernel
theorem dX3_addPair_56 : decode cX3_addPair 56 = .ok (.ireturn, 1) := by decide +kernel
theorem dX3_addPair_57 : decode cX3_addPair 57 = .ok (.aload_n 0, 1) := by decide +kernel
theorem dX3_addPair_58 : decode cX3_addPair 58 = .ok (.getfield 36, 3) := by decide +kernel
theorem dX3_addPair_61 : decode cX3_addPair 61 = .ok (.getfield 220, 3) := by decide +kernel
theorem dX3_addPair_64 : decode cX3_addPair 64 = .ok (.iload_n 3, 1) := by decide +kernel
theorem dX3_addPair_65 : decode cX3_addPair 65 = .ok (.dup2, 1) := by decide +kernel
theorem dX3_addPair_66 : decode cX3_addPair 66 = .ok (.iaload, 1) := by decide +kernel
theorem dX3_addPair_67 : decode cX3_addPair 67 = .ok (.iconst 1, 1) := by decide +kernel
theorem dX3_addPair_68 : decode cX3_addPair 68 = .ok (.iload_n 2, 1) := by decide +kernel
theorem dX3_addPair_69 : decode cX3_addPair 69 = .ok (.ishl, 1) := by decide +kernel
theorem dX3_addPair_70 : decode cX3_addPair 70 = .ok (.ior, 1) := by decide +kernel
theorem dX3_addPair_71 : decode cX3_addPair 71 = .ok (.iastore, 1) := by decide +kernel
theorem dX3_addPair_72 : decode cX3_addPair 72 = .ok (.iconst 1, 1) := by decide +kernel
theorem dX3_addPair_73 : decode cX3_addPair 73 = .ok (.ireturn, 1) := by decide +kernel
theorem dX3_dropPair_0 : decode cX3_dropPair 0 = .ok (.aload_n 0, 1) := by decide +kernel
theorem dX3_dropPair_1 : decode cX3_dropPair 1 = .ok (.getfield 36, 3) := by decide +kernel
theorem dX3_dropPair_4 : decode cX3_dropPair 4 = .ok (.getfield 220, 3) := by decide +kernel
theorem dX3_dropPair_7 : decode cX3_dropPair 7 = .ok (.iload_n 1, 1) := by decide +kernel
theorem dX3_dropPair_8 : decode cX3_dropPair 8 = .ok (.invokestatic 163, 3) := by decide +kernel
theorem dX3_dropPair_11 : decode cX3_dropPair 11 = .ok (.dup2, 1) := by decide +kernel
theorem dX3_dropPair_12 : decode cX3_dropPair 12 = .ok (.iaload, 1) := by decide +kernel
theorem dX3_dropPair_13 : decode cX3_dropPair 13 = .ok (.iconst 1, 1) := by decide +kernel
theorem dX3_dropPair_14 : decode cX3_dropPair 14 = .ok (.iload_n 1, 1) := by decide +kernel
theorem dX3_dropPair_15 : decode cX3_dropPair 15 = .ok (.invokestatic 160, 3) := by decide +kernel
theorem dX3_dropPair_18 : decode cX3_dropPair 18 = .ok (.ishl, 1) := by decide +kernel
theorem dX3_dropPair_19 : decode cX3_dropPair 19 = .ok (.iconst (-1), 1) := by decide +kernel
theorem dX3_dropPair_20 : decode cX3_dropPair 20 = .ok (.ixor, 1) := by decide +kernel
theorem dX3_dropPair_21 : decode cX3_dropPair 21 = .ok (.iand, 1) := by decide +kernel
theorem dX3_dropPair_22 : decode cX3_dropPair 22 = .ok (.iastore, 1) := by decide +kernel
theorem dX3_dropPair_23 : decode cX3_dropPair 23 = .ok (.return_, 1) := by decide +kernel
theorem dX3_allOutBy_0 : decode cX3_allOutBy 0 = .ok (.aload_n 0, 1) := by decide +kernel
theorem dX3_allOutBy_1 : decode cX3_allOutBy 1 = .ok (.getfield 36, 3) := by decide +kernel
theorem dX3_allOutBy_4 : decode cX3_allOutBy 4 = .ok (.aload_n 0, 1) := by decide +kernel
theorem dX3_allOutBy_5 : decode cX3_allOutBy 5 = .ok (.getfield 23, 3) := by decide +kernel
theorem dX3_allOutBy_8 : decode cX3_allOutBy 8 = .ok (.getfield 87, 3) := by decide +kernel
theorem dX3_allOutBy_11 : decode cX3_allOutBy 11 = .ok (.iconst 0, 1) := by decide +kernel
theorem dX3_allOutBy_12 : decode cX3_allOutBy 12 = .ok (.iconst 1, 1) := by decide +kernel
theorem dX3_allOutBy_13 : decode cX3_allOutBy 13 = .ok (.invokevirtual 147, 3) := by decide +kernel
theorem dX3_allOutBy_16 : decode cX3_allOutBy 16 = .ok (.aload_n 0, 1) := by decide +kernel
theorem dX3_allOutBy_17 : decode cX3_allOutBy 17 = .ok (.getfield 36, 3) := by decide +kernel
theorem dX3_allOutBy_20 : decode cX3_allOutBy 20 = .ok (.invokevirtual 151, 3) := by decide +kernel
theorem dX3_allOutBy_23 : decode cX3_allOutBy 23 = .ok (.istore_n 2, 1) := by decide +kernel
theorem dX3_allOutBy_24 : decode cX3_allOutBy 24 = .ok (.iload_n 2, 1) := by decide +kernel
theorem dX3_allOutBy_25 : decode cX3_allOutBy 25 = .ok (.ldc 188, 2) := by decide +kernel
theorem dX3_allOutBy_27 : decode cX3_allOutBy 27 = .ok (.if_icmp .eq 12, 3) := by decide +kernel
theorem dX3_allOutBy_30 : decode cX3_allOutBy 30 = .ok (.iload_n 2, 1) := by decide +kernel
theorem dX3_allOutBy_31 : decode cX3_allOutBy 31 = .ok (.iload_n 1, 1) := by decide +kernel
theorem dX3_allOutBy_32 : decode cX3_allOutBy 32 = .ok (.if_icmp .gt 7, 3) := by decide +kernel
theorem dX3_allOutBy_35 : decode cX3_allOutBy 35 = .ok (.iconst 1, 1) := by decide +kernel
theorem dX3_allOutBy_36 : decode cX3_allOutBy 36 = .ok (.goto 4, 3) := by decide +kernel
theorem dX3_allOutBy_39 : decode cX3_allOutBy 39 = .ok (.iconst 0, 1) := by decide +kernel
theorem dX3_allOutBy_40 : decode cX3_allOutBy 40 = .ok (.ireturn, 1) := by decide +kernel
theorem dX3_oneMoreHelps_0 : decode cX3_oneMoreHelps 0 = .ok (.iload_n 1, 1) := by decide +kernel
theorem dX3_oneMoreHelps_1 : decode cX3_oneMoreHelps 1 = .ok (.istore_n 3, 1) := by decide +kernel
theorem dX3_oneMoreHelps_2 : decode cX3_oneMoreHelps 2 = .ok (.iload_n 3, 1) := by decide +kernel
theorem dX3_oneMoreHelps_3 : decode cX3_oneMoreHelps 3 = .ok (.bipush 49, 2) := by decide +kernel
theorem dX3_oneMoreHelps_5 : decode cX3_oneMoreHelps 5 = .ok (.if_icmp .ge 36, 3) := by decide +kernel
theorem dX3_oneMoreHelps_8 : decode cX3_oneMoreHelps 8 = .ok (.aload_n 0, 1) := by decide +kernel
theorem dX3_oneMoreHelps_9 : decode cX3_oneMoreHelps 9 = .ok (.iload_n 3, 1) := by decide +kernel
theorem dX3_oneMoreHelps_10 : decode cX3_oneMoreHelps 10 = .ok (.invokevirtual 154, 3) := by decide +kernel
theorem dX3_oneMoreHelps_13 : decode cX3_oneMoreHelps 13 = .ok (.ifCond .eq 22, 3) := by decide +kernel
theorem dX3_oneMoreHelps_16 : decode cX3_oneMoreHelps 16 = .ok (.aload_n 0, 1) := by decide +kernel
theorem dX3_oneMoreHelps_17 : decode cX3_oneMoreHelps 17 = .ok (.iload_n 2, 1) := by decide +kernel
theorem dX3_oneMoreHelps_18 : decode cX3_oneMoreHelps 18 = .ok (.invokevirtual 169, 3) := by decide +kernel
theorem dX3_oneMoreHelps_21 : decode cX3_oneMoreHelps 21 = .ok (.istore 4, 2) := by decide +kernel
theorem dX3_oneMoreHelps_23 : decode cX3_oneMoreHelps 23 = .ok (.aload_n 0, 1) := by decide +kernel
theorem dX3_oneMoreHelps_24 : decode cX3_oneMoreHelps 24 = .ok (.iload_n 3, 1) := by decide +kernel
theorem dX3_oneMoreHelps_25 : decode cX3_oneMoreHelps 25 = .ok (.invokevirtual 157, 3) := by decide +kernel
theorem dX3_oneMoreHelps_28 : decode cX3_oneMoreHelps 28 = .ok (.iload 4, 2) := by decide +kernel
theorem dX3_oneMoreHelps_30 : decode cX3_oneMoreHelps 30 = .ok (.ifCond .eq 5, 3) := by decide +kernel
theorem dX3_oneMoreHelps_33 : decode cX3_oneMoreHelps 33 = .ok (.iconst 1, 1) := by decide +kernel
theorem dX3_oneMoreHelps_34 : decode cX3_oneMoreHelps 34 = .ok (.ireturn, 1) := by decide +kernel
theorem dX3_oneMoreHelps_35 : decode cX3_oneMoreHelps 35 = .ok (.iinc 3 1, 3) := by decide +kernel
theorem dX3_oneMoreHelps_38 : decode cX3_oneMoreHelps 38 = .ok (.goto (-36), 3) := by decide +kernel
theorem dX3_oneMoreHelps_41 : decode cX3_oneMoreHelps 41 = .ok (.iconst 0, 1) := by decide +kernel
theorem dX3_oneMoreHelps_42 : decode cX3_oneMoreHelps 42 = .ok (.ireturn, 1) := by decide +kernel
theorem dX3_twoMoreHelp_0 : decode cX3_twoMoreHelp 0 = .ok (.iconst 0, 1) := by decide +kernel
theorem dX3_twoMoreHelp_1 : decode cX3_twoMoreHelp 1 = .ok (.istore_n 2, 1) := by decide +kernel
theorem dX3_twoMoreHelp_2 : decode cX3_twoMoreHelp 2 = .ok (.iload_n 2, 1) := by decide +kernel
theorem dX3_twoMoreHelp_3 : decode cX3_twoMoreHelp 3 = .ok (.bipush 49, 2) := by decide +kernel
theorem dX3_twoMoreHelp_5 : decode cX3_twoMoreHelp 5 = .ok (.if_icmp .ge 37, 3) := by decide +kernel
theorem dX3_twoMoreHelp_8 : decode cX3_twoMoreHelp 8 = .ok (.aload_n 0, 1) := by decide +kernel
theorem dX3_twoMoreHelp_9 : decode cX3_twoMoreHelp 9 = .ok (.iload_n 2, 1) := by decide +kernel
theorem dX3_twoMoreHelp_10 : decode cX3_twoMoreHelp 10 = .ok (.invokevirtual 154, 3) := by decide +kernel
theorem dX3_twoMoreHelp_13 : decode cX3_twoMoreHelp 13 = .ok (.ifCond .eq 23, 3) := by decide +kernel
theorem dX3_twoMoreHelp_16 : decode cX3_twoMoreHelp 16 = .ok (.aload_n 0, 1) := by decide +kernel
theorem dX3_twoMoreHelp_17 : decode cX3_twoMoreHelp 17 = .ok (.iload_n 2, 1) := by decide +kernel
theorem dX3_twoMoreHelp_18 : decode cX3_twoMoreHelp 18 = .ok (.iconst 1, 1) := by decide +kernel
theorem dX3_twoMoreHelp_19 : decode cX3_twoMoreHelp 19 = .ok (.iadd, 1) := by decide +kernel
theorem dX3_twoMoreHelp_20 : decode cX3_twoMoreHelp 20 = .ok (.iload_n 1, 1) := by decide +kernel
theorem dX3_twoMoreHelp_21 : decode cX3_twoMoreHelp 21 = .ok (.invokevirtual 172, 3) := by decide +kernel
theorem dX3_twoMoreHelp_24 : decode cX3_twoMoreHelp 24 = .ok (.istore_n 3, 1) := by decide +kernel
theorem dX3_twoMoreHelp_25 : decode cX3_twoMoreHelp 25 = .ok (.aload_n 0, 1) := by decide +kernel
theorem dX3_twoMoreHelp_26 : decode cX3_twoMoreHelp 26 = .ok (.iload_n 2, 1) := by decide +kernel
theorem dX3_twoMoreHelp_27 : decode cX3_twoMoreHelp 27 = .ok (.invokevirtual 157, 3) := by decide +kernel
theorem dX3_twoMoreHelp_30 : decode cX3_twoMoreHelp 30 = .ok (.iload_n 3, 1) := by decide +kernel
theorem dX3_twoMoreHelp_31 : decode cX3_twoMoreHelp 31 = .ok (.ifCond .eq 5, 3) := by decide +kernel
theorem dX3_twoMoreHelp_34 : decode cX3_twoMoreHelp 34 = .ok (.iconst 1, 1) := by decide +kernel
theorem dX3_twoMoreHelp_35 : decode cX3_twoMoreHelp 35 = .ok (.ireturn, 1) := by decide +kernel
theorem dX3_twoMoreHelp_36 : decode cX3_twoMoreHelp 36 = .ok (.iinc 2 1, 3) := by decide +kernel
theorem dX3_twoMoreHelp_39 : decode cX3_twoMoreHelp 39 = .ok (.goto (-37), 3) := by decide +kernel
theorem dX3_twoMoreHelp_42 : decode cX3_twoMoreHelp 42 = .ok (.iconst 0, 1) := by decide +kernel
theorem dX3_twoMoreHelp_43 : decode cX3_twoMoreHelp 43 = .ok (.ireturn, 1) := by decide +kernel
theorem dX3_meanRings_0 : decode cX3_meanRings 0 = .ok (.iconst 0, 1) := by decide +kernel
theorem dX3_meanRings_1 : decode cX3_meanRings 1 = .ok (.istore_n 2, 1) := by decide +kernel
theorem dX3_meanRings_2 : decode cX3_meanRings 2 = .ok (.iconst 1, 1) := by decide +kernel
theorem dX3_meanRings_3 : decode cX3_meanRings 3 = .ok (.istore_n 3, 1) := by decide +kernel
theorem dX3_meanRings_4 : decode cX3_meanRings 4 = .ok (.iconst 1, 1) := by decide +kernel
theorem dX3_meanRings_5 : decode cX3_meanRings 5 = .ok (.istore 4, 2) := by decide +kernel
theorem dX3_meanRings_7 : decode cX3_meanRings 7 = .ok (.iload 4, 2) := by decide +kernel
theorem dX3_meanRings_9 : decode cX3_meanRings 9 = .ok (.iload_n 0, 1) := by decide +kernel
theorem dX3_meanRings_10 : decode cX3_meanRings 10 = .ok (.if_icmp .gt 21, 3) := by decide +kernel
theorem dX3_meanRings_13 : decode cX3_meanRings 13 = .ok (.iload_n 2, 1) := by decide +kernel
theorem dX3_meanRings_14 : decode cX3_meanRings 14 = .ok (.iload 4, 2) := by decide +kernel
theorem dX3_meanRings_16 : decode cX3_meanRings 16 = .ok (.imul, 1) := by decide +kernel
theorem dX3_meanRings_17 : decode cX3_meanRings 17 = .ok (.iload_n 3, 1) := by decide +kernel
theorem dX3_meanRings_18 : decode cX3_meanRings 18 = .ok (.iadd, 1) := by decide +kernel
theorem dX3_meanRings_19 : decode cX3_meanRings 19 = .ok (.istore_n 2, 1) := by decide +kernel
theorem dX3_meanRings_20 : decode cX3_meanRings 20 = .ok (.iload_n 3, 1) := by decide +kernel
theorem dX3_meanRings_21 : decode cX3_meanRings 21 = .ok (.iload 4, 2) := by decide +kernel
theorem dX3_meanRings_23 : decode cX3_meanRings 23 = .ok (.imul, 1) := by decide +kernel
theorem dX3_meanRings_24 : decode cX3_meanRings 24 = .ok (.istore_n 3, 1) := by decide +kernel
theorem dX3_meanRings_25 : decode cX3_meanRings 25 = .ok (.iinc 4 1, 3) := by decide +kernel
theorem dX3_meanRings_28 : decode cX3_meanRings 28 = .ok (.goto (-21), 3) := by decide +kernel
theorem dX3_meanRings_31 : decode cX3_meanRings 31 = .ok (.iload_n 2, 1) := by decide +kernel
theorem dX3_meanRings_32 : decode cX3_meanRings 32 = .ok (.iload_n 3, 1) := by decide +kernel
theorem dX3_meanRings_33 : decode cX3_meanRings 33 = .ok (.invokestatic 223, 3) := by decide +kernel
theorem dX3_meanRings_36 : decode cX3_meanRings 36 = .ok (.istore 4, 2) := by decide +kernel
theorem dX3_meanRings_38 : decode cX3_meanRings 38 = .ok (.iload 4, 2) := by decide +kernel
theorem dX3_meanRings_40 : decode cX3_meanRings 40 = .ok (.iconst 1, 1) := by decide +kernel
theorem dX3_meanRings_41 : decode cX3_meanRings 41 = .ok (.if_icmp .ge 6, 3) := by decide +kernel
theorem dX3_meanRings_44 : decode cX3_meanRings 44 = .ok (.bipush (-9), 2) := by decide +kernel
theorem dX3_meanRings_46 : decode cX3_meanRings 46 = .ok (.ireturn, 1) := by decide +kernel
theorem dX3_meanRings_47 : decode cX3_meanRings 47 = .ok (.iload_n 1, 1) := by decide +kernel
theorem dX3_meanRings_48 : decode cX3_meanRings 48 = .ok (.ifCond .ne 10, 3) := by decide +kernel
theorem dX3_meanRings_51 : decode cX3_meanRings 51 = .ok (.iload_n 2, 1) := by decide +kernel
theorem dX3_meanRings_52 : decode cX3_meanRings 52 = .ok (.iload 4, 2) := by decide +kernel
theorem dX3_meanRings_54 : decode cX3_meanRings 54 = .ok (.idiv, 1) := by decide +kernel
theorem dX3_meanRings_55 : decode cX3_meanRings 55 = .ok (.goto 7, 3) := by decide +kernel
theorem dX3_meanRings_58 : decode cX3_meanRings 58 = .ok (.iload_n 3, 1) := by decide +kernel
theorem dX3_meanRings_59 : decode cX3_meanRings 59 = .ok (.iload 4, 2) := by decide +kernel
theorem dX3_meanRings_61 : decode cX3_meanRings 61 = .ok (.idiv, 1) := by decide +kernel
theorem dX3_meanRings_62 : decode cX3_meanRings 62 = .ok (.ireturn, 1) := by decide +kernel
theorem dX3_commonDivisor_0 : decode cX3_commonDivisor 0 = .ok (.iload_n 0, 1) := by decide +kernel
theorem dX3_commonDivisor_1 : decode cX3_commonDivisor 1 = .ok (.istore_n 2, 1) := by decide +kernel
theorem dX3_commonDivisor_2 : decode cX3_commonDivisor 2 = .ok (.iload_n 1, 1) := by decide +kernel
theorem dX3_commonDivisor_3 : decode cX3_commonDivisor 3 = .ok (.istore_n 3, 1) := by decide +kernel
theorem dX3_commonDivisor_4 : decode cX3_commonDivisor 4 = .ok (.iconst 0, 1) := by decide +kernel
theorem dX3_commonDivisor_5 : decode cX3_commonDivisor 5 = .ok (.istore 4, 2) := by decide +kernel
theorem dX3_commonDivisor_7 : decode cX3_commonDivisor 7 = .ok (.iload 4, 2) := by decide +kernel
theorem dX3_commonDivisor_9 : decode cX3_commonDivisor 9 = .ok (.bipush 64, 2) := by decide +kernel
theorem dX3_commonDivisor_11 : decode cX3_commonDivisor 11 = .ok (.if_icmp .ge 23, 3) := by decide +kernel
theorem dX3_commonDivisor_14 : decode cX3_commonDivisor 14 = .ok (.iload_n 3, 1) := by decide +kernel
theorem dX3_commonDivisor_15 : decode cX3_commonDivisor 15 = .ok (.ifCond .le 19, 3) := by decide +kernel
theorem dX3_commonDivisor_18 : decode cX3_commonDivisor 18 = .ok (.iload_n 2, 1) := by decide +kernel
theorem dX3_commonDivisor_19 : decode cX3_commonDivisor 19 = .ok (.iload_n 3, 1) := by decide +kernel
theorem dX3_commonDivisor_20 : decode cX3_commonDivisor 20 = .ok (.irem, 1) := by decide +kernel
theorem dX3_commonDivisor_21 : decode cX3_commonDivisor 21 = .ok (.istore 5, 2) := by decide +kernel
theorem dX3_commonDivisor_23 : decode cX3_commonDivisor 23 = .ok (.iload_n 3, 1) := by decide +kernel
theorem dX3_commonDivisor_24 : decode cX3_commonDivisor 24 = .ok (.istore_n 2, 1) := by decide +kernel
theorem dX3_commonDivisor_25 : decode cX3_commonDivisor 25 = .ok (.iload 5, 2) := by decide +kernel
theorem dX3_commonDivisor_27 : decode cX3_commonDivisor 27 = .ok (.istore_n 3, 1) := by decide +kernel
theorem dX3_commonDivisor_28 : decode cX3_commonDivisor 28 = .ok (.iinc 4 1, 3) := by decide +kernel
theorem dX3_commonDivisor_31 : decode cX3_commonDivisor 31 = .ok (.goto (-24), 3) := by decide +kernel
theorem dX3_commonDivisor_34 : decode cX3_commonDivisor 34 = .ok (.iload_n 2, 1) := by decide +kernel
theorem dX3_commonDivisor_35 : decode cX3_commonDivisor 35 = .ok (.ireturn, 1) := by decide +kernel
theorem dX3_nextSeed_0 : decode cX3_nextSeed 0 = .ok (.iload_n 0, 1) := by decide +kernel
theorem dX3_nextSeed_1 : decode cX3_nextSeed 1 = .ok (.ldc 226, 2) := by decide +kernel
theorem dX3_nextSeed_3 : decode cX3_nextSeed 3 = .ok (.imul, 1) := by decide +kernel
theorem dX3_nextSeed_4 : decode cX3_nextSeed 4 = .ok (.ldc 227, 2) := by decide +kernel
theorem dX3_nextSeed_6 : decode cX3_nextSeed 6 = .ok (.iadd, 1) := by decide +kernel
theorem dX3_nextSeed_7 : decode cX3_nextSeed 7 = .ok (.ireturn, 1) := by decide +kernel
theorem dX3_drawBelowHundred_0 : decode cX3_drawBelowHundred 0 = .ok (.iload_n 0, 1) := by decide +kernel
theorem dX3_drawBelowHundred_1 : decode cX3_drawBelowHundred 1 = .ok (.ldc 188, 2) := by decide +kernel
theorem dX3_drawBelowHundred_3 : decode cX3_drawBelowHundred 3 = .ok (.iand, 1) := by decide +kernel
theorem dX3_drawBelowHundred_4 : decode cX3_drawBelowHundred 4 = .ok (.sipush 256, 3) := by decide +kernel
theorem dX3_drawBelowHundred_7 : decode cX3_drawBelowHundred 7 = .ok (.idiv, 1) := by decide +kernel
theorem dX3_drawBelowHundred_8 : decode cX3_drawBelowHundred 8 = .ok (.bipush 100, 2) := by decide +kernel
theorem dX3_drawBelowHundred_10 : decode cX3_drawBelowHundred 10 = .ok (.irem, 1) := by decide +kernel
theorem dX3_drawBelowHundred_11 : decode cX3_drawBelowHundred 11 = .ok (.ireturn, 1) := by decide +kernel
theorem dX4_init_0 : decode cX4_init 0 = .ok (.aload_n 0, 1) := by decide +kernel
theorem dX4_init_1 : decode cX4_init 1 = .ok (.invokespecial 1, 3) := by decide +kernel
theorem dX4_init_4 : decode cX4_init 4 = .ok (.aload_n 0, 1) := by decide +kernel
theorem dX4_init_5 : decode cX4_init 5 = .ok (.bipush 7, 2) := by decide +kernel
theorem dX4_init_7 : decode cX4_init 7 = .ok (.newarray .int, 2) := by decide +kernel
theorem dX4_init_9 : decode cX4_init 9 = .ok (.putfield 7, 3) := by decide +kernel
theorem dX4_init_12 : decode cX4_init 12 = .ok (.aload_n 0, 1) := by decide +kernel
theorem dX4_init_13 : decode cX4_init 13 = .ok (.bipush 64, 2) := by decide +kernel
theorem dX4_init_15 : decode cX4_init 15 = .ok (.newarray .int, 2) := by decide +kernel
theorem dX4_init_17 : decode cX4_init 17 = .ok (.putfield 13, 3) := by decide +kernel
theorem dX4_init_20 : decode cX4_init 20 = .ok (.aload_n 0, 1) := by decide +kernel
theorem dX4_init_21 : decode cX4_init 21 = .ok (.bipush 64, 2) := by decide +kernel
theorem dX4_init_23 : decode cX4_init 23 = .ok (.newarray .int, 2) := by decide +kernel
theorem dX4_init_25 : decode cX4_init 25 = .ok (.putfield 16, 3) := by decide +kernel
theorem dX4_init_28 : decode cX4_init 28 = .ok (.aload_n 0, 1) := by decide +kernel
theorem dX4_init_29 : decode cX4_init 29 = .ok (.bipush 64, 2) := by decide +kernel
theorem dX4_init_31 : decode cX4_init 31 = .ok (.newarray .int, 2) := by decide +kernel
theorem dX4_init_33 : decode cX4_init 33 = .ok (.putfield 19, 3) := by decide +kernel
theorem dX4_init_36 : decode cX4_init 36 = .ok (.aload_n 0, 1) := by decide +kernel
theorem dX4_init_37 : decode cX4_init 37 = .ok (.bipush 80, 2) := by decide +kernel
theorem dX4_init_39 : decode cX4_init 39 = .ok (.newarray .int, 2) := by decide +kernel
theorem dX4_init_41 : decode cX4_init 41 = .ok (.putfield 22, 3) := by decide +kernel
theorem dX4_init_44 : decode cX4_init 44 = .ok (.aload_n 0, 1) := by decide +kernel
theorem dX4_init_45 : decode cX4_init 45 = .ok (.iconst 5, 1) := by decide +kernel
theorem dX4_init_46 : decode cX4_init 46 = .ok (.newarray .int, 2) := by decide +kernel
theorem dX4_init_48 : decode cX4_init 48 = .ok (.putfield 25, 3) := by decide +kernel
theorem dX4_init_51 : decode cX4_init 51 = .ok (.aload_n 0, 1) := by decide +kernel
theorem dX4_init_52 : decode cX4_init 52 = .ok (.bipush 7, 2) := by decide +kernel
theorem dX4_init_54 : decode cX4_init 54 = .ok (.newarray .int, 2) := by decide +kernel
theorem dX4_init_56 : decode cX4_init 56 = .ok (.putfield 28, 3) := by decide +kernel
theorem dX4_init_59 : decode cX4_init 59 = .ok (.aload_n 0, 1) := by decide +kernel
theorem dX4_init_60 : decode cX4_init 60 = .ok (.bipush 7, 2) := by decide +kernel
theorem dX4_init_62 : decode cX4_init 62 = .ok (.newarray .int, 2) := by decide +kernel
theorem dX4_init_64 : decode cX4_init 64 = .ok (.putfield 31, 3) := by decide +kernel
theorem dX4_init_67 : decode cX4_init 67 = .ok (.aload_n 0, 1) := by decide +kernel
theorem dX4_init_68 : decode cX4_init 68 = .ok (.bipush 64, 2) := by decide +kernel
theorem dX4_init_70 : decode cX4_init 70 = .ok (.newarray .int, 2) := by decide +kernel
theorem dX4_init_72 : decode cX4_init 72 = .ok (.putfield 34, 3) := by decide +kernel
theorem dX4_init_75 : decode cX4_init 75 = .ok (.aload_n 0, 1) := by decide +kernel
theorem dX4_init_76 : decode cX4_init 76 = .ok (.bipush 7, 2) := by decide +kernel
theorem dX4_init_78 : decode cX4_init 78 = .ok (.newarray .int, 2) := by decide +kernel
theorem dX4_init_80 : decode cX4_init 80 = .ok (.putfield 37, 3) := by decide +kernel
theorem dX4_init_83 : decode cX4_init 83 = .ok (.aload_n 0, 1) := by decide +kernel
theorem dX4_init_84 : decode cX4_init 84 = .ok (.getfield 13, 3) := by decide +kernel
theorem dX4_init_87 : decode cX4_init 87 = .ok (.iconst 3, 1) := by decide +kernel
theorem dX4_init_88 : decode cX4_init 88 = .ok (.iconst 1, 1) := by decide +kernel
theorem dX4_init_89 : decode cX4_init 89 = .ok (.iastore, 1) := by decide +kernel
theorem dX4_init_90 : decode cX4_init 90 = .ok (.return_, 1) := by decide +kernel
theorem dX4_refuse_0 : decode cX4_refuse 0 = .ok (.aload_n 0, 1) := by decide +kernel
theorem dX4_refuse_1 : decode cX4_refuse 1 = .ok (.getfield 7, 3) := by decide +kernel
theorem dX4_refuse_4 : decode cX4_refuse 4 = .ok (.iload_n 1, 1) := by decide +kernel
theorem dX4_refuse_5 : decode cX4_refuse 5 = .ok (.ineg, 1) := by decide +kernel
theorem dX4_refuse_6 : decode cX4_refuse 6 = .ok (.dup2, 1) := by decide +kernel
theorem dX4_refuse_7 : decode cX4_refuse 7 = .ok (.iaload, 1) := by decide +kernel
theorem dX4_refuse_8 : decode cX4_refuse 8 = .ok (.iconst 1, 1) := by decide +kernel
theorem dX4_refuse_9 : decode cX4_refuse 9 = .ok (.iadd, 1) := by decide +kernel
theorem dX4_refuse_10 : decode cX4_refuse 10 = .ok (.iastore, 1) := by decide +kernel
theorem dX4_refuse_11 : decode cX4_refuse 11 = .ok (.iload_n 1, 1) := by decide +kernel
theorem dX4_refuse_12 : decode cX4_refuse 12 = .ok (.ireturn, 1) := by decide +kernel
theorem dX4_isIn_0 : decode cX4_isIn 0 = .ok (.iload_n 0, 1) := by decide +kernel
theorem dX4_isIn_1 : decode cX4_isIn 1 = .ok (.ifCond .lt 12, 3) := by decide +kernel
theorem dX4_isIn_4 : decode cX4_isIn 4 = .ok (.iload_n 0, 1) := by decide +kernel
theorem dX4_isIn_5 : decode cX4_isIn 5 = .ok (.iload_n 1, 1) := by decide +kernel
theorem dX4_isIn_6 : decode cX4_isIn 6 = .ok (.if_icmp .ge 7, 3) := by decide +kernel
theorem dX4_isIn_9 : decode cX4_isIn 9 = .ok (.iconst 1, 1) := by decide +kernel
theorem dX4_isIn_10 : decode cX4_isIn 10 = .ok (.goto 4, 3) := by decide +kernel
theorem dX4_isIn_13 : decode cX4_isIn 13 = .ok (.iconst 0, 1) := by decide +kernel
theorem dX4_isIn_14 : decode cX4_isIn 14 = .ok (.ireturn, 1) := by decide +kernel
theorem dX4_within_0 : decode cX4_within 0 = .ok (.iload_n 0, 1) := by decide +kernel
theorem dX4_within_1 : decode cX4_within 1 = .ok (.iload_n 1, 1) := by decide +kernel
theorem dX4_within_2 : decode cX4_within 2 = .ok (.if_icmp .ge 8, 3) := by decide +kernel
theorem dX4_within_5 : decode cX4_within 5 = .ok (.bipush (-4), 2) := by decide +kernel
theorem dX4_within_7 : decode cX4_within 7 = .ok (.goto 14, 3) := by decide +kernel
theorem dX4_within_10 : decode cX4_within 10 = .ok (.iload_n 0, 1) := by decide +kernel
theorem dX4_within_11 : decode cX4_within 11 = .ok (.iload_n 2, 1) := by decide +kernel
theorem dX4_within_12 : decode cX4_within 12 = .ok (.if_icmp .le 8, 3) := by decide +kernel
theorem dX4_within_15 : decode cX4_within 15 = .ok (.bipush (-6), 2) := by decide +kernel
theorem dX4_within_17 : decode cX4_within 17 = .ok (.goto 4, 3) := by decide +kernel
theorem dX4_within_20 : decode cX4_within 20 = .ok (.iconst 0, 1) := by decide +kernel
theorem dX4_within_21 : decode cX4_within 21 = .ok (.ireturn, 1) := by decide +kernel
theorem dX4_copiesTo_0 : decode cX4_copiesTo 0 = .ok (.iconst 0, 1) := by decide +kernel
theorem dX4_copiesTo_1 : decode cX4_copiesTo 1 = .ok (.istore_n 2, 1) := by decide +kernel
theorem dX4_copiesTo_2 : decode cX4_copiesTo 2 = .ok (.iload_n 2, 1) := by decide +kernel
theorem dX4_copiesTo_3 : decode cX4_copiesTo 3 = .ok (.bipush 64, 2) := by decide +kernel
theorem dX4_copiesTo_5 : decode cX4_copiesTo 5 = .ok (.if_icmp .ge 15, 3) := by decide +kernel
theorem dX4_copiesTo_8 : decode cX4_copiesTo 8 = .ok (.aload_n 1, 1) := by decide +kernel
theorem dX4_copiesTo_9 : decode cX4_copiesTo 9 = .ok (.iload_n 2, 1) := by decide +kernel
theorem dX4_copiesTo_10 : decode cX4_copiesTo 10 = .ok (.aload_n 0, 1) := by decide +kernel
theorem dX4_copiesTo_11 : decode cX4_copiesTo 11 = .ok (.iload_n 2, 1) := by decide +kernel
theorem dX4_copiesTo_12 : decode cX4_copiesTo 12 = .ok (.iaload, 1) := by decide +kernel
theorem dX4_copiesTo_13 : decode cX4_copiesTo 13 = .ok (.iastore, 1) := by decide +kernel
theorem dX4_copiesTo_14 : decode cX4_copiesTo 14 = .ok (.iinc 2 1, 3) := by decide +kernel
theorem dX4_copiesTo_17 : decode cX4_copiesTo 17 = .ok (.goto (-15), 3) := by decide +kernel
theorem dX4_copiesTo_20 : decode cX4_copiesTo 20 = .ok (.return_, 1) := by decide +kernel
theorem dX4_bits_0 : decode cX4_bits 0 = .ok (.iconst 0, 1) := by decide +kernel
theorem dX4_bits_1 : decode cX4_bits 1 = .ok (.istore_n 1, 1) := by decide +kernel
theorem dX4_bits_2 : decode cX4_bits 2 = .ok (.iload_n 0, 1) := by decide +kernel
theorem dX4_bits_3 : decode cX4_bits 3 = .ok (.istore_n 2, 1) := by decide +kernel
theorem dX4_bits_4 : decode cX4_bits 4 = .ok (.iload_n 2, 1) := by decide +kernel
theorem dX4_bits_5 : decode cX4_bits 5 = .ok (.ifCond .le 16, 3) := by decide +kernel
theorem dX4_bits_8 : decode cX4_bits 8 = .ok (.iload_n 1, 1) := by decide +kernel
theorem dX4_bits_9 : decode cX4_bits 9 = .ok (.iload_n 2, 1) := by decide +kernel
theorem dX4_bits_10 : decode cX4_bits 10 = .ok (.iconst 1, 1) := by decide +kernel
theorem dX4_bits_11 : decode cX4_bits 11 = .ok (.iand, 1) := by decide +kernel
theorem dX4_bits_12 : decode cX4_bits 12 = .ok (.iadd, 1) := by decide +kernel
theorem dX4_bits_13 : decode cX4_bits 13 = .ok (.istore_n 1, 1) := by decide +kernel
theorem dX4_bits_14 : decode cX4_bits 14 = .ok (.iload_n 2, 1) := by decide +kernel
theorem dX4_bits_15 : decode cX4_bits 15 = .ok (.iconst 1, 1) := by decide +kernel
theorem dX4_bits_16 : decode cX4_bits 16 = .ok (.ishr, 1) := by decide +kernel
theorem dX4_bits_17 : decode cX4_bits 17 = .ok (.istore_n 2, 1) := by decide +kernel
theorem dX4_bits_18 : decode cX4_bits 18 = .ok (.goto (-14), 3) := by decide +kernel
theorem dX4_bits_21 : decode cX4_bits 21 = .ok (.iload_n 1, 1) := by decide +kernel
theorem dX4_bits_22 : decode cX4_bits 22 = .ok (.ireturn, 1) := by decide +kernel
theorem dX4_isPerson_0 : decode cX4_isPerson 0 = .ok (.iload_n 1, 1) := by decide +kernel
theorem dX4_isPerson_1 : decode cX4_isPerson 1 = .ok (.aload_n 0, 1) := by decide +kernel
theorem dX4_isPerson_2 : decode cX4_isPerson 2 = .ok (.getfield 13, 3) := by decide +kernel
theorem dX4_isPerson_5 : decode cX4_isPerson 5 = .ok (.iconst 0, 1) := by decide +kernel
theorem dX4_isPerson_6 : decode cX4_isPerson 6 = .ok (.iaload, 1) := by decide +kernel
theorem dX4_isPerson_7 : decode cX4_isPerson 7 = .ok (.invokestatic 40, 3) := by decide +kernel
theorem dX4_isPerson_10 : decode cX4_isPerson 10 = .ok (.ireturn, 1) := by decide +kernel
theorem dX4_isKey_0 : decode cX4_isKey 0 = .ok (.iload_n 1, 1) := by decide +kernel
theorem dX4_isKey_1 : decode cX4_isKey 1 = .ok (.aload_n 0, 1) := by decide +kernel
theorem dX4_isKey_2 : decode cX4_isKey 2 = .ok (.getfield 13, 3) := by decide +kernel
theorem dX4_isKey_5 : decode cX4_isKey 5 = .ok (.iconst 1, 1) := by decide +kernel
theorem dX4_isKey_6 : decode cX4_isKey 6 = .ok (.iaload, 1) := by decide +kernel
theorem dX4_isKey_7 : decode cX4_isKey 7 = .ok (.invokestatic 40, 3) := by decide +kernel
theorem dX4_isKey_10 : decode cX4_isKey 10 = .ok (.ireturn, 1) := by decide +kernel
theorem dX4_get_0 : decode cX4_get 0 = .ok (.aload_n 0, 1) := by decide +kernel
theorem dX4_get_1 : decode cX4_get 1 = .ok (.getfield 13, 3) := by decide +kernel
theorem dX4_get_4 : decode cX4_get 4 = .ok (.iconst 5, 1) := by decide +kernel
theorem dX4_get_5 : decode cX4_get 5 = .ok (.iconst 5, 1) := by decide +kernel
theorem dX4_get_6 : decode cX4_get 6 = .ok (.iload_n 1, 1) := by decide +kernel
theorem dX4_get_7 : decode cX4_get 7 = .ok (.imul, 1) := by decide +kernel
theorem dX4_get_8 : decode cX4_get 8 = .ok (.iadd, 1) := by decide +kernel
theorem dX4_get_9 : decode cX4_get 9 = .ok (.iload_n 2, 1) := by decide +kernel
theorem dX4_get_10 : decode cX4_get 10 = .ok (.iadd, 1) := by decide +kernel
theorem dX4_get_11 : decode cX4_get 11 = .ok (.iaload, 1) := by decide +kernel
theorem dX4_get_12 : decode cX4_get 12 = .ok (.ireturn, 1) := by decide +kernel
theorem dX4_door_0 : decode cX4_door 0 = .ok (.aload_n 0, 1) := by decide +kernel
theorem dX4_door_1 : decode cX4_door 1 = .ok (.getfield 13, 3) := by decide +kernel
theorem dX4_door_4 : decode cX4_door 4 = .ok (.bipush 40, 2) := by decide +kernel
theorem dX4_door_6 : decode cX4_door 6 = .ok (.iconst 2, 1) := by decide +kernel
theorem dX4_door_7 : decode cX4_door 7 = .ok (.iload_n 1, 1) := by decide +kernel
theorem dX4_door_8 : decode cX4_door 8 = .ok (.imul, 1) := by decide +kernel
theorem dX4_door_9 : decode cX4_door 9 = .ok (.iadd, 1) := by decide +kernel
theorem dX4_door_10 : decode cX4_door 10 = .ok (.iaload, 1) := by decide +kernel
theorem dX4_door_11 : decode cX4_door 11 = .ok (.ireturn, 1) := by decide +kernel
theorem dX4_held_0 : decode cX4_held 0 = .ok (.aload_n 0, 1) := by decide +kernel
theorem dX4_held_1 : decode cX4_held 1 = .ok (.getfield 13, 3) := by decide +kernel
theorem dX4_held_4 : decode cX4_held 4 = .ok (.bipush 40, 2) := by decide +kernel
theorem dX4_held_6 : decode cX4_held 6 = .ok (.iconst 2, 1) := by decide +kernel
theorem dX4_held_7 : decode cX4_held 7 = .ok (.iload_n 1, 1) := by decide +kernel
theorem dX4_held_8 : decode cX4_held 8 = .ok (.imul, 1) := by decide +kernel
theorem dX4_held_9 : decode cX4_held 9 = .ok (.iadd, 1) := by decide +kernel
theorem dX4_held_10 : decode cX4_held 10 = .ok (.iconst 1, 1) := by decide +kernel
theorem dX4_held_11 : decode cX4_held 11 = .ok (.iadd, 1) := by decide +kernel
theorem dX4_held_12 : decode cX4_held 12 = .ok (.iaload, 1) := by decide +kernel
theorem dX4_held_13 : decode cX4_held 13 = .ok (.ireturn, 1) := by decide +kernel
theorem dX4_everybody_0 : decode cX4_everybody 0 = .ok (.iconst 1, 1) := by decide +kernel
theorem dX4_everybody_1 : decode cX4_everybody 1 = .ok (.aload_n 0, 1) := by decide +kernel
theorem dX4_everybody_2 : decode cX4_everybody 2 = .ok (.getfield 13, 3) := by decide +kernel
theorem dX4_everybody_5 : decode cX4_everybody 5 = .ok (.iconst 0, 1) := by decide +kernel
theorem dX4_everybody_6 : decode cX4_everybody 6 = .ok (.iaload, 1) := by decide +kernel
theorem dX4_everybody_7 : decode cX4_everybody 7 = .ok (.ishl, 1) := by decide +kernel
theorem dX4_everybody_8 : decode cX4_everybody 8 = .ok (.iconst 1, 1) := by decide +kernel
theorem dX4_everybody_9 : decode cX4_everybody 9 = .ok (.isub, 1) := by decide +kernel
theorem dX4_everybody_10 : decode cX4_everybody 10 = .ok (.ireturn, 1) := by decide +kernel
theorem dX4_letter_0 : decode cX4_letter 0 = .ok (.iload_n 1, 1) := by decide +kernel
theorem dX4_letter_1 : decode cX4_letter 1 = .ok (.iconst 0, 1) := by decide +kernel
theorem dX4_letter_2 : decode cX4_letter 2 = .ok (.sipush 255, 3) := by decide +kernel
theorem dX4_letter_5 : decode cX4_letter 5 = .ok (.invokestatic 44, 3) := by decide +kernel
theorem dX4_letter_8 : decode cX4_letter 8 = .ok (.istore_n 2, 1) := by decide +kernel
theorem dX4_letter_9 : decode cX4_letter 9 = .ok (.iload_n 2, 1) := by decide +kernel
theorem dX4_letter_10 : decode cX4_letter 10 = .ok (.ifCond .ne 15, 3) := by decide +kernel
theorem dX4_letter_13 : decode cX4_letter 13 = .ok (.aload_n 0, 1) := by decide +kernel
theorem dX4_letter_14 : decode cX4_letter 14 = .ok (.getfield 48, 3) := by decide +kernel
theorem dX4_letter_17 : decode cX4_letter 17 = .ok (.bipush 80, 2) := by decide +kernel
theorem dX4_letter_19 : decode cX4_letter 19 = .ok (.if_icmp .ne 6, 3) := by decide +kernel
theorem dX4_letter_22 : decode cX4_letter 22 = .ok (.bipush (-6), 2) := by decide +kernel
theorem dX4_letter_24 : decode cX4_letter 24 = .ok (.istore_n 2, 1) := by decide +kernel
theorem dX4_letter_25 : decode cX4_letter 25 = .ok (.iload_n 2, 1) := by decide +kernel
theorem dX4_letter_26 : decode cX4_letter 26 = .ok (.ifCond .eq 9, 3) := by decide +kernel
theorem dX4_letter_29 : decode cX4_letter 29 = .ok (.aload_n 0, 1) := by decide +kernel
theorem dX4_letter_30 : decode cX4_letter 30 = .ok (.iload_n 2, 1) := by decide +kernel
theorem dX4_letter_31 : decode cX4_letter 31 = .ok (.invokevirtual 52, 3) := by decide +kernel
theorem dX4_letter_34 : decode cX4_letter 34 = .ok (.ireturn, 1) := by decide +kernel
theorem dX4_letter_35 : decode cX4_letter 35 = .ok (.aload_n 0, 1) := by decide +kernel
theorem dX4_letter_36 : decode cX4_letter 36 = .ok (.getfield 22, 3) := by decide +kernel
theorem dX4_letter_39 : decode cX4_letter 39 = .ok (.aload_n 0, 1) := by decide +kernel
theorem dX4_letter_40 : decode cX4_letter 40 = .ok (.getfield 48, 3) := by decide +kernel
theorem dX4_letter_43 : decode cX4_letter 43 = .ok (.iload_n 1, 1) := by decide +kernel
theorem dX4_letter_44 : decode cX4_letter 44 = .ok (.iastore, 1) := by decide +kernel
theorem dX4_letter_45 : decode cX4_letter 45 = .ok (.aload_n 0, 1) := by decide +kernel
theorem dX4_letter_46 : decode cX4_letter 46 = .ok (.dup, 1) := by decide +kernel
theorem dX4_letter_47 : decode cX4_letter 47 = .ok (.getfield 48, 3) := by decide +kernel
theorem dX4_letter_50 : decode cX4_letter 50 = .ok (.iconst 1, 1) := by decide +kernel
theorem dX4_letter_51 : decode cX4_letter 51 = .ok (.iadd, 1) := by decide +kernel
theorem dX4_letter_52 : decode cX4_letter 52 = .ok (.putfield 48, 3) := by decide +kernel
theorem dX4_letter_55 : decode cX4_letter 55 = .ok (.aload_n 0, 1) := by decide +kernel
theorem dX4_letter_56 : decode cX4_letter 56 = .ok (.getfield 48, 3) := by decide +kernel
theorem dX4_letter_59 : decode cX4_letter 59 = .ok (.ireturn, 1) := by decide +kernel
theorem dX4_sign_0 : decode cX4_sign 0 = .ok (.aload_n 0, 1) := by decide +kernel
theorem dX4_sign_1 : decode cX4_sign 1 = .ok (.getfield 56, 3) := by decide +kernel
theorem dX4_sign_4 : decode cX4_sign 4 = .ok (.aload_n 0, 1) := by decide +kernel
theorem dX4_sign_5 : decode cX4_sign 5 = .ok (.getfield 48, 3) := by decide +kernel
theorem dX4_sign_8 : decode cX4_sign 8 = .ok (.if_icmp .ge 15, 3) := by decide +kernel
theorem dX4_sign_11 : decode cX4_sign 11 = .ok (.aload_n 0, 1) := by decide +kernel
theorem dX4_sign_12 : decode cX4_sign 12 = .ok (.getfield 22, 3) := by decide +kernel
theorem dX4_sign_15 : decode cX4_sign 15 = .ok (.aload_n 0, 1) := by decide +kernel
theorem dX4_sign_16 : decode cX4_sign 16 = .ok (.getfield 56, 3) := by decide +kernel
theorem dX4_sign_19 : decode cX4_sign 19 = .ok (.iaload, 1) := by decide +kernel
theorem dX4_sign_20 : decode cX4_sign 20 = .ok (.goto 4, 3) := by decide +kernel
theorem dX4_sign_23 : decode cX4_sign 23 = .ok (.iconst (-1), 1) := by decide +kernel
theorem dX4_sign_24 : decode cX4_sign 24 = .ok (.ireturn, 1) := by decide +kernel
theorem dX4_takes_0 : decode cX4_takes 0 = .ok (.aload_n 0, 1) := by decide +kernel
theorem dX4_takes_1 : decode cX4_takes 1 = .ok (.invokevirtual 59, 3) := by decide +kernel
theorem dX4_takes_4 : decode cX4_takes 4 = .ok (.iload_n 1, 1) := by decide +kernel
theorem dX4_takes_5 : decode cX4_takes 5 = .ok (.if_icmp .eq 5, 3) := by decide +kernel
theorem dX4_takes_8 : decode cX4_takes 8 = .ok (.iconst 0, 1) := by decide +kernel
theorem dX4_takes_9 : decode cX4_takes 9 = .ok (.ireturn, 1) := by decide +kernel
theorem dX4_takes_10 : decode cX4_takes 10 = .ok (.aload_n 0, 1) := by decide +kernel
theorem dX4_takes_11 : decode cX4_takes 11 = .ok (.dup, 1) := by decide +kernel
theorem dX4_takes_12 : decode cX4_takes 12 = .ok (.getfield 56, 3) := by decide +kernel
theorem dX4_takes_15 : decode cX4_takes 15 = .ok (.iconst 1, 1) := by decide +kernel
theorem dX4_takes_16 : decode cX4_takes 16 = .ok (.iadd, 1) := by decide +kernel
theorem dX4_takes_17 : decode cX4_takes 17 = .ok (.putfield 56, 3) := by decide +kernel
theorem dX4_takes_20 : decode cX4_takes 20 = .ok (.iconst 1, 1) := by decide +kernel
theorem dX4_takes_21 : decode cX4_takes 21 = .ok (.ireturn, 1) := by decide +kernel
theorem dX4_readsNumber_0 : decode cX4_readsNumber 0 = .ok (.aload_n 0, 1) := by decide +kernel
theorem dX4_readsNumber_1 : decode cX4_readsNumber 1 = .ok (.getfield 25, 3) := by decide +kernel
theorem dX4_readsNumber_4 : decode cX4_readsNumber 4 = .ok (.iload_n 1, 1) := by decide +kernel
theorem dX4_readsNumber_5 : decode cX4_readsNumber 5 = .ok (.iconst 0, 1) := by decide +kernel
theorem dX4_readsNumber_6 : decode cX4_readsNumber 6 = .ok (.iastore, 1) := by decide +kernel
theorem dX4_readsNumber_7 : decode cX4_readsNumber 7 = .ok (.iconst 0, 1) := by decide +kernel
theorem dX4_readsNumber_8 : decode cX4_readsNumber 8 = .ok (.istore_n 3, 1) := by decide +kernel
theorem dX4_readsNumber_9 : decode cX4_readsNumber 9 = .ok (.iload_n 3, 1) := by decide +kernel
theorem dX4_readsNumber_10 : decode cX4_readsNumber 10 = .ok (.iload_n 2, 1) := by decide +kernel
theorem dX4_readsNumber_11 : decode cX4_readsNumber 11 = .ok (.if_icmp .ge 57, 3) := by decide +kernel
theorem dX4_readsNumber_14 : decode cX4_readsNumber 14 = .ok (.aload_n 0, 1) := by decide +kernel
theorem dX4_readsNumber_15 : decode cX4_readsNumber 15 = .ok (.invokevirtual 59, 3) := by decide +kernel
theorem dX4_readsNumber_18 : decode cX4_readsNumber 18 = .ok (.bipush 48, 2) := by decide +kernel
theorem dX4_readsNumber_20 : decode cX4_readsNumber 20 = .ok (.isub, 1) := by decide +kernel
theorem dX4_readsNumber_21 : decode cX4_readsNumber 21 = .ok (.bipush 10, 2) := by decide +kernel
theorem dX4_readsNumber_23 : decode cX4_readsNumber 23 = .ok (.invokestatic 40, 3) := by decide +kernel
theorem dX4_readsNumber_26 : decode cX4_readsNumber 26 = .ok (.ifCond .eq 42, 3) := by decide +kernel
theorem dX4_readsNumber_29 : decode cX4_readsNumber 29 = .ok (.aload_n 0, 1) := by decide +kernel
theorem dX4_readsNumber_30 : decode cX4_readsNumber 30 = .ok (.getfield 25, 3) := by decide +kernel
theorem dX4_readsNumber_33 : decode cX4_readsNumber 33 = .ok (.iload_n 1, 1) := by decide +kernel
theorem dX4_readsNumber_34 : decode cX4_readsNumber 34 = .ok (.bipush 10, 2) := by decide +kernel
theorem dX4_readsNumber_36 : decode cX4_readsNumber 36 = .ok (.aload_n 0, 1) := by decide +kernel
theorem dX4_readsNumber_37 : decode cX4_readsNumber 37 = .ok (.getfield 25, 3) := by decide +kernel
theorem dX4_readsNumber_40 : decode cX4_readsNumber 40 = .ok (.iload_n 1, 1) := by decide +kernel
theorem dX4_readsNumber_41 : decode cX4_readsNumber 41 = .ok (.iaload, 1) := by decide +kernel
theorem dX4_readsNumber_42 : decode cX4_readsNumber 42 = .ok (.imul, 1) := by decide +kernel
theorem dX4_readsNumber_43 : decode cX4_readsNumber 43 = .ok (.aload_n 0, 1) := by decide +kernel
theorem dX4_readsNumber_44 : decode cX4_readsNumber 44 = .ok (.invokevirtual 59, 3) := by decide +kernel
theorem dX4_readsNumber_47 : decode cX4_readsNumber 47 = .ok (.iadd, 1) := by decide +kernel
theorem dX4_readsNumber_48 : decode cX4_readsNumber 48 = .ok (.bipush 48, 2) := by decide +kernel
theorem dX4_readsNumber_50 : decode cX4_readsNumber 50 = .ok (.isub, 1) := by decide +kernel
theorem dX4_readsNumber_51 : decode cX4_readsNumber 51 = .ok (.iastore, 1) := by decide +kernel
theorem dX4_readsNumber_52 : decode cX4_readsNumber 52 = .ok (.aload_n 0, 1) := by decide +kernel
theorem dX4_readsNumber_53 : decode cX4_readsNumber 53 = .ok (.dup, 1) := by decide +kernel
theorem dX4_readsNumber_54 : decode cX4_readsNumber 54 = .ok (.getfield 56, 3) := by decide +kernel
theorem dX4_readsNumber_57 : decode cX4_readsNumber 57 = .ok (.iconst 1, 1) := by decide +kernel
theorem dX4_readsNumber_58 : decode cX4_readsNumber 58 = .ok (.iadd, 1) := by decide +kernel
theorem dX4_readsNumber_59 : decode cX4_readsNumber 59 = .ok (.putfield 56, 3) := by decide +kernel
theorem dX4_readsNumber_62 : decode cX4_readsNumber 62 = .ok (.iinc 3 1, 3) := by decide +kernel
theorem dX4_readsNumber_65 : decode cX4_readsNumber 65 = .ok (.goto (-56), 3) := by decide +kernel
theorem dX4_readsNumber_68 : decode cX4_readsNumber 68 = .ok (.iload_n 3, 1) := by decide +kernel
theorem dX4_readsNumber_69 : decode cX4_readsNumber 69 = .ok (.ifCond .le 7, 3) := by decide +kernel
theorem dX4_readsNumber_72 : decode cX4_readsNumber 72 = .ok (.iconst 1, 1) := by decide +kernel
theorem dX4_readsNumber_73 : decode cX4_readsNumber 73 = .ok (.goto 4, 3) := by decide +kernel
theorem dX4_readsNumber_76 : decode cX4_readsNumber 76 = .ok (.iconst 0, 1) := by decide +kernel
theorem dX4_readsNumber_77 : decode cX4_readsNumber 77 = .ok (.ireturn, 1) := by decide +kernel
theorem dX4_kindOf_0 : decode cX4_kindOf 0 = .ok (.iload_n 0, 1) := by decide +kernel
theorem dX4_kindOf_1 : decode cX4_kindOf 1 = .ok (.tableswitch 103 98 116 #[99, 103, 103, 103, 103, 103, 101, 103, 103, 103, 103, 103, 103, 103, 91, 93, 103, 95, 97], 91) := by decide +kernel
theorem dX4_kindOf_92 : decode cX4_kindOf 92 = .ok (.iconst 0, 1) := by decide +kernel
theorem dX4_kindOf_93 : decode cX4_kindOf 93 = .ok (.ireturn, 1) := by decide +kernel
theorem dX4_kindOf_94 : decode cX4_kindOf 94 = .ok (.iconst 1, 1) := by decide +kernel
theorem dX4_kindOf_95 : decode cX4_kindOf 95 = .ok (.ireturn, 1) := by decide +kernel
theorem dX4_kindOf_96 : decode cX4_kindOf 96 = .ok (.iconst 2, 1) := by decide +kernel
theorem dX4_kindOf_97 : decode cX4_kindOf 97 = .ok (.ireturn, 1) := by decide +kernel
theorem dX4_kindOf_98 : decode cX4_kindOf 98 = .ok (.iconst 3, 1) := by decide +kernel
theorem dX4_kindOf_99 : decode cX4_kindOf 99 = .ok (.ireturn, 1) := by decide +kernel
theorem dX4_kindOf_100 : decode cX4_kindOf 100 = .ok (.iconst 4, 1) := by decide +kernel
theorem dX4_kindOf_101 : decode cX4_kindOf 101 = .ok (.ireturn, 1) := by decide +kernel
theorem dX4_kindOf_102 : decode cX4_kindOf 102 = .ok (.iconst 5, 1) := by decide +kernel
theorem dX4_kindOf_103 : decode cX4_kindOf 103 = .ok (.ireturn, 1) := by decide +kernel
theorem dX4_kindOf_104 : decode cX4_kindOf 104 = .ok (.bipush (-9), 2) := by decide +kernel
theorem dX4_kindOf_106 : decode cX4_kindOf 106 = .ok (.ireturn, 1) := by decide +kernel
theorem dX4_readsKind_0 : decode cX4_readsKind 0 = .ok (.aload_n 0, 1) := by decide +kernel
theorem dX4_readsKind_1 : decode cX4_readsKind 1 = .ok (.getfield 25, 3) := by decide +kernel
theorem dX4_readsKind_4 : decode cX4_readsKind 4 = .ok (.iconst 0, 1) := by decide +kernel
theorem dX4_readsKind_5 : decode cX4_readsKind 5 = .ok (.aload_n 0, 1) := by decide +kernel
theorem dX4_readsKind_6 : decode cX4_readsKind 6 = .ok (.invokevirtual 59, 3) := by decide +kernel
theorem dX4_readsKind_9 : decode cX4_readsKind 9 = .ok (.invokestatic 63, 3) := by decide +kernel
theorem dX4_readsKind_12 : decode cX4_readsKind 12 = .ok (.iastore, 1) := by decide +kernel
theorem dX4_readsKind_13 : decode cX4_readsKind 13 = .ok (.aload_n 0, 1) := by decide +kernel
theorem dX4_readsKind_14 : decode cX4_readsKind 14 = .ok (.getfield 25, 3) := by decide +kernel
theorem dX4_readsKind_17 : decode cX4_readsKind 17 = .ok (.iconst 0, 1) := by decide +kernel
theorem dX4_readsKind_18 : decode cX4_readsKind 18 = .ok (.iaload, 1) := by decide +kernel
theorem dX4_readsKind_19 : decode cX4_readsKind 19 = .ok (.ifCond .ge 5, 3) := by decide +kernel
theorem dX4_readsKind_22 : decode cX4_readsKind 22 = .ok (.iconst 0, 1) := by decide +kernel
theorem dX4_readsKind_23 : decode cX4_readsKind 23 = .ok (.ireturn, 1) := by decide +kernel
theorem dX4_readsKind_24 : decode cX4_readsKind 24 = .ok (.aload_n 0, 1) := by decide +kernel
theorem dX4_readsKind_25 : decode cX4_readsKind 25 = .ok (.dup, 1) := by decide +kernel
theorem dX4_readsKind_26 : decode cX4_readsKind 26 = .ok (.getfield 56, 3) := by decide +kernel
theorem dX4_readsKind_29 : decode cX4_readsKind 29 = .ok (.iconst 1, 1) := by decide +kernel
theorem dX4_readsKind_30 : decode cX4_readsKind 30 = .ok (.iadd, 1) := by decide +kernel
theorem dX4_readsKind_31 : decode cX4_readsKind 31 = .ok (.putfield 56, 3) := by decide +kernel
theorem dX4_readsKind_34 : decode cX4_readsKind 34 = .ok (.iconst 1, 1) := by decide +kernel
theorem dX4_readsKind_35 : decode cX4_readsKind 35 = .ok (.ireturn, 1) := by decide +kernel
theorem dX4_readsStatement_0 : decode cX4_readsStatement 0 = .ok (.aload_n 0, 1) := by decide +kernel
theorem dX4_readsStatement_1 : decode cX4_readsStatement 1 = .ok (.invokevirtual 59, 3) := by decide +kernel
theorem dX4_readsStatement_4 : decode cX4_readsStatement 4 = .ok (.istore_n 1, 1) := by decide +kernel
theorem dX4_readsStatement_5 : decode cX4_readsStatement 5 = .ok (.iconst 0, 1) := by decide +kernel
theorem dX4_readsStatement_6 : decode cX4_readsStatement 6 = .ok (.istore_n 2, 1) := by decide +kernel
theorem dX4_readsStatement_7 : decode cX4_readsStatement 7 = .ok (.aload_n 0, 1) := by decide +kernel
theorem dX4_readsStatement_8 : decode cX4_readsStatement 8 = .ok (.dup, 1) := by decide +kernel
theorem dX4_readsStatement_9 : decode cX4_readsStatement 9 = .ok (.getfield 56, 3) := by decide +kernel
theorem dX4_readsStatement_12 : decode cX4_readsStatement 12 = .ok (.iconst 1, 1) := by decide +kernel
theorem dX4_readsStatement_13 : decode cX4_readsStatement 13 = .ok (.iadd, 1) := by decide +kernel
theorem dX4_readsStatement_14 : decode cX4_readsStatement 14 = .ok (.putfield 56, 3) := by decide +kernel
theorem dX4_readsStatement_17 : decode cX4_readsStatement 17 = .ok (.iload_n 1, 1) := by decide +kernel
theorem dX4_readsStatement_18 : decode cX4_readsStatement 18 = .ok (.tableswitch 187 107 119 #[145, 187, 187, 187, 182, 66, 187, 182, 172, 187, 187, 187, 172], 66) := by decide +kernel
theorem dX4_readsStatement_84 : decode cX4_readsStatement 84 = .ok (.aload_n 0, 1) := by decide +kernel
theorem dX4_readsStatement_85 : decode cX4_readsStatement 85 = .ok (.invokevirtual 66, 3) := by decide +kernel
theorem dX4_readsStatement_88 : decode cX4_readsStatement 88 = .ok (.ifCond .eq 70, 3) := by decide +kernel
theorem dX4_readsStatement_91 : decode cX4_readsStatement 91 = .ok (.aload_n 0, 1) := by decide +kernel
theorem dX4_readsStatement_92 : decode cX4_readsStatement 92 = .ok (.iconst 1, 1) := by decide +kernel
theorem dX4_readsStatement_93 : decode cX4_readsStatement 93 = .ok (.iconst 2, 1) := by decide +kernel
theorem dX4_readsStatement_94 : decode cX4_readsStatement 94 = .ok (.invokevirtual 70, 3) := by decide +kernel
theorem dX4_readsStatement_97 : decode cX4_readsStatement 97 = .ok (.ifCond .eq 61, 3) := by decide +kernel
theorem dX4_readsStatement_100 : decode cX4_readsStatement 100 = .ok (.aload_n 0, 1) := by decide +kernel
theorem dX4_readsStatement_101 : decode cX4_readsStatement 101 = .ok (.bipush 44, 2) := by decide +kernel
theorem dX4_readsStatement_103 : decode cX4_readsStatement 103 = .ok (.invokevirtual 73, 3) := by decide +kernel
theorem dX4_readsStatement_106 : decode cX4_readsStatement 106 = .ok (.ifCond .eq 52, 3) := by decide +kernel
theorem dX4_readsStatement_109 : decode cX4_readsStatement 109 = .ok (.aload_n 0, 1) := by decide +kernel
theorem dX4_readsStatement_110 : decode cX4_readsStatement 110 = .ok (.iconst 2, 1) := by decide +kernel
theorem dX4_readsStatement_111 : decode cX4_readsStatement 111 = .ok (.iconst 1, 1) := by decide +kernel
theorem dX4_readsStatement_112 : decode cX4_readsStatement 112 = .ok (.invokevirtual 70, 3) := by decide +kernel
theorem dX4_readsStatement_115 : decode cX4_readsStatement 115 = .ok (.ifCond .eq 43, 3) := by decide +kernel
theorem dX4_readsStatement_118 : decode cX4_readsStatement 118 = .ok (.aload_n 0, 1) := by decide +kernel
theorem dX4_readsStatement_119 : decode cX4_readsStatement 119 = .ok (.bipush 44, 2) := by decide +kernel
theorem dX4_readsStatement_121 : decode cX4_readsStatement 121 = .ok (.invokevirtual 73, 3) := by decide +kernel
theorem dX4_readsStatement_124 : decode cX4_readsStatement 124 = .ok (.ifCond .eq 34, 3) := by decide +kernel
theorem dX4_readsStatement_127 : decode cX4_readsStatement 127 = .ok (.aload_n 0, 1) := by decide +kernel
theorem dX4_readsStatement_128 : decode cX4_readsStatement 128 = .ok (.iconst 3, 1) := by decide +kernel
theorem dX4_readsStatement_129 : decode cX4_readsStatement 129 = .ok (.iconst 3, 1) := by decide +kernel
theorem dX4_readsStatement_130 : decode cX4_readsStatement 130 = .ok (.invokevirtual 70, 3) := by decide +kernel
theorem dX4_readsStatement_133 : decode cX4_readsStatement 133 = .ok (.ifCond .eq 25, 3) := by decide +kernel
theorem dX4_readsStatement_136 : decode cX4_readsStatement 136 = .ok (.aload_n 0, 1) := by decide +kernel
theorem dX4_readsStatement_137 : decode cX4_readsStatement 137 = .ok (.bipush 44, 2) := by decide +kernel
theorem dX4_readsStatement_139 : decode cX4_readsStatement 139 = .ok (.invokevirtual 73, 3) := by decide +kernel
theorem dX4_readsStatement_142 : decode cX4_readsStatement 142 = .ok (.ifCond .eq 16, 3) := by decide +kernel
theorem dX4_readsStatement_145 : decode cX4_readsStatement 145 = .ok (.aload_n 0, 1) := by decide +kernel
theorem dX4_readsStatement_146 : decode cX4_readsStatement 146 = .ok (.iconst 4, 1) := by decide +kernel
theorem dX4_readsStatement_147 : decode cX4_readsStatement 147 = .ok (.iconst 1, 1) := by decide +kernel
theorem dX4_readsStatement_148 : decode cX4_readsStatement 148 = .ok (.invokevirtual 70, 3) := by decide +kernel
theorem dX4_readsStatement_151 : decode cX4_readsStatement 151 = .ok (.ifCond .eq 7, 3) := by decide +kernel
theorem dX4_readsStatement_154 : decode cX4_readsStatement 154 = .ok (.iconst 1, 1) := by decide +kernel
theorem dX4_readsStatement_155 : decode cX4_readsStatement 155 = .ok (.goto 4, 3) := by decide +kernel
theorem dX4_readsStatement_158 : decode cX4_readsStatement 158 = .ok (.iconst 0, 1) := by decide +kernel
theorem dX4_readsStatement_159 : decode cX4_readsStatement 159 = .ok (.istore_n 2, 1) := by decide +kernel
theorem dX4_readsStatement_160 : decode cX4_readsStatement 160 = .ok (.goto 57, 3) := by decide +kernel
theorem dX4_readsStatement_163 : decode cX4_readsStatement 163 = .ok (.aload_n 0, 1) := by decide +kernel
theorem dX4_readsStatement_164 : decode cX4_readsStatement 164 = .ok (.iconst 0, 1) := by decide +kernel
theorem dX4_readsStatement_165 : decode cX4_readsStatement 165 = .ok (.iconst 1, 1) := by decide +kernel
theorem dX4_readsStatement_166 : decode cX4_readsStatement 166 = .ok (.invokevirtual 70, 3) := by decide +kernel
theorem dX4_readsStatement_169 : decode cX4_readsStatement 169 = .ok (.ifCond .eq 16, 3) := by decide +kernel
theorem dX4_readsStatement_172 : decode cX4_readsStatement 172 = .ok (.aload_n 0, 1) := by decide +kernel
theorem dX4_readsStatement_173 : decode cX4_readsStatement 173 = .ok (.iconst 1, 1) := by decide +kernel
theorem dX4_readsStatement_174 : decode cX4_readsStatement 174 = .ok (.iconst 1, 1) := by decide +kernel
theorem dX4_readsStatement_175 : decode cX4_readsStatement 175 = .ok (.invokevirtual 70, 3) := by decide +kernel
theorem dX4_readsStatement_178 : decode cX4_readsStatement 178 = .ok (.ifCond .eq 7, 3) := by decide +kernel
theorem dX4_readsStatement_181 : decode cX4_readsStatement 181 = .ok (.iconst 1, 1) := by decide +kernel
theorem dX4_readsStatement_182 : decode cX4_readsStatement 182 = .ok (.goto 4, 3) := by decide +kernel
theorem dX4_readsStatement_185 : decode cX4_readsStatement 185 = .ok (.iconst 0, 1) := by decide +kernel
theorem dX4_readsStatement_186 : decode cX4_readsStatement 186 = .ok (.istore_n 2, 1) := by decide +kernel
theorem dX4_readsStatement_187 : decode cX4_readsStatement 187 = .ok (.goto 30, 3) := by decide +kernel
theorem dX4_readsStatement_190 : decode cX4_readsStatement 190 = .ok (.aload_n 0, 1) := by decide +kernel
theorem dX4_readsStatement_191 : decode cX4_readsStatement 191 = .ok (.iconst 0, 1) := by decide +kernel
theorem dX4_readsStatement_192 : decode cX4_readsStatement 192 = .ok (.iconst 1, 1) := by decide +kernel
theorem dX4_readsStatement_193 : decode cX4_readsStatement 193 = .ok (.invokevirtual 70, 3) := by decide +kernel
theorem dX4_readsStatement_196 : decode cX4_readsStatement 196 = .ok (.istore_n 2, 1) := by decide +kernel
theorem dX4_readsStatement_197 : decode cX4_readsStatement 197 = .ok (.goto 20, 3) := by decide +kernel
theorem dX4_readsStatement_200 : decode cX4_readsStatement 200 = .ok (.iconst 1, 1) := by decide +kernel
theorem dX4_readsStatement_201 : decode cX4_readsStatement 201 = .ok (.istore_n 2, 1) := by decide +kernel
theorem dX4_readsStatement_202 : decode cX4_readsStatement 202 = .ok (.goto 15, 3) := by decide +kernel
theorem dX4_readsStatement_205 : decode cX4_readsStatement 205 = .ok (.aload_n 0, 1) := by decide +kernel
theorem dX4_readsStatement_206 : decode cX4_readsStatement 206 = .ok (.dup, 1) := by decide +kernel
theorem dX4_readsStatement_207 : decode cX4_readsStatement 207 = .ok (.getfield 56, 3) := by decide +kernel
theorem dX4_readsStatement_210 : decode cX4_readsStatement 210 = .ok (.iconst 1, 1) := by decide +kernel
theorem dX4_readsStatement_211 : decode cX4_readsStatement 211 = .ok (.isub, 1) := by decide +kernel
theorem dX4_readsStatement_212 : decode cX4_readsStatement 212 = .ok (.putfield 56, 3) := by decide +kernel
theorem dX4_readsStatement_215 : decode cX4_readsStatement 215 = .ok (.iconst 0, 1) := by decide +kernel
theorem dX4_readsStatement_216 : decode cX4_readsStatement 216 = .ok (.ireturn, 1) := by decide +kernel
theorem dX4_readsStatement_217 : decode cX4_readsStatement 217 = .ok (.iload_n 2, 1) := by decide +kernel
theorem dX4_readsStatement_218 : decode cX4_readsStatement 218 = .ok (.ifCond .eq 16, 3) := by decide +kernel
theorem dX4_readsStatement_221 : decode cX4_readsStatement 221 = .ok (.aload_n 0, 1) := by decide +kernel
theorem dX4_readsStatement_222 : decode cX4_readsStatement 222 = .ok (.bipush 59, 2) := by decide +kernel
theorem dX4_readsStatement_224 : decode cX4_readsStatement 224 = .ok (.invokevirtual 73, 3) := by decide +kernel
theorem dX4_readsStatement_227 : decode cX4_readsStatement 227 = .ok (.ifCond .eq 7, 3) := by decide +kernel
theorem dX4_readsStatement_230 : decode cX4_readsStatement 230 = .ok (.iconst 1, 1) := by decide +kernel
theorem dX4_readsStatement_231 : decode cX4_readsStatement 231 = .ok (.goto 4, 3) := by decide +kernel
theorem dX4_readsStatement_234 : decode cX4_readsStatement 234 = .ok (.iconst 0, 1) := by decide +kernel
theorem dX4_readsStatement_235 : decode cX4_readsStatement 235 = .ok (.ireturn, 1) := by decide +kernel
theorem dX4_comes_0 : decode cX4_comes 0 = .ok (.aload_n 0, 1) := by decide +kernel
theorem dX4_comes_1 : decode cX4_comes 1 = .ok (.getfield 25, 3) := by decide +kernel
theorem dX4_comes_4 : decode cX4_comes 4 = .ok (.iconst 0, 1) := by decide +kernel
theorem dX4_comes_5 : decode cX4_comes 5 = .ok (.iaload, 1) := by decide +kernel
theorem dX4_comes_6 : decode cX4_comes 6 = .ok (.istore_n 2, 1) := by decide +kernel
theorem dX4_comes_7 : decode cX4_comes 7 = .ok (.iload_n 1, 1) := by decide +kernel
theorem dX4_comes_8 : decode cX4_comes 8 = .ok (.lookupswitch 231 #[(107, 105), (112, 44), (115, 222), (119, 196)], 44) := by decide +kernel
theorem dX4_comes_52 : decode cX4_comes 52 = .ok (.aload_n 0, 1) := by decide +kernel
theorem dX4_comes_53 : decode cX4_comes 53 = .ok (.getfield 19, 3) := by decide +kernel
theorem dX4_comes_56 : decode cX4_comes 56 = .ok (.iconst 0, 1) := by decide +kernel
theorem dX4_comes_57 : decode cX4_comes 57 = .ok (.iaload, 1) := by decide +kernel
theorem dX4_comes_58 : decode cX4_comes 58 = .ok (.bipush 7, 2) := by decide +kernel
theorem dX4_comes_60 : decode cX4_comes 60 = .ok (.if_icmp .ne 5, 3) := by decide +kernel
theorem dX4_comes_63 : decode cX4_comes 63 = .ok (.iconst 0, 1) := by decide +kernel
theorem dX4_comes_64 : decode cX4_comes 64 = .ok (.ireturn, 1) := by decide +kernel
theorem dX4_comes_65 : decode cX4_comes 65 = .ok (.iconst 0, 1) := by decide +kernel
theorem dX4_comes_66 : decode cX4_comes 66 = .ok (.istore_n 3, 1) := by decide +kernel
theorem dX4_comes_67 : decode cX4_comes 67 = .ok (.iload_n 3, 1) := by decide +kernel
theorem dX4_comes_68 : decode cX4_comes 68 = .ok (.iconst 5, 1) := by decide +kernel
theorem dX4_comes_69 : decode cX4_comes 69 = .ok (.if_icmp .ge 32, 3) := by decide +kernel
theorem dX4_comes_72 : decode cX4_comes 72 = .ok (.aload_n 0, 1) := by decide +kernel
theorem dX4_comes_73 : decode cX4_comes 73 = .ok (.getfield 19, 3) := by decide +kernel
theorem dX4_comes_76 : decode cX4_comes 76 = .ok (.iconst 5, 1) := by decide +kernel
theorem dX4_comes_77 : decode cX4_comes 77 = .ok (.iconst 5, 1) := by decide +kernel
theorem dX4_comes_78 : decode cX4_comes 78 = .ok (.aload_n 0, 1) := by decide +kernel
theorem dX4_comes_79 : decode cX4_comes 79 = .ok (.getfield 19, 3) := by decide +kernel
theorem dX4_comes_82 : decode cX4_comes 82 = .ok (.iconst 0, 1) := by decide +kernel
theorem dX4_comes_83 : decode cX4_comes 83 = .ok (.iaload, 1) := by decide +kernel
theorem dX4_comes_84 : decode cX4_comes 84 = .ok (.imul, 1) := by decide +kernel
theorem dX4_comes_85 : decode cX4_comes 85 = .ok (.iadd, 1) := by decide +kernel
theorem dX4_comes_86 : decode cX4_comes 86 = .ok (.iload_n 3, 1) := by decide +kernel
theorem dX4_comes_87 : decode cX4_comes 87 = .ok (.iadd, 1) := by decide +kernel
theorem dX4_comes_88 : decode cX4_comes 88 = .ok (.aload_n 0, 1) := by decide +kernel
theorem dX4_comes_89 : decode cX4_comes 89 = .ok (.getfield 25, 3) := by decide +kernel
theorem dX4_comes_92 : decode cX4_comes 92 = .ok (.iload_n 3, 1) := by decide +kernel
theorem dX4_comes_93 : decode cX4_comes 93 = .ok (.iaload, 1) := by decide +kernel
theorem dX4_comes_94 : decode cX4_comes 94 = .ok (.iastore, 1) := by decide +kernel
theorem dX4_comes_95 : decode cX4_comes 95 = .ok (.iinc 3 1, 3) := by decide +kernel
theorem dX4_comes_98 : decode cX4_comes 98 = .ok (.goto (-31), 3) := by decide +kernel
theorem dX4_comes_101 : decode cX4_comes 101 = .ok (.aload_n 0, 1) := by decide +kernel
theorem dX4_comes_102 : decode cX4_comes 102 = .ok (.getfield 19, 3) := by decide +kernel
theorem dX4_comes_105 : decode cX4_comes 105 = .ok (.iconst 0, 1) := by decide +kernel
theorem dX4_comes_106 : decode cX4_comes 106 = .ok (.dup2, 1) := by decide +kernel
theorem dX4_comes_107 : decode cX4_comes 107 = .ok (.iaload, 1) := by decide +kernel
theorem dX4_comes_108 : decode cX4_comes 108 = .ok (.iconst 1, 1) := by decide +kernel
theorem dX4_comes_109 : decode cX4_comes 109 = .ok (.iadd, 1) := by decide +kernel
theorem dX4_comes_110 : decode cX4_comes 110 = .ok (.iastore, 1) := by decide +kernel
theorem dX4_comes_111 : decode cX4_comes 111 = .ok (.iconst 1, 1) := by decide +kernel
theorem dX4_comes_112 : decode cX4_comes 112 = .ok (.ireturn, 1) := by decide +kernel
theorem dX4_comes_113 : decode cX4_comes 113 = .ok (.iload_n 2, 1) := by decide +kernel
theorem dX4_comes_114 : decode cX4_comes 114 = .ok (.aload_n 0, 1) := by decide +kernel
theorem dX4_comes_115 : decode cX4_comes 115 = .ok (.getfield 19, 3) := by decide +kernel
theorem dX4_comes_118 : decode cX4_comes 118 = .ok (.iconst 0, 1) := by decide +kernel
theorem dX4_comes_119 : decode cX4_comes 119 = .ok (.iaload, 1) := by decide +kernel
theorem dX4_comes_120 : decode cX4_comes 120 = .ok (.if_icmp .ge 29, 3) := by decide +kernel
theorem dX4_comes_123 : decode cX4_comes 123 = .ok (.aload_n 0, 1) := by decide +kernel
theorem dX4_comes_124 : decode cX4_comes 124 = .ok (.getfield 25, 3) := by decide +kernel
theorem dX4_comes_127 : decode cX4_comes 127 = .ok (.iconst 1, 1) := by decide +kernel
theorem dX4_comes_128 : decode cX4_comes 128 = .ok (.iaload, 1) := by decide +kernel
theorem dX4_comes_129 : decode cX4_comes 129 = .ok (.aload_n 0, 1) := by decide +kernel
theorem dX4_comes_130 : decode cX4_comes 130 = .ok (.getfield 19, 3) := by decide +kernel
theorem dX4_comes_133 : decode cX4_comes 133 = .ok (.iconst 0, 1) := by decide +kernel
theorem dX4_comes_134 : decode cX4_comes 134 = .ok (.iaload, 1) := by decide +kernel
theorem dX4_comes_135 : decode cX4_comes 135 = .ok (.if_icmp .ge 14, 3) := by decide +kernel
theorem dX4_comes_138 : decode cX4_comes 138 = .ok (.aload_n 0, 1) := by decide +kernel
theorem dX4_comes_139 : decode cX4_comes 139 = .ok (.getfield 19, 3) := by decide +kernel
theorem dX4_comes_142 : decode cX4_comes 142 = .ok (.iconst 1, 1) := by decide +kernel
theorem dX4_comes_143 : decode cX4_comes 143 = .ok (.iaload, 1) := by decide +kernel
theorem dX4_comes_144 : decode cX4_comes 144 = .ok (.bipush 10, 2) := by decide +kernel
theorem dX4_comes_146 : decode cX4_comes 146 = .ok (.if_icmp .ne 5, 3) := by decide +kernel
theorem dX4_comes_149 : decode cX4_comes 149 = .ok (.iconst 0, 1) := by decide +kernel
theorem dX4_comes_150 : decode cX4_comes 150 = .ok (.ireturn, 1) := by decide +kernel
theorem dX4_comes_151 : decode cX4_comes 151 = .ok (.aload_n 0, 1) := by decide +kernel
theorem dX4_comes_152 : decode cX4_comes 152 = .ok (.getfield 19, 3) := by decide +kernel
theorem dX4_comes_155 : decode cX4_comes 155 = .ok (.bipush 40, 2) := by decide +kernel
theorem dX4_comes_157 : decode cX4_comes 157 = .ok (.iconst 2, 1) := by decide +kernel
theorem dX4_comes_158 : decode cX4_comes 158 = .ok (.aload_n 0, 1) := by decide +kernel
theorem dX4_comes_159 : decode cX4_comes 159 = .ok (.getfield 19, 3) := by decide +kernel
theorem dX4_comes_162 : decode cX4_comes 162 = .ok (.iconst 1, 1) := by decide +kernel
theorem dX4_comes_163 : decode cX4_comes 163 = .ok (.iaload, 1) := by decide +kernel
theorem dX4_comes_164 : decode cX4_comes 164 = .ok (.imul, 1) := by decide +kernel
theorem dX4_comes_165 : decode cX4_comes 165 = .ok (.iadd, 1) := by decide +kernel
theorem dX4_comes_166 : decode cX4_comes 166 = .ok (.iload_n 2, 1) := by decide +kernel
theorem dX4_comes_167 : decode cX4_comes 167 = .ok (.iastore, 1) := by decide +kernel
theorem dX4_comes_168 : decode cX4_comes 168 = .ok (.aload_n 0, 1) := by decide +kernel
theorem dX4_comes_169 : decode cX4_comes 169 = .ok (.getfield 19, 3) := by decide +kernel
theorem dX4_comes_172 : decode cX4_comes 172 = .ok (.bipush 40, 2) := by decide +kernel
theorem dX4_comes_174 : decode cX4_comes 174 = .ok (.iconst 2, 1) := by decide +kernel
theorem dX4_comes_175 : decode cX4_comes 175 = .ok (.aload_n 0, 1) := by decide +kernel
theorem dX4_comes_176 : decode cX4_comes 176 = .ok (.getfield 19, 3) := by decide +kernel
theorem dX4_comes_179 : decode cX4_comes 179 = .ok (.iconst 1, 1) := by decide +kernel
theorem dX4_comes_180 : decode cX4_comes 180 = .ok (.iaload, 1) := by decide +kernel
theorem dX4_comes_181 : decode cX4_comes 181 = .ok (.imul, 1) := by decide +kernel
theorem dX4_comes_182 : decode cX4_comes 182 = .ok (.iadd, 1) := by decide +kernel
theorem dX4_comes_183 : decode cX4_comes 183 = .ok (.iconst 1, 1) := by decide +kernel
theorem dX4_comes_184 : decode cX4_comes 184 = .ok (.iadd, 1) := by decide +kernel
theorem dX4_comes_185 : decode cX4_comes 185 = .ok (.aload_n 0, 1) := by decide +kernel
theorem dX4_comes_186 : decode cX4_comes 186 = .ok (.getfield 25, 3) := by decide +kernel
theorem dX4_comes_189 : decode cX4_comes 189 = .ok (.iconst 1, 1) := by decide +kernel
theorem dX4_comes_190 : decode cX4_comes 190 = .ok (.iaload, 1) := by decide +kernel
theorem dX4_comes_191 : decode cX4_comes 191 = .ok (.iastore, 1) := by decide +kernel
theorem dX4_comes_192 : decode cX4_comes 192 = .ok (.aload_n 0, 1) := by decide +kernel
theorem dX4_comes_193 : decode cX4_comes 193 = .ok (.getfield 19, 3) := by decide +kernel
theorem dX4_comes_196 : decode cX4_comes 196 = .ok (.iconst 1, 1) := by decide +kernel
theorem dX4_comes_197 : decode cX4_comes 197 = .ok (.dup2, 1) := by decide +kernel
theorem dX4_comes_198 : decode cX4_comes 198 = .ok (.iaload, 1) := by decide +kernel
theorem dX4_comes_199 : decode cX4_comes 199 = .ok (.iconst 1, 1) := by decide +kernel
theorem dX4_comes_200 : decode cX4_comes 200 = .ok (.iadd, 1) := by decide +kernel
theorem dX4_comes_201 : decode cX4_comes 201 = .ok (.iastore, 1) := by decide +kernel
theorem dX4_comes_202 : decode cX4_comes 202 = .ok (.iconst 1, 1) := by decide +kernel
theorem dX4_comes_203 : decode cX4_comes 203 = .ok (.ireturn, 1) := by decide +kernel
theorem dX4_comes_204 : decode cX4_comes 204 = .ok (.iload_n 2, 1) := by decide +kernel
theorem dX4_comes_205 : decode cX4_comes 205 = .ok (.aload_n 0, 1) := by decide +kernel
theorem dX4_comes_206 : decode cX4_comes 206 = .ok (.getfield 19, 3) := by decide +kernel
theorem dX4_comes_209 : decode cX4_comes 209 = .ok (.iconst 0, 1) := by decide +kernel
theorem dX4_comes_210 : decode cX4_comes 210 = .ok (.iaload, 1) := by decide +kernel
theorem dX4_comes_211 : decode cX4_comes 211 = .ok (.if_icmp .lt 5, 3) := by decide +kernel
theorem dX4_comes_214 : decode cX4_comes 214 = .ok (.iconst 0, 1) := by decide +kernel
theorem dX4_comes_215 : decode cX4_comes 215 = .ok (.ireturn, 1) := by decide +kernel
theorem dX4_comes_216 : decode cX4_comes 216 = .ok (.aload_n 0, 1) := by decide +kernel
theorem dX4_comes_217 : decode cX4_comes 217 = .ok (.getfield 19, 3) := by decide +kernel
theorem dX4_comes_220 : decode cX4_comes 220 = .ok (.iconst 2, 1) := by decide +kernel
theorem dX4_comes_221 : decode cX4_comes 221 = .ok (.dup2, 1) := by decide +kernel
theorem dX4_comes_222 : decode cX4_comes 222 = .ok (.iaload, 1) := by decide +kernel
theorem dX4_comes_223 : decode cX4_comes 223 = .ok (.iconst 1, 1) := by decide +kernel
theorem dX4_comes_224 : decode cX4_comes 224 = .ok (.iload_n 2, 1) := by decide +kernel
theorem dX4_comes_225 : decode cX4_comes 225 = .ok (.ishl, 1) := by decide +kernel
theorem dX4_comes_226 : decode cX4_comes 226 = .ok (.ixor, 1) := by decide +kernel
theorem dX4_comes_227 : decode cX4_comes 227 = .ok (.iastore, 1) := by decide +kernel
theorem dX4_comes_228 : decode cX4_comes 228 = .ok (.iconst 1, 1) := by decide +kernel
theorem dX4_comes_229 : decode cX4_comes 229 = .ok (.ireturn, 1) := by decide +kernel
theorem dX4_comes_230 : decode cX4_comes 230 = .ok (.aload_n 0, 1) := by decide +kernel
theorem dX4_comes_231 : decode cX4_comes 231 = .ok (.getfield 19, 3) := by decide +kernel
theorem dX4_comes_234 : decode cX4_comes 234 = .ok (.iconst 3, 1) := by decide +kernel
theorem dX4_comes_235 : decode cX4_comes 235 = .ok (.iload_n 2, 1) := by decide +kernel
theorem dX4_comes_236 : decode cX4_comes 236 = .ok (.iastore, 1) := by decide +kernel
theorem dX4_comes_237 : decode cX4_comes 237 = .ok (.iconst 1, 1) := by decide +kernel
theorem dX4_comes_238 : decode cX4_comes 238 = .ok (.ireturn, 1) := by decide +kernel
theorem dX4_comes_239 : decode cX4_comes 239 = .ok (.aload_n 0, 1) := by decide +kernel
theorem dX4_comes_240 : decode cX4_comes 240 = .ok (.getfield 19, 3) := by decide +kernel
theorem dX4_comes_243 : decode cX4_comes 243 = .ok (.iconst 4, 1) := by decide +kernel
theorem dX4_comes_244 : decode cX4_comes 244 = .ok (.iload_n 1, 1) := by decide +kernel
theorem dX4_comes_245 : decode cX4_comes 245 = .ok (.bipush 114, 2) := by decide +kernel
theorem dX4_comes_247 : decode cX4_comes 247 = .ok (.if_icmp .ne 7, 3) := by decide +kernel
theorem dX4_comes_250 : decode cX4_comes 250 = .ok (.iconst 1, 1) := by decide +kernel
theorem dX4_comes_251 : decode cX4_comes 251 = .ok (.goto 4, 3) := by decide +kernel
theorem dX4_comes_254 : decode cX4_comes 254 = .ok (.iconst 0, 1) := by decide +kernel
theorem dX4_comes_255 : decode cX4_comes 255 = .ok (.iastore, 1) := by decide +kernel
theorem dX4_comes_256 : decode cX4_comes 256 = .ok (.iconst 1, 1) := by decide +kernel
theorem dX4_comes_257 : decode cX4_comes 257 = .ok (.ireturn, 1) := by decide +kernel
theorem dX4_reads_0 : decode cX4_reads 0 = .ok (.aload_n 0, 1) := by decide +kernel
theorem dX4_reads_1 : decode cX4_reads 1 = .ok (.iconst 0, 1) := by decide +kernel
theorem dX4_reads_2 : decode cX4_reads 2 = .ok (.putfield 56, 3) := by decide +kernel
theorem dX4_reads_5 : decode cX4_reads 5 = .ok (.iconst 0, 1) := by decide +kernel
theorem dX4_reads_6 : decode cX4_reads 6 = .ok (.istore_n 1, 1) := by decide +kernel
theorem dX4_reads_7 : decode cX4_reads 7 = .ok (.aload_n 0, 1) := by decide +kernel
theorem dX4_reads_8 : decode cX4_reads 8 = .ok (.invokevirtual 77, 3) := by decide +kernel
theorem dX4_reads_11 : decode cX4_reads 11 = .ok (.ifCond .ne 12, 3) := by decide +kernel
theorem dX4_reads_14 : decode cX4_reads 14 = .ok (.sipush (-1000), 3) := by decide +kernel
theorem dX4_reads_17 : decode cX4_reads 17 = .ok (.aload_n 0, 1) := by decide +kernel
theorem dX4_reads_18 : decode cX4_reads 18 = .ok (.getfield 56, 3) := by decide +kernel
theorem dX4_reads_21 : decode cX4_reads 21 = .ok (.isub, 1) := by decide +kernel
theorem dX4_reads_22 : decode cX4_reads 22 = .ok (.ireturn, 1) := by decide +kernel
theorem dX4_reads_23 : decode cX4_reads 23 = .ok (.iinc 1 1, 3) := by decide +kernel
theorem dX4_reads_26 : decode cX4_reads 26 = .ok (.aload_n 0, 1) := by decide +kernel
theorem dX4_reads_27 : decode cX4_reads 27 = .ok (.getfield 56, 3) := by decide +kernel
theorem dX4_reads_30 : decode cX4_reads 30 = .ok (.aload_n 0, 1) := by decide +kernel
theorem dX4_reads_31 : decode cX4_reads 31 = .ok (.getfield 48, 3) := by decide +kernel
theorem dX4_reads_34 : decode cX4_reads 34 = .ok (.if_icmp .lt (-27), 3) := by decide +kernel
theorem dX4_reads_37 : decode cX4_reads 37 = .ok (.aload_n 0, 1) := by decide +kernel
theorem dX4_reads_38 : decode cX4_reads 38 = .ok (.getfield 13, 3) := by decide +kernel
theorem dX4_reads_41 : decode cX4_reads 41 = .ok (.aload_n 0, 1) := by decide +kernel
theorem dX4_reads_42 : decode cX4_reads 42 = .ok (.getfield 19, 3) := by decide +kernel
theorem dX4_reads_45 : decode cX4_reads 45 = .ok (.invokestatic 80, 3) := by decide +kernel
theorem dX4_reads_48 : decode cX4_reads 48 = .ok (.aload_n 0, 1) := by decide +kernel
theorem dX4_reads_49 : decode cX4_reads 49 = .ok (.iconst 0, 1) := by decide +kernel
theorem dX4_reads_50 : decode cX4_reads 50 = .ok (.putfield 56, 3) := by decide +kernel
theorem dX4_reads_53 : decode cX4_reads 53 = .ok (.aload_n 0, 1) := by decide +kernel
theorem dX4_reads_54 : decode cX4_reads 54 = .ok (.getfield 56, 3) := by decide +kernel
theorem dX4_reads_57 : decode cX4_reads 57 = .ok (.aload_n 0, 1) := by decide +kernel
theorem dX4_reads_58 : decode cX4_reads 58 = .ok (.getfield 48, 3) := by decide +kernel
theorem dX4_reads_61 : decode cX4_reads 61 = .ok (.if_icmp .ge 36, 3) := by decide +kernel
theorem dX4_reads_64 : decode cX4_reads 64 = .ok (.aload_n 0, 1) := by decide +kernel
theorem dX4_reads_65 : decode cX4_reads 65 = .ok (.getfield 56, 3) := by decide +kernel
theorem dX4_reads_68 : decode cX4_reads 68 = .ok (.istore_n 2, 1) := by decide +kernel
theorem dX4_reads_69 : decode cX4_reads 69 = .ok (.aload_n 0, 1) := by decide +kernel
theorem dX4_reads_70 : decode cX4_reads 70 = .ok (.invokevirtual 59, 3) := by decide +kernel
theorem dX4_reads_73 : decode cX4_reads 73 = .ok (.istore_n 3, 1) := by decide +kernel
theorem dX4_reads_74 : decode cX4_reads 74 = .ok (.aload_n 0, 1) := by decide +kernel
theorem dX4_reads_75 : decode cX4_reads 75 = .ok (.invokevirtual 77, 3) := by decide +kernel
theorem dX4_reads_78 : decode cX4_reads 78 = .ok (.istore 4, 2) := by decide +kernel
theorem dX4_reads_80 : decode cX4_reads 80 = .ok (.aload_n 0, 1) := by decide +kernel
theorem dX4_reads_81 : decode cX4_reads 81 = .ok (.iload_n 3, 1) := by decide +kernel
theorem dX4_reads_82 : decode cX4_reads 82 = .ok (.invokevirtual 84, 3) := by decide +kernel
theorem dX4_reads_85 : decode cX4_reads 85 = .ok (.ifCond .ne 9, 3) := by decide +kernel
theorem dX4_reads_88 : decode cX4_reads 88 = .ok (.sipush (-2000), 3) := by decide +kernel
theorem dX4_reads_91 : decode cX4_reads 91 = .ok (.iload_n 2, 1) := by decide +kernel
theorem dX4_reads_92 : decode cX4_reads 92 = .ok (.isub, 1) := by decide +kernel
theorem dX4_reads_93 : decode cX4_reads 93 = .ok (.ireturn, 1) := by decide +kernel
theorem dX4_reads_94 : decode cX4_reads 94 = .ok (.goto (-41), 3) := by decide +kernel
theorem dX4_reads_97 : decode cX4_reads 97 = .ok (.aload_n 0, 1) := by decide +kernel
theorem dX4_reads_98 : decode cX4_reads 98 = .ok (.getfield 19, 3) := by decide +kernel
theorem dX4_reads_101 : decode cX4_reads 101 = .ok (.aload_n 0, 1) := by decide +kernel
theorem dX4_reads_102 : decode cX4_reads 102 = .ok (.getfield 13, 3) := by decide +kernel
theorem dX4_reads_105 : decode cX4_reads 105 = .ok (.invokestatic 80, 3) := by decide +kernel
theorem dX4_reads_108 : decode cX4_reads 108 = .ok (.iload_n 1, 1) := by decide +kernel
theorem dX4_reads_109 : decode cX4_reads 109 = .ok (.ireturn, 1) := by decide +kernel
theorem dX4_town_0 : decode cX4_town 0 = .ok (.aload_n 0, 1) := by decide +kernel
theorem dX4_town_1 : decode cX4_town 1 = .ok (.invokevirtual 87, 3) := by decide +kernel
theorem dX4_town_4 : decode cX4_town 4 = .ok (.istore_n 1, 1) := by decide +kernel
theorem dX4_town_5 : decode cX4_town 5 = .ok (.aload_n 0, 1) := by decide +kernel
theorem dX4_town_6 : decode cX4_town 6 = .ok (.iconst 0, 1) := by decide +kernel
theorem dX4_town_7 : decode cX4_town 7 = .ok (.putfield 48, 3) := by decide +kernel
theorem dX4_town_10 : decode cX4_town 10 = .ok (.iload_n 1, 1) := by decide +kernel
theorem dX4_town_11 : decode cX4_town 11 = .ok (.ireturn, 1) := by decide +kernel
theorem dX4_upOf_0 : decode cX4_upOf 0 = .ok (.aload_n 0, 1) := by decide +kernel
theorem dX4_upOf_1 : decode cX4_upOf 1 = .ok (.iload_n 1, 1) := by decide +kernel
theorem dX4_upOf_2 : decode cX4_upOf 2 = .ok (.iconst 0, 1) := by decide +kernel
theorem dX4_upOf_3 : decode cX4_upOf 3 = .ok (.invokevirtual 90, 3) := by decide +kernel
theorem dX4_upOf_6 : decode cX4_upOf 6 = .ok (.iconst 2, 1) := by decide +kernel
theorem dX4_upOf_7 : decode cX4_upOf 7 = .ok (.if_icmp .ne 14, 3) := by decide +kernel
theorem dX4_upOf_10 : decode cX4_upOf 10 = .ok (.iconst 2, 1) := by decide +kernel
theorem dX4_upOf_11 : decode cX4_upOf 11 = .ok (.aload_n 0, 1) := by decide +kernel
theorem dX4_upOf_12 : decode cX4_upOf 12 = .ok (.iload_n 1, 1) := by decide +kernel
theorem dX4_upOf_13 : decode cX4_upOf 13 = .ok (.iconst 1, 1) := by decide +kernel
theorem dX4_upOf_14 : decode cX4_upOf 14 = .ok (.invokevirtual 90, 3) := by decide +kernel
theorem dX4_upOf_17 : decode cX4_upOf 17 = .ok (.imul, 1) := by decide +kernel
theorem dX4_upOf_18 : decode cX4_upOf 18 = .ok (.goto 23, 3) := by decide +kernel
theorem dX4_upOf_21 : decode cX4_upOf 21 = .ok (.aload_n 0, 1) := by decide +kernel
theorem dX4_upOf_22 : decode cX4_upOf 22 = .ok (.iload_n 1, 1) := by decide +kernel
theorem dX4_upOf_23 : decode cX4_upOf 23 = .ok (.iconst 0, 1) := by decide +kernel
theorem dX4_upOf_24 : decode cX4_upOf 24 = .ok (.invokevirtual 90, 3) := by decide +kernel
theorem dX4_upOf_27 : decode cX4_upOf 27 = .ok (.iconst 4, 1) := by decide +kernel
theorem dX4_upOf_28 : decode cX4_upOf 28 = .ok (.if_icmp .ne 7, 3) := by decide +kernel
theorem dX4_upOf_31 : decode cX4_upOf 31 = .ok (.iconst 0, 1) := by decide +kernel
theorem dX4_upOf_32 : decode cX4_upOf 32 = .ok (.goto 9, 3) := by decide +kernel
theorem dX4_upOf_35 : decode cX4_upOf 35 = .ok (.aload_n 0, 1) := by decide +kernel
theorem dX4_upOf_36 : decode cX4_upOf 36 = .ok (.iload_n 1, 1) := by decide +kernel
theorem dX4_upOf_37 : decode cX4_upOf 37 = .ok (.iconst 1, 1) := by decide +kernel
theorem dX4_upOf_38 : decode cX4_upOf 38 = .ok (.invokevirtual 90, 3) := by decide +kernel
theorem dX4_upOf_41 : decode cX4_upOf 41 = .ok (.ireturn, 1) := by decide +kernel
theorem dX4_needsOf_0 : decode cX4_needsOf 0 = .ok (.aload_n 0, 1) := by decide +kernel
theorem dX4_needsOf_1 : decode cX4_needsOf 1 = .ok (.iload_n 1, 1) := by decide +kernel
theorem dX4_needsOf_2 : decode cX4_needsOf 2 = .ok (.iconst 0, 1) := by decide +kernel
theorem dX4_needsOf_3 : decode cX4_needsOf 3 = .ok (.invokevirtual 90, 3) := by decide +kernel
theorem dX4_needsOf_6 : decode cX4_needsOf 6 = .ok (.istore_n 2, 1) := by decide +kernel
theorem dX4_needsOf_7 : decode cX4_needsOf 7 = .ok (.iload_n 2, 1) := by decide +kernel
theorem dX4_needsOf_8 : decode cX4_needsOf 8 = .ok (.iconst 1, 1) := by decide +kernel
theorem dX4_needsOf_9 : decode cX4_needsOf 9 = .ok (.if_icmp .eq 13, 3) := by decide +kernel
theorem dX4_needsOf_12 : decode cX4_needsOf 12 = .ok (.iload_n 2, 1) := by decide +kernel
theorem dX4_needsOf_13 : decode cX4_needsOf 13 = .ok (.iconst 4, 1) := by decide +kernel
theorem dX4_needsOf_14 : decode cX4_needsOf 14 = .ok (.if_icmp .eq 8, 3) := by decide +kernel
theorem dX4_needsOf_17 : decode cX4_needsOf 17 = .ok (.iload_n 2, 1) := by decide +kernel
theorem dX4_needsOf_18 : decode cX4_needsOf 18 = .ok (.iconst 5, 1) := by decide +kernel
theorem dX4_needsOf_19 : decode cX4_needsOf 19 = .ok (.if_icmp .ne 14, 3) := by decide +kernel
theorem dX4_needsOf_22 : decode cX4_needsOf 22 = .ok (.aload_n 0, 1) := by decide +kernel
theorem dX4_needsOf_23 : decode cX4_needsOf 23 = .ok (.iload_n 1, 1) := by decide +kernel
theorem dX4_needsOf_24 : decode cX4_needsOf 24 = .ok (.iconst 2, 1) := by decide +kernel
theorem dX4_needsOf_25 : decode cX4_needsOf 25 = .ok (.invokevirtual 90, 3) := by decide +kernel
theorem dX4_needsOf_28 : decode cX4_needsOf 28 = .ok (.iconst 2, 1) := by decide +kernel
theorem dX4_needsOf_29 : decode cX4_needsOf 29 = .ok (.idiv, 1) := by decide +kernel
theorem dX4_needsOf_30 : decode cX4_needsOf 30 = .ok (.goto 9, 3) := by decide +kernel
theorem dX4_needsOf_33 : decode cX4_needsOf 33 = .ok (.aload_n 0, 1) := by decide +kernel
theorem dX4_needsOf_34 : decode cX4_needsOf 34 = .ok (.iload_n 1, 1) := by decide +kernel
theorem dX4_needsOf_35 : decode cX4_needsOf 35 = .ok (.iconst 2, 1) := by decide +kernel
theorem dX4_needsOf_36 : decode cX4_needsOf 36 = .ok (.invokevirtual 90, 3) := by decide +kernel
theorem dX4_needsOf_39 : decode cX4_needsOf 39 = .ok (.ireturn, 1) := by decide +kernel
theorem dX4_person_0 : decode cX4_person 0 = .ok (.aload_n 0, 1) := by decide +kernel
theorem dX4_person_1 : decode cX4_person 1 = .ok (.iload_n 1, 1) := by decide +kernel
theorem dX4_person_2 : decode cX4_person 2 = .ok (.invokevirtual 94, 3) := by decide +kernel
theorem dX4_person_5 : decode cX4_person 5 = .ok (.ifCond .ne 9, 3) := by decide +kernel
theorem dX4_person_8 : decode cX4_person 8 = .ok (.aload_n 0, 1) := by decide +kernel
theorem dX4_person_9 : decode cX4_person 9 = .ok (.iconst (-1), 1) := by decide +kernel
theorem dX4_person_10 : decode cX4_person 10 = .ok (.invokevirtual 52, 3) := by decide +kernel
theorem dX4_person_13 : decode cX4_person 13 = .ok (.ireturn, 1) := by decide +kernel
theorem dX4_person_14 : decode cX4_person 14 = .ok (.iload_n 2, 1) := by decide +kernel
theorem dX4_person_15 : decode cX4_person 15 = .ok (.tableswitch 75 0 7 #[45, 45, 45, 45, 45, 52, 58, 64], 45) := by decide +kernel
theorem dX4_person_60 : decode cX4_person 60 = .ok (.aload_n 0, 1) := by decide +kernel
theorem dX4_person_61 : decode cX4_person 61 = .ok (.iload_n 1, 1) := by decide +kernel
theorem dX4_person_62 : decode cX4_person 62 = .ok (.iload_n 2, 1) := by decide +kernel
theorem dX4_person_63 : decode cX4_person 63 = .ok (.invokevirtual 90, 3) := by decide +kernel
theorem dX4_person_66 : decode cX4_person 66 = .ok (.ireturn, 1) := by decide +kernel
theorem dX4_person_67 : decode cX4_person 67 = .ok (.aload_n 0, 1) := by decide +kernel
theorem dX4_person_68 : decode cX4_person 68 = .ok (.iload_n 1, 1) := by decide +kernel
theorem dX4_person_69 : decode cX4_person 69 = .ok (.invokevirtual 97, 3) := by decide +kernel
theorem dX4_person_72 : decode cX4_person 72 = .ok (.ireturn, 1) := by decide +kernel
theorem dX4_person_73 : decode cX4_person 73 = .ok (.aload_n 0, 1) := by decide +kernel
theorem dX4_person_74 : decode cX4_person 74 = .ok (.iload_n 1, 1) := by decide +kernel
theorem dX4_person_75 : decode cX4_person 75 = .ok (.invokevirtual 100, 3) := by decide +kernel
theorem dX4_person_78 : decode cX4_person 78 = .ok (.ireturn, 1) := by decide +kernel
theorem dX4_person_79 : decode cX4_person 79 = .ok (.aload_n 0, 1) := by decide +kernel
theorem dX4_person_80 : decode cX4_person 80 = .ok (.getfield 13, 3) := by decide +kernel
theorem dX4_person_83 : decode cX4_person 83 = .ok (.iconst 2, 1) := by decide +kernel
theorem dX4_person_84 : decode cX4_person 84 = .ok (.iaload, 1) := by decide +kernel
theorem dX4_person_85 : decode cX4_person 85 = .ok (.iload_n 1, 1) := by decide +kernel
theorem dX4_person_86 : decode cX4_person 86 = .ok (.ishr, 1) := by decide +kernel
theorem dX4_person_87 : decode cX4_person 87 = .ok (.iconst 1, 1) := by decide +kernel
theorem dX4_person_88 : decode cX4_person 88 = .ok (.iand, 1) := by decide +kernel
theorem dX4_person_89 : decode cX4_person 89 = .ok (.ireturn, 1) := by decide +kernel
theorem dX4_person_90 : decode cX4_person 90 = .ok (.aload_n 0, 1) := by decide +kernel
theorem dX4_person_91 : decode cX4_person 91 = .ok (.bipush (-2), 2) := by decide +kernel
theorem dX4_person_93 : decode cX4_person 93 = .ok (.invokevirtual 52, 3) := by decide +kernel
theorem dX4_person_96 : decode cX4_person 96 = .ok (.ireturn, 1) := by decide +kernel
theorem dX4_key_0 : decode cX4_key 0 = .ok (.aload_n 0, 1) := by decide +kernel
theorem dX4_key_1 : decode cX4_key 1 = .ok (.iload_n 1, 1) := by decide +kernel
theorem dX4_key_2 : decode cX4_key 2 = .ok (.invokevirtual 103, 3) := by decide +kernel
theorem dX4_key_5 : decode cX4_key 5 = .ok (.ifCond .ne 11, 3) := by decide +kernel
theorem dX4_key_8 : decode cX4_key 8 = .ok (.aload_n 0, 1) := by decide +kernel
theorem dX4_key_9 : decode cX4_key 9 = .ok (.iconst (-1), 1) := by decide +kernel
theorem dX4_key_10 : decode cX4_key 10 = .ok (.invokevirtual 52, 3) := by decide +kernel
theorem dX4_key_13 : decode cX4_key 13 = .ok (.goto 33, 3) := by decide +kernel
theorem dX4_key_16 : decode cX4_key 16 = .ok (.iload_n 2, 1) := by decide +kernel
theorem dX4_key_17 : decode cX4_key 17 = .ok (.iconst 2, 1) := by decide +kernel
theorem dX4_key_18 : decode cX4_key 18 = .ok (.invokestatic 40, 3) := by decide +kernel
theorem dX4_key_21 : decode cX4_key 21 = .ok (.ifCond .eq 19, 3) := by decide +kernel
theorem dX4_key_24 : decode cX4_key 24 = .ok (.aload_n 0, 1) := by decide +kernel
theorem dX4_key_25 : decode cX4_key 25 = .ok (.getfield 13, 3) := by decide +kernel
theorem dX4_key_28 : decode cX4_key 28 = .ok (.bipush 40, 2) := by decide +kernel
theorem dX4_key_30 : decode cX4_key 30 = .ok (.iconst 2, 1) := by decide +kernel
theorem dX4_key_31 : decode cX4_key 31 = .ok (.iload_n 1, 1) := by decide +kernel
theorem dX4_key_32 : decode cX4_key 32 = .ok (.imul, 1) := by decide +kernel
theorem dX4_key_33 : decode cX4_key 33 = .ok (.iadd, 1) := by decide +kernel
theorem dX4_key_34 : decode cX4_key 34 = .ok (.iload_n 2, 1) := by decide +kernel
theorem dX4_key_35 : decode cX4_key 35 = .ok (.iadd, 1) := by decide +kernel
theorem dX4_key_36 : decode cX4_key 36 = .ok (.iaload, 1) := by decide +kernel
theorem dX4_key_37 : decode cX4_key 37 = .ok (.goto 9, 3) := by decide +kernel
theorem dX4_key_40 : decode cX4_key 40 = .ok (.aload_n 0, 1) := by decide +kernel
theorem dX4_key_41 : decode cX4_key 41 = .ok (.bipush (-2), 2) := by decide +kernel
theorem dX4_key_43 : decode cX4_key 43 = .ok (.invokevirtual 52, 3) := by decide +kernel
theorem dX4_key_46 : decode cX4_key 46 = .ok (.ireturn, 1) := by decide +kernel
theorem dX4_give_0 : decode cX4_give 0 = .ok (.aload_n 0, 1) := by decide +kernel
theorem dX4_give_1 : decode cX4_give 1 = .ok (.iload_n 1, 1) := by decide +kernel
theorem dX4_give_2 : decode cX4_give 2 = .ok (.invokevirtual 103, 3) := by decide +kernel
theorem dX4_give_5 : decode cX4_give 5 = .ok (.ifCond .eq 11, 3) := by decide +kernel
theorem dX4_give_8 : decode cX4_give 8 = .ok (.aload_n 0, 1) := by decide +kernel
theorem dX4_give_9 : decode cX4_give 9 = .ok (.iload_n 2, 1) := by decide +kernel
theorem dX4_give_10 : decode cX4_give 10 = .ok (.invokevirtual 94, 3) := by decide +kernel
theorem dX4_give_13 : decode cX4_give 13 = .ok (.ifCond .ne 9, 3) := by decide +kernel
theorem dX4_give_16 : decode cX4_give 16 = .ok (.aload_n 0, 1) := by decide +kernel
theorem dX4_give_17 : decode cX4_give 17 = .ok (.iconst (-1), 1) := by decide +kernel
theorem dX4_give_18 : decode cX4_give 18 = .ok (.invokevirtual 52, 3) := by decide +kernel
theorem dX4_give_21 : decode cX4_give 21 = .ok (.ireturn, 1) := by decide +kernel
theorem dX4_give_22 : decode cX4_give 22 = .ok (.aload_n 0, 1) := by decide +kernel
theorem dX4_give_23 : decode cX4_give 23 = .ok (.iload_n 1, 1) := by decide +kernel
theorem dX4_give_24 : decode cX4_give 24 = .ok (.invokevirtual 106, 3) := by decide +kernel
theorem dX4_give_27 : decode cX4_give 27 = .ok (.istore_n 3, 1) := by decide +kernel
theorem dX4_give_28 : decode cX4_give 28 = .ok (.aload_n 0, 1) := by decide +kernel
theorem dX4_give_29 : decode cX4_give 29 = .ok (.getfield 13, 3) := by decide +kernel
theorem dX4_give_32 : decode cX4_give 32 = .ok (.bipush 40, 2) := by decide +kernel
theorem dX4_give_34 : decode cX4_give 34 = .ok (.iconst 2, 1) := by decide +kernel
theorem dX4_give_35 : decode cX4_give 35 = .ok (.iload_n 1, 1) := by decide +kernel
theorem dX4_give_36 : decode cX4_give 36 = .ok (.imul, 1) := by decide +kernel
theorem dX4_give_37 : decode cX4_give 37 = .ok (.iadd, 1) := by decide +kernel
theorem dX4_give_38 : decode cX4_give 38 = .ok (.iconst 1, 1) := by decide +kernel
theorem dX4_give_39 : decode cX4_give 39 = .ok (.iadd, 1) := by decide +kernel
theorem dX4_give_40 : decode cX4_give 40 = .ok (.iload_n 2, 1) := by decide +kernel
theorem dX4_give_41 : decode cX4_give 41 = .ok (.iastore, 1) := by decide +kernel
theorem dX4_give_42 : decode cX4_give 42 = .ok (.iload_n 3, 1) := by decide +kernel
theorem dX4_give_43 : decode cX4_give 43 = .ok (.ireturn, 1) := by decide +kernel
theorem dX4_cast_0 : decode cX4_cast 0 = .ok (.aload_n 0, 1) := by decide +kernel
theorem dX4_cast_1 : decode cX4_cast 1 = .ok (.iload_n 1, 1) := by decide +kernel
theorem dX4_cast_2 : decode cX4_cast 2 = .ok (.invokevirtual 94, 3) := by decide +kernel
theorem dX4_cast_5 : decode cX4_cast 5 = .ok (.ifCond .eq 11, 3) := by decide +kernel
theorem dX4_cast_8 : decode cX4_cast 8 = .ok (.aload_n 0, 1) := by decide +kernel
theorem dX4_cast_9 : decode cX4_cast 9 = .ok (.iload_n 2, 1) := by decide +kernel
theorem dX4_cast_10 : decode cX4_cast 10 = .ok (.invokevirtual 94, 3) := by decide +kernel
theorem dX4_cast_13 : decode cX4_cast 13 = .ok (.ifCond .ne 7, 3) := by decide +kernel
theorem dX4_cast_16 : decode cX4_cast 16 = .ok (.iconst (-1), 1) := by decide +kernel
theorem dX4_cast_17 : decode cX4_cast 17 = .ok (.goto 20, 3) := by decide +kernel
theorem dX4_cast_20 : decode cX4_cast 20 = .ok (.aload_n 0, 1) := by decide +kernel
theorem dX4_cast_21 : decode cX4_cast 21 = .ok (.getfield 13, 3) := by decide +kernel
theorem dX4_cast_24 : decode cX4_cast 24 = .ok (.iconst 1, 1) := by decide +kernel
theorem dX4_cast_25 : decode cX4_cast 25 = .ok (.iaload, 1) := by decide +kernel
theorem dX4_cast_26 : decode cX4_cast 26 = .ok (.bipush 10, 2) := by decide +kernel
theorem dX4_cast_28 : decode cX4_cast 28 = .ok (.if_icmp .ne 8, 3) := by decide +kernel
theorem dX4_cast_31 : decode cX4_cast 31 = .ok (.bipush (-6), 2) := by decide +kernel
theorem dX4_cast_33 : decode cX4_cast 33 = .ok (.goto 4, 3) := by decide +kernel
theorem dX4_cast_36 : decode cX4_cast 36 = .ok (.iconst 0, 1) := by decide +kernel
theorem dX4_cast_37 : decode cX4_cast 37 = .ok (.istore_n 3, 1) := by decide +kernel
theorem dX4_cast_38 : decode cX4_cast 38 = .ok (.iload_n 3, 1) := by decide +kernel
theorem dX4_cast_39 : decode cX4_cast 39 = .ok (.ifCond .eq 9, 3) := by decide +kernel
theorem dX4_cast_42 : decode cX4_cast 42 = .ok (.aload_n 0, 1) := by decide +kernel
theorem dX4_cast_43 : decode cX4_cast 43 = .ok (.iload_n 3, 1) := by decide +kernel
theorem dX4_cast_44 : decode cX4_cast 44 = .ok (.invokevirtual 52, 3) := by decide +kernel
theorem dX4_cast_47 : decode cX4_cast 47 = .ok (.ireturn, 1) := by decide +kernel
theorem dX4_cast_48 : decode cX4_cast 48 = .ok (.aload_n 0, 1) := by decide +kernel
theorem dX4_cast_49 : decode cX4_cast 49 = .ok (.iload_n 1, 1) := by decide +kernel
theorem dX4_cast_50 : decode cX4_cast 50 = .ok (.iload_n 2, 1) := by decide +kernel
theorem dX4_cast_51 : decode cX4_cast 51 = .ok (.invokevirtual 109, 3) := by decide +kernel
theorem dX4_cast_54 : decode cX4_cast 54 = .ok (.aload_n 0, 1) := by decide +kernel
theorem dX4_cast_55 : decode cX4_cast 55 = .ok (.getfield 13, 3) := by decide +kernel
theorem dX4_cast_58 : decode cX4_cast 58 = .ok (.iconst 1, 1) := by decide +kernel
theorem dX4_cast_59 : decode cX4_cast 59 = .ok (.iaload, 1) := by decide +kernel
theorem dX4_cast_60 : decode cX4_cast 60 = .ok (.iconst 1, 1) := by decide +kernel
theorem dX4_cast_61 : decode cX4_cast 61 = .ok (.isub, 1) := by decide +kernel
theorem dX4_cast_62 : decode cX4_cast 62 = .ok (.ireturn, 1) := by decide +kernel
theorem dX4_addsKey_0 : decode cX4_addsKey 0 = .ok (.aload_n 0, 1) := by decide +kernel
theorem dX4_addsKey_1 : decode cX4_addsKey 1 = .ok (.getfield 13, 3) := by decide +kernel
theorem dX4_addsKey_4 : decode cX4_addsKey 4 = .ok (.bipush 40, 2) := by decide +kernel
theorem dX4_addsKey_6 : decode cX4_addsKey 6 = .ok (.iconst 2, 1) := by decide +kernel
theorem dX4_addsKey_7 : decode cX4_addsKey 7 = .ok (.aload_n 0, 1) := by decide +kernel
theorem dX4_addsKey_8 : decode cX4_addsKey 8 = .ok (.getfield 13, 3) := by decide +kernel
theorem dX4_addsKey_11 : decode cX4_addsKey 11 = .ok (.iconst 1, 1) := by decide +kernel
theorem dX4_addsKey_12 : decode cX4_addsKey 12 = .ok (.iaload, 1) := by decide +kernel
theorem dX4_addsKey_13 : decode cX4_addsKey 13 = .ok (.imul, 1) := by decide +kernel
theorem dX4_addsKey_14 : decode cX4_addsKey 14 = .ok (.iadd, 1) := by decide +kernel
theorem dX4_addsKey_15 : decode cX4_addsKey 15 = .ok (.iload_n 1, 1) := by decide +kernel
theorem dX4_addsKey_16 : decode cX4_addsKey 16 = .ok (.iastore, 1) := by decide +kernel
theorem dX4_addsKey_17 : decode cX4_addsKey 17 = .ok (.aload_n 0, 1) := by decide +kernel
theorem dX4_addsKey_18 : decode cX4_addsKey 18 = .ok (.getfield 13, 3) := by decide +kernel
theorem dX4_addsKey_21 : decode cX4_addsKey 21 = .ok (.bipush 40, 2) := by decide +kernel
theorem dX4_addsKey_23 : decode cX4_addsKey 23 = .ok (.iconst 2, 1) := by decide +kernel
theorem dX4_addsKey_24 : decode cX4_addsKey 24 = .ok (.aload_n 0, 1) := by decide +kernel
theorem dX4_addsKey_25 : decode cX4_addsKey 25 = .ok (.getfield 13, 3) := by decide +kernel
theorem dX4_addsKey_28 : decode cX4_addsKey 28 = .ok (.iconst 1, 1) := by decide +kernel
theorem dX4_addsKey_29 : decode cX4_addsKey 29 = .ok (.iaload, 1) := by decide +kernel
theorem dX4_addsKey_30 : decode cX4_addsKey 30 = .ok (.imul, 1) := by decide +kernel
theorem dX4_addsKey_31 : decode cX4_addsKey 31 = .ok (.iadd, 1) := by decide +kernel
theorem dX4_addsKey_32 : decode cX4_addsKey 32 = .ok (.iconst 1, 1) := by decide +kernel
theorem dX4_addsKey_33 : decode cX4_addsKey 33 = .ok (.iadd, 1) := by decide +kernel
theorem dX4_addsKey_34 : decode cX4_addsKey 34 = .ok (.iload_n 2, 1) := by decide +kernel
theorem dX4_addsKey_35 : decode cX4_addsKey 35 = .ok (.iastore, 1) := by decide +kernel
theorem dX4_addsKey_36 : decode cX4_addsKey 36 = .ok (.aload_n 0, 1) := by decide +kernel
theorem dX4_addsKey_37 : decode cX4_addsKey 37 = .ok (.getfield 13, 3) := by decide +kernel
theorem dX4_addsKey_40 : decode cX4_addsKey 40 = .ok (.iconst 1, 1) := by decide +kernel
theorem dX4_addsKey_41 : decode cX4_addsKey 41 = .ok (.dup2, 1) := by decide +kernel
theorem dX4_addsKey_42 : decode cX4_addsKey 42 = .ok (.iaload, 1) := by decide +kernel
theorem dX4_addsKey_43 : decode cX4_addsKey 43 = .ok (.iconst 1, 1) := by decide +kernel
theorem dX4_addsKey_44 : decode cX4_addsKey 44 = .ok (.iadd, 1) := by decide +kernel
theorem dX4_addsKey_45 : decode cX4_addsKey 45 = .ok (.iastore, 1) := by decide +kernel
theorem dX4_addsKey_46 : decode cX4_addsKey 46 = .ok (.return_, 1) := by decide +kernel
theorem dX4_takesAway_0 : decode cX4_takesAway 0 = .ok (.bipush 40, 2) := by decide +kernel
theorem dX4_takesAway_2 : decode cX4_takesAway 2 = .ok (.iconst 2, 1) := by decide +kernel
theorem dX4_takesAway_3 : decode cX4_takesAway 3 = .ok (.iload_n 1, 1) := by decide +kernel
theorem dX4_takesAway_4 : decode cX4_takesAway 4 = .ok (.imul, 1) := by decide +kernel
theorem dX4_takesAway_5 : decode cX4_takesAway 5 = .ok (.iadd, 1) := by decide +kernel
theorem dX4_takesAway_6 : decode cX4_takesAway 6 = .ok (.istore_n 2, 1) := by decide +kernel
theorem dX4_takesAway_7 : decode cX4_takesAway 7 = .ok (.iload_n 2, 1) := by decide +kernel
theorem dX4_takesAway_8 : decode cX4_takesAway 8 = .ok (.bipush 40, 2) := by decide +kernel
theorem dX4_takesAway_10 : decode cX4_takesAway 10 = .ok (.iconst 2, 1) := by decide +kernel
theorem dX4_takesAway_11 : decode cX4_takesAway 11 = .ok (.aload_n 0, 1) := by decide +kernel
theorem dX4_takesAway_12 : decode cX4_takesAway 12 = .ok (.getfield 13, 3) := by decide +kernel
theorem dX4_takesAway_15 : decode cX4_takesAway 15 = .ok (.iconst 1, 1) := by decide +kernel
theorem dX4_takesAway_16 : decode cX4_takesAway 16 = .ok (.iaload, 1) := by decide +kernel
theorem dX4_takesAway_17 : decode cX4_takesAway 17 = .ok (.imul, 1) := by decide +kernel
theorem dX4_takesAway_18 : decode cX4_takesAway 18 = .ok (.iadd, 1) := by decide +kernel
theorem dX4_takesAway_19 : decode cX4_takesAway 19 = .ok (.iconst 2, 1) := by decide +kernel
theorem dX4_takesAway_20 : decode cX4_takesAway 20 = .ok (.isub, 1) := by decide +kernel
theorem dX4_takesAway_21 : decode cX4_takesAway 21 = .ok (.if_icmp .ge 23, 3) := by decide +kernel
theorem dX4_takesAway_24 : decode cX4_takesAway 24 = .ok (.aload_n 0, 1) := by decide +kernel
theorem dX4_takesAway_25 : decode cX4_takesAway 25 = .ok (.getfield 13, 3) := by decide +kernel
theorem dX4_takesAway_28 : decode cX4_takesAway 28 = .ok (.iload_n 2, 1) := by decide +kernel
theorem dX4_takesAway_29 : decode cX4_takesAway 29 = .ok (.aload_n 0, 1) := by decide +kernel
theorem dX4_takesAway_30 : decode cX4_takesAway 30 = .ok (.getfield 13, 3) := by decide +kernel
theorem dX4_takesAway_33 : decode cX4_takesAway 33 = .ok (.iload_n 2, 1) := by decide +kernel
theorem dX4_takesAway_34 : decode cX4_takesAway 34 = .ok (.iconst 2, 1) := by decide +kernel
theorem dX4_takesAway_35 : decode cX4_takesAway 35 = .ok (.iadd, 1) := by decide +kernel
theorem dX4_takesAway_36 : decode cX4_takesAway 36 = .ok (.iaload, 1) := by decide +kernel
theorem dX4_takesAway_37 : decode cX4_takesAway 37 = .ok (.iastore, 1) := by decide +kernel
theorem dX4_takesAway_38 : decode cX4_takesAway 38 = .ok (.iinc 2 1, 3) := by decide +kernel
theorem dX4_takesAway_41 : decode cX4_takesAway 41 = .ok (.goto (-34), 3) := by decide +kernel
theorem dX4_takesAway_44 : decode cX4_takesAway 44 = .ok (.aload_n 0, 1) := by decide +kernel
theorem dX4_takesAway_45 : decode cX4_takesAway 45 = .ok (.getfield 13, 3) := by decide +kernel
theorem dX4_takesAway_48 : decode cX4_takesAway 48 = .ok (.iconst 1, 1) := by decide +kernel
theorem dX4_takesAway_49 : decode cX4_takesAway 49 = .ok (.dup2, 1) := by decide +kernel
theorem dX4_takesAway_50 : decode cX4_takesAway 50 = .ok (.iaload, 1) := by decide +kernel
theorem dX4_takesAway_51 : decode cX4_takesAway 51 = .ok (.iconst 1, 1) := by decide +kernel
theorem dX4_takesAway_52 : decode cX4_takesAway 52 = .ok (.isub, 1) := by decide +kernel
theorem dX4_takesAway_53 : decode cX4_takesAway 53 = .ok (.iastore, 1) := by decide +kernel
theorem dX4_takesAway_54 : decode cX4_takesAway 54 = .ok (.return_, 1) := by decide +kernel
theorem dX4_lose_0 : decode cX4_lose 0 = .ok (.aload_n 0, 1) := by decide +kernel
theorem dX4_lose_1 : decode cX4_lose 1 = .ok (.iload_n 1, 1) := by decide +kernel
theorem dX4_lose_2 : decode cX4_lose 2 = .ok (.invokevirtual 103, 3) := by decide +kernel
theorem dX4_lose_5 : decode cX4_lose 5 = .ok (.ifCond .ne 9, 3) := by decide +kernel
theorem dX4_lose_8 : decode cX4_lose 8 = .ok (.aload_n 0, 1) := by decide +kernel
theorem dX4_lose_9 : decode cX4_lose 9 = .ok (.iconst (-1), 1) := by decide +kernel
theorem dX4_lose_10 : decode cX4_lose 10 = .ok (.invokevirtual 52, 3) := by decide +kernel
theorem dX4_lose_13 : decode cX4_lose 13 = .ok (.ireturn, 1) := by decide +kernel
theorem dX4_lose_14 : decode cX4_lose 14 = .ok (.aload_n 0, 1) := by decide +kernel
theorem dX4_lose_15 : decode cX4_lose 15 = .ok (.iload_n 1, 1) := by decide +kernel
theorem dX4_lose_16 : decode cX4_lose 16 = .ok (.invokevirtual 113, 3) := by decide +kernel
theorem dX4_lose_19 : decode cX4_lose 19 = .ok (.aload_n 0, 1) := by decide +kernel
theorem dX4_lose_20 : decode cX4_lose 20 = .ok (.getfield 13, 3) := by decide +kernel
theorem dX4_lose_23 : decode cX4_lose 23 = .ok (.iconst 1, 1) := by decide +kernel
theorem dX4_lose_24 : decode cX4_lose 24 = .ok (.iaload, 1) := by decide +kernel
theorem dX4_lose_25 : decode cX4_lose 25 = .ok (.ireturn, 1) := by decide +kernel
theorem dX4_watch_0 : decode cX4_watch 0 = .ok (.iload_n 1, 1) := by decide +kernel
theorem dX4_watch_1 : decode cX4_watch 1 = .ok (.ifCond .lt 11, 3) := by decide +kernel
theorem dX4_watch_4 : decode cX4_watch 4 = .ok (.iload_n 1, 1) := by decide +kernel
theorem dX4_watch_5 : decode cX4_watch 5 = .ok (.aload_n 0, 1) := by decide +kernel
theorem dX4_watch_6 : decode cX4_watch 6 = .ok (.invokevirtual 117, 3) := by decide +kernel
theorem dX4_watch_9 : decode cX4_watch 9 = .ok (.if_icmp .le 9, 3) := by decide +kernel
theorem dX4_watch_12 : decode cX4_watch 12 = .ok (.aload_n 0, 1) := by decide +kernel
theorem dX4_watch_13 : decode cX4_watch 13 = .ok (.iconst (-1), 1) := by decide +kernel
theorem dX4_watch_14 : decode cX4_watch 14 = .ok (.invokevirtual 52, 3) := by decide +kernel
theorem dX4_watch_17 : decode cX4_watch 17 = .ok (.ireturn, 1) := by decide +kernel
theorem dX4_watch_18 : decode cX4_watch 18 = .ok (.aload_n 0, 1) := by decide +kernel
theorem dX4_watch_19 : decode cX4_watch 19 = .ok (.getfield 13, 3) := by decide +kernel
theorem dX4_watch_22 : decode cX4_watch 22 = .ok (.iconst 2, 1) := by decide +kernel
theorem dX4_watch_23 : decode cX4_watch 23 = .ok (.iaload, 1) := by decide +kernel
theorem dX4_watch_24 : decode cX4_watch 24 = .ok (.istore_n 2, 1) := by decide +kernel
theorem dX4_watch_25 : decode cX4_watch 25 = .ok (.aload_n 0, 1) := by decide +kernel
theorem dX4_watch_26 : decode cX4_watch 26 = .ok (.getfield 13, 3) := by decide +kernel
theorem dX4_watch_29 : decode cX4_watch 29 = .ok (.iconst 2, 1) := by decide +kernel
theorem dX4_watch_30 : decode cX4_watch 30 = .ok (.iload_n 1, 1) := by decide +kernel
theorem dX4_watch_31 : decode cX4_watch 31 = .ok (.iastore, 1) := by decide +kernel
theorem dX4_watch_32 : decode cX4_watch 32 = .ok (.iload_n 2, 1) := by decide +kernel
theorem dX4_watch_33 : decode cX4_watch 33 = .ok (.ireturn, 1) := by decide +kernel
theorem dX4_wake_0 : decode cX4_wake 0 = .ok (.aload_n 0, 1) := by decide +kernel
theorem dX4_wake_1 : decode cX4_wake 1 = .ok (.iload_n 1, 1) := by decide +kernel
theorem dX4_wake_2 : decode cX4_wake 2 = .ok (.invokevirtual 94, 3) := by decide +kernel
theorem dX4_wake_5 : decode cX4_wake 5 = .ok (.ifCond .eq 13, 3) := by decide +kernel
theorem dX4_wake_8 : decode cX4_wake 8 = .ok (.iload_n 2, 1) := by decide +kernel
theorem dX4_wake_9 : decode cX4_wake 9 = .ok (.iconst 0, 1) := by decide +kernel
theorem dX4_wake_10 : decode cX4_wake 10 = .ok (.bipush 99, 2) := by decide +kernel
theorem dX4_wake_12 : decode cX4_wake 12 = .ok (.invokestatic 44, 3) := by decide +kernel
theorem dX4_wake_15 : decode cX4_wake 15 = .ok (.goto 4, 3) := by decide +kernel
theorem dX4_wake_18 : decode cX4_wake 18 = .ok (.iconst (-1), 1) := by decide +kernel
theorem dX4_wake_19 : decode cX4_wake 19 = .ok (.istore_n 3, 1) := by decide +kernel
theorem dX4_wake_20 : decode cX4_wake 20 = .ok (.iload_n 3, 1) := by decide +kernel
theorem dX4_wake_21 : decode cX4_wake 21 = .ok (.ifCond .eq 9, 3) := by decide +kernel
theorem dX4_wake_24 : decode cX4_wake 24 = .ok (.aload_n 0, 1) := by decide +kernel
theorem dX4_wake_25 : decode cX4_wake 25 = .ok (.iload_n 3, 1) := by decide +kernel
theorem dX4_wake_26 : decode cX4_wake 26 = .ok (.invokevirtual 52, 3) := by decide +kernel
theorem dX4_wake_29 : decode cX4_wake 29 = .ok (.ireturn, 1) := by decide +kernel
theorem dX4_wake_30 : decode cX4_wake 30 = .ok (.aload_n 0, 1) := by decide +kernel
theorem dX4_wake_31 : decode cX4_wake 31 = .ok (.iload_n 1, 1) := by decide +kernel
theorem dX4_wake_32 : decode cX4_wake 32 = .ok (.iconst 1, 1) := by decide +kernel
theorem dX4_wake_33 : decode cX4_wake 33 = .ok (.invokevirtual 90, 3) := by decide +kernel
theorem dX4_wake_36 : decode cX4_wake 36 = .ok (.istore 4, 2) := by decide +kernel
theorem dX4_wake_38 : decode cX4_wake 38 = .ok (.aload_n 0, 1) := by decide +kernel
theorem dX4_wake_39 : decode cX4_wake 39 = .ok (.getfield 13, 3) := by decide +kernel
theorem dX4_wake_42 : decode cX4_wake 42 = .ok (.iconst 5, 1) := by decide +kernel
theorem dX4_wake_43 : decode cX4_wake 43 = .ok (.iconst 5, 1) := by decide +kernel
theorem dX4_wake_44 : decode cX4_wake 44 = .ok (.iload_n 1, 1) := by decide +kernel
theorem dX4_wake_45 : decode cX4_wake 45 = .ok (.imul, 1) := by decide +kernel
theorem dX4_wake_46 : decode cX4_wake 46 = .ok (.iadd, 1) := by decide +kernel
theorem dX4_wake_47 : decode cX4_wake 47 = .ok (.iconst 1, 1) := by decide +kernel
theorem dX4_wake_48 : decode cX4_wake 48 = .ok (.iadd, 1) := by decide +kernel
theorem dX4_wake_49 : decode cX4_wake 49 = .ok (.iload_n 2, 1) := by decide +kernel
theorem dX4_wake_50 : decode cX4_wake 50 = .ok (.iastore, 1) := by decide +kernel
theorem dX4_wake_51 : decode cX4_wake 51 = .ok (.iload 4, 2) := by decide +kernel
theorem dX4_wake_53 : decode cX4_wake 53 = .ok (.ireturn, 1) := by decide +kernel
theorem dX4_walk_0 : decode cX4_walk 0 = .ok (.iload_n 1, 1) := by decide +kernel
theorem dX4_walk_1 : decode cX4_walk 1 = .ok (.iconst 0, 1) := by decide +kernel
theorem dX4_walk_2 : decode cX4_walk 2 = .ok (.bipush 9, 2) := by decide +kernel
theorem dX4_walk_4 : decode cX4_walk 4 = .ok (.invokestatic 44, 3) := by decide +kernel
theorem dX4_walk_7 : decode cX4_walk 7 = .ok (.istore_n 2, 1) := by decide +kernel
theorem dX4_walk_8 : decode cX4_walk 8 = .ok (.iload_n 2, 1) := by decide +kernel
theorem dX4_walk_9 : decode cX4_walk 9 = .ok (.ifCond .eq 9, 3) := by decide +kernel
theorem dX4_walk_12 : decode cX4_walk 12 = .ok (.aload_n 0, 1) := by decide +kernel
theorem dX4_walk_13 : decode cX4_walk 13 = .ok (.iload_n 2, 1) := by decide +kernel
theorem dX4_walk_14 : decode cX4_walk 14 = .ok (.invokevirtual 52, 3) := by decide +kernel
theorem dX4_walk_17 : decode cX4_walk 17 = .ok (.ireturn, 1) := by decide +kernel
theorem dX4_walk_18 : decode cX4_walk 18 = .ok (.aload_n 0, 1) := by decide +kernel
theorem dX4_walk_19 : decode cX4_walk 19 = .ok (.getfield 13, 3) := by decide +kernel
theorem dX4_walk_22 : decode cX4_walk 22 = .ok (.iconst 3, 1) := by decide +kernel
theorem dX4_walk_23 : decode cX4_walk 23 = .ok (.iaload, 1) := by decide +kernel
theorem dX4_walk_24 : decode cX4_walk 24 = .ok (.istore_n 3, 1) := by decide +kernel
theorem dX4_walk_25 : decode cX4_walk 25 = .ok (.aload_n 0, 1) := by decide +kernel
theorem dX4_walk_26 : decode cX4_walk 26 = .ok (.getfield 13, 3) := by decide +kernel
theorem dX4_walk_29 : decode cX4_walk 29 = .ok (.iconst 3, 1) := by decide +kernel
theorem dX4_walk_30 : decode cX4_walk 30 = .ok (.iload_n 1, 1) := by decide +kernel
theorem dX4_walk_31 : decode cX4_walk 31 = .ok (.iastore, 1) := by decide +kernel
theorem dX4_walk_32 : decode cX4_walk 32 = .ok (.iload_n 3, 1) := by decide +kernel
theorem dX4_walk_33 : decode cX4_walk 33 = .ok (.ireturn, 1) := by decide +kernel
theorem dX4_wayOf_0 : decode cX4_wayOf 0 = .ok (.iload_n 1, 1) := by decide +kernel
theorem dX4_wayOf_1 : decode cX4_wayOf 1 = .ok (.iload_n 2, 1) := by decide +kernel
theorem dX4_wayOf_2 : decode cX4_wayOf 2 = .ok (.if_icmp .le 9, 3) := by decide +kernel
theorem dX4_wayOf_5 : decode cX4_wayOf 5 = .ok (.iload_n 1, 1) := by decide +kernel
theorem dX4_wayOf_6 : decode cX4_wayOf 6 = .ok (.iload_n 2, 1) := by decide +kernel
theorem dX4_wayOf_7 : decode cX4_wayOf 7 = .ok (.isub, 1) := by decide +kernel
theorem dX4_wayOf_8 : decode cX4_wayOf 8 = .ok (.goto 6, 3) := by decide +kernel
theorem dX4_wayOf_11 : decode cX4_wayOf 11 = .ok (.iload_n 2, 1) := by decide +kernel
theorem dX4_wayOf_12 : decode cX4_wayOf 12 = .ok (.iload_n 1, 1) := by decide +kernel
theorem dX4_wayOf_13 : decode cX4_wayOf 13 = .ok (.isub, 1) := by decide +kernel
theorem dX4_wayOf_14 : decode cX4_wayOf 14 = .ok (.istore_n 3, 1) := by decide +kernel
theorem dX4_wayOf_15 : decode cX4_wayOf 15 = .ok (.aload_n 0, 1) := by decide +kernel
theorem dX4_wayOf_16 : decode cX4_wayOf 16 = .ok (.getfield 13, 3) := by decide +kernel
theorem dX4_wayOf_19 : decode cX4_wayOf 19 = .ok (.iconst 4, 1) := by decide +kernel
theorem dX4_wayOf_20 : decode cX4_wayOf 20 = .ok (.iaload, 1) := by decide +kernel
theorem dX4_wayOf_21 : decode cX4_wayOf 21 = .ok (.iconst 1, 1) := by decide +kernel
theorem dX4_wayOf_22 : decode cX4_wayOf 22 = .ok (.if_icmp .ne 26, 3) := by decide +kernel
theorem dX4_wayOf_25 : decode cX4_wayOf 25 = .ok (.aload_n 0, 1) := by decide +kernel
theorem dX4_wayOf_26 : decode cX4_wayOf 26 = .ok (.getfield 13, 3) := by decide +kernel
theorem dX4_wayOf_29 : decode cX4_wayOf 29 = .ok (.iconst 0, 1) := by decide +kernel
theorem dX4_wayOf_30 : decode cX4_wayOf 30 = .ok (.iaload, 1) := by decide +kernel
theorem dX4_wayOf_31 : decode cX4_wayOf 31 = .ok (.iload_n 3, 1) := by decide +kernel
theorem dX4_wayOf_32 : decode cX4_wayOf 32 = .ok (.isub, 1) := by decide +kernel
theorem dX4_wayOf_33 : decode cX4_wayOf 33 = .ok (.iload_n 3, 1) := by decide +kernel
theorem dX4_wayOf_34 : decode cX4_wayOf 34 = .ok (.if_icmp .ge 14, 3) := by decide +kernel
theorem dX4_wayOf_37 : decode cX4_wayOf 37 = .ok (.aload_n 0, 1) := by decide +kernel
theorem dX4_wayOf_38 : decode cX4_wayOf 38 = .ok (.getfield 13, 3) := by decide +kernel
theorem dX4_wayOf_41 : decode cX4_wayOf 41 = .ok (.iconst 0, 1) := by decide +kernel
theorem dX4_wayOf_42 : decode cX4_wayOf 42 = .ok (.iaload, 1) := by decide +kernel
theorem dX4_wayOf_43 : decode cX4_wayOf 43 = .ok (.iload_n 3, 1) := by decide +kernel
theorem dX4_wayOf_44 : decode cX4_wayOf 44 = .ok (.isub, 1) := by decide +kernel
theorem dX4_wayOf_45 : decode cX4_wayOf 45 = .ok (.goto 4, 3) := by decide +kernel
theorem dX4_wayOf_48 : decode cX4_wayOf 48 = .ok (.iload_n 3, 1) := by decide +kernel
theorem dX4_wayOf_49 : decode cX4_wayOf 49 = .ok (.ireturn, 1) := by decide +kernel
theorem dX4_holds_0 : decode cX4_holds 0 = .ok (.iconst 0, 1) := by decide +kernel
theorem dX4_holds_1 : decode cX4_holds 1 = .ok (.istore_n 3, 1) := by decide +kernel
theorem dX4_holds_2 : decode cX4_holds 2 = .ok (.iload_n 3, 1) := by decide +kernel
theorem dX4_holds_3 : decode cX4_holds 3 = .ok (.aload_n 0, 1) := by decide +kernel
theorem dX4_holds_4 : decode cX4_holds 4 = .ok (.getfield 13, 3) := by decide +kernel
theorem dX4_holds_7 : decode cX4_holds 7 = .ok (.iconst 1, 1) := by decide +kernel
theorem dX4_holds_8 : decode cX4_holds 8 = .ok (.iaload, 1) := by decide +kernel
theorem dX4_holds_9 : decode cX4_holds 9 = .ok (.if_icmp .ge 29, 3) := by decide +kernel
theorem dX4_holds_12 : decode cX4_holds 12 = .ok (.aload_n 0, 1) := by decide +kernel
theorem dX4_holds_13 : decode cX4_holds 13 = .ok (.iload_n 3, 1) := by decide +kernel
theorem dX4_holds_14 : decode cX4_holds 14 = .ok (.invokevirtual 106, 3) := by decide +kernel
theorem dX4_holds_17 : decode cX4_holds 17 = .ok (.iload_n 1, 1) := by decide +kernel
theorem dX4_holds_18 : decode cX4_holds 18 = .ok (.if_icmp .ne 14, 3) := by decide +kernel
theorem dX4_holds_21 : decode cX4_holds 21 = .ok (.aload_n 0, 1) := by decide +kernel
theorem dX4_holds_22 : decode cX4_holds 22 = .ok (.iload_n 3, 1) := by decide +kernel
theorem dX4_holds_23 : decode cX4_holds 23 = .ok (.invokevirtual 120, 3) := by decide +kernel
theorem dX4_holds_26 : decode cX4_holds 26 = .ok (.iload_n 2, 1) := by decide +kernel
theorem dX4_holds_27 : decode cX4_holds 27 = .ok (.if_icmp .ne 5, 3) := by decide +kernel
theorem dX4_holds_30 : decode cX4_holds 30 = .ok (.iconst 1, 1) := by decide +kernel
theorem dX4_holds_31 : decode cX4_holds 31 = .ok (.ireturn, 1) := by decide +kernel
theorem dX4_holds_32 : decode cX4_holds 32 = .ok (.iinc 3 1, 3) := by decide +kernel
theorem dX4_holds_35 : decode cX4_holds 35 = .ok (.goto (-33), 3) := by decide +kernel
theorem dX4_holds_38 : decode cX4_holds 38 = .ok (.iconst 0, 1) := by decide +kernel
theorem dX4_holds_39 : decode cX4_holds 39 = .ok (.ireturn, 1) := by decide +kernel
theorem dX4_goesRound_0 : decode cX4_goesRound 0 = .ok (.aload_n 0, 1) := by decide +kernel
theorem dX4_goesRound_1 : decode cX4_goesRound 1 = .ok (.getfield 28, 3) := by decide +kernel
theorem dX4_goesRound_4 : decode cX4_goesRound 4 = .ok (.iload_n 1, 1) := by decide +kernel
theorem dX4_goesRound_5 : decode cX4_goesRound 5 = .ok (.iaload, 1) := by decide +kernel
theorem dX4_goesRound_6 : decode cX4_goesRound 6 = .ok (.istore_n 2, 1) := by decide +kernel
theorem dX4_goesRound_7 : decode cX4_goesRound 7 = .ok (.iload_n 1, 1) := by decide +kernel
theorem dX4_goesRound_8 : decode cX4_goesRound 8 = .ok (.istore_n 3, 1) := by decide +kernel
theorem dX4_goesRound_9 : decode cX4_goesRound 9 = .ok (.iconst 0, 1) := by decide +kernel
theorem dX4_goesRound_10 : decode cX4_goesRound 10 = .ok (.istore 4, 2) := by decide +kernel
theorem dX4_goesRound_12 : decode cX4_goesRound 12 = .ok (.iload 4, 2) := by decide +kernel
theorem dX4_goesRound_14 : decode cX4_goesRound 14 = .ok (.aload_n 0, 1) := by decide +kernel
theorem dX4_goesRound_15 : decode cX4_goesRound 15 = .ok (.getfield 13, 3) := by decide +kernel
theorem dX4_goesRound_18 : decode cX4_goesRound 18 = .ok (.iconst 0, 1) := by decide +kernel
theorem dX4_goesRound_19 : decode cX4_goesRound 19 = .ok (.iaload, 1) := by decide +kernel
theorem dX4_goesRound_20 : decode cX4_goesRound 20 = .ok (.if_icmp .ge 87, 3) := by decide +kernel
theorem dX4_goesRound_23 : decode cX4_goesRound 23 = .ok (.iload 4, 2) := by decide +kernel
theorem dX4_goesRound_25 : decode cX4_goesRound 25 = .ok (.iload_n 1, 1) := by decide +kernel
theorem dX4_goesRound_26 : decode cX4_goesRound 26 = .ok (.if_icmp .eq 75, 3) := by decide +kernel
theorem dX4_goesRound_29 : decode cX4_goesRound 29 = .ok (.aload_n 0, 1) := by decide +kernel
theorem dX4_goesRound_30 : decode cX4_goesRound 30 = .ok (.iload_n 1, 1) := by decide +kernel
theorem dX4_goesRound_31 : decode cX4_goesRound 31 = .ok (.iload 4, 2) := by decide +kernel
theorem dX4_goesRound_33 : decode cX4_goesRound 33 = .ok (.invokevirtual 123, 3) := by decide +kernel
theorem dX4_goesRound_36 : decode cX4_goesRound 36 = .ok (.ifCond .ne 6, 3) := by decide +kernel
theorem dX4_goesRound_39 : decode cX4_goesRound 39 = .ok (.goto 62, 3) := by decide +kernel
theorem dX4_goesRound_42 : decode cX4_goesRound 42 = .ok (.iload_n 2, 1) := by decide +kernel
theorem dX4_goesRound_43 : decode cX4_goesRound 43 = .ok (.aload_n 0, 1) := by decide +kernel
theorem dX4_goesRound_44 : decode cX4_goesRound 44 = .ok (.iload_n 1, 1) := by decide +kernel
theorem dX4_goesRound_45 : decode cX4_goesRound 45 = .ok (.iconst 0, 1) := by decide +kernel
theorem dX4_goesRound_46 : decode cX4_goesRound 46 = .ok (.invokevirtual 90, 3) := by decide +kernel
theorem dX4_goesRound_49 : decode cX4_goesRound 49 = .ok (.iconst 5, 1) := by decide +kernel
theorem dX4_goesRound_50 : decode cX4_goesRound 50 = .ok (.if_icmp .ne 7, 3) := by decide +kernel
theorem dX4_goesRound_53 : decode cX4_goesRound 53 = .ok (.iconst 0, 1) := by decide +kernel
theorem dX4_goesRound_54 : decode cX4_goesRound 54 = .ok (.goto 17, 3) := by decide +kernel
theorem dX4_goesRound_57 : decode cX4_goesRound 57 = .ok (.aload_n 0, 1) := by decide +kernel
theorem dX4_goesRound_58 : decode cX4_goesRound 58 = .ok (.getfield 13, 3) := by decide +kernel
theorem dX4_goesRound_61 : decode cX4_goesRound 61 = .ok (.iconst 3, 1) := by decide +kernel
theorem dX4_goesRound_62 : decode cX4_goesRound 62 = .ok (.iaload, 1) := by decide +kernel
theorem dX4_goesRound_63 : decode cX4_goesRound 63 = .ok (.aload_n 0, 1) := by decide +kernel
theorem dX4_goesRound_64 : decode cX4_goesRound 64 = .ok (.iload_n 3, 1) := by decide +kernel
theorem dX4_goesRound_65 : decode cX4_goesRound 65 = .ok (.iload 4, 2) := by decide +kernel
theorem dX4_goesRound_67 : decode cX4_goesRound 67 = .ok (.invokevirtual 126, 3) := by decide +kernel
theorem dX4_goesRound_70 : decode cX4_goesRound 70 = .ok (.imul, 1) := by decide +kernel
theorem dX4_goesRound_71 : decode cX4_goesRound 71 = .ok (.aload_n 0, 1) := by decide +kernel
theorem dX4_goesRound_72 : decode cX4_goesRound 72 = .ok (.iload_n 1, 1) := by decide +kernel
theorem dX4_goesRound_73 : decode cX4_goesRound 73 = .ok (.invokevirtual 100, 3) := by decide +kernel
theorem dX4_goesRound_76 : decode cX4_goesRound 76 = .ok (.iadd, 1) := by decide +kernel
theorem dX4_goesRound_77 : decode cX4_goesRound 77 = .ok (.iadd, 1) := by decide +kernel
theorem dX4_goesRound_78 : decode cX4_goesRound 78 = .ok (.istore_n 2, 1) := by decide +kernel
theorem dX4_goesRound_79 : decode cX4_goesRound 79 = .ok (.iload 4, 2) := by decide +kernel
theorem dX4_goesRound_81 : decode cX4_goesRound 81 = .ok (.istore_n 3, 1) := by decide +kernel
theorem dX4_goesRound_82 : decode cX4_goesRound 82 = .ok (.iload_n 2, 1) := by decide +kernel
theorem dX4_goesRound_83 : decode cX4_goesRound 83 = .ok (.aload_n 0, 1) := by decide +kernel
theorem dX4_goesRound_84 : decode cX4_goesRound 84 = .ok (.getfield 31, 3) := by decide +kernel
theorem dX4_goesRound_87 : decode cX4_goesRound 87 = .ok (.iload 4, 2) := by decide +kernel
theorem dX4_goesRound_89 : decode cX4_goesRound 89 = .ok (.iaload, 1) := by decide +kernel
theorem dX4_goesRound_90 : decode cX4_goesRound 90 = .ok (.if_icmp .ge 11, 3) := by decide +kernel
theorem dX4_goesRound_93 : decode cX4_goesRound 93 = .ok (.aload_n 0, 1) := by decide +kernel
theorem dX4_goesRound_94 : decode cX4_goesRound 94 = .ok (.getfield 31, 3) := by decide +kernel
theorem dX4_goesRound_97 : decode cX4_goesRound 97 = .ok (.iload 4, 2) := by decide +kernel
theorem dX4_goesRound_99 : decode cX4_goesRound 99 = .ok (.iload_n 2, 1) := by decide +kernel
theorem dX4_goesRound_100 : decode cX4_goesRound 100 = .ok (.iastore, 1) := by decide +kernel
theorem dX4_goesRound_101 : decode cX4_goesRound 101 = .ok (.iinc 4 1, 3) := by decide +kernel
theorem dX4_goesRound_104 : decode cX4_goesRound 104 = .ok (.goto (-92), 3) := by decide +kernel
theorem dX4_goesRound_107 : decode cX4_goesRound 107 = .ok (.return_, 1) := by decide +kernel
theorem dX4_outBy_0 : decode cX4_outBy 0 = .ok (.aload_n 0, 1) := by decide +kernel
theorem dX4_outBy_1 : decode cX4_outBy 1 = .ok (.getfield 13, 3) := by decide +kernel
theorem dX4_outBy_4 : decode cX4_outBy 4 = .ok (.iconst 2, 1) := by decide +kernel
theorem dX4_outBy_5 : decode cX4_outBy 5 = .ok (.iaload, 1) := by decide +kernel
theorem dX4_outBy_6 : decode cX4_outBy 6 = .ok (.iload_n 1, 1) := by decide +kernel
theorem dX4_outBy_7 : decode cX4_outBy 7 = .ok (.ishr, 1) := by decide +kernel
theorem dX4_outBy_8 : decode cX4_outBy 8 = .ok (.iconst 1, 1) := by decide +kernel
theorem dX4_outBy_9 : decode cX4_outBy 9 = .ok (.iand, 1) := by decide +kernel
theorem dX4_outBy_10 : decode cX4_outBy 10 = .ok (.iconst 1, 1) := by decide +kernel
theorem dX4_outBy_11 : decode cX4_outBy 11 = .ok (.if_icmp .ne 5, 3) := by decide +kernel
theorem dX4_outBy_14 : decode cX4_outBy 14 = .ok (.iconst 0, 1) := by decide +kernel
theorem dX4_outBy_15 : decode cX4_outBy 15 = .ok (.ireturn, 1) := by decide +kernel
theorem dX4_outBy_16 : decode cX4_outBy 16 = .ok (.aload_n 0, 1) := by decide +kernel
theorem dX4_outBy_17 : decode cX4_outBy 17 = .ok (.getfield 31, 3) := by decide +kernel
theorem dX4_outBy_20 : decode cX4_outBy 20 = .ok (.iload_n 1, 1) := by decide +kernel
theorem dX4_outBy_21 : decode cX4_outBy 21 = .ok (.iaload, 1) := by decide +kernel
theorem dX4_outBy_22 : decode cX4_outBy 22 = .ok (.aload_n 0, 1) := by decide +kernel
theorem dX4_outBy_23 : decode cX4_outBy 23 = .ok (.iload_n 1, 1) := by decide +kernel
theorem dX4_outBy_24 : decode cX4_outBy 24 = .ok (.invokevirtual 97, 3) := by decide +kernel
theorem dX4_outBy_27 : decode cX4_outBy 27 = .ok (.if_icmp .gt 14, 3) := by decide +kernel
theorem dX4_outBy_30 : decode cX4_outBy 30 = .ok (.aload_n 0, 1) := by decide +kernel
theorem dX4_outBy_31 : decode cX4_outBy 31 = .ok (.getfield 31, 3) := by decide +kernel
theorem dX4_outBy_34 : decode cX4_outBy 34 = .ok (.iload_n 1, 1) := by decide +kernel
theorem dX4_outBy_35 : decode cX4_outBy 35 = .ok (.iaload, 1) := by decide +kernel
theorem dX4_outBy_36 : decode cX4_outBy 36 = .ok (.ldc 129, 2) := by decide +kernel
theorem dX4_outBy_38 : decode cX4_outBy 38 = .ok (.if_icmp .ne 12, 3) := by decide +kernel
theorem dX4_outBy_41 : decode cX4_outBy 41 = .ok (.aload_n 0, 1) := by decide +kernel
theorem dX4_outBy_42 : decode cX4_outBy 42 = .ok (.getfield 31, 3) := by decide +kernel
theorem dX4_outBy_45 : decode cX4_outBy 45 = .ok (.iload_n 1, 1) := by decide +kernel
theorem dX4_outBy_46 : decode cX4_outBy 46 = .ok (.iaload, 1) := by decide +kernel
theorem dX4_outBy_47 : decode cX4_outBy 47 = .ok (.goto 8, 3) := by decide +kernel
theorem dX4_outBy_50 : decode cX4_outBy 50 = .ok (.aload_n 0, 1) := by decide +kernel
theorem dX4_outBy_51 : decode cX4_outBy 51 = .ok (.iload_n 1, 1) := by decide +kernel
theorem dX4_outBy_52 : decode cX4_outBy 52 = .ok (.invokevirtual 97, 3) := by decide +kernel
theorem dX4_outBy_55 : decode cX4_outBy 55 = .ok (.istore_n 2, 1) := by decide +kernel
theorem dX4_outBy_56 : decode cX4_outBy 56 = .ok (.aload_n 0, 1) := by decide +kernel
theorem dX4_outBy_57 : decode cX4_outBy 57 = .ok (.iload_n 1, 1) := by decide +kernel
theorem dX4_outBy_58 : decode cX4_outBy 58 = .ok (.iconst 0, 1) := by decide +kernel
theorem dX4_outBy_59 : decode cX4_outBy 59 = .ok (.invokevirtual 90, 3) := by decide +kernel
theorem dX4_outBy_62 : decode cX4_outBy 62 = .ok (.iconst 3, 1) := by decide +kernel
theorem dX4_outBy_63 : decode cX4_outBy 63 = .ok (.if_icmp .ne 22, 3) := by decide +kernel
theorem dX4_outBy_66 : decode cX4_outBy 66 = .ok (.aload_n 0, 1) := by decide +kernel
theorem dX4_outBy_67 : decode cX4_outBy 67 = .ok (.getfield 130, 3) := by decide +kernel
theorem dX4_outBy_70 : decode cX4_outBy 70 = .ok (.ifCond .ne 15, 3) := by decide +kernel
theorem dX4_outBy_73 : decode cX4_outBy 73 = .ok (.bipush 60, 2) := by decide +kernel
theorem dX4_outBy_75 : decode cX4_outBy 75 = .ok (.aload_n 0, 1) := by decide +kernel
theorem dX4_outBy_76 : decode cX4_outBy 76 = .ok (.iload_n 1, 1) := by decide +kernel
theorem dX4_outBy_77 : decode cX4_outBy 77 = .ok (.iconst 1, 1) := by decide +kernel
theorem dX4_outBy_78 : decode cX4_outBy 78 = .ok (.invokevirtual 90, 3) := by decide +kernel
theorem dX4_outBy_81 : decode cX4_outBy 81 = .ok (.iadd, 1) := by decide +kernel
theorem dX4_outBy_82 : decode cX4_outBy 82 = .ok (.goto 5, 3) := by decide +kernel
theorem dX4_outBy_85 : decode cX4_outBy 85 = .ok (.ldc 129, 2) := by decide +kernel
theorem dX4_outBy_87 : decode cX4_outBy 87 = .ok (.istore_n 3, 1) := by decide +kernel
theorem dX4_outBy_88 : decode cX4_outBy 88 = .ok (.iload_n 3, 1) := by decide +kernel
theorem dX4_outBy_89 : decode cX4_outBy 89 = .ok (.iload_n 2, 1) := by decide +kernel
theorem dX4_outBy_90 : decode cX4_outBy 90 = .ok (.if_icmp .ge 7, 3) := by decide +kernel
theorem dX4_outBy_93 : decode cX4_outBy 93 = .ok (.iload_n 3, 1) := by decide +kernel
theorem dX4_outBy_94 : decode cX4_outBy 94 = .ok (.goto 4, 3) := by decide +kernel
theorem dX4_outBy_97 : decode cX4_outBy 97 = .ok (.iload_n 2, 1) := by decide +kernel
theorem dX4_outBy_98 : decode cX4_outBy 98 = .ok (.ireturn, 1) := by decide +kernel
theorem dX4_firstOut_0 : decode cX4_firstOut 0 = .ok (.bipush (-9), 2) := by decide +kernel
theorem dX4_firstOut_2 : decode cX4_firstOut 2 = .ok (.istore_n 2, 1) := by decide +kernel
theorem dX4_firstOut_3 : decode cX4_firstOut 3 = .ok (.iconst 0, 1) := by decide +kernel
theorem dX4_firstOut_4 : decode cX4_firstOut 4 = .ok (.istore_n 3, 1) := by decide +kernel
theorem dX4_firstOut_5 : decode cX4_firstOut 5 = .ok (.iload_n 3, 1) := by decide +kernel
theorem dX4_firstOut_6 : decode cX4_firstOut 6 = .ok (.aload_n 0, 1) := by decide +kernel
theorem dX4_firstOut_7 : decode cX4_firstOut 7 = .ok (.getfield 13, 3) := by decide +kernel
theorem dX4_firstOut_10 : decode cX4_firstOut 10 = .ok (.iconst 0, 1) := by decide +kernel
theorem dX4_firstOut_11 : decode cX4_firstOut 11 = .ok (.iaload, 1) := by decide +kernel
theorem dX4_firstOut_12 : decode cX4_firstOut 12 = .ok (.if_icmp .ge 78, 3) := by decide +kernel
theorem dX4_firstOut_15 : decode cX4_firstOut 15 = .ok (.aload_n 0, 1) := by decide +kernel
theorem dX4_firstOut_16 : decode cX4_firstOut 16 = .ok (.getfield 28, 3) := by decide +kernel
theorem dX4_firstOut_19 : decode cX4_firstOut 19 = .ok (.iload_n 3, 1) := by decide +kernel
theorem dX4_firstOut_20 : decode cX4_firstOut 20 = .ok (.iload_n 1, 1) := by decide +kernel
theorem dX4_firstOut_21 : decode cX4_firstOut 21 = .ok (.iload_n 3, 1) := by decide +kernel
theorem dX4_firstOut_22 : decode cX4_firstOut 22 = .ok (.ishr, 1) := by decide +kernel
theorem dX4_firstOut_23 : decode cX4_firstOut 23 = .ok (.iconst 1, 1) := by decide +kernel
theorem dX4_firstOut_24 : decode cX4_firstOut 24 = .ok (.iand, 1) := by decide +kernel
theorem dX4_firstOut_25 : decode cX4_firstOut 25 = .ok (.iconst 1, 1) := by decide +kernel
theorem dX4_firstOut_26 : decode cX4_firstOut 26 = .ok (.if_icmp .ne 12, 3) := by decide +kernel
theorem dX4_firstOut_29 : decode cX4_firstOut 29 = .ok (.aload_n 0, 1) := by decide +kernel
theorem dX4_firstOut_30 : decode cX4_firstOut 30 = .ok (.getfield 28, 3) := by decide +kernel
theorem dX4_firstOut_33 : decode cX4_firstOut 33 = .ok (.iload_n 3, 1) := by decide +kernel
theorem dX4_firstOut_34 : decode cX4_firstOut 34 = .ok (.iaload, 1) := by decide +kernel
theorem dX4_firstOut_35 : decode cX4_firstOut 35 = .ok (.goto 8, 3) := by decide +kernel
theorem dX4_firstOut_38 : decode cX4_firstOut 38 = .ok (.aload_n 0, 1) := by decide +kernel
theorem dX4_firstOut_39 : decode cX4_firstOut 39 = .ok (.iload_n 3, 1) := by decide +kernel
theorem dX4_firstOut_40 : decode cX4_firstOut 40 = .ok (.invokevirtual 134, 3) := by decide +kernel
theorem dX4_firstOut_43 : decode cX4_firstOut 43 = .ok (.iastore, 1) := by decide +kernel
theorem dX4_firstOut_44 : decode cX4_firstOut 44 = .ok (.iload_n 1, 1) := by decide +kernel
theorem dX4_firstOut_45 : decode cX4_firstOut 45 = .ok (.iload_n 3, 1) := by decide +kernel
theorem dX4_firstOut_46 : decode cX4_firstOut 46 = .ok (.ishr, 1) := by decide +kernel
theorem dX4_firstOut_47 : decode cX4_firstOut 47 = .ok (.iconst 1, 1) := by decide +kernel
theorem dX4_firstOut_48 : decode cX4_firstOut 48 = .ok (.iand, 1) := by decide +kernel
theorem dX4_firstOut_49 : decode cX4_firstOut 49 = .ok (.ifCond .ne 35, 3) := by decide +kernel
theorem dX4_firstOut_52 : decode cX4_firstOut 52 = .ok (.aload_n 0, 1) := by decide +kernel
theorem dX4_firstOut_53 : decode cX4_firstOut 53 = .ok (.getfield 28, 3) := by decide +kernel
theorem dX4_firstOut_56 : decode cX4_firstOut 56 = .ok (.iload_n 3, 1) := by decide +kernel
theorem dX4_firstOut_57 : decode cX4_firstOut 57 = .ok (.iaload, 1) := by decide +kernel
theorem dX4_firstOut_58 : decode cX4_firstOut 58 = .ok (.ldc 129, 2) := by decide +kernel
theorem dX4_firstOut_60 : decode cX4_firstOut 60 = .ok (.if_icmp .ge 24, 3) := by decide +kernel
theorem dX4_firstOut_63 : decode cX4_firstOut 63 = .ok (.iload_n 2, 1) := by decide +kernel
theorem dX4_firstOut_64 : decode cX4_firstOut 64 = .ok (.ifCond .lt 18, 3) := by decide +kernel
theorem dX4_firstOut_67 : decode cX4_firstOut 67 = .ok (.aload_n 0, 1) := by decide +kernel
theorem dX4_firstOut_68 : decode cX4_firstOut 68 = .ok (.getfield 28, 3) := by decide +kernel
theorem dX4_firstOut_71 : decode cX4_firstOut 71 = .ok (.iload_n 3, 1) := by decide +kernel
theorem dX4_firstOut_72 : decode cX4_firstOut 72 = .ok (.iaload, 1) := by decide +kernel
theorem dX4_firstOut_73 : decode cX4_firstOut 73 = .ok (.aload_n 0, 1) := by decide +kernel
theorem dX4_firstOut_74 : decode cX4_firstOut 74 = .ok (.getfield 28, 3) := by decide +kernel
theorem dX4_firstOut_77 : decode cX4_firstOut 77 = .ok (.iload_n 2, 1) := by decide +kernel
theorem dX4_firstOut_78 : decode cX4_firstOut 78 = .ok (.iaload, 1) := by decide +kernel
theorem dX4_firstOut_79 : decode cX4_firstOut 79 = .ok (.if_icmp .ge 5, 3) := by decide +kernel
theorem dX4_firstOut_82 : decode cX4_firstOut 82 = .ok (.iload_n 3, 1) := by decide +kernel
theorem dX4_firstOut_83 : decode cX4_firstOut 83 = .ok (.istore_n 2, 1) := by decide +kernel
theorem dX4_firstOut_84 : decode cX4_firstOut 84 = .ok (.iinc 3 1, 3) := by decide +kernel
theorem dX4_firstOut_87 : decode cX4_firstOut 87 = .ok (.goto (-82), 3) := by decide +kernel
theorem dX4_firstOut_90 : decode cX4_firstOut 90 = .ok (.iload_n 2, 1) := by decide +kernel
theorem dX4_firstOut_91 : decode cX4_firstOut 91 = .ok (.ireturn, 1) := by decide +kernel
theorem dX4_finds_0 : decode cX4_finds 0 = .ok (.iconst 0, 1) := by decide +kernel
theorem dX4_finds_1 : decode cX4_finds 1 = .ok (.istore_n 1, 1) := by decide +kernel
theorem dX4_finds_2 : decode cX4_finds 2 = .ok (.iload_n 1, 1) := by decide +kernel
theorem dX4_finds_3 : decode cX4_finds 3 = .ok (.aload_n 0, 1) := by decide +kernel
theorem dX4_finds_4 : decode cX4_finds 4 = .ok (.getfield 13, 3) := by decide +kernel
theorem dX4_finds_7 : decode cX4_finds 7 = .ok (.iconst 0, 1) := by decide +kernel
theorem dX4_finds_8 : decode cX4_finds 8 = .ok (.iaload, 1) := by decide +kernel
theorem dX4_finds_9 : decode cX4_finds 9 = .ok (.if_icmp .ge 33, 3) := by decide +kernel
theorem dX4_finds_12 : decode cX4_finds 12 = .ok (.aload_n 0, 1) := by decide +kernel
theorem dX4_finds_13 : decode cX4_finds 13 = .ok (.getfield 31, 3) := by decide +kernel
theorem dX4_finds_16 : decode cX4_finds 16 = .ok (.iload_n 1, 1) := by decide +kernel
theorem dX4_finds_17 : decode cX4_finds 17 = .ok (.aload_n 0, 1) := by decide +kernel
theorem dX4_finds_18 : decode cX4_finds 18 = .ok (.getfield 137, 3) := by decide +kernel
theorem dX4_finds_21 : decode cX4_finds 21 = .ok (.iload_n 1, 1) := by decide +kernel
theorem dX4_finds_22 : decode cX4_finds 22 = .ok (.ishr, 1) := by decide +kernel
theorem dX4_finds_23 : decode cX4_finds 23 = .ok (.iconst 1, 1) := by decide +kernel
theorem dX4_finds_24 : decode cX4_finds 24 = .ok (.iand, 1) := by decide +kernel
theorem dX4_finds_25 : decode cX4_finds 25 = .ok (.iconst 1, 1) := by decide +kernel
theorem dX4_finds_26 : decode cX4_finds 26 = .ok (.if_icmp .ne 7, 3) := by decide +kernel
theorem dX4_finds_29 : decode cX4_finds 29 = .ok (.iconst 0, 1) := by decide +kernel
theorem dX4_finds_30 : decode cX4_finds 30 = .ok (.goto 5, 3) := by decide +kernel
theorem dX4_finds_33 : decode cX4_finds 33 = .ok (.ldc 129, 2) := by decide +kernel
theorem dX4_finds_35 : decode cX4_finds 35 = .ok (.iastore, 1) := by decide +kernel
theorem dX4_finds_36 : decode cX4_finds 36 = .ok (.iinc 1 1, 3) := by decide +kernel
theorem dX4_finds_39 : decode cX4_finds 39 = .ok (.goto (-37), 3) := by decide +kernel
theorem dX4_finds_42 : decode cX4_finds 42 = .ok (.iconst 0, 1) := by decide +kernel
theorem dX4_finds_43 : decode cX4_finds 43 = .ok (.istore_n 1, 1) := by decide +kernel
theorem dX4_finds_44 : decode cX4_finds 44 = .ok (.aload_n 0, 1) := by decide +kernel
theorem dX4_finds_45 : decode cX4_finds 45 = .ok (.iload_n 1, 1) := by decide +kernel
theorem dX4_finds_46 : decode cX4_finds 46 = .ok (.invokevirtual 140, 3) := by decide +kernel
theorem dX4_finds_49 : decode cX4_finds 49 = .ok (.istore_n 2, 1) := by decide +kernel
theorem dX4_finds_50 : decode cX4_finds 50 = .ok (.iload_n 2, 1) := by decide +kernel
theorem dX4_finds_51 : decode cX4_finds 51 = .ok (.ifCond .lt 23, 3) := by decide +kernel
theorem dX4_finds_54 : decode cX4_finds 54 = .ok (.iload_n 1, 1) := by decide +kernel
theorem dX4_finds_55 : decode cX4_finds 55 = .ok (.iconst 1, 1) := by decide +kernel
theorem dX4_finds_56 : decode cX4_finds 56 = .ok (.iload_n 2, 1) := by decide +kernel
theorem dX4_finds_57 : decode cX4_finds 57 = .ok (.ishl, 1) := by decide +kernel
theorem dX4_finds_58 : decode cX4_finds 58 = .ok (.ior, 1) := by decide +kernel
theorem dX4_finds_59 : decode cX4_finds 59 = .ok (.istore_n 1, 1) := by decide +kernel
theorem dX4_finds_60 : decode cX4_finds 60 = .ok (.aload_n 0, 1) := by decide +kernel
theorem dX4_finds_61 : decode cX4_finds 61 = .ok (.iload_n 2, 1) := by decide +kernel
theorem dX4_finds_62 : decode cX4_finds 62 = .ok (.invokevirtual 143, 3) := by decide +kernel
theorem dX4_finds_65 : decode cX4_finds 65 = .ok (.aload_n 0, 1) := by decide +kernel
theorem dX4_finds_66 : decode cX4_finds 66 = .ok (.iload_n 1, 1) := by decide +kernel
theorem dX4_finds_67 : decode cX4_finds 67 = .ok (.invokevirtual 140, 3) := by decide +kernel
theorem dX4_finds_70 : decode cX4_finds 70 = .ok (.istore_n 2, 1) := by decide +kernel
theorem dX4_finds_71 : decode cX4_finds 71 = .ok (.goto (-21), 3) := by decide +kernel
theorem dX4_finds_74 : decode cX4_finds 74 = .ok (.return_, 1) := by decide +kernel
theorem dX4_allOut_0 : decode cX4_allOut 0 = .ok (.aload_n 0, 1) := by decide +kernel
theorem dX4_allOut_1 : decode cX4_allOut 1 = .ok (.invokevirtual 146, 3) := by decide +kernel
theorem dX4_allOut_4 : decode cX4_allOut 4 = .ok (.iconst 0, 1) := by decide +kernel
theorem dX4_allOut_5 : decode cX4_allOut 5 = .ok (.istore_n 1, 1) := by decide +kernel
theorem dX4_allOut_6 : decode cX4_allOut 6 = .ok (.iconst 0, 1) := by decide +kernel
theorem dX4_allOut_7 : decode cX4_allOut 7 = .ok (.istore_n 2, 1) := by decide +kernel
theorem dX4_allOut_8 : decode cX4_allOut 8 = .ok (.iload_n 2, 1) := by decide +kernel
theorem dX4_allOut_9 : decode cX4_allOut 9 = .ok (.aload_n 0, 1) := by decide +kernel
theorem dX4_allOut_10 : decode cX4_allOut 10 = .ok (.getfield 13, 3) := by decide +kernel
theorem dX4_allOut_13 : decode cX4_allOut 13 = .ok (.iconst 0, 1) := by decide +kernel
theorem dX4_allOut_14 : decode cX4_allOut 14 = .ok (.iaload, 1) := by decide +kernel
theorem dX4_allOut_15 : decode cX4_allOut 15 = .ok (.if_icmp .ge 30, 3) := by decide +kernel
theorem dX4_allOut_18 : decode cX4_allOut 18 = .ok (.aload_n 0, 1) := by decide +kernel
theorem dX4_allOut_19 : decode cX4_allOut 19 = .ok (.getfield 28, 3) := by decide +kernel
theorem dX4_allOut_22 : decode cX4_allOut 22 = .ok (.iload_n 2, 1) := by decide +kernel
theorem dX4_allOut_23 : decode cX4_allOut 23 = .ok (.iaload, 1) := by decide +kernel
theorem dX4_allOut_24 : decode cX4_allOut 24 = .ok (.iload_n 1, 1) := by decide +kernel
theorem dX4_allOut_25 : decode cX4_allOut 25 = .ok (.if_icmp .le 12, 3) := by decide +kernel
theorem dX4_allOut_28 : decode cX4_allOut 28 = .ok (.aload_n 0, 1) := by decide +kernel
theorem dX4_allOut_29 : decode cX4_allOut 29 = .ok (.getfield 28, 3) := by decide +kernel
theorem dX4_allOut_32 : decode cX4_allOut 32 = .ok (.iload_n 2, 1) := by decide +kernel
theorem dX4_allOut_33 : decode cX4_allOut 33 = .ok (.iaload, 1) := by decide +kernel
theorem dX4_allOut_34 : decode cX4_allOut 34 = .ok (.goto 4, 3) := by decide +kernel
theorem dX4_allOut_37 : decode cX4_allOut 37 = .ok (.iload_n 1, 1) := by decide +kernel
theorem dX4_allOut_38 : decode cX4_allOut 38 = .ok (.istore_n 1, 1) := by decide +kernel
theorem dX4_allOut_39 : decode cX4_allOut 39 = .ok (.iinc 2 1, 3) := by decide +kernel
theorem dX4_allOut_42 : decode cX4_allOut 42 = .ok (.goto (-34), 3) := by decide +kernel
theorem dX4_allOut_45 : decode cX4_allOut 45 = .ok (.iload_n 1, 1) := by decide +kernel
theorem dX4_allOut_46 : decode cX4_allOut 46 = .ok (.ireturn, 1) := by decide +kernel
theorem dX4_orNone_0 : decode cX4_orNone 0 = .ok (.iload_n 0, 1) := by decide +kernel
theorem dX4_orNone_1 : decode cX4_orNone 1 = .ok (.ldc 129, 2) := by decide +kernel
theorem dX4_orNone_3 : decode cX4_orNone 3 = .ok (.if_icmp .ne 8, 3) := by decide +kernel
theorem dX4_orNone_6 : decode cX4_orNone 6 = .ok (.bipush (-9), 2) := by decide +kernel
theorem dX4_orNone_8 : decode cX4_orNone 8 = .ok (.goto 4, 3) := by decide +kernel
theorem dX4_orNone_11 : decode cX4_orNone 11 = .ok (.iload_n 0, 1) := by decide +kernel
theorem dX4_orNone_12 : decode cX4_orNone 12 = .ok (.ireturn, 1) := by decide +kernel
theorem dX4_out_0 : decode cX4_out 0 = .ok (.aload_n 0, 1) := by decide +kernel
theorem dX4_out_1 : decode cX4_out 1 = .ok (.iload_n 1, 1) := by decide +kernel
theorem dX4_out_2 : decode cX4_out 2 = .ok (.invokevirtual 94, 3) := by decide +kernel
theorem dX4_out_5 : decode cX4_out 5 = .ok (.ifCond .ne 9, 3) := by decide +kernel
theorem dX4_out_8 : decode cX4_out 8 = .ok (.aload_n 0, 1) := by decide +kernel
theorem dX4_out_9 : decode cX4_out 9 = .ok (.iconst (-1), 1) := by decide +kernel
theorem dX4_out_10 : decode cX4_out 10 = .ok (.invokevirtual 52, 3) := by decide +kernel
theorem dX4_out_13 : decode cX4_out 13 = .ok (.ireturn, 1) := by decide +kernel
theorem dX4_out_14 : decode cX4_out 14 = .ok (.aload_n 0, 1) := by decide +kernel
theorem dX4_out_15 : decode cX4_out 15 = .ok (.invokevirtual 146, 3) := by decide +kernel
theorem dX4_out_18 : decode cX4_out 18 = .ok (.aload_n 0, 1) := by decide +kernel
theorem dX4_out_19 : decode cX4_out 19 = .ok (.getfield 28, 3) := by decide +kernel
theorem dX4_out_22 : decode cX4_out 22 = .ok (.iload_n 1, 1) := by decide +kernel
theorem dX4_out_23 : decode cX4_out 23 = .ok (.iaload, 1) := by decide +kernel
theorem dX4_out_24 : decode cX4_out 24 = .ok (.invokestatic 149, 3) := by decide +kernel
theorem dX4_out_27 : decode cX4_out 27 = .ok (.ireturn, 1) := by decide +kernel
theorem dX4_all_0 : decode cX4_all 0 = .ok (.aload_n 0, 1) := by decide +kernel
theorem dX4_all_1 : decode cX4_all 1 = .ok (.invokevirtual 152, 3) := by decide +kernel
theorem dX4_all_4 : decode cX4_all 4 = .ok (.invokestatic 149, 3) := by decide +kernel
theorem dX4_all_7 : decode cX4_all 7 = .ok (.ireturn, 1) := by decide +kernel
theorem dX4_late_0 : decode cX4_late 0 = .ok (.aload_n 0, 1) := by decide +kernel
theorem dX4_late_1 : decode cX4_late 1 = .ok (.invokevirtual 146, 3) := by decide +kernel
theorem dX4_late_4 : decode cX4_late 4 = .ok (.iconst 0, 1) := by decide +kernel
theorem dX4_late_5 : decode cX4_late 5 = .ok (.istore_n 1, 1) := by decide +kernel
theorem dX4_late_6 : decode cX4_late 6 = .ok (.iconst 0, 1) := by decide +kernel
theorem dX4_late_7 : decode cX4_late 7 = .ok (.istore_n 2, 1) := by decide +kernel
theorem dX4_late_8 : decode cX4_late 8 = .ok (.iload_n 2, 1) := by decide +kernel
theorem dX4_late_9 : decode cX4_late 9 = .ok (.aload_n 0, 1) := by decide +kernel
theorem dX4_late_10 : decode cX4_late 10 = .ok (.getfield 13, 3) := by decide +kernel
theorem dX4_late_13 : decode cX4_late 13 = .ok (.iconst 0, 1) := by decide +kernel
theorem dX4_late_14 : decode cX4_late 14 = .ok (.iaload, 1) := by decide +kernel
theorem dX4_late_15 : decode cX4_late 15 = .ok (.if_icmp .ge 34, 3) := by decide +kernel
theorem dX4_late_18 : decode cX4_late 18 = .ok (.iload_n 1, 1) := by decide +kernel
theorem dX4_late_19 : decode cX4_late 19 = .ok (.aload_n 0, 1) := by decide +kernel
theorem dX4_late_20 : decode cX4_late 20 = .ok (.getfield 28, 3) := by decide +kernel
theorem dX4_late_23 : decode cX4_late 23 = .ok (.iload_n 2, 1) := by decide +kernel
theorem dX4_late_24 : decode cX4_late 24 = .ok (.iaload, 1) := by decide +kernel
theorem dX4_late_25 : decode cX4_late 25 = .ok (.aload_n 0, 1) := by decide +kernel
theorem dX4_late_26 : decode cX4_late 26 = .ok (.iload_n 2, 1) := by decide +kernel
theorem dX4_late_27 : decode cX4_late 27 = .ok (.iconst 3, 1) := by decide +kernel
theorem dX4_late_28 : decode cX4_late 28 = .ok (.invokevirtual 90, 3) := by decide +kernel
theorem dX4_late_31 : decode cX4_late 31 = .ok (.if_icmp .le 9, 3) := by decide +kernel
theorem dX4_late_34 : decode cX4_late 34 = .ok (.iconst 1, 1) := by decide +kernel
theorem dX4_late_35 : decode cX4_late 35 = .ok (.iload_n 2, 1) := by decide +kernel
theorem dX4_late_36 : decode cX4_late 36 = .ok (.ishl, 1) := by decide +kernel
theorem dX4_late_37 : decode cX4_late 37 = .ok (.goto 4, 3) := by decide +kernel
theorem dX4_late_40 : decode cX4_late 40 = .ok (.iconst 0, 1) := by decide +kernel
theorem dX4_late_41 : decode cX4_late 41 = .ok (.ior, 1) := by decide +kernel
theorem dX4_late_42 : decode cX4_late 42 = .ok (.istore_n 1, 1) := by decide +kernel
theorem dX4_late_43 : decode cX4_late 43 = .ok (.iinc 2 1, 3) := by decide +kernel
theorem dX4_late_46 : decode cX4_late 46 = .ok (.goto (-38), 3) := by decide +kernel
theorem dX4_late_49 : decode cX4_late 49 = .ok (.iload_n 1, 1) := by decide +kernel
theorem dX4_late_50 : decode cX4_late 50 = .ok (.ireturn, 1) := by decide +kernel
theorem dX4_by_0 : decode cX4_by 0 = .ok (.aload_n 0, 1) := by decide +kernel
theorem dX4_by_1 : decode cX4_by 1 = .ok (.iload_n 1, 1) := by decide +kernel
theorem dX4_by_2 : decode cX4_by 2 = .ok (.invokevirtual 94, 3) := by decide +kernel
theorem dX4_by_5 : decode cX4_by 5 = .ok (.ifCond .ne 9, 3) := by decide +kernel
theorem dX4_by_8 : decode cX4_by 8 = .ok (.aload_n 0, 1) := by decide +kernel
theorem dX4_by_9 : decode cX4_by 9 = .ok (.iconst (-1), 1) := by decide +kernel
theorem dX4_by_10 : decode cX4_by 10 = .ok (.invokevirtual 52, 3) := by decide +kernel
theorem dX4_by_13 : decode cX4_by 13 = .ok (.ireturn, 1) := by decide +kernel
theorem dX4_by_14 : decode cX4_by 14 = .ok (.aload_n 0, 1) := by decide +kernel
theorem dX4_by_15 : decode cX4_by 15 = .ok (.invokevirtual 146, 3) := by decide +kernel
theorem dX4_by_18 : decode cX4_by 18 = .ok (.aload_n 0, 1) := by decide +kernel
theorem dX4_by_19 : decode cX4_by 19 = .ok (.getfield 31, 3) := by decide +kernel
theorem dX4_by_22 : decode cX4_by 22 = .ok (.iload_n 1, 1) := by decide +kernel
theorem dX4_by_23 : decode cX4_by 23 = .ok (.iaload, 1) := by decide +kernel
theorem dX4_by_24 : decode cX4_by 24 = .ok (.istore_n 2, 1) := by decide +kernel
theorem dX4_by_25 : decode cX4_by 25 = .ok (.iconst 0, 1) := by decide +kernel
theorem dX4_by_26 : decode cX4_by 26 = .ok (.istore_n 3, 1) := by decide +kernel
theorem dX4_by_27 : decode cX4_by 27 = .ok (.iload_n 3, 1) := by decide +kernel
theorem dX4_by_28 : decode cX4_by 28 = .ok (.aload_n 0, 1) := by decide +kernel
theorem dX4_by_29 : decode cX4_by 29 = .ok (.getfield 13, 3) := by decide +kernel
theorem dX4_by_32 : decode cX4_by 32 = .ok (.iconst 0, 1) := by decide +kernel
theorem dX4_by_33 : decode cX4_by 33 = .ok (.iaload, 1) := by decide +kernel
theorem dX4_by_34 : decode cX4_by 34 = .ok (.if_icmp .ge 43, 3) := by decide +kernel
theorem dX4_by_37 : decode cX4_by 37 = .ok (.iload_n 2, 1) := by decide +kernel
theorem dX4_by_38 : decode cX4_by 38 = .ok (.ldc 129, 2) := by decide +kernel
theorem dX4_by_40 : decode cX4_by 40 = .ok (.if_icmp .ge 31, 3) := by decide +kernel
theorem dX4_by_43 : decode cX4_by 43 = .ok (.iload_n 3, 1) := by decide +kernel
theorem dX4_by_44 : decode cX4_by 44 = .ok (.iload_n 1, 1) := by decide +kernel
theorem dX4_by_45 : decode cX4_by 45 = .ok (.if_icmp .eq 26, 3) := by decide +kernel
theorem dX4_by_48 : decode cX4_by 48 = .ok (.aload_n 0, 1) := by decide +kernel
theorem dX4_by_49 : decode cX4_by 49 = .ok (.getfield 28, 3) := by decide +kernel
theorem dX4_by_52 : decode cX4_by 52 = .ok (.iload_n 3, 1) := by decide +kernel
theorem dX4_by_53 : decode cX4_by 53 = .ok (.iaload, 1) := by decide +kernel
theorem dX4_by_54 : decode cX4_by 54 = .ok (.ldc 129, 2) := by decide +kernel
theorem dX4_by_56 : decode cX4_by 56 = .ok (.if_icmp .ge 15, 3) := by decide +kernel
theorem dX4_by_59 : decode cX4_by 59 = .ok (.aload_n 0, 1) := by decide +kernel
theorem dX4_by_60 : decode cX4_by 60 = .ok (.iload_n 3, 1) := by decide +kernel
theorem dX4_by_61 : decode cX4_by 61 = .ok (.iload_n 1, 1) := by decide +kernel
theorem dX4_by_62 : decode cX4_by 62 = .ok (.invokevirtual 155, 3) := by decide +kernel
theorem dX4_by_65 : decode cX4_by 65 = .ok (.iload_n 2, 1) := by decide +kernel
theorem dX4_by_66 : decode cX4_by 66 = .ok (.if_icmp .ne 5, 3) := by decide +kernel
theorem dX4_by_69 : decode cX4_by 69 = .ok (.iload_n 3, 1) := by decide +kernel
theorem dX4_by_70 : decode cX4_by 70 = .ok (.ireturn, 1) := by decide +kernel
theorem dX4_by_71 : decode cX4_by 71 = .ok (.iinc 3 1, 3) := by decide +kernel
theorem dX4_by_74 : decode cX4_by 74 = .ok (.goto (-47), 3) := by decide +kernel
theorem dX4_by_77 : decode cX4_by 77 = .ok (.bipush (-9), 2) := by decide +kernel
theorem dX4_by_79 : decode cX4_by 79 = .ok (.ireturn, 1) := by decide +kernel
theorem dX4_opensAt_0 : decode cX4_opensAt 0 = .ok (.aload_n 0, 1) := by decide +kernel
theorem dX4_opensAt_1 : decode cX4_opensAt 1 = .ok (.getfield 28, 3) := by decide +kernel
theorem dX4_opensAt_4 : decode cX4_opensAt 4 = .ok (.iload_n 1, 1) := by decide +kernel
theorem dX4_opensAt_5 : decode cX4_opensAt 5 = .ok (.iaload, 1) := by decide +kernel
theorem dX4_opensAt_6 : decode cX4_opensAt 6 = .ok (.istore_n 3, 1) := by decide +kernel
theorem dX4_opensAt_7 : decode cX4_opensAt 7 = .ok (.iload_n 1, 1) := by decide +kernel
theorem dX4_opensAt_8 : decode cX4_opensAt 8 = .ok (.istore 4, 2) := by decide +kernel
theorem dX4_opensAt_10 : decode cX4_opensAt 10 = .ok (.iconst 0, 1) := by decide +kernel
theorem dX4_opensAt_11 : decode cX4_opensAt 11 = .ok (.istore 5, 2) := by decide +kernel
theorem dX4_opensAt_13 : decode cX4_opensAt 13 = .ok (.iload 5, 2) := by decide +kernel
theorem dX4_opensAt_15 : decode cX4_opensAt 15 = .ok (.iload_n 2, 1) := by decide +kernel
theorem dX4_opensAt_16 : decode cX4_opensAt 16 = .ok (.if_icmp .gt 70, 3) := by decide +kernel
theorem dX4_opensAt_19 : decode cX4_opensAt 19 = .ok (.iload 5, 2) := by decide +kernel
theorem dX4_opensAt_21 : decode cX4_opensAt 21 = .ok (.iload_n 1, 1) := by decide +kernel
theorem dX4_opensAt_22 : decode cX4_opensAt 22 = .ok (.if_icmp .eq 58, 3) := by decide +kernel
theorem dX4_opensAt_25 : decode cX4_opensAt 25 = .ok (.aload_n 0, 1) := by decide +kernel
theorem dX4_opensAt_26 : decode cX4_opensAt 26 = .ok (.iload_n 1, 1) := by decide +kernel
theorem dX4_opensAt_27 : decode cX4_opensAt 27 = .ok (.iload 5, 2) := by decide +kernel
theorem dX4_opensAt_29 : decode cX4_opensAt 29 = .ok (.invokevirtual 123, 3) := by decide +kernel
theorem dX4_opensAt_32 : decode cX4_opensAt 32 = .ok (.ifCond .ne 6, 3) := by decide +kernel
theorem dX4_opensAt_35 : decode cX4_opensAt 35 = .ok (.goto 45, 3) := by decide +kernel
theorem dX4_opensAt_38 : decode cX4_opensAt 38 = .ok (.iload_n 3, 1) := by decide +kernel
theorem dX4_opensAt_39 : decode cX4_opensAt 39 = .ok (.aload_n 0, 1) := by decide +kernel
theorem dX4_opensAt_40 : decode cX4_opensAt 40 = .ok (.iload_n 1, 1) := by decide +kernel
theorem dX4_opensAt_41 : decode cX4_opensAt 41 = .ok (.iconst 0, 1) := by decide +kernel
theorem dX4_opensAt_42 : decode cX4_opensAt 42 = .ok (.invokevirtual 90, 3) := by decide +kernel
theorem dX4_opensAt_45 : decode cX4_opensAt 45 = .ok (.iconst 5, 1) := by decide +kernel
theorem dX4_opensAt_46 : decode cX4_opensAt 46 = .ok (.if_icmp .ne 7, 3) := by decide +kernel
theorem dX4_opensAt_49 : decode cX4_opensAt 49 = .ok (.iconst 0, 1) := by decide +kernel
theorem dX4_opensAt_50 : decode cX4_opensAt 50 = .ok (.goto 18, 3) := by decide +kernel
theorem dX4_opensAt_53 : decode cX4_opensAt 53 = .ok (.aload_n 0, 1) := by decide +kernel
theorem dX4_opensAt_54 : decode cX4_opensAt 54 = .ok (.getfield 13, 3) := by decide +kernel
theorem dX4_opensAt_57 : decode cX4_opensAt 57 = .ok (.iconst 3, 1) := by decide +kernel
theorem dX4_opensAt_58 : decode cX4_opensAt 58 = .ok (.iaload, 1) := by decide +kernel
theorem dX4_opensAt_59 : decode cX4_opensAt 59 = .ok (.aload_n 0, 1) := by decide +kernel
theorem dX4_opensAt_60 : decode cX4_opensAt 60 = .ok (.iload 4, 2) := by decide +kernel
theorem dX4_opensAt_62 : decode cX4_opensAt 62 = .ok (.iload 5, 2) := by decide +kernel
theorem dX4_opensAt_64 : decode cX4_opensAt 64 = .ok (.invokevirtual 126, 3) := by decide +kernel
theorem dX4_opensAt_67 : decode cX4_opensAt 67 = .ok (.imul, 1) := by decide +kernel
theorem dX4_opensAt_68 : decode cX4_opensAt 68 = .ok (.aload_n 0, 1) := by decide +kernel
theorem dX4_opensAt_69 : decode cX4_opensAt 69 = .ok (.iload_n 1, 1) := by decide +kernel
theorem dX4_opensAt_70 : decode cX4_opensAt 70 = .ok (.invokevirtual 100, 3) := by decide +kernel
theorem dX4_opensAt_73 : decode cX4_opensAt 73 = .ok (.iadd, 1) := by decide +kernel
theorem dX4_opensAt_74 : decode cX4_opensAt 74 = .ok (.iadd, 1) := by decide +kernel
theorem dX4_opensAt_75 : decode cX4_opensAt 75 = .ok (.istore_n 3, 1) := by decide +kernel
theorem dX4_opensAt_76 : decode cX4_opensAt 76 = .ok (.iload 5, 2) := by decide +kernel
theorem dX4_opensAt_78 : decode cX4_opensAt 78 = .ok (.istore 4, 2) := by decide +kernel
theorem dX4_opensAt_80 : decode cX4_opensAt 80 = .ok (.iinc 5 1, 3) := by decide +kernel
theorem dX4_opensAt_83 : decode cX4_opensAt 83 = .ok (.goto (-70), 3) := by decide +kernel
theorem dX4_opensAt_86 : decode cX4_opensAt 86 = .ok (.aload_n 0, 1) := by decide +kernel
theorem dX4_opensAt_87 : decode cX4_opensAt 87 = .ok (.iload_n 1, 1) := by decide +kernel
theorem dX4_opensAt_88 : decode cX4_opensAt 88 = .ok (.iload_n 2, 1) := by decide +kernel
theorem dX4_opensAt_89 : decode cX4_opensAt 89 = .ok (.invokevirtual 123, 3) := by decide +kernel
theorem dX4_opensAt_92 : decode cX4_opensAt 92 = .ok (.ifCond .eq 7, 3) := by decide +kernel
theorem dX4_opensAt_95 : decode cX4_opensAt 95 = .ok (.iload_n 3, 1) := by decide +kernel
theorem dX4_opensAt_96 : decode cX4_opensAt 96 = .ok (.goto 5, 3) := by decide +kernel
theorem dX4_opensAt_99 : decode cX4_opensAt 99 = .ok (.ldc 129, 2) := by decide +kernel
theorem dX4_opensAt_101 : decode cX4_opensAt 101 = .ok (.ireturn, 1) := by decide +kernel
theorem dX4_fewestNow_0 : decode cX4_fewestNow 0 = .ok (.aload_n 0, 1) := by decide +kernel
theorem dX4_fewestNow_1 : decode cX4_fewestNow 1 = .ok (.getfield 13, 3) := by decide +kernel
theorem dX4_fewestNow_4 : decode cX4_fewestNow 4 = .ok (.iconst 2, 1) := by decide +kernel
theorem dX4_fewestNow_5 : decode cX4_fewestNow 5 = .ok (.iaload, 1) := by decide +kernel
theorem dX4_fewestNow_6 : decode cX4_fewestNow 6 = .ok (.istore_n 1, 1) := by decide +kernel
theorem dX4_fewestNow_7 : decode cX4_fewestNow 7 = .ok (.aload_n 0, 1) := by decide +kernel
theorem dX4_fewestNow_8 : decode cX4_fewestNow 8 = .ok (.bipush (-9), 2) := by decide +kernel
theorem dX4_fewestNow_10 : decode cX4_fewestNow 10 = .ok (.putfield 158, 3) := by decide +kernel
theorem dX4_fewestNow_13 : decode cX4_fewestNow 13 = .ok (.aload_n 0, 1) := by decide +kernel
theorem dX4_fewestNow_14 : decode cX4_fewestNow 14 = .ok (.iconst 1, 1) := by decide +kernel
theorem dX4_fewestNow_15 : decode cX4_fewestNow 15 = .ok (.putfield 130, 3) := by decide +kernel
theorem dX4_fewestNow_18 : decode cX4_fewestNow 18 = .ok (.iconst 0, 1) := by decide +kernel
theorem dX4_fewestNow_19 : decode cX4_fewestNow 19 = .ok (.istore_n 2, 1) := by decide +kernel
theorem dX4_fewestNow_20 : decode cX4_fewestNow 20 = .ok (.iload_n 2, 1) := by decide +kernel
theorem dX4_fewestNow_21 : decode cX4_fewestNow 21 = .ok (.aload_n 0, 1) := by decide +kernel
theorem dX4_fewestNow_22 : decode cX4_fewestNow 22 = .ok (.invokevirtual 117, 3) := by decide +kernel
theorem dX4_fewestNow_25 : decode cX4_fewestNow 25 = .ok (.if_icmp .gt 54, 3) := by decide +kernel
theorem dX4_fewestNow_28 : decode cX4_fewestNow 28 = .ok (.aload_n 0, 1) := by decide +kernel
theorem dX4_fewestNow_29 : decode cX4_fewestNow 29 = .ok (.getfield 158, 3) := by decide +kernel
theorem dX4_fewestNow_32 : decode cX4_fewestNow 32 = .ok (.ifCond .lt 20, 3) := by decide +kernel
theorem dX4_fewestNow_35 : decode cX4_fewestNow 35 = .ok (.iload_n 2, 1) := by decide +kernel
theorem dX4_fewestNow_36 : decode cX4_fewestNow 36 = .ok (.invokestatic 161, 3) := by decide +kernel
theorem dX4_fewestNow_39 : decode cX4_fewestNow 39 = .ok (.aload_n 0, 1) := by decide +kernel
theorem dX4_fewestNow_40 : decode cX4_fewestNow 40 = .ok (.getfield 158, 3) := by decide +kernel
theorem dX4_fewestNow_43 : decode cX4_fewestNow 43 = .ok (.invokestatic 161, 3) := by decide +kernel
theorem dX4_fewestNow_46 : decode cX4_fewestNow 46 = .ok (.if_icmp .lt 6, 3) := by decide +kernel
theorem dX4_fewestNow_49 : decode cX4_fewestNow 49 = .ok (.goto 24, 3) := by decide +kernel
theorem dX4_fewestNow_52 : decode cX4_fewestNow 52 = .ok (.aload_n 0, 1) := by decide +kernel
theorem dX4_fewestNow_53 : decode cX4_fewestNow 53 = .ok (.getfield 13, 3) := by decide +kernel
theorem dX4_fewestNow_56 : decode cX4_fewestNow 56 = .ok (.iconst 2, 1) := by decide +kernel
theorem dX4_fewestNow_57 : decode cX4_fewestNow 57 = .ok (.iload_n 2, 1) := by decide +kernel
theorem dX4_fewestNow_58 : decode cX4_fewestNow 58 = .ok (.iastore, 1) := by decide +kernel
theorem dX4_fewestNow_59 : decode cX4_fewestNow 59 = .ok (.aload_n 0, 1) := by decide +kernel
theorem dX4_fewestNow_60 : decode cX4_fewestNow 60 = .ok (.invokevirtual 152, 3) := by decide +kernel
theorem dX4_fewestNow_63 : decode cX4_fewestNow 63 = .ok (.ldc 129, 2) := by decide +kernel
theorem dX4_fewestNow_65 : decode cX4_fewestNow 65 = .ok (.if_icmp .ge 8, 3) := by decide +kernel
theorem dX4_fewestNow_68 : decode cX4_fewestNow 68 = .ok (.aload_n 0, 1) := by decide +kernel
theorem dX4_fewestNow_69 : decode cX4_fewestNow 69 = .ok (.iload_n 2, 1) := by decide +kernel
theorem dX4_fewestNow_70 : decode cX4_fewestNow 70 = .ok (.putfield 158, 3) := by decide +kernel
theorem dX4_fewestNow_73 : decode cX4_fewestNow 73 = .ok (.iinc 2 1, 3) := by decide +kernel
theorem dX4_fewestNow_76 : decode cX4_fewestNow 76 = .ok (.goto (-56), 3) := by decide +kernel
theorem dX4_fewestNow_79 : decode cX4_fewestNow 79 = .ok (.aload_n 0, 1) := by decide +kernel
theorem dX4_fewestNow_80 : decode cX4_fewestNow 80 = .ok (.iconst 0, 1) := by decide +kernel
theorem dX4_fewestNow_81 : decode cX4_fewestNow 81 = .ok (.putfield 130, 3) := by decide +kernel
theorem dX4_fewestNow_84 : decode cX4_fewestNow 84 = .ok (.aload_n 0, 1) := by decide +kernel
theorem dX4_fewestNow_85 : decode cX4_fewestNow 85 = .ok (.getfield 13, 3) := by decide +kernel
theorem dX4_fewestNow_88 : decode cX4_fewestNow 88 = .ok (.iconst 2, 1) := by decide +kernel
theorem dX4_fewestNow_89 : decode cX4_fewestNow 89 = .ok (.iload_n 1, 1) := by decide +kernel
theorem dX4_fewestNow_90 : decode cX4_fewestNow 90 = .ok (.iastore, 1) := by decide +kernel
theorem dX4_fewestNow_91 : decode cX4_fewestNow 91 = .ok (.aload_n 0, 1) := by decide +kernel
theorem dX4_fewestNow_92 : decode cX4_fewestNow 92 = .ok (.getfield 158, 3) := by decide +kernel
theorem dX4_fewestNow_95 : decode cX4_fewestNow 95 = .ok (.invokestatic 161, 3) := by decide +kernel
theorem dX4_fewestNow_98 : decode cX4_fewestNow 98 = .ok (.ireturn, 1) := by decide +kernel
theorem dX4_fewest_0 : decode cX4_fewest 0 = .ok (.iload_n 1, 1) := by decide +kernel
theorem dX4_fewest_1 : decode cX4_fewest 1 = .ok (.iconst 2, 1) := by decide +kernel
theorem dX4_fewest_2 : decode cX4_fewest 2 = .ok (.invokestatic 40, 3) := by decide +kernel
theorem dX4_fewest_5 : decode cX4_fewest 5 = .ok (.ifCond .ne 10, 3) := by decide +kernel
theorem dX4_fewest_8 : decode cX4_fewest 8 = .ok (.aload_n 0, 1) := by decide +kernel
theorem dX4_fewest_9 : decode cX4_fewest 9 = .ok (.bipush (-2), 2) := by decide +kernel
theorem dX4_fewest_11 : decode cX4_fewest 11 = .ok (.invokevirtual 52, 3) := by decide +kernel
theorem dX4_fewest_14 : decode cX4_fewest 14 = .ok (.ireturn, 1) := by decide +kernel
theorem dX4_fewest_15 : decode cX4_fewest 15 = .ok (.aload_n 0, 1) := by decide +kernel
theorem dX4_fewest_16 : decode cX4_fewest 16 = .ok (.invokevirtual 164, 3) := by decide +kernel
theorem dX4_fewest_19 : decode cX4_fewest 19 = .ok (.istore_n 2, 1) := by decide +kernel
theorem dX4_fewest_20 : decode cX4_fewest 20 = .ok (.iload_n 1, 1) := by decide +kernel
theorem dX4_fewest_21 : decode cX4_fewest 21 = .ok (.ifCond .ne 7, 3) := by decide +kernel
theorem dX4_fewest_24 : decode cX4_fewest 24 = .ok (.iload_n 2, 1) := by decide +kernel
theorem dX4_fewest_25 : decode cX4_fewest 25 = .ok (.goto 7, 3) := by decide +kernel
theorem dX4_fewest_28 : decode cX4_fewest 28 = .ok (.aload_n 0, 1) := by decide +kernel
theorem dX4_fewest_29 : decode cX4_fewest 29 = .ok (.getfield 158, 3) := by decide +kernel
theorem dX4_fewest_32 : decode cX4_fewest 32 = .ok (.ireturn, 1) := by decide +kernel
theorem dX4_soonest_0 : decode cX4_soonest 0 = .ok (.iload_n 1, 1) := by decide +kernel
theorem dX4_soonest_1 : decode cX4_soonest 1 = .ok (.iconst 2, 1) := by decide +kernel
theorem dX4_soonest_2 : decode cX4_soonest 2 = .ok (.invokestatic 40, 3) := by decide +kernel
theorem dX4_soonest_5 : decode cX4_soonest 5 = .ok (.ifCond .ne 10, 3) := by decide +kernel
theorem dX4_soonest_8 : decode cX4_soonest 8 = .ok (.aload_n 0, 1) := by decide +kernel
theorem dX4_soonest_9 : decode cX4_soonest 9 = .ok (.bipush (-2), 2) := by decide +kernel
theorem dX4_soonest_11 : decode cX4_soonest 11 = .ok (.invokevirtual 52, 3) := by decide +kernel
theorem dX4_soonest_14 : decode cX4_soonest 14 = .ok (.ireturn, 1) := by decide +kernel
theorem dX4_soonest_15 : decode cX4_soonest 15 = .ok (.aload_n 0, 1) := by decide +kernel
theorem dX4_soonest_16 : decode cX4_soonest 16 = .ok (.invokevirtual 164, 3) := by decide +kernel
theorem dX4_soonest_19 : decode cX4_soonest 19 = .ok (.istore_n 2, 1) := by decide +kernel
theorem dX4_soonest_20 : decode cX4_soonest 20 = .ok (.aload_n 0, 1) := by decide +kernel
theorem dX4_soonest_21 : decode cX4_soonest 21 = .ok (.getfield 13, 3) := by decide +kernel
theorem dX4_soonest_24 : decode cX4_soonest 24 = .ok (.iconst 2, 1) := by decide +kernel
theorem dX4_soonest_25 : decode cX4_soonest 25 = .ok (.iaload, 1) := by decide +kernel
theorem dX4_soonest_26 : decode cX4_soonest 26 = .ok (.istore_n 3, 1) := by decide +kernel
theorem dX4_soonest_27 : decode cX4_soonest 27 = .ok (.bipush (-9), 2) := by decide +kernel
theorem dX4_soonest_29 : decode cX4_soonest 29 = .ok (.istore 4, 2) := by decide +kernel
theorem dX4_soonest_31 : decode cX4_soonest 31 = .ok (.iconst 0, 1) := by decide +kernel
theorem dX4_soonest_32 : decode cX4_soonest 32 = .ok (.istore 5, 2) := by decide +kernel
theorem dX4_soonest_34 : decode cX4_soonest 34 = .ok (.iconst 0, 1) := by decide +kernel
theorem dX4_soonest_35 : decode cX4_soonest 35 = .ok (.istore 6, 2) := by decide +kernel
theorem dX4_soonest_37 : decode cX4_soonest 37 = .ok (.iload 6, 2) := by decide +kernel
theorem dX4_soonest_39 : decode cX4_soonest 39 = .ok (.aload_n 0, 1) := by decide +kernel
theorem dX4_soonest_40 : decode cX4_soonest 40 = .ok (.invokevirtual 117, 3) := by decide +kernel
theorem dX4_soonest_43 : decode cX4_soonest 43 = .ok (.if_icmp .gt 58, 3) := by decide +kernel
theorem dX4_soonest_46 : decode cX4_soonest 46 = .ok (.iload 6, 2) := by decide +kernel
theorem dX4_soonest_48 : decode cX4_soonest 48 = .ok (.invokestatic 161, 3) := by decide +kernel
theorem dX4_soonest_51 : decode cX4_soonest 51 = .ok (.iload_n 2, 1) := by decide +kernel
theorem dX4_soonest_52 : decode cX4_soonest 52 = .ok (.if_icmp .eq 6, 3) := by decide +kernel
theorem dX4_soonest_55 : decode cX4_soonest 55 = .ok (.goto 40, 3) := by decide +kernel
theorem dX4_soonest_58 : decode cX4_soonest 58 = .ok (.aload_n 0, 1) := by decide +kernel
theorem dX4_soonest_59 : decode cX4_soonest 59 = .ok (.getfield 13, 3) := by decide +kernel
theorem dX4_soonest_62 : decode cX4_soonest 62 = .ok (.iconst 2, 1) := by decide +kernel
theorem dX4_soonest_63 : decode cX4_soonest 63 = .ok (.iload 6, 2) := by decide +kernel
theorem dX4_soonest_65 : decode cX4_soonest 65 = .ok (.iastore, 1) := by decide +kernel
theorem dX4_soonest_66 : decode cX4_soonest 66 = .ok (.aload_n 0, 1) := by decide +kernel
theorem dX4_soonest_67 : decode cX4_soonest 67 = .ok (.invokevirtual 152, 3) := by decide +kernel
theorem dX4_soonest_70 : decode cX4_soonest 70 = .ok (.istore 7, 2) := by decide +kernel
theorem dX4_soonest_72 : decode cX4_soonest 72 = .ok (.iload 4, 2) := by decide +kernel
theorem dX4_soonest_74 : decode cX4_soonest 74 = .ok (.ifCond .lt 13, 3) := by decide +kernel
theorem dX4_soonest_77 : decode cX4_soonest 77 = .ok (.iload 7, 2) := by decide +kernel
theorem dX4_soonest_79 : decode cX4_soonest 79 = .ok (.iload 5, 2) := by decide +kernel
theorem dX4_soonest_81 : decode cX4_soonest 81 = .ok (.if_icmp .lt 6, 3) := by decide +kernel
theorem dX4_soonest_84 : decode cX4_soonest 84 = .ok (.goto 11, 3) := by decide +kernel
theorem dX4_soonest_87 : decode cX4_soonest 87 = .ok (.iload 6, 2) := by decide +kernel
theorem dX4_soonest_89 : decode cX4_soonest 89 = .ok (.istore 4, 2) := by decide +kernel
theorem dX4_soonest_91 : decode cX4_soonest 91 = .ok (.iload 7, 2) := by decide +kernel
theorem dX4_soonest_93 : decode cX4_soonest 93 = .ok (.istore 5, 2) := by decide +kernel
theorem dX4_soonest_95 : decode cX4_soonest 95 = .ok (.iinc 6 1, 3) := by decide +kernel
theorem dX4_soonest_98 : decode cX4_soonest 98 = .ok (.goto (-61), 3) := by decide +kernel
theorem dX4_soonest_101 : decode cX4_soonest 101 = .ok (.aload_n 0, 1) := by decide +kernel
theorem dX4_soonest_102 : decode cX4_soonest 102 = .ok (.getfield 13, 3) := by decide +kernel
theorem dX4_soonest_105 : decode cX4_soonest 105 = .ok (.iconst 2, 1) := by decide +kernel
theorem dX4_soonest_106 : decode cX4_soonest 106 = .ok (.iload_n 3, 1) := by decide +kernel
theorem dX4_soonest_107 : decode cX4_soonest 107 = .ok (.iastore, 1) := by decide +kernel
theorem dX4_soonest_108 : decode cX4_soonest 108 = .ok (.iload_n 1, 1) := by decide +kernel
theorem dX4_soonest_109 : decode cX4_soonest 109 = .ok (.ifCond .ne 8, 3) := by decide +kernel
theorem dX4_soonest_112 : decode cX4_soonest 112 = .ok (.iload 4, 2) := by decide +kernel
theorem dX4_soonest_114 : decode cX4_soonest 114 = .ok (.goto 8, 3) := by decide +kernel
theorem dX4_soonest_117 : decode cX4_soonest 117 = .ok (.iload 5, 2) := by decide +kernel
theorem dX4_soonest_119 : decode cX4_soonest 119 = .ok (.invokestatic 149, 3) := by decide +kernel
theorem dX4_soonest_122 : decode cX4_soonest 122 = .ok (.ireturn, 1) := by decide +kernel
theorem dX4_leastWithCopy_0 : decode cX4_leastWithCopy 0 = .ok (.iload_n 1, 1) := by decide +kernel
theorem dX4_leastWithCopy_1 : decode cX4_leastWithCopy 1 = .ok (.istore_n 2, 1) := by decide +kernel
theorem dX4_leastWithCopy_2 : decode cX4_leastWithCopy 2 = .ok (.aload_n 0, 1) := by decide +kernel
theorem dX4_leastWithCopy_3 : decode cX4_leastWithCopy 3 = .ok (.bipush (-9), 2) := by decide +kernel
theorem dX4_leastWithCopy_5 : decode cX4_leastWithCopy 5 = .ok (.putfield 167, 3) := by decide +kernel
theorem dX4_leastWithCopy_8 : decode cX4_leastWithCopy 8 = .ok (.iconst 0, 1) := by decide +kernel
theorem dX4_leastWithCopy_9 : decode cX4_leastWithCopy 9 = .ok (.istore_n 3, 1) := by decide +kernel
theorem dX4_leastWithCopy_10 : decode cX4_leastWithCopy 10 = .ok (.iload_n 3, 1) := by decide +kernel
theorem dX4_leastWithCopy_11 : decode cX4_leastWithCopy 11 = .ok (.bipush 10, 2) := by decide +kernel
theorem dX4_leastWithCopy_13 : decode cX4_leastWithCopy 13 = .ok (.aload_n 0, 1) := by decide +kernel
theorem dX4_leastWithCopy_14 : decode cX4_leastWithCopy 14 = .ok (.getfield 13, 3) := by decide +kernel
theorem dX4_leastWithCopy_17 : decode cX4_leastWithCopy 17 = .ok (.iconst 0, 1) := by decide +kernel
theorem dX4_leastWithCopy_18 : decode cX4_leastWithCopy 18 = .ok (.iaload, 1) := by decide +kernel
theorem dX4_leastWithCopy_19 : decode cX4_leastWithCopy 19 = .ok (.imul, 1) := by decide +kernel
theorem dX4_leastWithCopy_20 : decode cX4_leastWithCopy 20 = .ok (.if_icmp .ge 72, 3) := by decide +kernel
theorem dX4_leastWithCopy_23 : decode cX4_leastWithCopy 23 = .ok (.iload_n 3, 1) := by decide +kernel
theorem dX4_leastWithCopy_24 : decode cX4_leastWithCopy 24 = .ok (.bipush 10, 2) := by decide +kernel
theorem dX4_leastWithCopy_26 : decode cX4_leastWithCopy 26 = .ok (.irem, 1) := by decide +kernel
theorem dX4_leastWithCopy_27 : decode cX4_leastWithCopy 27 = .ok (.aload_n 0, 1) := by decide +kernel
theorem dX4_leastWithCopy_28 : decode cX4_leastWithCopy 28 = .ok (.getfield 13, 3) := by decide +kernel
theorem dX4_leastWithCopy_31 : decode cX4_leastWithCopy 31 = .ok (.iconst 0, 1) := by decide +kernel
theorem dX4_leastWithCopy_32 : decode cX4_leastWithCopy 32 = .ok (.iaload, 1) := by decide +kernel
theorem dX4_leastWithCopy_33 : decode cX4_leastWithCopy 33 = .ok (.if_icmp .lt 6, 3) := by decide +kernel
theorem dX4_leastWithCopy_36 : decode cX4_leastWithCopy 36 = .ok (.goto 50, 3) := by decide +kernel
theorem dX4_leastWithCopy_39 : decode cX4_leastWithCopy 39 = .ok (.aload_n 0, 1) := by decide +kernel
theorem dX4_leastWithCopy_40 : decode cX4_leastWithCopy 40 = .ok (.iload_n 3, 1) := by decide +kernel
theorem dX4_leastWithCopy_41 : decode cX4_leastWithCopy 41 = .ok (.bipush 10, 2) := by decide +kernel
theorem dX4_leastWithCopy_43 : decode cX4_leastWithCopy 43 = .ok (.idiv, 1) := by decide +kernel
theorem dX4_leastWithCopy_44 : decode cX4_leastWithCopy 44 = .ok (.iload_n 3, 1) := by decide +kernel
theorem dX4_leastWithCopy_45 : decode cX4_leastWithCopy 45 = .ok (.bipush 10, 2) := by decide +kernel
theorem dX4_leastWithCopy_47 : decode cX4_leastWithCopy 47 = .ok (.irem, 1) := by decide +kernel
theorem dX4_leastWithCopy_48 : decode cX4_leastWithCopy 48 = .ok (.invokevirtual 109, 3) := by decide +kernel
theorem dX4_leastWithCopy_51 : decode cX4_leastWithCopy 51 = .ok (.aload_n 0, 1) := by decide +kernel
theorem dX4_leastWithCopy_52 : decode cX4_leastWithCopy 52 = .ok (.invokevirtual 152, 3) := by decide +kernel
theorem dX4_leastWithCopy_55 : decode cX4_leastWithCopy 55 = .ok (.istore 4, 2) := by decide +kernel
theorem dX4_leastWithCopy_57 : decode cX4_leastWithCopy 57 = .ok (.aload_n 0, 1) := by decide +kernel
theorem dX4_leastWithCopy_58 : decode cX4_leastWithCopy 58 = .ok (.aload_n 0, 1) := by decide +kernel
theorem dX4_leastWithCopy_59 : decode cX4_leastWithCopy 59 = .ok (.getfield 13, 3) := by decide +kernel
theorem dX4_leastWithCopy_62 : decode cX4_leastWithCopy 62 = .ok (.iconst 1, 1) := by decide +kernel
theorem dX4_leastWithCopy_63 : decode cX4_leastWithCopy 63 = .ok (.iaload, 1) := by decide +kernel
theorem dX4_leastWithCopy_64 : decode cX4_leastWithCopy 64 = .ok (.iconst 1, 1) := by decide +kernel
theorem dX4_leastWithCopy_65 : decode cX4_leastWithCopy 65 = .ok (.isub, 1) := by decide +kernel
theorem dX4_leastWithCopy_66 : decode cX4_leastWithCopy 66 = .ok (.invokevirtual 113, 3) := by decide +kernel
theorem dX4_leastWithCopy_69 : decode cX4_leastWithCopy 69 = .ok (.iload 4, 2) := by decide +kernel
theorem dX4_leastWithCopy_71 : decode cX4_leastWithCopy 71 = .ok (.iload_n 2, 1) := by decide +kernel
theorem dX4_leastWithCopy_72 : decode cX4_leastWithCopy 72 = .ok (.if_icmp .lt 6, 3) := by decide +kernel
theorem dX4_leastWithCopy_75 : decode cX4_leastWithCopy 75 = .ok (.goto 11, 3) := by decide +kernel
theorem dX4_leastWithCopy_78 : decode cX4_leastWithCopy 78 = .ok (.iload 4, 2) := by decide +kernel
theorem dX4_leastWithCopy_80 : decode cX4_leastWithCopy 80 = .ok (.istore_n 2, 1) := by decide +kernel
theorem dX4_leastWithCopy_81 : decode cX4_leastWithCopy 81 = .ok (.aload_n 0, 1) := by decide +kernel
theorem dX4_leastWithCopy_82 : decode cX4_leastWithCopy 82 = .ok (.iload_n 3, 1) := by decide +kernel
theorem dX4_leastWithCopy_83 : decode cX4_leastWithCopy 83 = .ok (.putfield 167, 3) := by decide +kernel
theorem dX4_leastWithCopy_86 : decode cX4_leastWithCopy 86 = .ok (.iinc 3 1, 3) := by decide +kernel
theorem dX4_leastWithCopy_89 : decode cX4_leastWithCopy 89 = .ok (.goto (-79), 3) := by decide +kernel
theorem dX4_leastWithCopy_92 : decode cX4_leastWithCopy 92 = .ok (.iload_n 2, 1) := by decide +kernel
theorem dX4_leastWithCopy_93 : decode cX4_leastWithCopy 93 = .ok (.ireturn, 1) := by decide +kernel
theorem dX4_copy_0 : decode cX4_copy 0 = .ok (.aload_n 0, 1) := by decide +kernel
theorem dX4_copy_1 : decode cX4_copy 1 = .ok (.getfield 13, 3) := by decide +kernel
theorem dX4_copy_4 : decode cX4_copy 4 = .ok (.iconst 0, 1) := by decide +kernel
theorem dX4_copy_5 : decode cX4_copy 5 = .ok (.iaload, 1) := by decide +kernel
theorem dX4_copy_6 : decode cX4_copy 6 = .ok (.ifCond .ne 10, 3) := by decide +kernel
theorem dX4_copy_9 : decode cX4_copy 9 = .ok (.aload_n 0, 1) := by decide +kernel
theorem dX4_copy_10 : decode cX4_copy 10 = .ok (.bipush (-3), 2) := by decide +kernel
theorem dX4_copy_12 : decode cX4_copy 12 = .ok (.invokevirtual 52, 3) := by decide +kernel
theorem dX4_copy_15 : decode cX4_copy 15 = .ok (.ireturn, 1) := by decide +kernel
theorem dX4_copy_16 : decode cX4_copy 16 = .ok (.aload_n 0, 1) := by decide +kernel
theorem dX4_copy_17 : decode cX4_copy 17 = .ok (.aload_n 0, 1) := by decide +kernel
theorem dX4_copy_18 : decode cX4_copy 18 = .ok (.invokevirtual 152, 3) := by decide +kernel
theorem dX4_copy_21 : decode cX4_copy 21 = .ok (.invokevirtual 170, 3) := by decide +kernel
theorem dX4_copy_24 : decode cX4_copy 24 = .ok (.istore_n 1, 1) := by decide +kernel
theorem dX4_copy_25 : decode cX4_copy 25 = .ok (.aload_n 0, 1) := by decide +kernel
theorem dX4_copy_26 : decode cX4_copy 26 = .ok (.getfield 167, 3) := by decide +kernel
theorem dX4_copy_29 : decode cX4_copy 29 = .ok (.ireturn, 1) := by decide +kernel
theorem dX4_isByTwo_0 : decode cX4_isByTwo 0 = .ok (.iconst 0, 1) := by decide +kernel
theorem dX4_isByTwo_1 : decode cX4_isByTwo 1 = .ok (.istore_n 2, 1) := by decide +kernel
theorem dX4_isByTwo_2 : decode cX4_isByTwo 2 = .ok (.iconst 0, 1) := by decide +kernel
theorem dX4_isByTwo_3 : decode cX4_isByTwo 3 = .ok (.istore_n 3, 1) := by decide +kernel
theorem dX4_isByTwo_4 : decode cX4_isByTwo 4 = .ok (.iload_n 3, 1) := by decide +kernel
theorem dX4_isByTwo_5 : decode cX4_isByTwo 5 = .ok (.bipush 10, 2) := by decide +kernel
theorem dX4_isByTwo_7 : decode cX4_isByTwo 7 = .ok (.aload_n 0, 1) := by decide +kernel
theorem dX4_isByTwo_8 : decode cX4_isByTwo 8 = .ok (.getfield 13, 3) := by decide +kernel
theorem dX4_isByTwo_11 : decode cX4_isByTwo 11 = .ok (.iconst 0, 1) := by decide +kernel
theorem dX4_isByTwo_12 : decode cX4_isByTwo 12 = .ok (.iaload, 1) := by decide +kernel
theorem dX4_isByTwo_13 : decode cX4_isByTwo 13 = .ok (.imul, 1) := by decide +kernel
theorem dX4_isByTwo_14 : decode cX4_isByTwo 14 = .ok (.if_icmp .ge 69, 3) := by decide +kernel
theorem dX4_isByTwo_17 : decode cX4_isByTwo 17 = .ok (.iload_n 2, 1) := by decide +kernel
theorem dX4_isByTwo_18 : decode cX4_isByTwo 18 = .ok (.ifCond .ne 65, 3) := by decide +kernel
theorem dX4_isByTwo_21 : decode cX4_isByTwo 21 = .ok (.iload_n 3, 1) := by decide +kernel
theorem dX4_isByTwo_22 : decode cX4_isByTwo 22 = .ok (.bipush 10, 2) := by decide +kernel
theorem dX4_isByTwo_24 : decode cX4_isByTwo 24 = .ok (.irem, 1) := by decide +kernel
theorem dX4_isByTwo_25 : decode cX4_isByTwo 25 = .ok (.aload_n 0, 1) := by decide +kernel
theorem dX4_isByTwo_26 : decode cX4_isByTwo 26 = .ok (.getfield 13, 3) := by decide +kernel
theorem dX4_isByTwo_29 : decode cX4_isByTwo 29 = .ok (.iconst 0, 1) := by decide +kernel
theorem dX4_isByTwo_30 : decode cX4_isByTwo 30 = .ok (.iaload, 1) := by decide +kernel
theorem dX4_isByTwo_31 : decode cX4_isByTwo 31 = .ok (.if_icmp .lt 6, 3) := by decide +kernel
theorem dX4_isByTwo_34 : decode cX4_isByTwo 34 = .ok (.goto 43, 3) := by decide +kernel
theorem dX4_isByTwo_37 : decode cX4_isByTwo 37 = .ok (.aload_n 0, 1) := by decide +kernel
theorem dX4_isByTwo_38 : decode cX4_isByTwo 38 = .ok (.iload_n 3, 1) := by decide +kernel
theorem dX4_isByTwo_39 : decode cX4_isByTwo 39 = .ok (.bipush 10, 2) := by decide +kernel
theorem dX4_isByTwo_41 : decode cX4_isByTwo 41 = .ok (.idiv, 1) := by decide +kernel
theorem dX4_isByTwo_42 : decode cX4_isByTwo 42 = .ok (.iload_n 3, 1) := by decide +kernel
theorem dX4_isByTwo_43 : decode cX4_isByTwo 43 = .ok (.bipush 10, 2) := by decide +kernel
theorem dX4_isByTwo_45 : decode cX4_isByTwo 45 = .ok (.irem, 1) := by decide +kernel
theorem dX4_isByTwo_46 : decode cX4_isByTwo 46 = .ok (.invokevirtual 109, 3) := by decide +kernel
theorem dX4_isByTwo_49 : decode cX4_isByTwo 49 = .ok (.aload_n 0, 1) := by decide +kernel
theorem dX4_isByTwo_50 : decode cX4_isByTwo 50 = .ok (.ldc 129, 2) := by decide +kernel
theorem dX4_isByTwo_52 : decode cX4_isByTwo 52 = .ok (.invokevirtual 170, 3) := by decide +kernel
theorem dX4_isByTwo_55 : decode cX4_isByTwo 55 = .ok (.iload_n 1, 1) := by decide +kernel
theorem dX4_isByTwo_56 : decode cX4_isByTwo 56 = .ok (.if_icmp .gt 7, 3) := by decide +kernel
theorem dX4_isByTwo_59 : decode cX4_isByTwo 59 = .ok (.iconst 1, 1) := by decide +kernel
theorem dX4_isByTwo_60 : decode cX4_isByTwo 60 = .ok (.goto 4, 3) := by decide +kernel
theorem dX4_isByTwo_63 : decode cX4_isByTwo 63 = .ok (.iconst 0, 1) := by decide +kernel
theorem dX4_isByTwo_64 : decode cX4_isByTwo 64 = .ok (.istore_n 2, 1) := by decide +kernel
theorem dX4_isByTwo_65 : decode cX4_isByTwo 65 = .ok (.aload_n 0, 1) := by decide +kernel
theorem dX4_isByTwo_66 : decode cX4_isByTwo 66 = .ok (.aload_n 0, 1) := by decide +kernel
theorem dX4_isByTwo_67 : decode cX4_isByTwo 67 = .ok (.getfield 13, 3) := by decide +kernel
theorem dX4_isByTwo_70 : decode cX4_isByTwo 70 = .ok (.iconst 1, 1) := by decide +kernel
theorem dX4_isByTwo_71 : decode cX4_isByTwo 71 = .ok (.iaload, 1) := by decide +kernel
theorem dX4_isByTwo_72 : decode cX4_isByTwo 72 = .ok (.iconst 1, 1) := by decide +kernel
theorem dX4_isByTwo_73 : decode cX4_isByTwo 73 = .ok (.isub, 1) := by decide +kernel
theorem dX4_isByTwo_74 : decode cX4_isByTwo 74 = .ok (.invokevirtual 113, 3) := by decide +kernel
theorem dX4_isByTwo_77 : decode cX4_isByTwo 77 = .ok (.iinc 3 1, 3) := by decide +kernel
theorem dX4_isByTwo_80 : decode cX4_isByTwo 80 = .ok (.goto (-76), 3) := by decide +kernel
theorem dX4_isByTwo_83 : decode cX4_isByTwo 83 = .ok (.iload_n 2, 1) := by decide +kernel
theorem dX4_isByTwo_84 : decode cX4_isByTwo 84 = .ok (.ireturn, 1) := by decide +kernel
theorem dX4_copies_0 : decode cX4_copies 0 = .ok (.iload_n 1, 1) := by decide +kernel
theorem dX4_copies_1 : decode cX4_copies 1 = .ok (.ifCond .ge 10, 3) := by decide +kernel
theorem dX4_copies_4 : decode cX4_copies 4 = .ok (.aload_n 0, 1) := by decide +kernel
theorem dX4_copies_5 : decode cX4_copies 5 = .ok (.bipush (-4), 2) := by decide +kernel
theorem dX4_copies_7 : decode cX4_copies 7 = .ok (.invokevirtual 52, 3) := by decide +kernel
theorem dX4_copies_10 : decode cX4_copies 10 = .ok (.ireturn, 1) := by decide +kernel
theorem dX4_copies_11 : decode cX4_copies 11 = .ok (.aload_n 0, 1) := by decide +kernel
theorem dX4_copies_12 : decode cX4_copies 12 = .ok (.invokevirtual 152, 3) := by decide +kernel
theorem dX4_copies_15 : decode cX4_copies 15 = .ok (.istore_n 2, 1) := by decide +kernel
theorem dX4_copies_16 : decode cX4_copies 16 = .ok (.iload_n 2, 1) := by decide +kernel
theorem dX4_copies_17 : decode cX4_copies 17 = .ok (.ldc 129, 2) := by decide +kernel
theorem dX4_copies_19 : decode cX4_copies 19 = .ok (.if_icmp .ge 10, 3) := by decide +kernel
theorem dX4_copies_22 : decode cX4_copies 22 = .ok (.iload_n 2, 1) := by decide +kernel
theorem dX4_copies_23 : decode cX4_copies 23 = .ok (.iload_n 1, 1) := by decide +kernel
theorem dX4_copies_24 : decode cX4_copies 24 = .ok (.if_icmp .gt 5, 3) := by decide +kernel
theorem dX4_copies_27 : decode cX4_copies 27 = .ok (.iconst 0, 1) := by decide +kernel
theorem dX4_copies_28 : decode cX4_copies 28 = .ok (.ireturn, 1) := by decide +kernel
theorem dX4_copies_29 : decode cX4_copies 29 = .ok (.aload_n 0, 1) := by decide +kernel
theorem dX4_copies_30 : decode cX4_copies 30 = .ok (.ldc 129, 2) := by decide +kernel
theorem dX4_copies_32 : decode cX4_copies 32 = .ok (.invokevirtual 170, 3) := by decide +kernel
theorem dX4_copies_35 : decode cX4_copies 35 = .ok (.istore_n 3, 1) := by decide +kernel
theorem dX4_copies_36 : decode cX4_copies 36 = .ok (.iload_n 3, 1) := by decide +kernel
theorem dX4_copies_37 : decode cX4_copies 37 = .ok (.ldc 129, 2) := by decide +kernel
theorem dX4_copies_39 : decode cX4_copies 39 = .ok (.if_icmp .ge 10, 3) := by decide +kernel
theorem dX4_copies_42 : decode cX4_copies 42 = .ok (.iload_n 3, 1) := by decide +kernel
theorem dX4_copies_43 : decode cX4_copies 43 = .ok (.iload_n 1, 1) := by decide +kernel
theorem dX4_copies_44 : decode cX4_copies 44 = .ok (.if_icmp .gt 5, 3) := by decide +kernel
theorem dX4_copies_47 : decode cX4_copies 47 = .ok (.iconst 1, 1) := by decide +kernel
theorem dX4_copies_48 : decode cX4_copies 48 = .ok (.ireturn, 1) := by decide +kernel
theorem dX4_copies_49 : decode cX4_copies 49 = .ok (.aload_n 0, 1) := by decide +kernel
theorem dX4_copies_50 : decode cX4_copies 50 = .ok (.iload_n 1, 1) := by decide +kernel
theorem dX4_copies_51 : decode cX4_copies 51 = .ok (.ldc 129, 2) := by decide +kernel
theorem dX4_copies_53 : decode cX4_copies 53 = .ok (.if_icmp .ge 7, 3) := by decide +kernel
theorem dX4_copies_56 : decode cX4_copies 56 = .ok (.iload_n 1, 1) := by decide +kernel
theorem dX4_copies_57 : decode cX4_copies 57 = .ok (.goto 5, 3) := by decide +kernel
theorem dX4_copies_60 : decode cX4_copies 60 = .ok (.ldc 173, 2) := by decide +kernel
theorem dX4_copies_62 : decode cX4_copies 62 = .ok (.invokevirtual 174, 3) := by decide +kernel
theorem dX4_copies_65 : decode cX4_copies 65 = .ok (.ifCond .eq 7, 3) := by decide +kernel
theorem dX4_copies_68 : decode cX4_copies 68 = .ok (.iconst 2, 1) := by decide +kernel
theorem dX4_copies_69 : decode cX4_copies 69 = .ok (.goto 5, 3) := by decide +kernel
theorem dX4_copies_72 : decode cX4_copies 72 = .ok (.bipush (-9), 2) := by decide +kernel
theorem dX4_copies_74 : decode cX4_copies 74 = .ok (.ireturn, 1) := by decide +kernel
theorem dX4_ringsNow_0 : decode cX4_ringsNow 0 = .ok (.iconst 0, 1) := by decide +kernel
theorem dX4_ringsNow_1 : decode cX4_ringsNow 1 = .ok (.istore_n 1, 1) := by decide +kernel
theorem dX4_ringsNow_2 : decode cX4_ringsNow 2 = .ok (.iconst 0, 1) := by decide +kernel
theorem dX4_ringsNow_3 : decode cX4_ringsNow 3 = .ok (.istore_n 2, 1) := by decide +kernel
theorem dX4_ringsNow_4 : decode cX4_ringsNow 4 = .ok (.iconst 0, 1) := by decide +kernel
theorem dX4_ringsNow_5 : decode cX4_ringsNow 5 = .ok (.istore_n 3, 1) := by decide +kernel
theorem dX4_ringsNow_6 : decode cX4_ringsNow 6 = .ok (.iload_n 3, 1) := by decide +kernel
theorem dX4_ringsNow_7 : decode cX4_ringsNow 7 = .ok (.aload_n 0, 1) := by decide +kernel
theorem dX4_ringsNow_8 : decode cX4_ringsNow 8 = .ok (.getfield 13, 3) := by decide +kernel
theorem dX4_ringsNow_11 : decode cX4_ringsNow 11 = .ok (.iconst 1, 1) := by decide +kernel
theorem dX4_ringsNow_12 : decode cX4_ringsNow 12 = .ok (.iaload, 1) := by decide +kernel
theorem dX4_ringsNow_13 : decode cX4_ringsNow 13 = .ok (.if_icmp .ge 29, 3) := by decide +kernel
theorem dX4_ringsNow_16 : decode cX4_ringsNow 16 = .ok (.iload_n 1, 1) := by decide +kernel
theorem dX4_ringsNow_17 : decode cX4_ringsNow 17 = .ok (.iconst 1, 1) := by decide +kernel
theorem dX4_ringsNow_18 : decode cX4_ringsNow 18 = .ok (.aload_n 0, 1) := by decide +kernel
theorem dX4_ringsNow_19 : decode cX4_ringsNow 19 = .ok (.iload_n 3, 1) := by decide +kernel
theorem dX4_ringsNow_20 : decode cX4_ringsNow 20 = .ok (.invokevirtual 120, 3) := by decide +kernel
theorem dX4_ringsNow_23 : decode cX4_ringsNow 23 = .ok (.ishl, 1) := by decide +kernel
theorem dX4_ringsNow_24 : decode cX4_ringsNow 24 = .ok (.ior, 1) := by decide +kernel
theorem dX4_ringsNow_25 : decode cX4_ringsNow 25 = .ok (.istore_n 1, 1) := by decide +kernel
theorem dX4_ringsNow_26 : decode cX4_ringsNow 26 = .ok (.iload_n 2, 1) := by decide +kernel
theorem dX4_ringsNow_27 : decode cX4_ringsNow 27 = .ok (.iconst 1, 1) := by decide +kernel
theorem dX4_ringsNow_28 : decode cX4_ringsNow 28 = .ok (.aload_n 0, 1) := by decide +kernel
theorem dX4_ringsNow_29 : decode cX4_ringsNow 29 = .ok (.iload_n 3, 1) := by decide +kernel
theorem dX4_ringsNow_30 : decode cX4_ringsNow 30 = .ok (.invokevirtual 106, 3) := by decide +kernel
theorem dX4_ringsNow_33 : decode cX4_ringsNow 33 = .ok (.ishl, 1) := by decide +kernel
theorem dX4_ringsNow_34 : decode cX4_ringsNow 34 = .ok (.ior, 1) := by decide +kernel
theorem dX4_ringsNow_35 : decode cX4_ringsNow 35 = .ok (.istore_n 2, 1) := by decide +kernel
theorem dX4_ringsNow_36 : decode cX4_ringsNow 36 = .ok (.iinc 3 1, 3) := by decide +kernel
theorem dX4_ringsNow_39 : decode cX4_ringsNow 39 = .ok (.goto (-33), 3) := by decide +kernel
theorem dX4_ringsNow_42 : decode cX4_ringsNow 42 = .ok (.aload_n 0, 1) := by decide +kernel
theorem dX4_ringsNow_43 : decode cX4_ringsNow 43 = .ok (.getfield 13, 3) := by decide +kernel
theorem dX4_ringsNow_46 : decode cX4_ringsNow 46 = .ok (.iconst 1, 1) := by decide +kernel
theorem dX4_ringsNow_47 : decode cX4_ringsNow 47 = .ok (.iaload, 1) := by decide +kernel
theorem dX4_ringsNow_48 : decode cX4_ringsNow 48 = .ok (.aload_n 0, 1) := by decide +kernel
theorem dX4_ringsNow_49 : decode cX4_ringsNow 49 = .ok (.getfield 13, 3) := by decide +kernel
theorem dX4_ringsNow_52 : decode cX4_ringsNow 52 = .ok (.iconst 0, 1) := by decide +kernel
theorem dX4_ringsNow_53 : decode cX4_ringsNow 53 = .ok (.iaload, 1) := by decide +kernel
theorem dX4_ringsNow_54 : decode cX4_ringsNow 54 = .ok (.if_icmp .ne 19, 3) := by decide +kernel
theorem dX4_ringsNow_57 : decode cX4_ringsNow 57 = .ok (.iload_n 1, 1) := by decide +kernel
theorem dX4_ringsNow_58 : decode cX4_ringsNow 58 = .ok (.aload_n 0, 1) := by decide +kernel
theorem dX4_ringsNow_59 : decode cX4_ringsNow 59 = .ok (.invokevirtual 117, 3) := by decide +kernel
theorem dX4_ringsNow_62 : decode cX4_ringsNow 62 = .ok (.if_icmp .ne 11, 3) := by decide +kernel
theorem dX4_ringsNow_65 : decode cX4_ringsNow 65 = .ok (.iload_n 2, 1) := by decide +kernel
theorem dX4_ringsNow_66 : decode cX4_ringsNow 66 = .ok (.aload_n 0, 1) := by decide +kernel
theorem dX4_ringsNow_67 : decode cX4_ringsNow 67 = .ok (.invokevirtual 117, 3) := by decide +kernel
theorem dX4_ringsNow_70 : decode cX4_ringsNow 70 = .ok (.if_icmp .eq 6, 3) := by decide +kernel
theorem dX4_ringsNow_73 : decode cX4_ringsNow 73 = .ok (.bipush (-9), 2) := by decide +kernel
theorem dX4_ringsNow_75 : decode cX4_ringsNow 75 = .ok (.ireturn, 1) := by decide +kernel
theorem dX4_ringsNow_76 : decode cX4_ringsNow 76 = .ok (.iconst 0, 1) := by decide +kernel
theorem dX4_ringsNow_77 : decode cX4_ringsNow 77 = .ok (.istore_n 3, 1) := by decide +kernel
theorem dX4_ringsNow_78 : decode cX4_ringsNow 78 = .ok (.iconst 0, 1) := by decide +kernel
theorem dX4_ringsNow_79 : decode cX4_ringsNow 79 = .ok (.istore 4, 2) := by decide +kernel
theorem dX4_ringsNow_81 : decode cX4_ringsNow 81 = .ok (.iconst 0, 1) := by decide +kernel
theorem dX4_ringsNow_82 : decode cX4_ringsNow 82 = .ok (.istore 5, 2) := by decide +kernel
theorem dX4_ringsNow_84 : decode cX4_ringsNow 84 = .ok (.iload 5, 2) := by decide +kernel
theorem dX4_ringsNow_86 : decode cX4_ringsNow 86 = .ok (.aload_n 0, 1) := by decide +kernel
theorem dX4_ringsNow_87 : decode cX4_ringsNow 87 = .ok (.getfield 13, 3) := by decide +kernel
theorem dX4_ringsNow_90 : decode cX4_ringsNow 90 = .ok (.iconst 0, 1) := by decide +kernel
theorem dX4_ringsNow_91 : decode cX4_ringsNow 91 = .ok (.iaload, 1) := by decide +kernel
theorem dX4_ringsNow_92 : decode cX4_ringsNow 92 = .ok (.if_icmp .ge 60, 3) := by decide +kernel
theorem dX4_ringsNow_95 : decode cX4_ringsNow 95 = .ok (.iload 4, 2) := by decide +kernel
theorem dX4_ringsNow_97 : decode cX4_ringsNow 97 = .ok (.iload 5, 2) := by decide +kernel
theorem dX4_ringsNow_99 : decode cX4_ringsNow 99 = .ok (.ishr, 1) := by decide +kernel
theorem dX4_ringsNow_100 : decode cX4_ringsNow 100 = .ok (.iconst 1, 1) := by decide +kernel
theorem dX4_ringsNow_101 : decode cX4_ringsNow 101 = .ok (.iand, 1) := by decide +kernel
theorem dX4_ringsNow_102 : decode cX4_ringsNow 102 = .ok (.iconst 1, 1) := by decide +kernel
theorem dX4_ringsNow_103 : decode cX4_ringsNow 103 = .ok (.if_icmp .ne 6, 3) := by decide +kernel
theorem dX4_ringsNow_106 : decode cX4_ringsNow 106 = .ok (.goto 40, 3) := by decide +kernel
theorem dX4_ringsNow_109 : decode cX4_ringsNow 109 = .ok (.iinc 3 1, 3) := by decide +kernel
theorem dX4_ringsNow_112 : decode cX4_ringsNow 112 = .ok (.iload 5, 2) := by decide +kernel
theorem dX4_ringsNow_114 : decode cX4_ringsNow 114 = .ok (.istore 6, 2) := by decide +kernel
theorem dX4_ringsNow_116 : decode cX4_ringsNow 116 = .ok (.iload 4, 2) := by decide +kernel
theorem dX4_ringsNow_118 : decode cX4_ringsNow 118 = .ok (.iload 6, 2) := by decide +kernel
theorem dX4_ringsNow_120 : decode cX4_ringsNow 120 = .ok (.ishr, 1) := by decide +kernel
theorem dX4_ringsNow_121 : decode cX4_ringsNow 121 = .ok (.iconst 1, 1) := by decide +kernel
theorem dX4_ringsNow_122 : decode cX4_ringsNow 122 = .ok (.iand, 1) := by decide +kernel
theorem dX4_ringsNow_123 : decode cX4_ringsNow 123 = .ok (.ifCond .ne 23, 3) := by decide +kernel
theorem dX4_ringsNow_126 : decode cX4_ringsNow 126 = .ok (.iload 4, 2) := by decide +kernel
theorem dX4_ringsNow_128 : decode cX4_ringsNow 128 = .ok (.iconst 1, 1) := by decide +kernel
theorem dX4_ringsNow_129 : decode cX4_ringsNow 129 = .ok (.iload 6, 2) := by decide +kernel
theorem dX4_ringsNow_131 : decode cX4_ringsNow 131 = .ok (.ishl, 1) := by decide +kernel
theorem dX4_ringsNow_132 : decode cX4_ringsNow 132 = .ok (.ior, 1) := by decide +kernel
theorem dX4_ringsNow_133 : decode cX4_ringsNow 133 = .ok (.istore 4, 2) := by decide +kernel
theorem dX4_ringsNow_135 : decode cX4_ringsNow 135 = .ok (.aload_n 0, 1) := by decide +kernel
theorem dX4_ringsNow_136 : decode cX4_ringsNow 136 = .ok (.iload 6, 2) := by decide +kernel
theorem dX4_ringsNow_138 : decode cX4_ringsNow 138 = .ok (.invokevirtual 177, 3) := by decide +kernel
theorem dX4_ringsNow_141 : decode cX4_ringsNow 141 = .ok (.istore 6, 2) := by decide +kernel
theorem dX4_ringsNow_143 : decode cX4_ringsNow 143 = .ok (.goto (-27), 3) := by decide +kernel
theorem dX4_ringsNow_146 : decode cX4_ringsNow 146 = .ok (.iinc 5 1, 3) := by decide +kernel
theorem dX4_ringsNow_149 : decode cX4_ringsNow 149 = .ok (.goto (-65), 3) := by decide +kernel
theorem dX4_ringsNow_152 : decode cX4_ringsNow 152 = .ok (.iload_n 3, 1) := by decide +kernel
theorem dX4_ringsNow_153 : decode cX4_ringsNow 153 = .ok (.ireturn, 1) := by decide +kernel
theorem dX4_heldBy_0 : decode cX4_heldBy 0 = .ok (.iconst 0, 1) := by decide +kernel
theorem dX4_heldBy_1 : decode cX4_heldBy 1 = .ok (.istore_n 2, 1) := by decide +kernel
theorem dX4_heldBy_2 : decode cX4_heldBy 2 = .ok (.aload_n 0, 1) := by decide +kernel
theorem dX4_heldBy_3 : decode cX4_heldBy 3 = .ok (.iload_n 2, 1) := by decide +kernel
theorem dX4_heldBy_4 : decode cX4_heldBy 4 = .ok (.invokevirtual 106, 3) := by decide +kernel
theorem dX4_heldBy_7 : decode cX4_heldBy 7 = .ok (.iload_n 1, 1) := by decide +kernel
theorem dX4_heldBy_8 : decode cX4_heldBy 8 = .ok (.if_icmp .eq 9, 3) := by decide +kernel
theorem dX4_heldBy_11 : decode cX4_heldBy 11 = .ok (.iinc 2 1, 3) := by decide +kernel
theorem dX4_heldBy_14 : decode cX4_heldBy 14 = .ok (.goto (-12), 3) := by decide +kernel
theorem dX4_heldBy_17 : decode cX4_heldBy 17 = .ok (.aload_n 0, 1) := by decide +kernel
theorem dX4_heldBy_18 : decode cX4_heldBy 18 = .ok (.iload_n 2, 1) := by decide +kernel
theorem dX4_heldBy_19 : decode cX4_heldBy 19 = .ok (.invokevirtual 120, 3) := by decide +kernel
theorem dX4_heldBy_22 : decode cX4_heldBy 22 = .ok (.ireturn, 1) := by decide +kernel
theorem dX4_rings_0 : decode cX4_rings 0 = .ok (.aload_n 0, 1) := by decide +kernel
theorem dX4_rings_1 : decode cX4_rings 1 = .ok (.invokevirtual 180, 3) := by decide +kernel
theorem dX4_rings_4 : decode cX4_rings 4 = .ok (.ireturn, 1) := by decide +kernel
theorem dX4_changes_0 : decode cX4_changes 0 = .ok (.aload_n 0, 1) := by decide +kernel
theorem dX4_changes_1 : decode cX4_changes 1 = .ok (.iload_n 1, 1) := by decide +kernel
theorem dX4_changes_2 : decode cX4_changes 2 = .ok (.invokevirtual 106, 3) := by decide +kernel
theorem dX4_changes_5 : decode cX4_changes 5 = .ok (.istore_n 3, 1) := by decide +kernel
theorem dX4_changes_6 : decode cX4_changes 6 = .ok (.aload_n 0, 1) := by decide +kernel
theorem dX4_changes_7 : decode cX4_changes 7 = .ok (.getfield 13, 3) := by decide +kernel
theorem dX4_changes_10 : decode cX4_changes 10 = .ok (.bipush 40, 2) := by decide +kernel
theorem dX4_changes_12 : decode cX4_changes 12 = .ok (.iconst 2, 1) := by decide +kernel
theorem dX4_changes_13 : decode cX4_changes 13 = .ok (.iload_n 1, 1) := by decide +kernel
theorem dX4_changes_14 : decode cX4_changes 14 = .ok (.imul, 1) := by decide +kernel
theorem dX4_changes_15 : decode cX4_changes 15 = .ok (.iadd, 1) := by decide +kernel
theorem dX4_changes_16 : decode cX4_changes 16 = .ok (.iconst 1, 1) := by decide +kernel
theorem dX4_changes_17 : decode cX4_changes 17 = .ok (.iadd, 1) := by decide +kernel
theorem dX4_changes_18 : decode cX4_changes 18 = .ok (.aload_n 0, 1) := by decide +kernel
theorem dX4_changes_19 : decode cX4_changes 19 = .ok (.iload_n 2, 1) := by decide +kernel
theorem dX4_changes_20 : decode cX4_changes 20 = .ok (.invokevirtual 106, 3) := by decide +kernel
theorem dX4_changes_23 : decode cX4_changes 23 = .ok (.iastore, 1) := by decide +kernel
theorem dX4_changes_24 : decode cX4_changes 24 = .ok (.aload_n 0, 1) := by decide +kernel
theorem dX4_changes_25 : decode cX4_changes 25 = .ok (.getfield 13, 3) := by decide +kernel
theorem dX4_changes_28 : decode cX4_changes 28 = .ok (.bipush 40, 2) := by decide +kernel
theorem dX4_changes_30 : decode cX4_changes 30 = .ok (.iconst 2, 1) := by decide +kernel
theorem dX4_changes_31 : decode cX4_changes 31 = .ok (.iload_n 2, 1) := by decide +kernel
theorem dX4_changes_32 : decode cX4_changes 32 = .ok (.imul, 1) := by decide +kernel
theorem dX4_changes_33 : decode cX4_changes 33 = .ok (.iadd, 1) := by decide +kernel
theorem dX4_changes_34 : decode cX4_changes 34 = .ok (.iconst 1, 1) := by decide +kernel
theorem dX4_changes_35 : decode cX4_changes 35 = .ok (.iadd, 1) := by decide +kernel
theorem dX4_changes_36 : decode cX4_changes 36 = .ok (.iload_n 3, 1) := by decide +kernel
theorem dX4_changes_37 : decode cX4_changes 37 = .ok (.iastore, 1) := by decide +kernel
theorem dX4_changes_38 : decode cX4_changes 38 = .ok (.return_, 1) := by decide +kernel
theorem dX4_swap_0 : decode cX4_swap 0 = .ok (.aload_n 0, 1) := by decide +kernel
theorem dX4_swap_1 : decode cX4_swap 1 = .ok (.invokevirtual 180, 3) := by decide +kernel
theorem dX4_swap_4 : decode cX4_swap 4 = .ok (.istore_n 1, 1) := by decide +kernel
theorem dX4_swap_5 : decode cX4_swap 5 = .ok (.iconst 0, 1) := by decide +kernel
theorem dX4_swap_6 : decode cX4_swap 6 = .ok (.istore_n 2, 1) := by decide +kernel
theorem dX4_swap_7 : decode cX4_swap 7 = .ok (.iload_n 2, 1) := by decide +kernel
theorem dX4_swap_8 : decode cX4_swap 8 = .ok (.aload_n 0, 1) := by decide +kernel
theorem dX4_swap_9 : decode cX4_swap 9 = .ok (.getfield 13, 3) := by decide +kernel
theorem dX4_swap_12 : decode cX4_swap 12 = .ok (.iconst 1, 1) := by decide +kernel
theorem dX4_swap_13 : decode cX4_swap 13 = .ok (.iaload, 1) := by decide +kernel
theorem dX4_swap_14 : decode cX4_swap 14 = .ok (.if_icmp .ge 69, 3) := by decide +kernel
theorem dX4_swap_17 : decode cX4_swap 17 = .ok (.iload_n 1, 1) := by decide +kernel
theorem dX4_swap_18 : decode cX4_swap 18 = .ok (.ifCond .lt 65, 3) := by decide +kernel
theorem dX4_swap_21 : decode cX4_swap 21 = .ok (.iload_n 2, 1) := by decide +kernel
theorem dX4_swap_22 : decode cX4_swap 22 = .ok (.iconst 1, 1) := by decide +kernel
theorem dX4_swap_23 : decode cX4_swap 23 = .ok (.iadd, 1) := by decide +kernel
theorem dX4_swap_24 : decode cX4_swap 24 = .ok (.istore_n 3, 1) := by decide +kernel
theorem dX4_swap_25 : decode cX4_swap 25 = .ok (.iload_n 3, 1) := by decide +kernel
theorem dX4_swap_26 : decode cX4_swap 26 = .ok (.aload_n 0, 1) := by decide +kernel
theorem dX4_swap_27 : decode cX4_swap 27 = .ok (.getfield 13, 3) := by decide +kernel
theorem dX4_swap_30 : decode cX4_swap 30 = .ok (.iconst 1, 1) := by decide +kernel
theorem dX4_swap_31 : decode cX4_swap 31 = .ok (.iaload, 1) := by decide +kernel
theorem dX4_swap_32 : decode cX4_swap 32 = .ok (.if_icmp .ge 45, 3) := by decide +kernel
theorem dX4_swap_35 : decode cX4_swap 35 = .ok (.aload_n 0, 1) := by decide +kernel
theorem dX4_swap_36 : decode cX4_swap 36 = .ok (.iload_n 2, 1) := by decide +kernel
theorem dX4_swap_37 : decode cX4_swap 37 = .ok (.iload_n 3, 1) := by decide +kernel
theorem dX4_swap_38 : decode cX4_swap 38 = .ok (.invokevirtual 183, 3) := by decide +kernel
theorem dX4_swap_41 : decode cX4_swap 41 = .ok (.aload_n 0, 1) := by decide +kernel
theorem dX4_swap_42 : decode cX4_swap 42 = .ok (.invokevirtual 180, 3) := by decide +kernel
theorem dX4_swap_45 : decode cX4_swap 45 = .ok (.istore 4, 2) := by decide +kernel
theorem dX4_swap_47 : decode cX4_swap 47 = .ok (.aload_n 0, 1) := by decide +kernel
theorem dX4_swap_48 : decode cX4_swap 48 = .ok (.iload_n 2, 1) := by decide +kernel
theorem dX4_swap_49 : decode cX4_swap 49 = .ok (.iload_n 3, 1) := by decide +kernel
theorem dX4_swap_50 : decode cX4_swap 50 = .ok (.invokevirtual 183, 3) := by decide +kernel
theorem dX4_swap_53 : decode cX4_swap 53 = .ok (.iload 4, 2) := by decide +kernel
theorem dX4_swap_55 : decode cX4_swap 55 = .ok (.ifCond .lt 16, 3) := by decide +kernel
theorem dX4_swap_58 : decode cX4_swap 58 = .ok (.iload 4, 2) := by decide +kernel
theorem dX4_swap_60 : decode cX4_swap 60 = .ok (.iload_n 1, 1) := by decide +kernel
theorem dX4_swap_61 : decode cX4_swap 61 = .ok (.if_icmp .ge 10, 3) := by decide +kernel
theorem dX4_swap_64 : decode cX4_swap 64 = .ok (.bipush 10, 2) := by decide +kernel
theorem dX4_swap_66 : decode cX4_swap 66 = .ok (.iload_n 2, 1) := by decide +kernel
theorem dX4_swap_67 : decode cX4_swap 67 = .ok (.imul, 1) := by decide +kernel
theorem dX4_swap_68 : decode cX4_swap 68 = .ok (.iload_n 3, 1) := by decide +kernel
theorem dX4_swap_69 : decode cX4_swap 69 = .ok (.iadd, 1) := by decide +kernel
theorem dX4_swap_70 : decode cX4_swap 70 = .ok (.ireturn, 1) := by decide +kernel
theorem dX4_swap_71 : decode cX4_swap 71 = .ok (.iinc 3 1, 3) := by decide +kernel
theorem dX4_swap_74 : decode cX4_swap 74 = .ok (.goto (-49), 3) := by decide +kernel
theorem dX4_swap_77 : decode cX4_swap 77 = .ok (.iinc 2 1, 3) := by decide +kernel
theorem dX4_swap_80 : decode cX4_swap 80 = .ok (.goto (-73), 3) := by decide +kernel
theorem dX4_swap_83 : decode cX4_swap 83 = .ok (.bipush (-9), 2) := by decide +kernel
theorem dX4_swap_85 : decode cX4_swap 85 = .ok (.ireturn, 1) := by decide +kernel
theorem dX4_neverOut_0 : decode cX4_neverOut 0 = .ok (.aload_n 0, 1) := by decide +kernel
theorem dX4_neverOut_1 : decode cX4_neverOut 1 = .ok (.invokevirtual 146, 3) := by decide +kernel
theorem dX4_neverOut_4 : decode cX4_neverOut 4 = .ok (.iconst 0, 1) := by decide +kernel
theorem dX4_neverOut_5 : decode cX4_neverOut 5 = .ok (.istore_n 1, 1) := by decide +kernel
theorem dX4_neverOut_6 : decode cX4_neverOut 6 = .ok (.iconst 0, 1) := by decide +kernel
theorem dX4_neverOut_7 : decode cX4_neverOut 7 = .ok (.istore_n 2, 1) := by decide +kernel
theorem dX4_neverOut_8 : decode cX4_neverOut 8 = .ok (.iload_n 2, 1) := by decide +kernel
theorem dX4_neverOut_9 : decode cX4_neverOut 9 = .ok (.aload_n 0, 1) := by decide +kernel
theorem dX4_neverOut_10 : decode cX4_neverOut 10 = .ok (.getfield 13, 3) := by decide +kernel
theorem dX4_neverOut_13 : decode cX4_neverOut 13 = .ok (.iconst 0, 1) := by decide +kernel
theorem dX4_neverOut_14 : decode cX4_neverOut 14 = .ok (.iaload, 1) := by decide +kernel
theorem dX4_neverOut_15 : decode cX4_neverOut 15 = .ok (.if_icmp .ge 30, 3) := by decide +kernel
theorem dX4_neverOut_18 : decode cX4_neverOut 18 = .ok (.iload_n 1, 1) := by decide +kernel
theorem dX4_neverOut_19 : decode cX4_neverOut 19 = .ok (.aload_n 0, 1) := by decide +kernel
theorem dX4_neverOut_20 : decode cX4_neverOut 20 = .ok (.getfield 28, 3) := by decide +kernel
theorem dX4_neverOut_23 : decode cX4_neverOut 23 = .ok (.iload_n 2, 1) := by decide +kernel
theorem dX4_neverOut_24 : decode cX4_neverOut 24 = .ok (.iaload, 1) := by decide +kernel
theorem dX4_neverOut_25 : decode cX4_neverOut 25 = .ok (.ldc 129, 2) := by decide +kernel
theorem dX4_neverOut_27 : decode cX4_neverOut 27 = .ok (.if_icmp .ne 9, 3) := by decide +kernel
theorem dX4_neverOut_30 : decode cX4_neverOut 30 = .ok (.iconst 1, 1) := by decide +kernel
theorem dX4_neverOut_31 : decode cX4_neverOut 31 = .ok (.iload_n 2, 1) := by decide +kernel
theorem dX4_neverOut_32 : decode cX4_neverOut 32 = .ok (.ishl, 1) := by decide +kernel
theorem dX4_neverOut_33 : decode cX4_neverOut 33 = .ok (.goto 4, 3) := by decide +kernel
theorem dX4_neverOut_36 : decode cX4_neverOut 36 = .ok (.iconst 0, 1) := by decide +kernel
theorem dX4_neverOut_37 : decode cX4_neverOut 37 = .ok (.ior, 1) := by decide +kernel
theorem dX4_neverOut_38 : decode cX4_neverOut 38 = .ok (.istore_n 1, 1) := by decide +kernel
theorem dX4_neverOut_39 : decode cX4_neverOut 39 = .ok (.iinc 2 1, 3) := by decide +kernel
theorem dX4_neverOut_42 : decode cX4_neverOut 42 = .ok (.goto (-34), 3) := by decide +kernel
theorem dX4_neverOut_45 : decode cX4_neverOut 45 = .ok (.iload_n 1, 1) := by decide +kernel
theorem dX4_neverOut_46 : decode cX4_neverOut 46 = .ok (.ireturn, 1) := by decide +kernel
theorem dX4_gone_0 : decode cX4_gone 0 = .ok (.aload_n 0, 1) := by decide +kernel
theorem dX4_gone_1 : decode cX4_gone 1 = .ok (.iload_n 1, 1) := by decide +kernel
theorem dX4_gone_2 : decode cX4_gone 2 = .ok (.invokevirtual 103, 3) := by decide +kernel
theorem dX4_gone_5 : decode cX4_gone 5 = .ok (.ifCond .ne 9, 3) := by decide +kernel
theorem dX4_gone_8 : decode cX4_gone 8 = .ok (.aload_n 0, 1) := by decide +kernel
theorem dX4_gone_9 : decode cX4_gone 9 = .ok (.iconst (-1), 1) := by decide +kernel
theorem dX4_gone_10 : decode cX4_gone 10 = .ok (.invokevirtual 52, 3) := by decide +kernel
theorem dX4_gone_13 : decode cX4_gone 13 = .ok (.ireturn, 1) := by decide +kernel
theorem dX4_gone_14 : decode cX4_gone 14 = .ok (.aload_n 0, 1) := by decide +kernel
theorem dX4_gone_15 : decode cX4_gone 15 = .ok (.invokevirtual 186, 3) := by decide +kernel
theorem dX4_gone_18 : decode cX4_gone 18 = .ok (.istore_n 2, 1) := by decide +kernel
theorem dX4_gone_19 : decode cX4_gone 19 = .ok (.aload_n 0, 1) := by decide +kernel
theorem dX4_gone_20 : decode cX4_gone 20 = .ok (.getfield 13, 3) := by decide +kernel
theorem dX4_gone_23 : decode cX4_gone 23 = .ok (.aload_n 0, 1) := by decide +kernel
theorem dX4_gone_24 : decode cX4_gone 24 = .ok (.getfield 34, 3) := by decide +kernel
theorem dX4_gone_27 : decode cX4_gone 27 = .ok (.invokestatic 80, 3) := by decide +kernel
theorem dX4_gone_30 : decode cX4_gone 30 = .ok (.aload_n 0, 1) := by decide +kernel
theorem dX4_gone_31 : decode cX4_gone 31 = .ok (.iload_n 1, 1) := by decide +kernel
theorem dX4_gone_32 : decode cX4_gone 32 = .ok (.invokevirtual 113, 3) := by decide +kernel
theorem dX4_gone_35 : decode cX4_gone 35 = .ok (.aload_n 0, 1) := by decide +kernel
theorem dX4_gone_36 : decode cX4_gone 36 = .ok (.invokevirtual 186, 3) := by decide +kernel
theorem dX4_gone_39 : decode cX4_gone 39 = .ok (.istore_n 3, 1) := by decide +kernel
theorem dX4_gone_40 : decode cX4_gone 40 = .ok (.aload_n 0, 1) := by decide +kernel
theorem dX4_gone_41 : decode cX4_gone 41 = .ok (.getfield 34, 3) := by decide +kernel
theorem dX4_gone_44 : decode cX4_gone 44 = .ok (.aload_n 0, 1) := by decide +kernel
theorem dX4_gone_45 : decode cX4_gone 45 = .ok (.getfield 13, 3) := by decide +kernel
theorem dX4_gone_48 : decode cX4_gone 48 = .ok (.invokestatic 80, 3) := by decide +kernel
theorem dX4_gone_51 : decode cX4_gone 51 = .ok (.iload_n 3, 1) := by decide +kernel
theorem dX4_gone_52 : decode cX4_gone 52 = .ok (.iload_n 2, 1) := by decide +kernel
theorem dX4_gone_53 : decode cX4_gone 53 = .ok (.iconst (-1), 1) := by decide +kernel
theorem dX4_gone_54 : decode cX4_gone 54 = .ok (.ixor, 1) := by decide +kernel
theorem dX4_gone_55 : decode cX4_gone 55 = .ok (.iand, 1) := by decide +kernel
theorem dX4_gone_56 : decode cX4_gone 56 = .ok (.ireturn, 1) := by decide +kernel
theorem dX4_costOf_0 : decode cX4_costOf 0 = .ok (.iconst 0, 1) := by decide +kernel
theorem dX4_costOf_1 : decode cX4_costOf 1 = .ok (.istore_n 2, 1) := by decide +kernel
theorem dX4_costOf_2 : decode cX4_costOf 2 = .ok (.iconst 0, 1) := by decide +kernel
theorem dX4_costOf_3 : decode cX4_costOf 3 = .ok (.istore_n 3, 1) := by decide +kernel
theorem dX4_costOf_4 : decode cX4_costOf 4 = .ok (.iload_n 3, 1) := by decide +kernel
theorem dX4_costOf_5 : decode cX4_costOf 5 = .ok (.aload_n 0, 1) := by decide +kernel
theorem dX4_costOf_6 : decode cX4_costOf 6 = .ok (.getfield 13, 3) := by decide +kernel
theorem dX4_costOf_9 : decode cX4_costOf 9 = .ok (.iconst 0, 1) := by decide +kernel
theorem dX4_costOf_10 : decode cX4_costOf 10 = .ok (.iaload, 1) := by decide +kernel
theorem dX4_costOf_11 : decode cX4_costOf 11 = .ok (.if_icmp .ge 24, 3) := by decide +kernel
theorem dX4_costOf_14 : decode cX4_costOf 14 = .ok (.iload_n 2, 1) := by decide +kernel
theorem dX4_costOf_15 : decode cX4_costOf 15 = .ok (.iload_n 1, 1) := by decide +kernel
theorem dX4_costOf_16 : decode cX4_costOf 16 = .ok (.iload_n 3, 1) := by decide +kernel
theorem dX4_costOf_17 : decode cX4_costOf 17 = .ok (.ishr, 1) := by decide +kernel
theorem dX4_costOf_18 : decode cX4_costOf 18 = .ok (.iconst 1, 1) := by decide +kernel
theorem dX4_costOf_19 : decode cX4_costOf 19 = .ok (.iand, 1) := by decide +kernel
theorem dX4_costOf_20 : decode cX4_costOf 20 = .ok (.aload_n 0, 1) := by decide +kernel
theorem dX4_costOf_21 : decode cX4_costOf 21 = .ok (.iload_n 3, 1) := by decide +kernel
theorem dX4_costOf_22 : decode cX4_costOf 22 = .ok (.iconst 4, 1) := by decide +kernel
theorem dX4_costOf_23 : decode cX4_costOf 23 = .ok (.invokevirtual 90, 3) := by decide +kernel
theorem dX4_costOf_26 : decode cX4_costOf 26 = .ok (.imul, 1) := by decide +kernel
theorem dX4_costOf_27 : decode cX4_costOf 27 = .ok (.iadd, 1) := by decide +kernel
theorem dX4_costOf_28 : decode cX4_costOf 28 = .ok (.istore_n 2, 1) := by decide +kernel
theorem dX4_costOf_29 : decode cX4_costOf 29 = .ok (.iinc 3 1, 3) := by decide +kernel
theorem dX4_costOf_32 : decode cX4_costOf 32 = .ok (.goto (-28), 3) := by decide +kernel
theorem dX4_costOf_35 : decode cX4_costOf 35 = .ok (.iload_n 2, 1) := by decide +kernel
theorem dX4_costOf_36 : decode cX4_costOf 36 = .ok (.ireturn, 1) := by decide +kernel
theorem dX4_breaking_0 : decode cX4_breaking 0 = .ok (.iload_n 1, 1) := by decide +kernel
theorem dX4_breaking_1 : decode cX4_breaking 1 = .ok (.iconst 2, 1) := by decide +kernel
theorem dX4_breaking_2 : decode cX4_breaking 2 = .ok (.invokestatic 40, 3) := by decide +kernel
theorem dX4_breaking_5 : decode cX4_breaking 5 = .ok (.ifCond .ne 10, 3) := by decide +kernel
theorem dX4_breaking_8 : decode cX4_breaking 8 = .ok (.aload_n 0, 1) := by decide +kernel
theorem dX4_breaking_9 : decode cX4_breaking 9 = .ok (.bipush (-2), 2) := by decide +kernel
theorem dX4_breaking_11 : decode cX4_breaking 11 = .ok (.invokevirtual 52, 3) := by decide +kernel
theorem dX4_breaking_14 : decode cX4_breaking 14 = .ok (.ireturn, 1) := by decide +kernel
theorem dX4_breaking_15 : decode cX4_breaking 15 = .ok (.bipush (-9), 2) := by decide +kernel
theorem dX4_breaking_17 : decode cX4_breaking 17 = .ok (.istore_n 2, 1) := by decide +kernel
theorem dX4_breaking_18 : decode cX4_breaking 18 = .ok (.iconst 0, 1) := by decide +kernel
theorem dX4_breaking_19 : decode cX4_breaking 19 = .ok (.istore_n 3, 1) := by decide +kernel
theorem dX4_breaking_20 : decode cX4_breaking 20 = .ok (.iload_n 3, 1) := by decide +kernel
theorem dX4_breaking_21 : decode cX4_breaking 21 = .ok (.aload_n 0, 1) := by decide +kernel
theorem dX4_breaking_22 : decode cX4_breaking 22 = .ok (.invokevirtual 117, 3) := by decide +kernel
theorem dX4_breaking_25 : decode cX4_breaking 25 = .ok (.if_icmp .gt 45, 3) := by decide +kernel
theorem dX4_breaking_28 : decode cX4_breaking 28 = .ok (.iload_n 2, 1) := by decide +kernel
theorem dX4_breaking_29 : decode cX4_breaking 29 = .ok (.ifCond .lt 19, 3) := by decide +kernel
theorem dX4_breaking_32 : decode cX4_breaking 32 = .ok (.aload_n 0, 1) := by decide +kernel
theorem dX4_breaking_33 : decode cX4_breaking 33 = .ok (.iload_n 3, 1) := by decide +kernel
theorem dX4_breaking_34 : decode cX4_breaking 34 = .ok (.invokevirtual 189, 3) := by decide +kernel
theorem dX4_breaking_37 : decode cX4_breaking 37 = .ok (.aload_n 0, 1) := by decide +kernel
theorem dX4_breaking_38 : decode cX4_breaking 38 = .ok (.iload_n 2, 1) := by decide +kernel
theorem dX4_breaking_39 : decode cX4_breaking 39 = .ok (.invokevirtual 189, 3) := by decide +kernel
theorem dX4_breaking_42 : decode cX4_breaking 42 = .ok (.if_icmp .lt 6, 3) := by decide +kernel
theorem dX4_breaking_45 : decode cX4_breaking 45 = .ok (.goto 19, 3) := by decide +kernel
theorem dX4_breaking_48 : decode cX4_breaking 48 = .ok (.aload_n 0, 1) := by decide +kernel
theorem dX4_breaking_49 : decode cX4_breaking 49 = .ok (.iload_n 3, 1) := by decide +kernel
theorem dX4_breaking_50 : decode cX4_breaking 50 = .ok (.putfield 137, 3) := by decide +kernel
theorem dX4_breaking_53 : decode cX4_breaking 53 = .ok (.aload_n 0, 1) := by decide +kernel
theorem dX4_breaking_54 : decode cX4_breaking 54 = .ok (.invokevirtual 152, 3) := by decide +kernel
theorem dX4_breaking_57 : decode cX4_breaking 57 = .ok (.ldc 129, 2) := by decide +kernel
theorem dX4_breaking_59 : decode cX4_breaking 59 = .ok (.if_icmp .ge 5, 3) := by decide +kernel
theorem dX4_breaking_62 : decode cX4_breaking 62 = .ok (.iload_n 3, 1) := by decide +kernel
theorem dX4_breaking_63 : decode cX4_breaking 63 = .ok (.istore_n 2, 1) := by decide +kernel
theorem dX4_breaking_64 : decode cX4_breaking 64 = .ok (.iinc 3 1, 3) := by decide +kernel
theorem dX4_breaking_67 : decode cX4_breaking 67 = .ok (.goto (-47), 3) := by decide +kernel
theorem dX4_breaking_70 : decode cX4_breaking 70 = .ok (.aload_n 0, 1) := by decide +kernel
theorem dX4_breaking_71 : decode cX4_breaking 71 = .ok (.iconst 0, 1) := by decide +kernel
theorem dX4_breaking_72 : decode cX4_breaking 72 = .ok (.putfield 137, 3) := by decide +kernel
theorem dX4_breaking_75 : decode cX4_breaking 75 = .ok (.iload_n 1, 1) := by decide +kernel
theorem dX4_breaking_76 : decode cX4_breaking 76 = .ok (.ifCond .ne 7, 3) := by decide +kernel
theorem dX4_breaking_79 : decode cX4_breaking 79 = .ok (.iload_n 2, 1) := by decide +kernel
theorem dX4_breaking_80 : decode cX4_breaking 80 = .ok (.goto 8, 3) := by decide +kernel
theorem dX4_breaking_83 : decode cX4_breaking 83 = .ok (.aload_n 0, 1) := by decide +kernel
theorem dX4_breaking_84 : decode cX4_breaking 84 = .ok (.iload_n 2, 1) := by decide +kernel
theorem dX4_breaking_85 : decode cX4_breaking 85 = .ok (.invokevirtual 189, 3) := by decide +kernel
theorem dX4_breaking_88 : decode cX4_breaking 88 = .ok (.ireturn, 1) := by decide +kernel
theorem dX4_fire_0 : decode cX4_fire 0 = .ok (.aload_n 0, 1) := by decide +kernel
theorem dX4_fire_1 : decode cX4_fire 1 = .ok (.iload_n 1, 1) := by decide +kernel
theorem dX4_fire_2 : decode cX4_fire 2 = .ok (.invokevirtual 94, 3) := by decide +kernel
theorem dX4_fire_5 : decode cX4_fire 5 = .ok (.ifCond .ne 7, 3) := by decide +kernel
theorem dX4_fire_8 : decode cX4_fire 8 = .ok (.iconst (-1), 1) := by decide +kernel
theorem dX4_fire_9 : decode cX4_fire 9 = .ok (.goto 13, 3) := by decide +kernel
theorem dX4_fire_12 : decode cX4_fire 12 = .ok (.iload_n 2, 1) := by decide +kernel
theorem dX4_fire_13 : decode cX4_fire 13 = .ok (.ifCond .ge 8, 3) := by decide +kernel
theorem dX4_fire_16 : decode cX4_fire 16 = .ok (.bipush (-4), 2) := by decide +kernel
theorem dX4_fire_18 : decode cX4_fire 18 = .ok (.goto 4, 3) := by decide +kernel
theorem dX4_fire_21 : decode cX4_fire 21 = .ok (.iconst 0, 1) := by decide +kernel
theorem dX4_fire_22 : decode cX4_fire 22 = .ok (.istore_n 3, 1) := by decide +kernel
theorem dX4_fire_23 : decode cX4_fire 23 = .ok (.iload_n 3, 1) := by decide +kernel
theorem dX4_fire_24 : decode cX4_fire 24 = .ok (.ifCond .eq 9, 3) := by decide +kernel
theorem dX4_fire_27 : decode cX4_fire 27 = .ok (.aload_n 0, 1) := by decide +kernel
theorem dX4_fire_28 : decode cX4_fire 28 = .ok (.iload_n 3, 1) := by decide +kernel
theorem dX4_fire_29 : decode cX4_fire 29 = .ok (.invokevirtual 52, 3) := by decide +kernel
theorem dX4_fire_32 : decode cX4_fire 32 = .ok (.ireturn, 1) := by decide +kernel
theorem dX4_fire_33 : decode cX4_fire 33 = .ok (.aload_n 0, 1) := by decide +kernel
theorem dX4_fire_34 : decode cX4_fire 34 = .ok (.invokevirtual 146, 3) := by decide +kernel
theorem dX4_fire_37 : decode cX4_fire 37 = .ok (.aload_n 0, 1) := by decide +kernel
theorem dX4_fire_38 : decode cX4_fire 38 = .ok (.getfield 28, 3) := by decide +kernel
theorem dX4_fire_41 : decode cX4_fire 41 = .ok (.iload_n 1, 1) := by decide +kernel
theorem dX4_fire_42 : decode cX4_fire 42 = .ok (.iaload, 1) := by decide +kernel
theorem dX4_fire_43 : decode cX4_fire 43 = .ok (.ldc 129, 2) := by decide +kernel
theorem dX4_fire_45 : decode cX4_fire 45 = .ok (.if_icmp .ne 8, 3) := by decide +kernel
theorem dX4_fire_48 : decode cX4_fire 48 = .ok (.bipush (-9), 2) := by decide +kernel
theorem dX4_fire_50 : decode cX4_fire 50 = .ok (.goto 25, 3) := by decide +kernel
theorem dX4_fire_53 : decode cX4_fire 53 = .ok (.aload_n 0, 1) := by decide +kernel
theorem dX4_fire_54 : decode cX4_fire 54 = .ok (.getfield 28, 3) := by decide +kernel
theorem dX4_fire_57 : decode cX4_fire 57 = .ok (.iload_n 1, 1) := by decide +kernel
theorem dX4_fire_58 : decode cX4_fire 58 = .ok (.iaload, 1) := by decide +kernel
theorem dX4_fire_59 : decode cX4_fire 59 = .ok (.iload_n 2, 1) := by decide +kernel
theorem dX4_fire_60 : decode cX4_fire 60 = .ok (.if_icmp .le 14, 3) := by decide +kernel
theorem dX4_fire_63 : decode cX4_fire 63 = .ok (.aload_n 0, 1) := by decide +kernel
theorem dX4_fire_64 : decode cX4_fire 64 = .ok (.getfield 28, 3) := by decide +kernel
theorem dX4_fire_67 : decode cX4_fire 67 = .ok (.iload_n 1, 1) := by decide +kernel
theorem dX4_fire_68 : decode cX4_fire 68 = .ok (.iaload, 1) := by decide +kernel
theorem dX4_fire_69 : decode cX4_fire 69 = .ok (.iload_n 2, 1) := by decide +kernel
theorem dX4_fire_70 : decode cX4_fire 70 = .ok (.isub, 1) := by decide +kernel
theorem dX4_fire_71 : decode cX4_fire 71 = .ok (.goto 4, 3) := by decide +kernel
theorem dX4_fire_74 : decode cX4_fire 74 = .ok (.iconst 0, 1) := by decide +kernel
theorem dX4_fire_75 : decode cX4_fire 75 = .ok (.ireturn, 1) := by decide +kernel
theorem dX4_common_0 : decode cX4_common 0 = .ok (.iload_n 1, 1) := by decide +kernel
theorem dX4_common_1 : decode cX4_common 1 = .ok (.ifCond .ne 7, 3) := by decide +kernel
theorem dX4_common_4 : decode cX4_common 4 = .ok (.iload_n 0, 1) := by decide +kernel
theorem dX4_common_5 : decode cX4_common 5 = .ok (.goto 10, 3) := by decide +kernel
theorem dX4_common_8 : decode cX4_common 8 = .ok (.iload_n 1, 1) := by decide +kernel
theorem dX4_common_9 : decode cX4_common 9 = .ok (.iload_n 0, 1) := by decide +kernel
theorem dX4_common_10 : decode cX4_common 10 = .ok (.iload_n 1, 1) := by decide +kernel
theorem dX4_common_11 : decode cX4_common 11 = .ok (.irem, 1) := by decide +kernel
theorem dX4_common_12 : decode cX4_common 12 = .ok (.invokestatic 192, 3) := by decide +kernel
theorem dX4_common_15 : decode cX4_common 15 = .ok (.ireturn, 1) := by decide +kernel
theorem dX4_lot_0 : decode cX4_lot 0 = .ok (.iload_n 1, 1) := by decide +kernel
theorem dX4_lot_1 : decode cX4_lot 1 = .ok (.iconst 1, 1) := by decide +kernel
theorem dX4_lot_2 : decode cX4_lot 2 = .ok (.bipush 9, 2) := by decide +kernel
theorem dX4_lot_4 : decode cX4_lot 4 = .ok (.invokestatic 44, 3) := by decide +kernel
theorem dX4_lot_7 : decode cX4_lot 7 = .ok (.istore 4, 2) := by decide +kernel
theorem dX4_lot_9 : decode cX4_lot 9 = .ok (.iload 4, 2) := by decide +kernel
theorem dX4_lot_11 : decode cX4_lot 11 = .ok (.ifCond .ne 23, 3) := by decide +kernel
theorem dX4_lot_14 : decode cX4_lot 14 = .ok (.iload_n 2, 1) := by decide +kernel
theorem dX4_lot_15 : decode cX4_lot 15 = .ok (.iconst 2, 1) := by decide +kernel
theorem dX4_lot_16 : decode cX4_lot 16 = .ok (.invokestatic 40, 3) := by decide +kernel
theorem dX4_lot_19 : decode cX4_lot 19 = .ok (.ifCond .eq 11, 3) := by decide +kernel
theorem dX4_lot_22 : decode cX4_lot 22 = .ok (.iload_n 3, 1) := by decide +kernel
theorem dX4_lot_23 : decode cX4_lot 23 = .ok (.iconst 2, 1) := by decide +kernel
theorem dX4_lot_24 : decode cX4_lot 24 = .ok (.invokestatic 40, 3) := by decide +kernel
theorem dX4_lot_27 : decode cX4_lot 27 = .ok (.ifCond .ne 7, 3) := by decide +kernel
theorem dX4_lot_30 : decode cX4_lot 30 = .ok (.bipush (-2), 2) := by decide +kernel
theorem dX4_lot_32 : decode cX4_lot 32 = .ok (.istore 4, 2) := by decide +kernel
theorem dX4_lot_34 : decode cX4_lot 34 = .ok (.iload 4, 2) := by decide +kernel
theorem dX4_lot_36 : decode cX4_lot 36 = .ok (.ifCond .eq 10, 3) := by decide +kernel
theorem dX4_lot_39 : decode cX4_lot 39 = .ok (.aload_n 0, 1) := by decide +kernel
theorem dX4_lot_40 : decode cX4_lot 40 = .ok (.iload 4, 2) := by decide +kernel
theorem dX4_lot_42 : decode cX4_lot 42 = .ok (.invokevirtual 52, 3) := by decide +kernel
theorem dX4_lot_45 : decode cX4_lot 45 = .ok (.ireturn, 1) := by decide +kernel
theorem dX4_lot_46 : decode cX4_lot 46 = .ok (.iconst 1, 1) := by decide +kernel
theorem dX4_lot_47 : decode cX4_lot 47 = .ok (.istore 5, 2) := by decide +kernel
theorem dX4_lot_49 : decode cX4_lot 49 = .ok (.iload_n 1, 1) := by decide +kernel
theorem dX4_lot_50 : decode cX4_lot 50 = .ok (.istore 6, 2) := by decide +kernel
theorem dX4_lot_52 : decode cX4_lot 52 = .ok (.iload_n 1, 1) := by decide +kernel
theorem dX4_lot_53 : decode cX4_lot 53 = .ok (.iconst 1, 1) := by decide +kernel
theorem dX4_lot_54 : decode cX4_lot 54 = .ok (.isub, 1) := by decide +kernel
theorem dX4_lot_55 : decode cX4_lot 55 = .ok (.istore 7, 2) := by decide +kernel
theorem dX4_lot_57 : decode cX4_lot 57 = .ok (.iload 7, 2) := by decide +kernel
theorem dX4_lot_59 : decode cX4_lot 59 = .ok (.ifCond .le 54, 3) := by decide +kernel
theorem dX4_lot_62 : decode cX4_lot 62 = .ok (.iload_n 2, 1) := by decide +kernel
theorem dX4_lot_63 : decode cX4_lot 63 = .ok (.iconst 1, 1) := by decide +kernel
theorem dX4_lot_64 : decode cX4_lot 64 = .ok (.if_icmp .ne 49, 3) := by decide +kernel
theorem dX4_lot_67 : decode cX4_lot 67 = .ok (.iload 5, 2) := by decide +kernel
theorem dX4_lot_69 : decode cX4_lot 69 = .ok (.iload 7, 2) := by decide +kernel
theorem dX4_lot_71 : decode cX4_lot 71 = .ok (.imul, 1) := by decide +kernel
theorem dX4_lot_72 : decode cX4_lot 72 = .ok (.iload 6, 2) := by decide +kernel
theorem dX4_lot_74 : decode cX4_lot 74 = .ok (.iadd, 1) := by decide +kernel
theorem dX4_lot_75 : decode cX4_lot 75 = .ok (.istore 5, 2) := by decide +kernel
theorem dX4_lot_77 : decode cX4_lot 77 = .ok (.iload 6, 2) := by decide +kernel
theorem dX4_lot_79 : decode cX4_lot 79 = .ok (.iload 7, 2) := by decide +kernel
theorem dX4_lot_81 : decode cX4_lot 81 = .ok (.imul, 1) := by decide +kernel
theorem dX4_lot_82 : decode cX4_lot 82 = .ok (.istore 6, 2) := by decide +kernel
theorem dX4_lot_84 : decode cX4_lot 84 = .ok (.iload 5, 2) := by decide +kernel
theorem dX4_lot_86 : decode cX4_lot 86 = .ok (.iload 6, 2) := by decide +kernel
theorem dX4_lot_88 : decode cX4_lot 88 = .ok (.invokestatic 192, 3) := by decide +kernel
theorem dX4_lot_91 : decode cX4_lot 91 = .ok (.istore 8, 2) := by decide +kernel
theorem dX4_lot_93 : decode cX4_lot 93 = .ok (.iload 5, 2) := by decide +kernel
theorem dX4_lot_95 : decode cX4_lot 95 = .ok (.iload 8, 2) := by decide +kernel
theorem dX4_lot_97 : decode cX4_lot 97 = .ok (.idiv, 1) := by decide +kernel
theorem dX4_lot_98 : decode cX4_lot 98 = .ok (.istore 5, 2) := by decide +kernel
theorem dX4_lot_100 : decode cX4_lot 100 = .ok (.iload 6, 2) := by decide +kernel
theorem dX4_lot_102 : decode cX4_lot 102 = .ok (.iload 8, 2) := by decide +kernel
theorem dX4_lot_104 : decode cX4_lot 104 = .ok (.idiv, 1) := by decide +kernel
theorem dX4_lot_105 : decode cX4_lot 105 = .ok (.istore 6, 2) := by decide +kernel
theorem dX4_lot_107 : decode cX4_lot 107 = .ok (.iinc 7 (-1), 3) := by decide +kernel
theorem dX4_lot_110 : decode cX4_lot 110 = .ok (.goto (-53), 3) := by decide +kernel
theorem dX4_lot_113 : decode cX4_lot 113 = .ok (.iload_n 3, 1) := by decide +kernel
theorem dX4_lot_114 : decode cX4_lot 114 = .ok (.ifCond .ne 8, 3) := by decide +kernel
theorem dX4_lot_117 : decode cX4_lot 117 = .ok (.iload 5, 2) := by decide +kernel
theorem dX4_lot_119 : decode cX4_lot 119 = .ok (.goto 5, 3) := by decide +kernel
theorem dX4_lot_122 : decode cX4_lot 122 = .ok (.iload 6, 2) := by decide +kernel
theorem dX4_lot_124 : decode cX4_lot 124 = .ok (.ireturn, 1) := by decide +kernel
theorem dX4_row_0 : decode cX4_row 0 = .ok (.iload_n 1, 1) := by decide +kernel
theorem dX4_row_1 : decode cX4_row 1 = .ok (.iconst 0, 1) := by decide +kernel
theorem dX4_row_2 : decode cX4_row 2 = .ok (.sipush 999, 3) := by decide +kernel
theorem dX4_row_5 : decode cX4_row 5 = .ok (.invokestatic 44, 3) := by decide +kernel
theorem dX4_row_8 : decode cX4_row 8 = .ok (.istore_n 2, 1) := by decide +kernel
theorem dX4_row_9 : decode cX4_row 9 = .ok (.iload_n 2, 1) := by decide +kernel
theorem dX4_row_10 : decode cX4_row 10 = .ok (.ifCond .ne 15, 3) := by decide +kernel
theorem dX4_row_13 : decode cX4_row 13 = .ok (.aload_n 0, 1) := by decide +kernel
theorem dX4_row_14 : decode cX4_row 14 = .ok (.getfield 195, 3) := by decide +kernel
theorem dX4_row_17 : decode cX4_row 17 = .ok (.bipush 7, 2) := by decide +kernel
theorem dX4_row_19 : decode cX4_row 19 = .ok (.if_icmp .ne 6, 3) := by decide +kernel
theorem dX4_row_22 : decode cX4_row 22 = .ok (.bipush (-6), 2) := by decide +kernel
theorem dX4_row_24 : decode cX4_row 24 = .ok (.istore_n 2, 1) := by decide +kernel
theorem dX4_row_25 : decode cX4_row 25 = .ok (.iload_n 2, 1) := by decide +kernel
theorem dX4_row_26 : decode cX4_row 26 = .ok (.ifCond .eq 9, 3) := by decide +kernel
theorem dX4_row_29 : decode cX4_row 29 = .ok (.aload_n 0, 1) := by decide +kernel
theorem dX4_row_30 : decode cX4_row 30 = .ok (.iload_n 2, 1) := by decide +kernel
theorem dX4_row_31 : decode cX4_row 31 = .ok (.invokevirtual 52, 3) := by decide +kernel
theorem dX4_row_34 : decode cX4_row 34 = .ok (.ireturn, 1) := by decide +kernel
theorem dX4_row_35 : decode cX4_row 35 = .ok (.aload_n 0, 1) := by decide +kernel
theorem dX4_row_36 : decode cX4_row 36 = .ok (.getfield 37, 3) := by decide +kernel
theorem dX4_row_39 : decode cX4_row 39 = .ok (.aload_n 0, 1) := by decide +kernel
theorem dX4_row_40 : decode cX4_row 40 = .ok (.getfield 195, 3) := by decide +kernel
theorem dX4_row_43 : decode cX4_row 43 = .ok (.iload_n 1, 1) := by decide +kernel
theorem dX4_row_44 : decode cX4_row 44 = .ok (.iastore, 1) := by decide +kernel
theorem dX4_row_45 : decode cX4_row 45 = .ok (.aload_n 0, 1) := by decide +kernel
theorem dX4_row_46 : decode cX4_row 46 = .ok (.dup, 1) := by decide +kernel
theorem dX4_row_47 : decode cX4_row 47 = .ok (.getfield 195, 3) := by decide +kernel
theorem dX4_row_50 : decode cX4_row 50 = .ok (.iconst 1, 1) := by decide +kernel
theorem dX4_row_51 : decode cX4_row 51 = .ok (.iadd, 1) := by decide +kernel
theorem dX4_row_52 : decode cX4_row 52 = .ok (.putfield 195, 3) := by decide +kernel
theorem dX4_row_55 : decode cX4_row 55 = .ok (.aload_n 0, 1) := by decide +kernel
theorem dX4_row_56 : decode cX4_row 56 = .ok (.getfield 195, 3) := by decide +kernel
theorem dX4_row_59 : decode cX4_row 59 = .ok (.ireturn, 1) := by decide +kernel
theorem dX4_overslept_0 : decode cX4_overslept 0 = .ok (.aload_n 0, 1) := by decide +kernel
theorem dX4_overslept_1 : decode cX4_overslept 1 = .ok (.getfield 195, 3) := by decide +kernel
theorem dX4_overslept_4 : decode cX4_overslept 4 = .ok (.aload_n 0, 1) := by decide +kernel
theorem dX4_overslept_5 : decode cX4_overslept 5 = .ok (.getfield 13, 3) := by decide +kernel
theorem dX4_overslept_8 : decode cX4_overslept 8 = .ok (.iconst 0, 1) := by decide +kernel
theorem dX4_overslept_9 : decode cX4_overslept 9 = .ok (.iaload, 1) := by decide +kernel
theorem dX4_overslept_10 : decode cX4_overslept 10 = .ok (.if_icmp .eq 10, 3) := by decide +kernel
theorem dX4_overslept_13 : decode cX4_overslept 13 = .ok (.aload_n 0, 1) := by decide +kernel
theorem dX4_overslept_14 : decode cX4_overslept 14 = .ok (.bipush (-3), 2) := by decide +kernel
theorem dX4_overslept_16 : decode cX4_overslept 16 = .ok (.invokevirtual 52, 3) := by decide +kernel
theorem dX4_overslept_19 : decode cX4_overslept 19 = .ok (.ireturn, 1) := by decide +kernel
theorem dX4_overslept_20 : decode cX4_overslept 20 = .ok (.aload_n 0, 1) := by decide +kernel
theorem dX4_overslept_21 : decode cX4_overslept 21 = .ok (.invokevirtual 146, 3) := by decide +kernel
theorem dX4_overslept_24 : decode cX4_overslept 24 = .ok (.iconst 0, 1) := by decide +kernel
theorem dX4_overslept_25 : decode cX4_overslept 25 = .ok (.istore_n 1, 1) := by decide +kernel
theorem dX4_overslept_26 : decode cX4_overslept 26 = .ok (.iconst 0, 1) := by decide +kernel
theorem dX4_overslept_27 : decode cX4_overslept 27 = .ok (.istore_n 2, 1) := by decide +kernel
theorem dX4_overslept_28 : decode cX4_overslept 28 = .ok (.iload_n 2, 1) := by decide +kernel
theorem dX4_overslept_29 : decode cX4_overslept 29 = .ok (.aload_n 0, 1) := by decide +kernel
theorem dX4_overslept_30 : decode cX4_overslept 30 = .ok (.getfield 13, 3) := by decide +kernel
theorem dX4_overslept_33 : decode cX4_overslept 33 = .ok (.iconst 0, 1) := by decide +kernel
theorem dX4_overslept_34 : decode cX4_overslept 34 = .ok (.iaload, 1) := by decide +kernel
theorem dX4_overslept_35 : decode cX4_overslept 35 = .ok (.if_icmp .ge 34, 3) := by decide +kernel
theorem dX4_overslept_38 : decode cX4_overslept 38 = .ok (.iload_n 1, 1) := by decide +kernel
theorem dX4_overslept_39 : decode cX4_overslept 39 = .ok (.aload_n 0, 1) := by decide +kernel
theorem dX4_overslept_40 : decode cX4_overslept 40 = .ok (.getfield 37, 3) := by decide +kernel
theorem dX4_overslept_43 : decode cX4_overslept 43 = .ok (.iload_n 2, 1) := by decide +kernel
theorem dX4_overslept_44 : decode cX4_overslept 44 = .ok (.iaload, 1) := by decide +kernel
theorem dX4_overslept_45 : decode cX4_overslept 45 = .ok (.aload_n 0, 1) := by decide +kernel
theorem dX4_overslept_46 : decode cX4_overslept 46 = .ok (.getfield 28, 3) := by decide +kernel
theorem dX4_overslept_49 : decode cX4_overslept 49 = .ok (.iload_n 2, 1) := by decide +kernel
theorem dX4_overslept_50 : decode cX4_overslept 50 = .ok (.iaload, 1) := by decide +kernel
theorem dX4_overslept_51 : decode cX4_overslept 51 = .ok (.if_icmp .le 9, 3) := by decide +kernel
theorem dX4_overslept_54 : decode cX4_overslept 54 = .ok (.iconst 1, 1) := by decide +kernel
theorem dX4_overslept_55 : decode cX4_overslept 55 = .ok (.iload_n 2, 1) := by decide +kernel
theorem dX4_overslept_56 : decode cX4_overslept 56 = .ok (.ishl, 1) := by decide +kernel
theorem dX4_overslept_57 : decode cX4_overslept 57 = .ok (.goto 4, 3) := by decide +kernel
theorem dX4_overslept_60 : decode cX4_overslept 60 = .ok (.iconst 0, 1) := by decide +kernel
theorem dX4_overslept_61 : decode cX4_overslept 61 = .ok (.ior, 1) := by decide +kernel
theorem dX4_overslept_62 : decode cX4_overslept 62 = .ok (.istore_n 1, 1) := by decide +kernel
theorem dX4_overslept_63 : decode cX4_overslept 63 = .ok (.iinc 2 1, 3) := by decide +kernel
theorem dX4_overslept_66 : decode cX4_overslept 66 = .ok (.goto (-38), 3) := by decide +kernel
theorem dX4_overslept_69 : decode cX4_overslept 69 = .ok (.iload_n 1, 1) := by decide +kernel
theorem dX4_overslept_70 : decode cX4_overslept 70 = .ok (.ireturn, 1) := by decide +kernel
theorem dX4_judge_0 : decode cX4_judge 0 = .ok (.aload_n 0, 1) := by decide +kernel
theorem dX4_judge_1 : decode cX4_judge 1 = .ok (.getfield 195, 3) := by decide +kernel
theorem dX4_judge_4 : decode cX4_judge 4 = .ok (.istore_n 1, 1) := by decide +kernel
theorem dX4_judge_5 : decode cX4_judge 5 = .ok (.aload_n 0, 1) := by decide +kernel
theorem dX4_judge_6 : decode cX4_judge 6 = .ok (.iconst 0, 1) := by decide +kernel
theorem dX4_judge_7 : decode cX4_judge 7 = .ok (.putfield 195, 3) := by decide +kernel
theorem dX4_judge_10 : decode cX4_judge 10 = .ok (.aload_n 0, 1) := by decide +kernel
theorem dX4_judge_11 : decode cX4_judge 11 = .ok (.invokevirtual 146, 3) := by decide +kernel
theorem dX4_judge_14 : decode cX4_judge 14 = .ok (.iconst 0, 1) := by decide +kernel
theorem dX4_judge_15 : decode cX4_judge 15 = .ok (.istore_n 2, 1) := by decide +kernel
theorem dX4_judge_16 : decode cX4_judge 16 = .ok (.iload_n 2, 1) := by decide +kernel
theorem dX4_judge_17 : decode cX4_judge 17 = .ok (.iload_n 1, 1) := by decide +kernel
theorem dX4_judge_18 : decode cX4_judge 18 = .ok (.if_icmp .ge 36, 3) := by decide +kernel
theorem dX4_judge_21 : decode cX4_judge 21 = .ok (.iload_n 2, 1) := by decide +kernel
theorem dX4_judge_22 : decode cX4_judge 22 = .ok (.aload_n 0, 1) := by decide +kernel
theorem dX4_judge_23 : decode cX4_judge 23 = .ok (.getfield 13, 3) := by decide +kernel
theorem dX4_judge_26 : decode cX4_judge 26 = .ok (.iconst 0, 1) := by decide +kernel
theorem dX4_judge_27 : decode cX4_judge 27 = .ok (.iaload, 1) := by decide +kernel
theorem dX4_judge_28 : decode cX4_judge 28 = .ok (.if_icmp .eq 18, 3) := by decide +kernel
theorem dX4_judge_31 : decode cX4_judge 31 = .ok (.aload_n 0, 1) := by decide +kernel
theorem dX4_judge_32 : decode cX4_judge 32 = .ok (.getfield 37, 3) := by decide +kernel
theorem dX4_judge_35 : decode cX4_judge 35 = .ok (.iload_n 2, 1) := by decide +kernel
theorem dX4_judge_36 : decode cX4_judge 36 = .ok (.iaload, 1) := by decide +kernel
theorem dX4_judge_37 : decode cX4_judge 37 = .ok (.aload_n 0, 1) := by decide +kernel
theorem dX4_judge_38 : decode cX4_judge 38 = .ok (.getfield 28, 3) := by decide +kernel
theorem dX4_judge_41 : decode cX4_judge 41 = .ok (.iload_n 2, 1) := by decide +kernel
theorem dX4_judge_42 : decode cX4_judge 42 = .ok (.iaload, 1) := by decide +kernel
theorem dX4_judge_43 : decode cX4_judge 43 = .ok (.if_icmp .eq 5, 3) := by decide +kernel
theorem dX4_judge_46 : decode cX4_judge 46 = .ok (.iload_n 2, 1) := by decide +kernel
theorem dX4_judge_47 : decode cX4_judge 47 = .ok (.ireturn, 1) := by decide +kernel
theorem dX4_judge_48 : decode cX4_judge 48 = .ok (.iinc 2 1, 3) := by decide +kernel
theorem dX4_judge_51 : decode cX4_judge 51 = .ok (.goto (-35), 3) := by decide +kernel
theorem dX4_judge_54 : decode cX4_judge 54 = .ok (.iload_n 1, 1) := by decide +kernel
theorem dX4_judge_55 : decode cX4_judge 55 = .ok (.aload_n 0, 1) := by decide +kernel
theorem dX4_judge_56 : decode cX4_judge 56 = .ok (.getfield 13, 3) := by decide +kernel
theorem dX4_judge_59 : decode cX4_judge 59 = .ok (.iconst 0, 1) := by decide +kernel
theorem dX4_judge_60 : decode cX4_judge 60 = .ok (.iaload, 1) := by decide +kernel
theorem dX4_judge_61 : decode cX4_judge 61 = .ok (.if_icmp .ge 7, 3) := by decide +kernel
theorem dX4_judge_64 : decode cX4_judge 64 = .ok (.iload_n 1, 1) := by decide +kernel
theorem dX4_judge_65 : decode cX4_judge 65 = .ok (.goto 5, 3) := by decide +kernel
theorem dX4_judge_68 : decode cX4_judge 68 = .ok (.bipush (-9), 2) := by decide +kernel
theorem dX4_judge_70 : decode cX4_judge 70 = .ok (.ireturn, 1) := by decide +kernel
theorem dX4_seeds_0 : decode cX4_seeds 0 = .ok (.iload_n 1, 1) := by decide +kernel
theorem dX4_seeds_1 : decode cX4_seeds 1 = .ok (.iconst 1, 1) := by decide +kernel
theorem dX4_seeds_2 : decode cX4_seeds 2 = .ok (.bipush 20, 2) := by decide +kernel
theorem dX4_seeds_4 : decode cX4_seeds 4 = .ok (.invokestatic 44, 3) := by decide +kernel
theorem dX4_seeds_7 : decode cX4_seeds 7 = .ok (.istore_n 3, 1) := by decide +kernel
theorem dX4_seeds_8 : decode cX4_seeds 8 = .ok (.iload_n 3, 1) := by decide +kernel
theorem dX4_seeds_9 : decode cX4_seeds 9 = .ok (.ifCond .eq 9, 3) := by decide +kernel
theorem dX4_seeds_12 : decode cX4_seeds 12 = .ok (.aload_n 0, 1) := by decide +kernel
theorem dX4_seeds_13 : decode cX4_seeds 13 = .ok (.iload_n 3, 1) := by decide +kernel
theorem dX4_seeds_14 : decode cX4_seeds 14 = .ok (.invokevirtual 52, 3) := by decide +kernel
theorem dX4_seeds_17 : decode cX4_seeds 17 = .ok (.ireturn, 1) := by decide +kernel
theorem dX4_seeds_18 : decode cX4_seeds 18 = .ok (.aload_n 0, 1) := by decide +kernel
theorem dX4_seeds_19 : decode cX4_seeds 19 = .ok (.getfield 13, 3) := by decide +kernel
theorem dX4_seeds_22 : decode cX4_seeds 22 = .ok (.aload_n 0, 1) := by decide +kernel
theorem dX4_seeds_23 : decode cX4_seeds 23 = .ok (.getfield 34, 3) := by decide +kernel
theorem dX4_seeds_26 : decode cX4_seeds 26 = .ok (.invokestatic 80, 3) := by decide +kernel
theorem dX4_seeds_29 : decode cX4_seeds 29 = .ok (.iload_n 2, 1) := by decide +kernel
theorem dX4_seeds_30 : decode cX4_seeds 30 = .ok (.istore 4, 2) := by decide +kernel
theorem dX4_seeds_32 : decode cX4_seeds 32 = .ok (.iconst 0, 1) := by decide +kernel
theorem dX4_seeds_33 : decode cX4_seeds 33 = .ok (.istore 5, 2) := by decide +kernel
theorem dX4_seeds_35 : decode cX4_seeds 35 = .ok (.iconst 0, 1) := by decide +kernel
theorem dX4_seeds_36 : decode cX4_seeds 36 = .ok (.istore 6, 2) := by decide +kernel
theorem dX4_seeds_38 : decode cX4_seeds 38 = .ok (.iload 6, 2) := by decide +kernel
theorem dX4_seeds_40 : decode cX4_seeds 40 = .ok (.iload_n 1, 1) := by decide +kernel
theorem dX4_seeds_41 : decode cX4_seeds 41 = .ok (.if_icmp .ge 88, 3) := by decide +kernel
theorem dX4_seeds_44 : decode cX4_seeds 44 = .ok (.iconst 0, 1) := by decide +kernel
theorem dX4_seeds_45 : decode cX4_seeds 45 = .ok (.istore 7, 2) := by decide +kernel
theorem dX4_seeds_47 : decode cX4_seeds 47 = .ok (.iload 7, 2) := by decide +kernel
theorem dX4_seeds_49 : decode cX4_seeds 49 = .ok (.aload_n 0, 1) := by decide +kernel
theorem dX4_seeds_50 : decode cX4_seeds 50 = .ok (.getfield 13, 3) := by decide +kernel
theorem dX4_seeds_53 : decode cX4_seeds 53 = .ok (.iconst 0, 1) := by decide +kernel
theorem dX4_seeds_54 : decode cX4_seeds 54 = .ok (.iaload, 1) := by decide +kernel
theorem dX4_seeds_55 : decode cX4_seeds 55 = .ok (.if_icmp .ge 44, 3) := by decide +kernel
theorem dX4_seeds_58 : decode cX4_seeds 58 = .ok (.iload 4, 2) := by decide +kernel
theorem dX4_seeds_60 : decode cX4_seeds 60 = .ok (.ldc 198, 2) := by decide +kernel
theorem dX4_seeds_62 : decode cX4_seeds 62 = .ok (.imul, 1) := by decide +kernel
theorem dX4_seeds_63 : decode cX4_seeds 63 = .ok (.ldc 199, 2) := by decide +kernel
theorem dX4_seeds_65 : decode cX4_seeds 65 = .ok (.iadd, 1) := by decide +kernel
theorem dX4_seeds_66 : decode cX4_seeds 66 = .ok (.istore 4, 2) := by decide +kernel
theorem dX4_seeds_68 : decode cX4_seeds 68 = .ok (.aload_n 0, 1) := by decide +kernel
theorem dX4_seeds_69 : decode cX4_seeds 69 = .ok (.getfield 13, 3) := by decide +kernel
theorem dX4_seeds_72 : decode cX4_seeds 72 = .ok (.iconst 5, 1) := by decide +kernel
theorem dX4_seeds_73 : decode cX4_seeds 73 = .ok (.iconst 5, 1) := by decide +kernel
theorem dX4_seeds_74 : decode cX4_seeds 74 = .ok (.iload 7, 2) := by decide +kernel
theorem dX4_seeds_76 : decode cX4_seeds 76 = .ok (.imul, 1) := by decide +kernel
theorem dX4_seeds_77 : decode cX4_seeds 77 = .ok (.iadd, 1) := by decide +kernel
theorem dX4_seeds_78 : decode cX4_seeds 78 = .ok (.iconst 1, 1) := by decide +kernel
theorem dX4_seeds_79 : decode cX4_seeds 79 = .ok (.iadd, 1) := by decide +kernel
theorem dX4_seeds_80 : decode cX4_seeds 80 = .ok (.iload 4, 2) := by decide +kernel
theorem dX4_seeds_82 : decode cX4_seeds 82 = .ok (.ldc 200, 2) := by decide +kernel
theorem dX4_seeds_84 : decode cX4_seeds 84 = .ok (.iand, 1) := by decide +kernel
theorem dX4_seeds_85 : decode cX4_seeds 85 = .ok (.sipush 256, 3) := by decide +kernel
theorem dX4_seeds_88 : decode cX4_seeds 88 = .ok (.idiv, 1) := by decide +kernel
theorem dX4_seeds_89 : decode cX4_seeds 89 = .ok (.bipush 100, 2) := by decide +kernel
theorem dX4_seeds_91 : decode cX4_seeds 91 = .ok (.irem, 1) := by decide +kernel
theorem dX4_seeds_92 : decode cX4_seeds 92 = .ok (.iastore, 1) := by decide +kernel
theorem dX4_seeds_93 : decode cX4_seeds 93 = .ok (.iinc 7 1, 3) := by decide +kernel
theorem dX4_seeds_96 : decode cX4_seeds 96 = .ok (.goto (-49), 3) := by decide +kernel
theorem dX4_seeds_99 : decode cX4_seeds 99 = .ok (.aload_n 0, 1) := by decide +kernel
theorem dX4_seeds_100 : decode cX4_seeds 100 = .ok (.invokevirtual 152, 3) := by decide +kernel
theorem dX4_seeds_103 : decode cX4_seeds 103 = .ok (.istore 7, 2) := by decide +kernel
theorem dX4_seeds_105 : decode cX4_seeds 105 = .ok (.iload 5, 2) := by decide +kernel
theorem dX4_seeds_107 : decode cX4_seeds 107 = .ok (.iload 7, 2) := by decide +kernel
theorem dX4_seeds_109 : decode cX4_seeds 109 = .ok (.ldc 129, 2) := by decide +kernel
theorem dX4_seeds_111 : decode cX4_seeds 111 = .ok (.if_icmp .ge 8, 3) := by decide +kernel
theorem dX4_seeds_114 : decode cX4_seeds 114 = .ok (.iload 7, 2) := by decide +kernel
theorem dX4_seeds_116 : decode cX4_seeds 116 = .ok (.goto 4, 3) := by decide +kernel
theorem dX4_seeds_119 : decode cX4_seeds 119 = .ok (.iconst 0, 1) := by decide +kernel
theorem dX4_seeds_120 : decode cX4_seeds 120 = .ok (.iadd, 1) := by decide +kernel
theorem dX4_seeds_121 : decode cX4_seeds 121 = .ok (.istore 5, 2) := by decide +kernel
theorem dX4_seeds_123 : decode cX4_seeds 123 = .ok (.iinc 6 1, 3) := by decide +kernel
theorem dX4_seeds_126 : decode cX4_seeds 126 = .ok (.goto (-88), 3) := by decide +kernel
theorem dX4_seeds_129 : decode cX4_seeds 129 = .ok (.aload_n 0, 1) := by decide +kernel
theorem dX4_seeds_130 : decode cX4_seeds 130 = .ok (.getfield 34, 3) := by decide +kernel
theorem dX4_seeds_133 : decode cX4_seeds 133 = .ok (.aload_n 0, 1) := by decide +kernel
theorem dX4_seeds_134 : decode cX4_seeds 134 = .ok (.getfield 13, 3) := by decide +kernel
theorem dX4_seeds_137 : decode cX4_seeds 137 = .ok (.invokestatic 80, 3) := by decide +kernel
theorem dX4_seeds_140 : decode cX4_seeds 140 = .ok (.iload 5, 2) := by decide +kernel
theorem dX4_seeds_142 : decode cX4_seeds 142 = .ok (.ireturn, 1) := by decide +kernel
theorem dX4_image_0 : decode cX4_image 0 = .ok (.aload_n 0, 1) := by decide +kernel
theorem dX4_image_1 : decode cX4_image 1 = .ok (.getfield 13, 3) := by decide +kernel
theorem dX4_image_4 : decode cX4_image 4 = .ok (.aload_n 0, 1) := by decide +kernel
theorem dX4_image_5 : decode cX4_image 5 = .ok (.getfield 16, 3) := by decide +kernel
theorem dX4_image_8 : decode cX4_image 8 = .ok (.invokestatic 80, 3) := by decide +kernel
theorem dX4_image_11 : decode cX4_image 11 = .ok (.aload_n 0, 1) := by decide +kernel
theorem dX4_image_12 : decode cX4_image 12 = .ok (.iconst 1, 1) := by decide +kernel
theorem dX4_image_13 : decode cX4_image 13 = .ok (.putfield 201, 3) := by decide +kernel
theorem dX4_image_16 : decode cX4_image 16 = .ok (.aload_n 0, 1) := by decide +kernel
theorem dX4_image_17 : decode cX4_image 17 = .ok (.getfield 13, 3) := by decide +kernel
theorem dX4_image_20 : decode cX4_image 20 = .ok (.iconst 0, 1) := by decide +kernel
theorem dX4_image_21 : decode cX4_image 21 = .ok (.iaload, 1) := by decide +kernel
theorem dX4_image_22 : decode cX4_image 22 = .ok (.ireturn, 1) := by decide +kernel
theorem dX4_on_0 : decode cX4_on 0 = .ok (.aload_n 0, 1) := by decide +kernel
theorem dX4_on_1 : decode cX4_on 1 = .ok (.getfield 201, 3) := by decide +kernel
theorem dX4_on_4 : decode cX4_on 4 = .ok (.ifCond .ne 10, 3) := by decide +kernel
theorem dX4_on_7 : decode cX4_on 7 = .ok (.aload_n 0, 1) := by decide +kernel
theorem dX4_on_8 : decode cX4_on 8 = .ok (.bipush (-3), 2) := by decide +kernel
theorem dX4_on_10 : decode cX4_on 10 = .ok (.invokevirtual 52, 3) := by decide +kernel
theorem dX4_on_13 : decode cX4_on 13 = .ok (.ireturn, 1) := by decide +kernel
theorem dX4_on_14 : decode cX4_on 14 = .ok (.aload_n 0, 1) := by decide +kernel
theorem dX4_on_15 : decode cX4_on 15 = .ok (.getfield 16, 3) := by decide +kernel
theorem dX4_on_18 : decode cX4_on 18 = .ok (.aload_n 0, 1) := by decide +kernel
theorem dX4_on_19 : decode cX4_on 19 = .ok (.getfield 13, 3) := by decide +kernel
theorem dX4_on_22 : decode cX4_on 22 = .ok (.invokestatic 80, 3) := by decide +kernel
theorem dX4_on_25 : decode cX4_on 25 = .ok (.aload_n 0, 1) := by decide +kernel
theorem dX4_on_26 : decode cX4_on 26 = .ok (.getfield 13, 3) := by decide +kernel
theorem dX4_on_29 : decode cX4_on 29 = .ok (.iconst 0, 1) := by decide +kernel
theorem dX4_on_30 : decode cX4_on 30 = .ok (.iaload, 1) := by decide +kernel
theorem dX4_on_31 : decode cX4_on 31 = .ok (.ireturn, 1) := by decide +kernel
theorem dX4_count_0 : decode cX4_count 0 = .ok (.iload_n 1, 1) := by decide +kernel
theorem dX4_count_1 : decode cX4_count 1 = .ok (.bipush 10, 2) := by decide +kernel
theorem dX4_count_3 : decode cX4_count 3 = .ok (.if_icmp .le 19, 3) := by decide +kernel
theorem dX4_count_6 : decode cX4_count 6 = .ok (.iload_n 1, 1) := by decide +kernel
theorem dX4_count_7 : decode cX4_count 7 = .ok (.bipush 17, 2) := by decide +kernel
theorem dX4_count_9 : decode cX4_count 9 = .ok (.if_icmp .ge 13, 3) := by decide +kernel
theorem dX4_count_12 : decode cX4_count 12 = .ok (.aload_n 0, 1) := by decide +kernel
theorem dX4_count_13 : decode cX4_count 13 = .ok (.getfield 7, 3) := by decide +kernel
theorem dX4_count_16 : decode cX4_count 16 = .ok (.iload_n 1, 1) := by decide +kernel
theorem dX4_count_17 : decode cX4_count 17 = .ok (.bipush 10, 2) := by decide +kernel
theorem dX4_count_19 : decode cX4_count 19 = .ok (.isub, 1) := by decide +kernel
theorem dX4_count_20 : decode cX4_count 20 = .ok (.iaload, 1) := by decide +kernel
theorem dX4_count_21 : decode cX4_count 21 = .ok (.ireturn, 1) := by decide +kernel
theorem dX4_count_22 : decode cX4_count 22 = .ok (.iload_n 1, 1) := by decide +kernel
theorem dX4_count_23 : decode cX4_count 23 = .ok (.tableswitch 58 0 6 #[41, 41, 41, 41, 41, 48, 53], 41) := by decide +kernel
theorem dX4_count_64 : decode cX4_count 64 = .ok (.aload_n 0, 1) := by decide +kernel
theorem dX4_count_65 : decode cX4_count 65 = .ok (.getfield 13, 3) := by decide +kernel
theorem dX4_count_68 : decode cX4_count 68 = .ok (.iload_n 1, 1) := by decide +kernel
theorem dX4_count_69 : decode cX4_count 69 = .ok (.iaload, 1) := by decide +kernel
theorem dX4_count_70 : decode cX4_count 70 = .ok (.ireturn, 1) := by decide +kernel
theorem dX4_count_71 : decode cX4_count 71 = .ok (.aload_n 0, 1) := by decide +kernel
theorem dX4_count_72 : decode cX4_count 72 = .ok (.getfield 195, 3) := by decide +kernel
theorem dX4_count_75 : decode cX4_count 75 = .ok (.ireturn, 1) := by decide +kernel
theorem dX4_count_76 : decode cX4_count 76 = .ok (.aload_n 0, 1) := by decide +kernel
theorem dX4_count_77 : decode cX4_count 77 = .ok (.getfield 48, 3) := by decide +kernel
theorem dX4_count_80 : decode cX4_count 80 = .ok (.ireturn, 1) := by decide +kernel
theorem dX4_count_81 : decode cX4_count 81 = .ok (.bipush (-9), 2) := by decide +kernel
theorem dX4_count_83 : decode cX4_count 83 = .ok (.ireturn, 1) := by decide +kernel
theorem dJ6_bitCount_0f7a4_0 : decode cJ6_bitCount_0f7a4 0 = .ok (.iload_n 0, 1) := by decide +kernel
theorem dJ6_bitCount_0f7a4_1 : decode cJ6_bitCount_0f7a4 1 = .ok (.iload_n 0, 1) := by decide +kernel
theorem dJ6_bitCount_0f7a4_2 : decode cJ6_bitCount_0f7a4 2 = .ok (.iconst 1, 1) := by decide +kernel
theorem dJ6_bitCount_0f7a4_3 : decode cJ6_bitCount_0f7a4 3 = .ok (.iushr, 1) := by decide +kernel
theorem dJ6_bitCount_0f7a4_4 : decode cJ6_bitCount_0f7a4 4 = .ok (.ldc_w 265, 3) := by decide +kernel
theorem dJ6_bitCount_0f7a4_7 : decode cJ6_bitCount_0f7a4 7 = .ok (.iand, 1) := by decide +kernel
theorem dJ6_bitCount_0f7a4_8 : decode cJ6_bitCount_0f7a4 8 = .ok (.isub, 1) := by decide +kernel
theorem dJ6_bitCount_0f7a4_9 : decode cJ6_bitCount_0f7a4 9 = .ok (.istore_n 0, 1) := by decide +kernel
theorem dJ6_bitCount_0f7a4_10 : decode cJ6_bitCount_0f7a4 10 = .ok (.iload_n 0, 1) := by decide +kernel
theorem dJ6_bitCount_0f7a4_11 : decode cJ6_bitCount_0f7a4 11 = .ok (.ldc_w 266, 3) := by decide +kernel
theorem dJ6_bitCount_0f7a4_14 : decode cJ6_bitCount_0f7a4 14 = .ok (.iand, 1) := by decide +kernel
theorem dJ6_bitCount_0f7a4_15 : decode cJ6_bitCount_0f7a4 15 = .ok (.iload_n 0, 1) := by decide +kernel
theorem dJ6_bitCount_0f7a4_16 : decode cJ6_bitCount_0f7a4 16 = .ok (.iconst 2, 1) := by decide +kernel
theorem dJ6_bitCount_0f7a4_17 : decode cJ6_bitCount_0f7a4 17 = .ok (.iushr, 1) := by decide +kernel
theorem dJ6_bitCount_0f7a4_18 : decode cJ6_bitCount_0f7a4 18 = .ok (.ldc_w 266, 3) := by decide +kernel
theorem dJ6_bitCount_0f7a4_21 : decode cJ6_bitCount_0f7a4 21 = .ok (.iand, 1) := by decide +kernel
theorem dJ6_bitCount_0f7a4_22 : decode cJ6_bitCount_0f7a4 22 = .ok (.iadd, 1) := by decide +kernel
theorem dJ6_bitCount_0f7a4_23 : decode cJ6_bitCount_0f7a4 23 = .ok (.istore_n 0, 1) := by decide +kernel
theorem dJ6_bitCount_0f7a4_24 : decode cJ6_bitCount_0f7a4 24 = .ok (.iload_n 0, 1) := by decide +kernel
theorem dJ6_bitCount_0f7a4_25 : decode cJ6_bitCount_0f7a4 25 = .ok (.iload_n 0, 1) := by decide +kernel
theorem dJ6_bitCount_0f7a4_26 : decode cJ6_bitCount_0f7a4 26 = .ok (.iconst 4, 1) := by decide +kernel
theorem dJ6_bitCount_0f7a4_27 : decode cJ6_bitCount_0f7a4 27 = .ok (.iushr, 1) := by decide +kernel
theorem dJ6_bitCount_0f7a4_28 : decode cJ6_bitCount_0f7a4 28 = .ok (.iadd, 1) := by decide +kernel
theorem dJ6_bitCount_0f7a4_29 : decode cJ6_bitCount_0f7a4 29 = .ok (.ldc_w 267, 3) := by decide +kernel
theorem dJ6_bitCount_0f7a4_32 : decode cJ6_bitCount_0f7a4 32 = .ok (.iand, 1) := by decide +kernel
theorem dJ6_bitCount_0f7a4_33 : decode cJ6_bitCount_0f7a4 33 = .ok (.istore_n 0, 1) := by decide +kernel
theorem dJ6_bitCount_0f7a4_34 : decode cJ6_bitCount_0f7a4 34 = .ok (.iload_n 0, 1) := by decide +kernel
theorem dJ6_bitCount_0f7a4_35 : decode cJ6_bitCount_0f7a4 35 = .ok (.iload_n 0, 1) := by decide +kernel
theorem dJ6_bitCount_0f7a4_36 : decode cJ6_bitCount_0f7a4 36 = .ok (.bipush 8, 2) := by decide +kernel
theorem dJ6_bitCount_0f7a4_38 : decode cJ6_bitCount_0f7a4 38 = .ok (.iushr, 1) := by decide +kernel
theorem dJ6_bitCount_0f7a4_39 : decode cJ6_bitCount_0f7a4 39 = .ok (.iadd, 1) := by decide +kernel
theorem dJ6_bitCount_0f7a4_40 : decode cJ6_bitCount_0f7a4 40 = .ok (.istore_n 0, 1) := by decide +kernel
theorem dJ6_bitCount_0f7a4_41 : decode cJ6_bitCount_0f7a4 41 = .ok (.iload_n 0, 1) := by decide +kernel
theorem dJ6_bitCount_0f7a4_42 : decode cJ6_bitCount_0f7a4 42 = .ok (.iload_n 0, 1) := by decide +kernel
theorem dJ6_bitCount_0f7a4_43 : decode cJ6_bitCount_0f7a4 43 = .ok (.bipush 16, 2) := by decide +kernel
theorem dJ6_bitCount_0f7a4_45 : decode cJ6_bitCount_0f7a4 45 = .ok (.iushr, 1) := by decide +kernel
theorem dJ6_bitCount_0f7a4_46 : decode cJ6_bitCount_0f7a4 46 = .ok (.iadd, 1) := by decide +kernel
theorem dJ6_bitCount_0f7a4_47 : decode cJ6_bitCount_0f7a4 47 = .ok (.istore_n 0, 1) := by decide +kernel
theorem dJ6_bitCount_0f7a4_48 : decode cJ6_bitCount_0f7a4 48 = .ok (.iload_n 0, 1) := by decide +kernel
theorem dJ6_bitCount_0f7a4_49 : decode cJ6_bitCount_0f7a4 49 = .ok (.bipush 63, 2) := by decide +kernel
theorem dJ6_bitCount_0f7a4_51 : decode cJ6_bitCount_0f7a4 51 = .ok (.iand, 1) := by decide +kernel
theorem dJ6_bitCount_0f7a4_52 : decode cJ6_bitCount_0f7a4 52 = .ok (.ireturn, 1) := by decide +kernel
theorem dJ9_abs_0f7a4_0 : decode cJ9_abs_0f7a4 0 = .ok (.iload_n 0, 1) := by decide +kernel
theorem dJ9_abs_0f7a4_1 : decode cJ9_abs_0f7a4 1 = .ok (.ifCond .ge 8, 3) := by decide +kernel
theorem dJ9_abs_0f7a4_4 : decode cJ9_abs_0f7a4 4 = .ok (.iload_n 0, 1) := by decide +kernel
theorem dJ9_abs_0f7a4_5 : decode cJ9_abs_0f7a4 5 = .ok (.ineg, 1) := by decide +kernel
theorem dJ9_abs_0f7a4_6 : decode cJ9_abs_0f7a4 6 = .ok (.goto 4, 3) := by decide +kernel
theorem dJ9_abs_0f7a4_9 : decode cJ9_abs_0f7a4 9 = .ok (.iload_n 0, 1) := by decide +kernel
theorem dJ9_abs_0f7a4_10 : decode cJ9_abs_0f7a4 10 = .ok (.ireturn, 1) := by decide +kernel
theorem dJ9_max_7cf53_0 : decode cJ9_max_7cf53 0 = .ok (.iload_n 0, 1) := by decide +kernel
theorem dJ9_max_7cf53_1 : decode cJ9_max_7cf53 1 = .ok (.iload_n 1, 1) := by decide +kernel
theorem dJ9_max_7cf53_2 : decode cJ9_max_7cf53 2 = .ok (.if_icmp .lt 7, 3) := by decide +kernel
theorem dJ9_max_7cf53_5 : decode cJ9_max_7cf53 5 = .ok (.iload_n 0, 1) := by decide +kernel
theorem dJ9_max_7cf53_6 : decode cJ9_max_7cf53 6 = .ok (.goto 4, 3) := by decide +kernel
theorem dJ9_max_7cf53_9 : decode cJ9_max_7cf53 9 = .ok (.iload_n 1, 1) := by decide +kernel
theorem dJ9_max_7cf53_10 : decode cJ9_max_7cf53 10 = .ok (.ireturn, 1) := by decide +kernel
theorem dJ9_min_7cf53_0 : decode cJ9_min_7cf53 0 = .ok (.iload_n 0, 1) := by decide +kernel
theorem dJ9_min_7cf53_1 : decode cJ9_min_7cf53 1 = .ok (.iload_n 1, 1) := by decide +kernel
theorem dJ9_min_7cf53_2 : decode cJ9_min_7cf53 2 = .ok (.if_icmp .gt 7, 3) := by decide +kernel
theorem dJ9_min_7cf53_5 : decode cJ9_min_7cf53 5 = .ok (.iload_n 0, 1) := by decide +kernel
theorem dJ9_min_7cf53_6 : decode cJ9_min_7cf53 6 = .ok (.goto 4, 3) := by decide +kernel
theorem dJ9_min_7cf53_9 : decode cJ9_min_7cf53 9 = .ok (.iload_n 1, 1) := by decide +kernel
theorem dJ9_min_7cf53_10 : decode cJ9_min_7cf53 10 = .ok (.ireturn, 1) := by decide +kernel
theorem dJ0_length_8abf5_0 : decode cJ0_length_8abf5 0 = .ok (.aload_n 0, 1) := by decide +kernel
theorem dJ0_length_8abf5_1 : decode cJ0_length_8abf5 1 = .ok (.getfield 9, 3) := by decide +kernel
theorem dJ0_length_8abf5_4 : decode cJ0_length_8abf5 4 = .ok (.arraylength, 1) := by decide +kernel
theorem dJ0_length_8abf5_5 : decode cJ0_length_8abf5 5 = .ok (.aload_n 0, 1) := by decide +kernel
theorem dJ0_length_8abf5_6 : decode cJ0_length_8abf5 6 = .ok (.invokevirtual 335, 3) := by decide +kernel
theorem dJ0_length_8abf5_9 : decode cJ0_length_8abf5 9 = .ok (.ishr, 1) := by decide +kernel
theorem dJ0_length_8abf5_10 : decode cJ0_length_8abf5 10 = .ok (.ireturn, 1) := by decide +kernel
theorem dJ0_charAt_5068e_0 : decode cJ0_charAt_5068e 0 = .ok (.aload_n 0, 1) := by decide +kernel
theorem dJ0_charAt_5068e_1 : decode cJ0_charAt_5068e 1 = .ok (.invokevirtual 492, 3) := by decide +kernel
theorem dJ0_charAt_5068e_4 : decode cJ0_charAt_5068e 4 = .ok (.ifCond .eq 12, 3) := by decide +kernel
theorem dJ0_charAt_5068e_7 : decode cJ0_charAt_5068e 7 = .ok (.aload_n 0, 1) := by decide +kernel
theorem dJ0_charAt_5068e_8 : decode cJ0_charAt_5068e 8 = .ok (.getfield 9, 3) := by decide +kernel
theorem dJ0_charAt_5068e_11 : decode cJ0_charAt_5068e 11 = .ok (.iload_n 1, 1) := by decide +kernel
theorem dJ0_charAt_5068e_12 : decode cJ0_charAt_5068e 12 = .ok (.invokestatic 495, 3) := by decide +kernel
theorem dJ0_charAt_5068e_15 : decode cJ0_charAt_5068e 15 = .ok (.ireturn, 1) := by decide +kernel
theorem dJ0_charAt_5068e_16 : decode cJ0_charAt_5068e 16 = .ok (.aload_n 0, 1) := by decide +kernel
theorem dJ0_charAt_5068e_17 : decode cJ0_charAt_5068e 17 = .ok (.getfield 9, 3) := by decide +kernel
theorem dJ0_charAt_5068e_20 : decode cJ0_charAt_5068e 20 = .ok (.iload_n 1, 1) := by decide +kernel
theorem dJ0_charAt_5068e_21 : decode cJ0_charAt_5068e 21 = .ok (.invokestatic 498, 3) := by decide +kernel
theorem dJ0_charAt_5068e_24 : decode cJ0_charAt_5068e 24 = .ok (.ireturn, 1) := by decide +kernel
theorem dJ0_coder_7d493_0 : decode cJ0_coder_7d493 0 = .ok (.getstatic 38, 3) := by decide +kernel
theorem dJ0_coder_7d493_3 : decode cJ0_coder_7d493 3 = .ok (.ifCond .eq 10, 3) := by decide +kernel
theorem dJ0_coder_7d493_6 : decode cJ0_coder_7d493 6 = .ok (.aload_n 0, 1) := by decide +kernel
theorem dJ0_coder_7d493_7 : decode cJ0_coder_7d493 7 = .ok (.getfield 15, 3) := by decide +kernel
theorem dJ0_coder_7d493_10 : decode cJ0_coder_7d493 10 = .ok (.goto 4, 3) := by decide +kernel
theorem dJ0_coder_7d493_13 : decode cJ0_coder_7d493 13 = .ok (.iconst 1, 1) := by decide +kernel
theorem dJ0_coder_7d493_14 : decode cJ0_coder_7d493 14 = .ok (.ireturn, 1) := by decide +kernel
theorem dJ0_isLatin1_aae02_0 : decode cJ0_isLatin1_aae02 0 = .ok (.getstatic 38, 3) := by decide +kernel
theorem dJ0_isLatin1_aae02_3 : decode cJ0_isLatin1_aae02 3 = .ok (.ifCond .eq 14, 3) := by decide +kernel
theorem dJ0_isLatin1_aae02_6 : decode cJ0_isLatin1_aae02 6 = .ok (.aload_n 0, 1) := by decide +kernel
theorem dJ0_isLatin1_aae02_7 : decode cJ0_isLatin1_aae02 7 = .ok (.getfield 15, 3) := by decide +kernel
theorem dJ0_isLatin1_aae02_10 : decode cJ0_isLatin1_aae02 10 = .ok (.ifCond .ne 7, 3) := by decide +kernel
theorem dJ0_isLatin1_aae02_13 : decode cJ0_isLatin1_aae02 13 = .ok (.iconst 1, 1) := by decide +kernel
theorem dJ0_isLatin1_aae02_14 : decode cJ0_isLatin1_aae02 14 = .ok (.goto 4, 3) := by decide +kernel
theorem dJ0_isLatin1_aae02_17 : decode cJ0_isLatin1_aae02 17 = .ok (.iconst 0, 1) := by decide +kernel
theorem dJ0_isLatin1_aae02_18 : decode cJ0_isLatin1_aae02 18 = .ok (.ireturn, 1) := by decide +kernel
theorem dJ0_checkIndex_df160_0 : decode cJ0_checkIndex_df160 0 = .ok (.iload_n 0, 1) := by decide +kernel
theorem dJ0_checkIndex_df160_1 : decode cJ0_checkIndex_df160 1 = .ok (.iload_n 1, 1) := by decide +kernel
theorem dJ0_checkIndex_df160_2 : decode cJ0_checkIndex_df160 2 = .ok (.getstatic 1053, 3) := by decide +kernel
theorem dJ0_checkIndex_df160_5 : decode cJ0_checkIndex_df160 5 = .ok (.invokestatic 1059, 3) := by decide +kernel
theorem dJ0_checkIndex_df160_8 : decode cJ0_checkIndex_df160 8 = .ok (.pop, 1) := by decide +kernel
theorem dJ0_checkIndex_df160_9 : decode cJ0_checkIndex_df160 9 = .ok (.return_, 1) := by decide +kernel
theorem dJ1_charAt_3b067_0 : decode cJ1_charAt_3b067 0 = .ok (.iload_n 1, 1) := by decide +kernel
theorem dJ1_charAt_3b067_1 : decode cJ1_charAt_3b067 1 = .ok (.aload_n 0, 1) := by decide +kernel
theorem dJ1_charAt_3b067_2 : decode cJ1_charAt_3b067 2 = .ok (.arraylength, 1) := by decide +kernel
theorem dJ1_charAt_3b067_3 : decode cJ1_charAt_3b067 3 = .ok (.invokestatic 9, 3) := by decide +kernel
theorem dJ1_charAt_3b067_6 : decode cJ1_charAt_3b067 6 = .ok (.aload_n 0, 1) := by decide +kernel
theorem dJ1_charAt_3b067_7 : decode cJ1_charAt_3b067 7 = .ok (.iload_n 1, 1) := by decide +kernel
theorem dJ1_charAt_3b067_8 : decode cJ1_charAt_3b067 8 = .ok (.baload, 1) := by decide +kernel
theorem dJ1_charAt_3b067_9 : decode cJ1_charAt_3b067 9 = .ok (.sipush 255, 3) := by decide +kernel
theorem dJ1_charAt_3b067_12 : decode cJ1_charAt_3b067 12 = .ok (.iand, 1) := by decide +kernel
theorem dJ1_charAt_3b067_13 : decode cJ1_charAt_3b067 13 = .ok (.i2c, 1) := by decide +kernel
theorem dJ1_charAt_3b067_14 : decode cJ1_charAt_3b067 14 = .ok (.ireturn, 1) := by decide +kernel
theorem dJ2_getChar_3b067_0 : decode cJ2_getChar_3b067 0 = .ok (.getstatic 44, 3) := by decide +kernel
theorem dJ2_getChar_3b067_3 : decode cJ2_getChar_3b067 3 = .ok (.ifCond .ne 25, 3) := by decide +kernel
theorem dJ2_getChar_3b067_6 : decode cJ2_getChar_3b067 6 = .ok (.iload_n 1, 1) := by decide +kernel
theorem dJ2_getChar_3b067_7 : decode cJ2_getChar_3b067 7 = .ok (.ifCond .lt 11, 3) := by decide +kernel
theorem dJ2_getChar_3b067_10 : decode cJ2_getChar_3b067 10 = .ok (.iload_n 1, 1) := by decide +kernel
theorem dJ2_getChar_3b067_11 : decode cJ2_getChar_3b067 11 = .ok (.aload_n 0, 1) := by decide +kernel
theorem dJ2_getChar_3b067_12 : decode cJ2_getChar_3b067 12 = .ok (.invokestatic 48, 3) := by decide +kernel
theorem dJ2_getChar_3b067_15 : decode cJ2_getChar_3b067 15 = .ok (.if_icmp .lt 13, 3) := by decide +kernel
theorem dJ2_getChar_3b067_18 : decode cJ2_getChar_3b067 18 = .ok (.new 52, 3) := by decide +kernel
theorem dJ2_getChar_3b067_21 : decode cJ2_getChar_3b067 21 = .ok (.dup, 1) := by decide +kernel
theorem dJ2_getChar_3b067_22 : decode cJ2_getChar_3b067 22 = .ok (.ldc 54, 2) := by decide +kernel
theorem dJ2_getChar_3b067_24 : decode cJ2_getChar_3b067 24 = .ok (.invokespecial 56, 3) := by decide +kernel
theorem dJ2_getChar_3b067_27 : decode cJ2_getChar_3b067 27 = .ok (.athrow, 1) := by decide +kernel
theorem dJ2_getChar_3b067_28 : decode cJ2_getChar_3b067 28 = .ok (.iload_n 1, 1) := by decide +kernel
theorem dJ2_getChar_3b067_29 : decode cJ2_getChar_3b067 29 = .ok (.iconst 1, 1) := by decide +kernel
theorem dJ2_getChar_3b067_30 : decode cJ2_getChar_3b067 30 = .ok (.ishl, 1) := by decide +kernel
theorem dJ2_getChar_3b067_31 : decode cJ2_getChar_3b067 31 = .ok (.istore_n 1, 1) := by decide +kernel
theorem dJ2_getChar_3b067_32 : decode cJ2_getChar_3b067 32 = .ok (.aload_n 0, 1) := by decide +kernel
theorem dJ2_getChar_3b067_33 : decode cJ2_getChar_3b067 33 = .ok (.iload_n 1, 1) := by decide +kernel
theorem dJ2_getChar_3b067_34 : decode cJ2_getChar_3b067 34 = .ok (.iinc 1 1, 3) := by decide +kernel
theorem dJ2_getChar_3b067_37 : decode cJ2_getChar_3b067 37 = .ok (.baload, 1) := by decide +kernel
theorem dJ2_getChar_3b067_38 : decode cJ2_getChar_3b067 38 = .ok (.sipush 255, 3) := by decide +kernel
theorem dJ2_getChar_3b067_41 : decode cJ2_getChar_3b067 41 = .ok (.iand, 1) := by decide +kernel
theorem dJ2_getChar_3b067_42 : decode cJ2_getChar_3b067 42 = .ok (.getstatic 59, 3) := by decide +kernel
theorem dJ2_getChar_3b067_45 : decode cJ2_getChar_3b067 45 = .ok (.ishl, 1) := by decide +kernel
theorem dJ2_getChar_3b067_46 : decode cJ2_getChar_3b067 46 = .ok (.aload_n 0, 1) := by decide +kernel
theorem dJ2_getChar_3b067_47 : decode cJ2_getChar_3b067 47 = .ok (.iload_n 1, 1) := by decide +kernel
theorem dJ2_getChar_3b067_48 : decode cJ2_getChar_3b067 48 = .ok (.baload, 1) := by decide +kernel
theorem dJ2_getChar_3b067_49 : decode cJ2_getChar_3b067 49 = .ok (.sipush 255, 3) := by decide +kernel
theorem dJ2_getChar_3b067_52 : decode cJ2_getChar_3b067 52 = .ok (.iand, 1) := by decide +kernel
theorem dJ2_getChar_3b067_53 : decode cJ2_getChar_3b067 53 = .ok (.getstatic 63, 3) := by decide +kernel
theorem dJ2_getChar_3b067_56 : decode cJ2_getChar_3b067 56 = .ok (.ishl, 1) := by decide +kernel
theorem dJ2_getChar_3b067_57 : decode cJ2_getChar_3b067 57 = .ok (.ior, 1) := by decide +kernel
theorem dJ2_getChar_3b067_58 : decode cJ2_getChar_3b067 58 = .ok (.i2c, 1) := by decide +kernel
theorem dJ2_getChar_3b067_59 : decode cJ2_getChar_3b067 59 = .ok (.ireturn, 1) := by decide +kernel
theorem dJ2_length_9d52b_0 : decode cJ2_length_9d52b 0 = .ok (.aload_n 0, 1) := by decide +kernel
theorem dJ2_length_9d52b_1 : decode cJ2_length_9d52b 1 = .ok (.arraylength, 1) := by decide +kernel
theorem dJ2_length_9d52b_2 : decode cJ2_length_9d52b 2 = .ok (.iconst 1, 1) := by decide +kernel
theorem dJ2_length_9d52b_3 : decode cJ2_length_9d52b 3 = .ok (.ishr, 1) := by decide +kernel
theorem dJ2_length_9d52b_4 : decode cJ2_length_9d52b 4 = .ok (.ireturn, 1) := by decide +kernel
theorem dJ2_charAt_3b067_0 : decode cJ2_charAt_3b067 0 = .ok (.iload_n 1, 1) := by decide +kernel
theorem dJ2_charAt_3b067_1 : decode cJ2_charAt_3b067 1 = .ok (.aload_n 0, 1) := by decide +kernel
theorem dJ2_charAt_3b067_2 : decode cJ2_charAt_3b067 2 = .ok (.invokestatic 67, 3) := by decide +kernel
theorem dJ2_charAt_3b067_5 : decode cJ2_charAt_3b067 5 = .ok (.aload_n 0, 1) := by decide +kernel
theorem dJ2_charAt_3b067_6 : decode cJ2_charAt_3b067 6 = .ok (.iload_n 1, 1) := by decide +kernel
theorem dJ2_charAt_3b067_7 : decode cJ2_charAt_3b067 7 = .ok (.invokestatic 71, 3) := by decide +kernel
theorem dJ2_charAt_3b067_10 : decode cJ2_charAt_3b067 10 = .ok (.ireturn, 1) := by decide +kernel
theorem dJ2_checkIndex_2214a_0 : decode cJ2_checkIndex_2214a 0 = .ok (.iload_n 0, 1) := by decide +kernel
theorem dJ2_checkIndex_2214a_1 : decode cJ2_checkIndex_2214a 1 = .ok (.aload_n 1, 1) := by decide +kernel
theorem dJ2_checkIndex_2214a_2 : decode cJ2_checkIndex_2214a 2 = .ok (.invokestatic 48, 3) := by decide +kernel
theorem dJ2_checkIndex_2214a_5 : decode cJ2_checkIndex_2214a 5 = .ok (.invokestatic 414, 3) := by decide +kernel
theorem dJ2_checkIndex_2214a_8 : decode cJ2_checkIndex_2214a 8 = .ok (.return_, 1) := by decide +kernel
theorem dJ3_checkIndex_8e157_0 : decode cJ3_checkIndex_8e157 0 = .ok (.iload_n 0, 1) := by decide +kernel
theorem dJ3_checkIndex_8e157_1 : decode cJ3_checkIndex_8e157 1 = .ok (.ifCond .lt 8, 3) := by decide +kernel
theorem dJ3_checkIndex_8e157_4 : decode cJ3_checkIndex_8e157 4 = .ok (.iload_n 0, 1) := by decide +kernel
theorem dJ3_checkIndex_8e157_5 : decode cJ3_checkIndex_8e157 5 = .ok (.iload_n 1, 1) := by decide +kernel
theorem dJ3_checkIndex_8e157_6 : decode cJ3_checkIndex_8e157 6 = .ok (.if_icmp .lt 10, 3) := by decide +kernel
theorem dJ3_checkIndex_8e157_9 : decode cJ3_checkIndex_8e157 9 = .ok (.aload_n 2, 1) := by decide +kernel
theorem dJ3_checkIndex_8e157_10 : decode cJ3_checkIndex_8e157 10 = .ok (.iload_n 0, 1) := by decide +kernel
theorem dJ3_checkIndex_8e157_11 : decode cJ3_checkIndex_8e157 11 = .ok (.iload_n 1, 1) := by decide +kernel
theorem dJ3_checkIndex_8e157_12 : decode cJ3_checkIndex_8e157 12 = .ok (.invokestatic 95, 3) := by decide +kernel
theorem dJ3_checkIndex_8e157_15 : decode cJ3_checkIndex_8e157 15 = .ok (.athrow, 1) := by decide +kernel
theorem dJ3_checkIndex_8e157_16 : decode cJ3_checkIndex_8e157 16 = .ok (.iload_n 0, 1) := by decide +kernel
theorem dJ3_checkIndex_8e157_17 : decode cJ3_checkIndex_8e157 17 = .ok (.ireturn, 1) := by decide +kernel
theorem dL_law_0 : decode cL_law 0 = .ok (.new 7, 3) := by decide +kernel
theorem dL_law_3 : decode cL_law 3 = .ok (.dup, 1) := by decide +kernel
theorem dL_law_4 : decode cL_law 4 = .ok (.invokespecial 9, 3) := by decide +kernel
theorem dL_law_7 : decode cL_law 7 = .ok (.astore_n 1, 1) := by decide +kernel
theorem dL_law_8 : decode cL_law 8 = .ok (.new 10, 3) := by decide +kernel
theorem dL_law_11 : decode cL_law 11 = .ok (.dup, 1) := by decide +kernel
theorem dL_law_12 : decode cL_law 12 = .ok (.invokespecial 12, 3) := by decide +kernel
theorem dL_law_15 : decode cL_law 15 = .ok (.astore_n 2, 1) := by decide +kernel
theorem dL_law_16 : decode cL_law 16 = .ok (.iconst 0, 1) := by decide +kernel
theorem dL_law_17 : decode cL_law 17 = .ok (.istore_n 3, 1) := by decide +kernel
theorem dL_law_18 : decode cL_law 18 = .ok (.iload_n 3, 1) := by decide +kernel
theorem dL_law_19 : decode cL_law 19 = .ok (.aload_n 0, 1) := by decide +kernel
theorem dL_law_20 : decode cL_law 20 = .ok (.arraylength, 1) := by decide +kernel
theorem dL_law_21 : decode cL_law 21 = .ok (.iconst 4, 1) := by decide +kernel
theorem dL_law_22 : decode cL_law 22 = .ok (.isub, 1) := by decide +kernel
theorem dL_law_23 : decode cL_law 23 = .ok (.if_icmp .gt 858, 3) := by decide +kernel
theorem dL_law_26 : decode cL_law 26 = .ok (.aload_n 0, 1) := by decide +kernel
theorem dL_law_27 : decode cL_law 27 = .ok (.iload_n 3, 1) := by decide +kernel
theorem dL_law_28 : decode cL_law 28 = .ok (.iaload, 1) := by decide +kernel
theorem dL_law_29 : decode cL_law 29 = .ok (.bipush 31, 2) := by decide +kernel
theorem dL_law_31 : decode cL_law 31 = .ok (.iand, 1) := by decide +kernel
theorem dL_law_32 : decode cL_law 32 = .ok (.tableswitch 843 0 30 #[140, 163, 176, 209, 242, 275, 308, 331, 354, 387, 410, 433, 446, 459, 482, 505, 528, 541, 564, 577, 590, 613, 636, 669, 712, 735, 748, 761, 794, 807, 820], 140) := by decide +kernel
theorem dL_law_172 : decode cL_law 172 = .ok (.aload_n 1, 1) := by decide +kernel
theorem dL_law_173 : decode cL_law 173 = .ok (.aload_n 0, 1) := by decide +kernel
theorem dL_law_174 : decode cL_law 174 = .ok (.iload_n 3, 1) := by decide +kernel
theorem dL_law_175 : decode cL_law 175 = .ok (.iconst 1, 1) := by decide +kernel
theorem dL_law_176 : decode cL_law 176 = .ok (.iadd, 1) := by decide +kernel
theorem dL_law_177 : decode cL_law 177 = .ok (.iaload, 1) := by decide +kernel
theorem dL_law_178 : decode cL_law 178 = .ok (.invokevirtual 13, 3) := by decide +kernel
theorem dL_law_181 : decode cL_law 181 = .ok (.aload_n 2, 1) := by decide +kernel
theorem dL_law_182 : decode cL_law 182 = .ok (.aload_n 0, 1) := by decide +kernel
theorem dL_law_183 : decode cL_law 183 = .ok (.iload_n 3, 1) := by decide +kernel
theorem dL_law_184 : decode cL_law 184 = .ok (.iconst 1, 1) := by decide +kernel
theorem dL_law_185 : decode cL_law 185 = .ok (.iadd, 1) := by decide +kernel
theorem dL_law_186 : decode cL_law 186 = .ok (.iaload, 1) := by decide +kernel
theorem dL_law_187 : decode cL_law 187 = .ok (.invokevirtual 17, 3) := by decide +kernel
theorem dL_law_190 : decode cL_law 190 = .ok (.if_icmp .eq 685, 3) := by decide +kernel
theorem dL_law_193 : decode cL_law 193 = .ok (.iconst 0, 1) := by decide +kernel
theorem dL_law_194 : decode cL_law 194 = .ok (.ireturn, 1) := by decide +kernel
theorem dL_law_195 : decode cL_law 195 = .ok (.aload_n 1, 1) := by decide +kernel
theorem dL_law_196 : decode cL_law 196 = .ok (.invokevirtual 18, 3) := by decide +kernel
theorem dL_law_199 : decode cL_law 199 = .ok (.aload_n 2, 1) := by decide +kernel
theorem dL_law_200 : decode cL_law 200 = .ok (.invokevirtual 22, 3) := by decide +kernel
theorem dL_law_203 : decode cL_law 203 = .ok (.if_icmp .eq 672, 3) := by decide +kernel
theorem dL_law_206 : decode cL_law 206 = .ok (.iconst 0, 1) := by decide +kernel
theorem dL_law_207 : decode cL_law 207 = .ok (.ireturn, 1) := by decide +kernel
theorem dL_law_208 : decode cL_law 208 = .ok (.aload_n 1, 1) := by decide +kernel
theorem dL_law_209 : decode cL_law 209 = .ok (.aload_n 0, 1) := by decide +kernel
theorem dL_law_210 : decode cL_law 210 = .ok (.iload_n 3, 1) := by decide +kernel
theorem dL_law_211 : decode cL_law 211 = .ok (.iconst 1, 1) := by decide +kernel
theorem dL_law_212 : decode cL_law 212 = .ok (.iadd, 1) := by decide +kernel
theorem dL_law_213 : decode cL_law 213 = .ok (.iaload, 1) := by decide +kernel
theorem dL_law_214 : decode cL_law 214 = .ok (.aload_n 0, 1) := by decide +kernel
theorem dL_law_215 : decode cL_law 215 = .ok (.iload_n 3, 1) := by decide +kernel
theorem dL_law_216 : decode cL_law 216 = .ok (.iconst 2, 1) := by decide +kernel
theorem dL_law_217 : decode cL_law 217 = .ok (.iadd, 1) := by decide +kernel
theorem dL_law_218 : decode cL_law 218 = .ok (.iaload, 1) := by decide +kernel
theorem dL_law_219 : decode cL_law 219 = .ok (.invokevirtual 23, 3) := by decide +kernel
theorem dL_law_222 : decode cL_law 222 = .ok (.aload_n 2, 1) := by decide +kernel
theorem dL_law_223 : decode cL_law 223 = .ok (.aload_n 0, 1) := by decide +kernel
theorem dL_law_224 : decode cL_law 224 = .ok (.iload_n 3, 1) := by decide +kernel
theorem dL_law_225 : decode cL_law 225 = .ok (.iconst 1, 1) := by decide +kernel
theorem dL_law_226 : decode cL_law 226 = .ok (.iadd, 1) := by decide +kernel
theorem dL_law_227 : decode cL_law 227 = .ok (.iaload, 1) := by decide +kernel
theorem dL_law_228 : decode cL_law 228 = .ok (.aload_n 0, 1) := by decide +kernel
theorem dL_law_229 : decode cL_law 229 = .ok (.iload_n 3, 1) := by decide +kernel
theorem dL_law_230 : decode cL_law 230 = .ok (.iconst 2, 1) := by decide +kernel
theorem dL_law_231 : decode cL_law 231 = .ok (.iadd, 1) := by decide +kernel
theorem dL_law_232 : decode cL_law 232 = .ok (.iaload, 1) := by decide +kernel
theorem dL_law_233 : decode cL_law 233 = .ok (.invokevirtual 27, 3) := by decide +kernel
theorem dL_law_236 : decode cL_law 236 = .ok (.if_icmp .eq 639, 3) := by decide +kernel
theorem dL_law_239 : decode cL_law 239 = .ok (.iconst 0, 1) := by decide +kernel
theorem dL_law_240 : decode cL_law 240 = .ok (.ireturn, 1) := by decide +kernel
theorem dL_law_241 : decode cL_law 241 = .ok (.aload_n 1, 1) := by decide +kernel
theorem dL_law_242 : decode cL_law 242 = .ok (.aload_n 0, 1) := by decide +kernel
theorem dL_law_243 : decode cL_law 243 = .ok (.iload_n 3, 1) := by decide +kernel
theorem dL_law_244 : decode cL_law 244 = .ok (.iconst 1, 1) := by decide +kernel
theorem dL_law_245 : decode cL_law 245 = .ok (.iadd, 1) := by decide +kernel
theorem dL_law_246 : decode cL_law 246 = .ok (.iaload, 1) := by decide +kernel
theorem dL_law_247 : decode cL_law 247 = .ok (.aload_n 0, 1) := by decide +kernel
theorem dL_law_248 : decode cL_law 248 = .ok (.iload_n 3, 1) := by decide +kernel
theorem dL_law_249 : decode cL_law 249 = .ok (.iconst 2, 1) := by decide +kernel
theorem dL_law_250 : decode cL_law 250 = .ok (.iadd, 1) := by decide +kernel
theorem dL_law_251 : decode cL_law 251 = .ok (.iaload, 1) := by decide +kernel
theorem dL_law_252 : decode cL_law 252 = .ok (.invokevirtual 28, 3) := by decide +kernel
theorem dL_law_255 : decode cL_law 255 = .ok (.aload_n 2, 1) := by decide +kernel
theorem dL_law_256 : decode cL_law 256 = .ok (.aload_n 0, 1) := by decide +kernel
theorem dL_law_257 : decode cL_law 257 = .ok (.iload_n 3, 1) := by decide +kernel
theorem dL_law_258 : decode cL_law 258 = .ok (.iconst 1, 1) := by decide +kernel
theorem dL_law_259 : decode cL_law 259 = .ok (.iadd, 1) := by decide +kernel
theorem dL_law_260 : decode cL_law 260 = .ok (.iaload, 1) := by decide +kernel
theorem dL_law_261 : decode cL_law 261 = .ok (.aload_n 0, 1) := by decide +kernel
theorem dL_law_262 : decode cL_law 262 = .ok (.iload_n 3, 1) := by decide +kernel
theorem dL_law_263 : decode cL_law 263 = .ok (.iconst 2, 1) := by decide +kernel
theorem dL_law_264 : decode cL_law 264 = .ok (.iadd, 1) := by decide +kernel
theorem dL_law_265 : decode cL_law 265 = .ok (.iaload, 1) := by decide +kernel
theorem dL_law_266 : decode cL_law 266 = .ok (.invokevirtual 31, 3) := by decide +kernel
theorem dL_law_269 : decode cL_law 269 = .ok (.if_icmp .eq 606, 3) := by decide +kernel
theorem dL_law_272 : decode cL_law 272 = .ok (.iconst 0, 1) := by decide +kernel
theorem dL_law_273 : decode cL_law 273 = .ok (.ireturn, 1) := by decide +kernel
theorem dL_law_274 : decode cL_law 274 = .ok (.aload_n 1, 1) := by decide +kernel
theorem dL_law_275 : decode cL_law 275 = .ok (.aload_n 0, 1) := by decide +kernel
theorem dL_law_276 : decode cL_law 276 = .ok (.iload_n 3, 1) := by decide +kernel
theorem dL_law_277 : decode cL_law 277 = .ok (.iconst 1, 1) := by decide +kernel
theorem dL_law_278 : decode cL_law 278 = .ok (.iadd, 1) := by decide +kernel
theorem dL_law_279 : decode cL_law 279 = .ok (.iaload, 1) := by decide +kernel
theorem dL_law_280 : decode cL_law 280 = .ok (.aload_n 0, 1) := by decide +kernel
theorem dL_law_281 : decode cL_law 281 = .ok (.iload_n 3, 1) := by decide +kernel
theorem dL_law_282 : decode cL_law 282 = .ok (.iconst 2, 1) := by decide +kernel
theorem dL_law_283 : decode cL_law 283 = .ok (.iadd, 1) := by decide +kernel
theorem dL_law_284 : decode cL_law 284 = .ok (.iaload, 1) := by decide +kernel
theorem dL_law_285 : decode cL_law 285 = .ok (.invokevirtual 32, 3) := by decide +kernel
theorem dL_law_288 : decode cL_law 288 = .ok (.aload_n 2, 1) := by decide +kernel
theorem dL_law_289 : decode cL_law 289 = .ok (.aload_n 0, 1) := by decide +kernel
theorem dL_law_290 : decode cL_law 290 = .ok (.iload_n 3, 1) := by decide +kernel
theorem dL_law_291 : decode cL_law 291 = .ok (.iconst 1, 1) := by decide +kernel
theorem dL_law_292 : decode cL_law 292 = .ok (.iadd, 1) := by decide +kernel
theorem dL_law_293 : decode cL_law 293 = .ok (.iaload, 1) := by decide +kernel
theorem dL_law_294 : decode cL_law 294 = .ok (.aload_n 0, 1) := by decide +kernel
theorem dL_law_295 : decode cL_law 295 = .ok (.iload_n 3, 1) := by decide +kernel
theorem dL_law_296 : decode cL_law 296 = .ok (.iconst 2, 1) := by decide +kernel
theorem dL_law_297 : decode cL_law 297 = .ok (.iadd, 1) := by decide +kernel
theorem dL_law_298 : decode cL_law 298 = .ok (.iaload, 1) := by decide +kernel
theorem dL_law_299 : decode cL_law 299 = .ok (.invokevirtual 35, 3) := by decide +kernel
theorem dL_law_302 : decode cL_law 302 = .ok (.if_icmp .eq 573, 3) := by decide +kernel
theorem dL_law_305 : decode cL_law 305 = .ok (.iconst 0, 1) := by decide +kernel
theorem dL_law_306 : decode cL_law 306 = .ok (.ireturn, 1) := by decide +kernel
theorem dL_law_307 : decode cL_law 307 = .ok (.aload_n 1, 1) := by decide +kernel
theorem dL_law_308 : decode cL_law 308 = .ok (.aload_n 0, 1) := by decide +kernel
theorem dL_law_309 : decode cL_law 309 = .ok (.iload_n 3, 1) := by decide +kernel
theorem dL_law_310 : decode cL_law 310 = .ok (.iconst 1, 1) := by decide +kernel
theorem dL_law_311 : decode cL_law 311 = .ok (.iadd, 1) := by decide +kernel
theorem dL_law_312 : decode cL_law 312 = .ok (.iaload, 1) := by decide +kernel
theorem dL_law_313 : decode cL_law 313 = .ok (.aload_n 0, 1) := by decide +kernel
theorem dL_law_314 : decode cL_law 314 = .ok (.iload_n 3, 1) := by decide +kernel
theorem dL_law_315 : decode cL_law 315 = .ok (.iconst 2, 1) := by decide +kernel
theorem dL_law_316 : decode cL_law 316 = .ok (.iadd, 1) := by decide +kernel
theorem dL_law_317 : decode cL_law 317 = .ok (.iaload, 1) := by decide +kernel
theorem dL_law_318 : decode cL_law 318 = .ok (.invokevirtual 36, 3) := by decide +kernel
theorem dL_law_321 : decode cL_law 321 = .ok (.aload_n 2, 1) := by decide +kernel
theorem dL_law_322 : decode cL_law 322 = .ok (.aload_n 0, 1) := by decide +kernel
theorem dL_law_323 : decode cL_law 323 = .ok (.iload_n 3, 1) := by decide +kernel
theorem dL_law_324 : decode cL_law 324 = .ok (.iconst 1, 1) := by decide +kernel
theorem dL_law_325 : decode cL_law 325 = .ok (.iadd, 1) := by decide +kernel
theorem dL_law_326 : decode cL_law 326 = .ok (.iaload, 1) := by decide +kernel
theorem dL_law_327 : decode cL_law 327 = .ok (.aload_n 0, 1) := by decide +kernel
theorem dL_law_328 : decode cL_law 328 = .ok (.iload_n 3, 1) := by decide +kernel
theorem dL_law_329 : decode cL_law 329 = .ok (.iconst 2, 1) := by decide +kernel
theorem dL_law_330 : decode cL_law 330 = .ok (.iadd, 1) := by decide +kernel
theorem dL_law_331 : decode cL_law 331 = .ok (.iaload, 1) := by decide +kernel
theorem dL_law_332 : decode cL_law 332 = .ok (.invokevirtual 39, 3) := by decide +kernel
theorem dL_law_335 : decode cL_law 335 = .ok (.if_icmp .eq 540, 3) := by decide +kernel
theorem dL_law_338 : decode cL_law 338 = .ok (.iconst 0, 1) := by decide +kernel
theorem dL_law_339 : decode cL_law 339 = .ok (.ireturn, 1) := by decide +kernel
theorem dL_law_340 : decode cL_law 340 = .ok (.aload_n 1, 1) := by decide +kernel
theorem dL_law_341 : decode cL_law 341 = .ok (.aload_n 0, 1) := by decide +kernel
theorem dL_law_342 : decode cL_law 342 = .ok (.iload_n 3, 1) := by decide +kernel
theorem dL_law_343 : decode cL_law 343 = .ok (.iconst 1, 1) := by decide +kernel
theorem dL_law_344 : decode cL_law 344 = .ok (.iadd, 1) := by decide +kernel
theorem dL_law_345 : decode cL_law 345 = .ok (.iaload, 1) := by decide +kernel
theorem dL_law_346 : decode cL_law 346 = .ok (.invokevirtual 40, 3) := by decide +kernel
theorem dL_law_349 : decode cL_law 349 = .ok (.aload_n 2, 1) := by decide +kernel
theorem dL_law_350 : decode cL_law 350 = .ok (.aload_n 0, 1) := by decide +kernel
theorem dL_law_351 : decode cL_law 351 = .ok (.iload_n 3, 1) := by decide +kernel
theorem dL_law_352 : decode cL_law 352 = .ok (.iconst 1, 1) := by decide +kernel
theorem dL_law_353 : decode cL_law 353 = .ok (.iadd, 1) := by decide +kernel
theorem dL_law_354 : decode cL_law 354 = .ok (.iaload, 1) := by decide +kernel
theorem dL_law_355 : decode cL_law 355 = .ok (.invokevirtual 43, 3) := by decide +kernel
theorem dL_law_358 : decode cL_law 358 = .ok (.if_icmp .eq 517, 3) := by decide +kernel
theorem dL_law_361 : decode cL_law 361 = .ok (.iconst 0, 1) := by decide +kernel
theorem dL_law_362 : decode cL_law 362 = .ok (.ireturn, 1) := by decide +kernel
theorem dL_law_363 : decode cL_law 363 = .ok (.aload_n 1, 1) := by decide +kernel
theorem dL_law_364 : decode cL_law 364 = .ok (.aload_n 0, 1) := by decide +kernel
theorem dL_law_365 : decode cL_law 365 = .ok (.iload_n 3, 1) := by decide +kernel
theorem dL_law_366 : decode cL_law 366 = .ok (.iconst 1, 1) := by decide +kernel
theorem dL_law_367 : decode cL_law 367 = .ok (.iadd, 1) := by decide +kernel
theorem dL_law_368 : decode cL_law 368 = .ok (.iaload, 1) := by decide +kernel
theorem dL_law_369 : decode cL_law 369 = .ok (.invokevirtual 44, 3) := by decide +kernel
theorem dL_law_372 : decode cL_law 372 = .ok (.aload_n 2, 1) := by decide +kernel
theorem dL_law_373 : decode cL_law 373 = .ok (.aload_n 0, 1) := by decide +kernel
theorem dL_law_374 : decode cL_law 374 = .ok (.iload_n 3, 1) := by decide +kernel
theorem dL_law_375 : decode cL_law 375 = .ok (.iconst 1, 1) := by decide +kernel
theorem dL_law_376 : decode cL_law 376 = .ok (.iadd, 1) := by decide +kernel
theorem dL_law_377 : decode cL_law 377 = .ok (.iaload, 1) := by decide +kernel
theorem dL_law_378 : decode cL_law 378 = .ok (.invokevirtual 47, 3) := by decide +kernel
theorem dL_law_381 : decode cL_law 381 = .ok (.if_icmp .eq 494, 3) := by decide +kernel
theorem dL_law_384 : decode cL_law 384 = .ok (.iconst 0, 1) := by decide +kernel
theorem dL_law_385 : decode cL_law 385 = .ok (.ireturn, 1) := by decide +kernel
theorem dL_law_386 : decode cL_law 386 = .ok (.aload_n 1, 1) := by decide +kernel
theorem dL_law_387 : decode cL_law 387 = .ok (.aload_n 0, 1) := by decide +kernel
theorem dL_law_388 : decode cL_law 388 = .ok (.iload_n 3, 1) := by decide +kernel
theorem dL_law_389 : decode cL_law 389 = .ok (.iconst 1, 1) := by decide +kernel
theorem dL_law_390 : decode cL_law 390 = .ok (.iadd, 1) := by decide +kernel
theorem dL_law_391 : decode cL_law 391 = .ok (.iaload, 1) := by decide +kernel
theorem dL_law_392 : decode cL_law 392 = .ok (.aload_n 0, 1) := by decide +kernel
theorem dL_law_393 : decode cL_law 393 = .ok (.iload_n 3, 1) := by decide +kernel
theorem dL_law_394 : decode cL_law 394 = .ok (.iconst 2, 1) := by decide +kernel
theorem dL_law_395 : decode cL_law 395 = .ok (.iadd, 1) := by decide +kernel
theorem dL_law_396 : decode cL_law 396 = .ok (.iaload, 1) := by decide +kernel
theorem dL_law_397 : decode cL_law 397 = .ok (.invokevirtual 48, 3) := by decide +kernel
theorem dL_law_400 : decode cL_law 400 = .ok (.aload_n 2, 1) := by decide +kernel
theorem dL_law_401 : decode cL_law 401 = .ok (.aload_n 0, 1) := by decide +kernel
theorem dL_law_402 : decode cL_law 402 = .ok (.iload_n 3, 1) := by decide +kernel
theorem dL_law_403 : decode cL_law 403 = .ok (.iconst 1, 1) := by decide +kernel
theorem dL_law_404 : decode cL_law 404 = .ok (.iadd, 1) := by decide +kernel
theorem dL_law_405 : decode cL_law 405 = .ok (.iaload, 1) := by decide +kernel
theorem dL_law_406 : decode cL_law 406 = .ok (.aload_n 0, 1) := by decide +kernel
theorem dL_law_407 : decode cL_law 407 = .ok (.iload_n 3, 1) := by decide +kernel
theorem dL_law_408 : decode cL_law 408 = .ok (.iconst 2, 1) := by decide +kernel
theorem dL_law_409 : decode cL_law 409 = .ok (.iadd, 1) := by decide +kernel
theorem dL_law_410 : decode cL_law 410 = .ok (.iaload, 1) := by decide +kernel
theorem dL_law_411 : decode cL_law 411 = .ok (.invokevirtual 51, 3) := by decide +kernel
theorem dL_law_414 : decode cL_law 414 = .ok (.if_icmp .eq 461, 3) := by decide +kernel
theorem dL_law_417 : decode cL_law 417 = .ok (.iconst 0, 1) := by decide +kernel
theorem dL_law_418 : decode cL_law 418 = .ok (.ireturn, 1) := by decide +kernel
theorem dL_law_419 : decode cL_law 419 = .ok (.aload_n 1, 1) := by decide +kernel
theorem dL_law_420 : decode cL_law 420 = .ok (.aload_n 0, 1) := by decide +kernel
theorem dL_law_421 : decode cL_law 421 = .ok (.iload_n 3, 1) := by decide +kernel
theorem dL_law_422 : decode cL_law 422 = .ok (.iconst 1, 1) := by decide +kernel
theorem dL_law_423 : decode cL_law 423 = .ok (.iadd, 1) := by decide +kernel
theorem dL_law_424 : decode cL_law 424 = .ok (.iaload, 1) := by decide +kernel
theorem dL_law_425 : decode cL_law 425 = .ok (.invokevirtual 52, 3) := by decide +kernel
theorem dL_law_428 : decode cL_law 428 = .ok (.aload_n 2, 1) := by decide +kernel
theorem dL_law_429 : decode cL_law 429 = .ok (.aload_n 0, 1) := by decide +kernel
theorem dL_law_430 : decode cL_law 430 = .ok (.iload_n 3, 1) := by decide +kernel
theorem dL_law_431 : decode cL_law 431 = .ok (.iconst 1, 1) := by decide +kernel
theorem dL_law_432 : decode cL_law 432 = .ok (.iadd, 1) := by decide +kernel
theorem dL_law_433 : decode cL_law 433 = .ok (.iaload, 1) := by decide +kernel
theorem dL_law_434 : decode cL_law 434 = .ok (.invokevirtual 55, 3) := by decide +kernel
theorem dL_law_437 : decode cL_law 437 = .ok (.if_icmp .eq 438, 3) := by decide +kernel
theorem dL_law_440 : decode cL_law 440 = .ok (.iconst 0, 1) := by decide +kernel
theorem dL_law_441 : decode cL_law 441 = .ok (.ireturn, 1) := by decide +kernel
theorem dL_law_442 : decode cL_law 442 = .ok (.aload_n 1, 1) := by decide +kernel
theorem dL_law_443 : decode cL_law 443 = .ok (.aload_n 0, 1) := by decide +kernel
theorem dL_law_444 : decode cL_law 444 = .ok (.iload_n 3, 1) := by decide +kernel
theorem dL_law_445 : decode cL_law 445 = .ok (.iconst 1, 1) := by decide +kernel
theorem dL_law_446 : decode cL_law 446 = .ok (.iadd, 1) := by decide +kernel
theorem dL_law_447 : decode cL_law 447 = .ok (.iaload, 1) := by decide +kernel
theorem dL_law_448 : decode cL_law 448 = .ok (.invokevirtual 56, 3) := by decide +kernel
theorem dL_law_451 : decode cL_law 451 = .ok (.aload_n 2, 1) := by decide +kernel
theorem dL_law_452 : decode cL_law 452 = .ok (.aload_n 0, 1) := by decide +kernel
theorem dL_law_453 : decode cL_law 453 = .ok (.iload_n 3, 1) := by decide +kernel
theorem dL_law_454 : decode cL_law 454 = .ok (.iconst 1, 1) := by decide +kernel
theorem dL_law_455 : decode cL_law 455 = .ok (.iadd, 1) := by decide +kernel
theorem dL_law_456 : decode cL_law 456 = .ok (.iaload, 1) := by decide +kernel
theorem dL_law_457 : decode cL_law 457 = .ok (.invokevirtual 59, 3) := by decide +kernel
theorem dL_law_460 : decode cL_law 460 = .ok (.if_icmp .eq 415, 3) := by decide +kernel
theorem dL_law_463 : decode cL_law 463 = .ok (.iconst 0, 1) := by decide +kernel
theorem dL_law_464 : decode cL_law 464 = .ok (.ireturn, 1) := by decide +kernel
theorem dL_law_465 : decode cL_law 465 = .ok (.aload_n 1, 1) := by decide +kernel
theorem dL_law_466 : decode cL_law 466 = .ok (.invokevirtual 60, 3) := by decide +kernel
theorem dL_law_469 : decode cL_law 469 = .ok (.aload_n 2, 1) := by decide +kernel
theorem dL_law_470 : decode cL_law 470 = .ok (.invokevirtual 63, 3) := by decide +kernel
theorem dL_law_473 : decode cL_law 473 = .ok (.if_icmp .eq 402, 3) := by decide +kernel
theorem dL_law_476 : decode cL_law 476 = .ok (.iconst 0, 1) := by decide +kernel
theorem dL_law_477 : decode cL_law 477 = .ok (.ireturn, 1) := by decide +kernel
theorem dL_law_478 : decode cL_law 478 = .ok (.aload_n 1, 1) := by decide +kernel
theorem dL_law_479 : decode cL_law 479 = .ok (.invokevirtual 64, 3) := by decide +kernel
theorem dL_law_482 : decode cL_law 482 = .ok (.aload_n 2, 1) := by decide +kernel
theorem dL_law_483 : decode cL_law 483 = .ok (.invokevirtual 67, 3) := by decide +kernel
theorem dL_law_486 : decode cL_law 486 = .ok (.if_icmp .eq 389, 3) := by decide +kernel
theorem dL_law_489 : decode cL_law 489 = .ok (.iconst 0, 1) := by decide +kernel
theorem dL_law_490 : decode cL_law 490 = .ok (.ireturn, 1) := by decide +kernel
theorem dL_law_491 : decode cL_law 491 = .ok (.aload_n 1, 1) := by decide +kernel
theorem dL_law_492 : decode cL_law 492 = .ok (.aload_n 0, 1) := by decide +kernel
theorem dL_law_493 : decode cL_law 493 = .ok (.iload_n 3, 1) := by decide +kernel
theorem dL_law_494 : decode cL_law 494 = .ok (.iconst 1, 1) := by decide +kernel
theorem dL_law_495 : decode cL_law 495 = .ok (.iadd, 1) := by decide +kernel
theorem dL_law_496 : decode cL_law 496 = .ok (.iaload, 1) := by decide +kernel
theorem dL_law_497 : decode cL_law 497 = .ok (.invokevirtual 68, 3) := by decide +kernel
theorem dL_law_500 : decode cL_law 500 = .ok (.aload_n 2, 1) := by decide +kernel
theorem dL_law_501 : decode cL_law 501 = .ok (.aload_n 0, 1) := by decide +kernel
theorem dL_law_502 : decode cL_law 502 = .ok (.iload_n 3, 1) := by decide +kernel
theorem dL_law_503 : decode cL_law 503 = .ok (.iconst 1, 1) := by decide +kernel
theorem dL_law_504 : decode cL_law 504 = .ok (.iadd, 1) := by decide +kernel
theorem dL_law_505 : decode cL_law 505 = .ok (.iaload, 1) := by decide +kernel
theorem dL_law_506 : decode cL_law 506 = .ok (.invokevirtual 71, 3) := by decide +kernel
theorem dL_law_509 : decode cL_law 509 = .ok (.if_icmp .eq 366, 3) := by decide +kernel
theorem dL_law_512 : decode cL_law 512 = .ok (.iconst 0, 1) := by decide +kernel
theorem dL_law_513 : decode cL_law 513 = .ok (.ireturn, 1) := by decide +kernel
theorem dL_law_514 : decode cL_law 514 = .ok (.aload_n 1, 1) := by decide +kernel
theorem dL_law_515 : decode cL_law 515 = .ok (.aload_n 0, 1) := by decide +kernel
theorem dL_law_516 : decode cL_law 516 = .ok (.iload_n 3, 1) := by decide +kernel
theorem dL_law_517 : decode cL_law 517 = .ok (.iconst 1, 1) := by decide +kernel
theorem dL_law_518 : decode cL_law 518 = .ok (.iadd, 1) := by decide +kernel
theorem dL_law_519 : decode cL_law 519 = .ok (.iaload, 1) := by decide +kernel
theorem dL_law_520 : decode cL_law 520 = .ok (.invokevirtual 72, 3) := by decide +kernel
theorem dL_law_523 : decode cL_law 523 = .ok (.aload_n 2, 1) := by decide +kernel
theorem dL_law_524 : decode cL_law 524 = .ok (.aload_n 0, 1) := by decide +kernel
theorem dL_law_525 : decode cL_law 525 = .ok (.iload_n 3, 1) := by decide +kernel
theorem dL_law_526 : decode cL_law 526 = .ok (.iconst 1, 1) := by decide +kernel
theorem dL_law_527 : decode cL_law 527 = .ok (.iadd, 1) := by decide +kernel
theorem dL_law_528 : decode cL_law 528 = .ok (.iaload, 1) := by decide +kernel
theorem dL_law_529 : decode cL_law 529 = .ok (.invokevirtual 75, 3) := by decide +kernel
theorem dL_law_532 : decode cL_law 532 = .ok (.if_icmp .eq 343, 3) := by decide +kernel
theorem dL_law_535 : decode cL_law 535 = .ok (.iconst 0, 1) := by decide +kernel
theorem dL_law_536 : decode cL_law 536 = .ok (.ireturn, 1) := by decide +kernel
theorem dL_law_537 : decode cL_law 537 = .ok (.aload_n 1, 1) := by decide +kernel
theorem dL_law_538 : decode cL_law 538 = .ok (.aload_n 0, 1) := by decide +kernel
theorem dL_law_539 : decode cL_law 539 = .ok (.iload_n 3, 1) := by decide +kernel
theorem dL_law_540 : decode cL_law 540 = .ok (.iconst 1, 1) := by decide +kernel
theorem dL_law_541 : decode cL_law 541 = .ok (.iadd, 1) := by decide +kernel
theorem dL_law_542 : decode cL_law 542 = .ok (.iaload, 1) := by decide +kernel
theorem dL_law_543 : decode cL_law 543 = .ok (.invokevirtual 76, 3) := by decide +kernel
theorem dL_law_546 : decode cL_law 546 = .ok (.aload_n 2, 1) := by decide +kernel
theorem dL_law_547 : decode cL_law 547 = .ok (.aload_n 0, 1) := by decide +kernel
theorem dL_law_548 : decode cL_law 548 = .ok (.iload_n 3, 1) := by decide +kernel
theorem dL_law_549 : decode cL_law 549 = .ok (.iconst 1, 1) := by decide +kernel
theorem dL_law_550 : decode cL_law 550 = .ok (.iadd, 1) := by decide +kernel
theorem dL_law_551 : decode cL_law 551 = .ok (.iaload, 1) := by decide +kernel
theorem dL_law_552 : decode cL_law 552 = .ok (.invokevirtual 79, 3) := by decide +kernel
theorem dL_law_555 : decode cL_law 555 = .ok (.if_icmp .eq 320, 3) := by decide +kernel
theorem dL_law_558 : decode cL_law 558 = .ok (.iconst 0, 1) := by decide +kernel
theorem dL_law_559 : decode cL_law 559 = .ok (.ireturn, 1) := by decide +kernel
theorem dL_law_560 : decode cL_law 560 = .ok (.aload_n 1, 1) := by decide +kernel
theorem dL_law_561 : decode cL_law 561 = .ok (.invokevirtual 80, 3) := by decide +kernel
theorem dL_law_564 : decode cL_law 564 = .ok (.aload_n 2, 1) := by decide +kernel
theorem dL_law_565 : decode cL_law 565 = .ok (.invokevirtual 83, 3) := by decide +kernel
theorem dL_law_568 : decode cL_law 568 = .ok (.if_icmp .eq 307, 3) := by decide +kernel
theorem dL_law_571 : decode cL_law 571 = .ok (.iconst 0, 1) := by decide +kernel
theorem dL_law_572 : decode cL_law 572 = .ok (.ireturn, 1) := by decide +kernel
theorem dL_law_573 : decode cL_law 573 = .ok (.aload_n 1, 1) := by decide +kernel
theorem dL_law_574 : decode cL_law 574 = .ok (.aload_n 0, 1) := by decide +kernel
theorem dL_law_575 : decode cL_law 575 = .ok (.iload_n 3, 1) := by decide +kernel
theorem dL_law_576 : decode cL_law 576 = .ok (.iconst 1, 1) := by decide +kernel
theorem dL_law_577 : decode cL_law 577 = .ok (.iadd, 1) := by decide +kernel
theorem dL_law_578 : decode cL_law 578 = .ok (.iaload, 1) := by decide +kernel
theorem dL_law_579 : decode cL_law 579 = .ok (.invokevirtual 84, 3) := by decide +kernel
theorem dL_law_582 : decode cL_law 582 = .ok (.aload_n 2, 1) := by decide +kernel
theorem dL_law_583 : decode cL_law 583 = .ok (.aload_n 0, 1) := by decide +kernel
theorem dL_law_584 : decode cL_law 584 = .ok (.iload_n 3, 1) := by decide +kernel
theorem dL_law_585 : decode cL_law 585 = .ok (.iconst 1, 1) := by decide +kernel
theorem dL_law_586 : decode cL_law 586 = .ok (.iadd, 1) := by decide +kernel
theorem dL_law_587 : decode cL_law 587 = .ok (.iaload, 1) := by decide +kernel
theorem dL_law_588 : decode cL_law 588 = .ok (.invokevirtual 87, 3) := by decide +kernel
theorem dL_law_591 : decode cL_law 591 = .ok (.if_icmp .eq 284, 3) := by decide +kernel
theorem dL_law_594 : decode cL_law 594 = .ok (.iconst 0, 1) := by decide +kernel
theorem dL_law_595 : decode cL_law 595 = .ok (.ireturn, 1) := by decide +kernel
theorem dL_law_596 : decode cL_law 596 = .ok (.aload_n 1, 1) := by decide +kernel
theorem dL_law_597 : decode cL_law 597 = .ok (.invokevirtual 88, 3) := by decide +kernel
theorem dL_law_600 : decode cL_law 600 = .ok (.aload_n 2, 1) := by decide +kernel
theorem dL_law_601 : decode cL_law 601 = .ok (.invokevirtual 91, 3) := by decide +kernel
theorem dL_law_604 : decode cL_law 604 = .ok (.if_icmp .eq 271, 3) := by decide +kernel
theorem dL_law_607 : decode cL_law 607 = .ok (.iconst 0, 1) := by decide +kernel
theorem dL_law_608 : decode cL_law 608 = .ok (.ireturn, 1) := by decide +kernel
theorem dL_law_609 : decode cL_law 609 = .ok (.aload_n 1, 1) := by decide +kernel
theorem dL_law_610 : decode cL_law 610 = .ok (.invokevirtual 92, 3) := by decide +kernel
theorem dL_law_613 : decode cL_law 613 = .ok (.aload_n 2, 1) := by decide +kernel
theorem dL_law_614 : decode cL_law 614 = .ok (.invokevirtual 95, 3) := by decide +kernel
theorem dL_law_617 : decode cL_law 617 = .ok (.if_icmp .eq 258, 3) := by decide +kernel
theorem dL_law_620 : decode cL_law 620 = .ok (.iconst 0, 1) := by decide +kernel
theorem dL_law_621 : decode cL_law 621 = .ok (.ireturn, 1) := by decide +kernel
theorem dL_law_622 : decode cL_law 622 = .ok (.aload_n 1, 1) := by decide +kernel
theorem dL_law_623 : decode cL_law 623 = .ok (.aload_n 0, 1) := by decide +kernel
theorem dL_law_624 : decode cL_law 624 = .ok (.iload_n 3, 1) := by decide +kernel
theorem dL_law_625 : decode cL_law 625 = .ok (.iconst 1, 1) := by decide +kernel
theorem dL_law_626 : decode cL_law 626 = .ok (.iadd, 1) := by decide +kernel
theorem dL_law_627 : decode cL_law 627 = .ok (.iaload, 1) := by decide +kernel
theorem dL_law_628 : decode cL_law 628 = .ok (.invokevirtual 96, 3) := by decide +kernel
theorem dL_law_631 : decode cL_law 631 = .ok (.aload_n 2, 1) := by decide +kernel
theorem dL_law_632 : decode cL_law 632 = .ok (.aload_n 0, 1) := by decide +kernel
theorem dL_law_633 : decode cL_law 633 = .ok (.iload_n 3, 1) := by decide +kernel
theorem dL_law_634 : decode cL_law 634 = .ok (.iconst 1, 1) := by decide +kernel
theorem dL_law_635 : decode cL_law 635 = .ok (.iadd, 1) := by decide +kernel
theorem dL_law_636 : decode cL_law 636 = .ok (.iaload, 1) := by decide +kernel
theorem dL_law_637 : decode cL_law 637 = .ok (.invokevirtual 99, 3) := by decide +kernel
theorem dL_law_640 : decode cL_law 640 = .ok (.if_icmp .eq 235, 3) := by decide +kernel
theorem dL_law_643 : decode cL_law 643 = .ok (.iconst 0, 1) := by decide +kernel
theorem dL_law_644 : decode cL_law 644 = .ok (.ireturn, 1) := by decide +kernel
theorem dL_law_645 : decode cL_law 645 = .ok (.aload_n 1, 1) := by decide +kernel
theorem dL_law_646 : decode cL_law 646 = .ok (.aload_n 0, 1) := by decide +kernel
theorem dL_law_647 : decode cL_law 647 = .ok (.iload_n 3, 1) := by decide +kernel
theorem dL_law_648 : decode cL_law 648 = .ok (.iconst 1, 1) := by decide +kernel
theorem dL_law_649 : decode cL_law 649 = .ok (.iadd, 1) := by decide +kernel
theorem dL_law_650 : decode cL_law 650 = .ok (.iaload, 1) := by decide +kernel
theorem dL_law_651 : decode cL_law 651 = .ok (.invokevirtual 100, 3) := by decide +kernel
theorem dL_law_654 : decode cL_law 654 = .ok (.aload_n 2, 1) := by decide +kernel
theorem dL_law_655 : decode cL_law 655 = .ok (.aload_n 0, 1) := by decide +kernel
theorem dL_law_656 : decode cL_law 656 = .ok (.iload_n 3, 1) := by decide +kernel
theorem dL_law_657 : decode cL_law 657 = .ok (.iconst 1, 1) := by decide +kernel
theorem dL_law_658 : decode cL_law 658 = .ok (.iadd, 1) := by decide +kernel
theorem dL_law_659 : decode cL_law 659 = .ok (.iaload, 1) := by decide +kernel
theorem dL_law_660 : decode cL_law 660 = .ok (.invokevirtual 103, 3) := by decide +kernel
theorem dL_law_663 : decode cL_law 663 = .ok (.if_icmp .eq 212, 3) := by decide +kernel
theorem dL_law_666 : decode cL_law 666 = .ok (.iconst 0, 1) := by decide +kernel
theorem dL_law_667 : decode cL_law 667 = .ok (.ireturn, 1) := by decide +kernel
theorem dL_law_668 : decode cL_law 668 = .ok (.aload_n 1, 1) := by decide +kernel
theorem dL_law_669 : decode cL_law 669 = .ok (.aload_n 0, 1) := by decide +kernel
theorem dL_law_670 : decode cL_law 670 = .ok (.iload_n 3, 1) := by decide +kernel
theorem dL_law_671 : decode cL_law 671 = .ok (.iconst 1, 1) := by decide +kernel
theorem dL_law_672 : decode cL_law 672 = .ok (.iadd, 1) := by decide +kernel
theorem dL_law_673 : decode cL_law 673 = .ok (.iaload, 1) := by decide +kernel
theorem dL_law_674 : decode cL_law 674 = .ok (.aload_n 0, 1) := by decide +kernel
theorem dL_law_675 : decode cL_law 675 = .ok (.iload_n 3, 1) := by decide +kernel
theorem dL_law_676 : decode cL_law 676 = .ok (.iconst 2, 1) := by decide +kernel
theorem dL_law_677 : decode cL_law 677 = .ok (.iadd, 1) := by decide +kernel
theorem dL_law_678 : decode cL_law 678 = .ok (.iaload, 1) := by decide +kernel
theorem dL_law_679 : decode cL_law 679 = .ok (.invokevirtual 104, 3) := by decide +kernel
theorem dL_law_682 : decode cL_law 682 = .ok (.aload_n 2, 1) := by decide +kernel
theorem dL_law_683 : decode cL_law 683 = .ok (.aload_n 0, 1) := by decide +kernel
theorem dL_law_684 : decode cL_law 684 = .ok (.iload_n 3, 1) := by decide +kernel
theorem dL_law_685 : decode cL_law 685 = .ok (.iconst 1, 1) := by decide +kernel
theorem dL_law_686 : decode cL_law 686 = .ok (.iadd, 1) := by decide +kernel
theorem dL_law_687 : decode cL_law 687 = .ok (.iaload, 1) := by decide +kernel
theorem dL_law_688 : decode cL_law 688 = .ok (.aload_n 0, 1) := by decide +kernel
theorem dL_law_689 : decode cL_law 689 = .ok (.iload_n 3, 1) := by decide +kernel
theorem dL_law_690 : decode cL_law 690 = .ok (.iconst 2, 1) := by decide +kernel
theorem dL_law_691 : decode cL_law 691 = .ok (.iadd, 1) := by decide +kernel
theorem dL_law_692 : decode cL_law 692 = .ok (.iaload, 1) := by decide +kernel
theorem dL_law_693 : decode cL_law 693 = .ok (.invokevirtual 107, 3) := by decide +kernel
theorem dL_law_696 : decode cL_law 696 = .ok (.if_icmp .eq 179, 3) := by decide +kernel
theorem dL_law_699 : decode cL_law 699 = .ok (.iconst 0, 1) := by decide +kernel
theorem dL_law_700 : decode cL_law 700 = .ok (.ireturn, 1) := by decide +kernel
theorem dL_law_701 : decode cL_law 701 = .ok (.aload_n 1, 1) := by decide +kernel
theorem dL_law_702 : decode cL_law 702 = .ok (.aload_n 0, 1) := by decide +kernel
theorem dL_law_703 : decode cL_law 703 = .ok (.iload_n 3, 1) := by decide +kernel
theorem dL_law_704 : decode cL_law 704 = .ok (.iconst 1, 1) := by decide +kernel
theorem dL_law_705 : decode cL_law 705 = .ok (.iadd, 1) := by decide +kernel
theorem dL_law_706 : decode cL_law 706 = .ok (.iaload, 1) := by decide +kernel
theorem dL_law_707 : decode cL_law 707 = .ok (.aload_n 0, 1) := by decide +kernel
theorem dL_law_708 : decode cL_law 708 = .ok (.iload_n 3, 1) := by decide +kernel
theorem dL_law_709 : decode cL_law 709 = .ok (.iconst 2, 1) := by decide +kernel
theorem dL_law_710 : decode cL_law 710 = .ok (.iadd, 1) := by decide +kernel
theorem dL_law_711 : decode cL_law 711 = .ok (.iaload, 1) := by decide +kernel
theorem dL_law_712 : decode cL_law 712 = .ok (.aload_n 0, 1) := by decide +kernel
theorem dL_law_713 : decode cL_law 713 = .ok (.iload_n 3, 1) := by decide +kernel
theorem dL_law_714 : decode cL_law 714 = .ok (.iconst 3, 1) := by decide +kernel
theorem dL_law_715 : decode cL_law 715 = .ok (.iadd, 1) := by decide +kernel
theorem dL_law_716 : decode cL_law 716 = .ok (.iaload, 1) := by decide +kernel
theorem dL_law_717 : decode cL_law 717 = .ok (.invokevirtual 108, 3) := by decide +kernel
theorem dL_law_720 : decode cL_law 720 = .ok (.aload_n 2, 1) := by decide +kernel
theorem dL_law_721 : decode cL_law 721 = .ok (.aload_n 0, 1) := by decide +kernel
theorem dL_law_722 : decode cL_law 722 = .ok (.iload_n 3, 1) := by decide +kernel
theorem dL_law_723 : decode cL_law 723 = .ok (.iconst 1, 1) := by decide +kernel
theorem dL_law_724 : decode cL_law 724 = .ok (.iadd, 1) := by decide +kernel
theorem dL_law_725 : decode cL_law 725 = .ok (.iaload, 1) := by decide +kernel
theorem dL_law_726 : decode cL_law 726 = .ok (.aload_n 0, 1) := by decide +kernel
theorem dL_law_727 : decode cL_law 727 = .ok (.iload_n 3, 1) := by decide +kernel
theorem dL_law_728 : decode cL_law 728 = .ok (.iconst 2, 1) := by decide +kernel
theorem dL_law_729 : decode cL_law 729 = .ok (.iadd, 1) := by decide +kernel
theorem dL_law_730 : decode cL_law 730 = .ok (.iaload, 1) := by decide +kernel
theorem dL_law_731 : decode cL_law 731 = .ok (.aload_n 0, 1) := by decide +kernel
theorem dL_law_732 : decode cL_law 732 = .ok (.iload_n 3, 1) := by decide +kernel
theorem dL_law_733 : decode cL_law 733 = .ok (.iconst 3, 1) := by decide +kernel
theorem dL_law_734 : decode cL_law 734 = .ok (.iadd, 1) := by decide +kernel
theorem dL_law_735 : decode cL_law 735 = .ok (.iaload, 1) := by decide +kernel
theorem dL_law_736 : decode cL_law 736 = .ok (.invokevirtual 112, 3) := by decide +kernel
theorem dL_law_739 : decode cL_law 739 = .ok (.if_icmp .eq 136, 3) := by decide +kernel
theorem dL_law_742 : decode cL_law 742 = .ok (.iconst 0, 1) := by decide +kernel
theorem dL_law_743 : decode cL_law 743 = .ok (.ireturn, 1) := by decide +kernel
theorem dL_law_744 : decode cL_law 744 = .ok (.aload_n 1, 1) := by decide +kernel
theorem dL_law_745 : decode cL_law 745 = .ok (.aload_n 0, 1) := by decide +kernel
theorem dL_law_746 : decode cL_law 746 = .ok (.iload_n 3, 1) := by decide +kernel
theorem dL_law_747 : decode cL_law 747 = .ok (.iconst 1, 1) := by decide +kernel
theorem dL_law_748 : decode cL_law 748 = .ok (.iadd, 1) := by decide +kernel
theorem dL_law_749 : decode cL_law 749 = .ok (.iaload, 1) := by decide +kernel
theorem dL_law_750 : decode cL_law 750 = .ok (.invokevirtual 113, 3) := by decide +kernel
theorem dL_law_753 : decode cL_law 753 = .ok (.aload_n 2, 1) := by decide +kernel
theorem dL_law_754 : decode cL_law 754 = .ok (.aload_n 0, 1) := by decide +kernel
theorem dL_law_755 : decode cL_law 755 = .ok (.iload_n 3, 1) := by decide +kernel
theorem dL_law_756 : decode cL_law 756 = .ok (.iconst 1, 1) := by decide +kernel
theorem dL_law_757 : decode cL_law 757 = .ok (.iadd, 1) := by decide +kernel
theorem dL_law_758 : decode cL_law 758 = .ok (.iaload, 1) := by decide +kernel
theorem dL_law_759 : decode cL_law 759 = .ok (.invokevirtual 116, 3) := by decide +kernel
theorem dL_law_762 : decode cL_law 762 = .ok (.if_icmp .eq 113, 3) := by decide +kernel
theorem dL_law_765 : decode cL_law 765 = .ok (.iconst 0, 1) := by decide +kernel
theorem dL_law_766 : decode cL_law 766 = .ok (.ireturn, 1) := by decide +kernel
theorem dL_law_767 : decode cL_law 767 = .ok (.aload_n 1, 1) := by decide +kernel
theorem dL_law_768 : decode cL_law 768 = .ok (.invokevirtual 117, 3) := by decide +kernel
theorem dL_law_771 : decode cL_law 771 = .ok (.aload_n 2, 1) := by decide +kernel
theorem dL_law_772 : decode cL_law 772 = .ok (.invokevirtual 120, 3) := by decide +kernel
theorem dL_law_775 : decode cL_law 775 = .ok (.if_icmp .eq 100, 3) := by decide +kernel
theorem dL_law_778 : decode cL_law 778 = .ok (.iconst 0, 1) := by decide +kernel
theorem dL_law_779 : decode cL_law 779 = .ok (.ireturn, 1) := by decide +kernel
theorem dL_law_780 : decode cL_law 780 = .ok (.aload_n 1, 1) := by decide +kernel
theorem dL_law_781 : decode cL_law 781 = .ok (.invokevirtual 121, 3) := by decide +kernel
theorem dL_law_784 : decode cL_law 784 = .ok (.aload_n 2, 1) := by decide +kernel
theorem dL_law_785 : decode cL_law 785 = .ok (.invokevirtual 124, 3) := by decide +kernel
theorem dL_law_788 : decode cL_law 788 = .ok (.if_icmp .eq 87, 3) := by decide +kernel
theorem dL_law_791 : decode cL_law 791 = .ok (.iconst 0, 1) := by decide +kernel
theorem dL_law_792 : decode cL_law 792 = .ok (.ireturn, 1) := by decide +kernel
theorem dL_law_793 : decode cL_law 793 = .ok (.aload_n 1, 1) := by decide +kernel
theorem dL_law_794 : decode cL_law 794 = .ok (.aload_n 0, 1) := by decide +kernel
theorem dL_law_795 : decode cL_law 795 = .ok (.iload_n 3, 1) := by decide +kernel
theorem dL_law_796 : decode cL_law 796 = .ok (.iconst 1, 1) := by decide +kernel
theorem dL_law_797 : decode cL_law 797 = .ok (.iadd, 1) := by decide +kernel
theorem dL_law_798 : decode cL_law 798 = .ok (.iaload, 1) := by decide +kernel
theorem dL_law_799 : decode cL_law 799 = .ok (.aload_n 0, 1) := by decide +kernel
theorem dL_law_800 : decode cL_law 800 = .ok (.iload_n 3, 1) := by decide +kernel
theorem dL_law_801 : decode cL_law 801 = .ok (.iconst 2, 1) := by decide +kernel
theorem dL_law_802 : decode cL_law 802 = .ok (.iadd, 1) := by decide +kernel
theorem dL_law_803 : decode cL_law 803 = .ok (.iaload, 1) := by decide +kernel
theorem dL_law_804 : decode cL_law 804 = .ok (.invokevirtual 125, 3) := by decide +kernel
theorem dL_law_807 : decode cL_law 807 = .ok (.aload_n 2, 1) := by decide +kernel
theorem dL_law_808 : decode cL_law 808 = .ok (.aload_n 0, 1) := by decide +kernel
theorem dL_law_809 : decode cL_law 809 = .ok (.iload_n 3, 1) := by decide +kernel
theorem dL_law_810 : decode cL_law 810 = .ok (.iconst 1, 1) := by decide +kernel
theorem dL_law_811 : decode cL_law 811 = .ok (.iadd, 1) := by decide +kernel
theorem dL_law_812 : decode cL_law 812 = .ok (.iaload, 1) := by decide +kernel
theorem dL_law_813 : decode cL_law 813 = .ok (.aload_n 0, 1) := by decide +kernel
theorem dL_law_814 : decode cL_law 814 = .ok (.iload_n 3, 1) := by decide +kernel
theorem dL_law_815 : decode cL_law 815 = .ok (.iconst 2, 1) := by decide +kernel
theorem dL_law_816 : decode cL_law 816 = .ok (.iadd, 1) := by decide +kernel
theorem dL_law_817 : decode cL_law 817 = .ok (.iaload, 1) := by decide +kernel
theorem dL_law_818 : decode cL_law 818 = .ok (.invokevirtual 128, 3) := by decide +kernel
theorem dL_law_821 : decode cL_law 821 = .ok (.if_icmp .eq 54, 3) := by decide +kernel
theorem dL_law_824 : decode cL_law 824 = .ok (.iconst 0, 1) := by decide +kernel
theorem dL_law_825 : decode cL_law 825 = .ok (.ireturn, 1) := by decide +kernel
theorem dL_law_826 : decode cL_law 826 = .ok (.aload_n 1, 1) := by decide +kernel
theorem dL_law_827 : decode cL_law 827 = .ok (.invokevirtual 129, 3) := by decide +kernel
theorem dL_law_830 : decode cL_law 830 = .ok (.aload_n 2, 1) := by decide +kernel
theorem dL_law_831 : decode cL_law 831 = .ok (.invokevirtual 132, 3) := by decide +kernel
theorem dL_law_834 : decode cL_law 834 = .ok (.if_icmp .eq 41, 3) := by decide +kernel
theorem dL_law_837 : decode cL_law 837 = .ok (.iconst 0, 1) := by decide +kernel
theorem dL_law_838 : decode cL_law 838 = .ok (.ireturn, 1) := by decide +kernel
theorem dL_law_839 : decode cL_law 839 = .ok (.aload_n 1, 1) := by decide +kernel
theorem dL_law_840 : decode cL_law 840 = .ok (.invokevirtual 133, 3) := by decide +kernel
theorem dL_law_843 : decode cL_law 843 = .ok (.aload_n 2, 1) := by decide +kernel
theorem dL_law_844 : decode cL_law 844 = .ok (.invokevirtual 136, 3) := by decide +kernel
theorem dL_law_847 : decode cL_law 847 = .ok (.if_icmp .eq 28, 3) := by decide +kernel
theorem dL_law_850 : decode cL_law 850 = .ok (.iconst 0, 1) := by decide +kernel
theorem dL_law_851 : decode cL_law 851 = .ok (.ireturn, 1) := by decide +kernel
theorem dL_law_852 : decode cL_law 852 = .ok (.aload_n 1, 1) := by decide +kernel
theorem dL_law_853 : decode cL_law 853 = .ok (.aload_n 0, 1) := by decide +kernel
theorem dL_law_854 : decode cL_law 854 = .ok (.iload_n 3, 1) := by decide +kernel
theorem dL_law_855 : decode cL_law 855 = .ok (.iconst 1, 1) := by decide +kernel
theorem dL_law_856 : decode cL_law 856 = .ok (.iadd, 1) := by decide +kernel
theorem dL_law_857 : decode cL_law 857 = .ok (.iaload, 1) := by decide +kernel
theorem dL_law_858 : decode cL_law 858 = .ok (.invokevirtual 137, 3) := by decide +kernel
theorem dL_law_861 : decode cL_law 861 = .ok (.aload_n 2, 1) := by decide +kernel
theorem dL_law_862 : decode cL_law 862 = .ok (.aload_n 0, 1) := by decide +kernel
theorem dL_law_863 : decode cL_law 863 = .ok (.iload_n 3, 1) := by decide +kernel
theorem dL_law_864 : decode cL_law 864 = .ok (.iconst 1, 1) := by decide +kernel
theorem dL_law_865 : decode cL_law 865 = .ok (.iadd, 1) := by decide +kernel
theorem dL_law_866 : decode cL_law 866 = .ok (.iaload, 1) := by decide +kernel
theorem dL_law_867 : decode cL_law 867 = .ok (.invokevirtual 140, 3) := by decide +kernel
theorem dL_law_870 : decode cL_law 870 = .ok (.if_icmp .eq 5, 3) := by decide +kernel
theorem dL_law_873 : decode cL_law 873 = .ok (.iconst 0, 1) := by decide +kernel
theorem dL_law_874 : decode cL_law 874 = .ok (.ireturn, 1) := by decide +kernel
theorem dL_law_875 : decode cL_law 875 = .ok (.iinc 3 4, 3) := by decide +kernel
theorem dL_law_878 : decode cL_law 878 = .ok (.goto (-860), 3) := by decide +kernel
theorem dL_law_881 : decode cL_law 881 = .ok (.iconst 1, 1) := by decide +kernel
theorem dL_law_882 : decode cL_law 882 = .ok (.ireturn, 1) := by decide +kernel
abbrev vwCl : List vw_C := [(RX0, TX0, 10), (RX1, TX1, 6), (RX2, TX2, 12), (RX3, TX3, 11), (RX4, TX4, 18)]
