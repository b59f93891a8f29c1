section
-- ===== PART A: goes FIRST, ahead of the names: the tables' words, and 'selects' of the private methods out of them =====
/-- a private method of a class that the tables say can be made, by its rows of tables_1 -/
def lw_okq (q : MethodName × Nat) : Prop := (q.1.cls ≠ "java/lang/invoke/MethodHandle" ∧ q.1.cls ≠ "java/lang/invoke/VarHandle") ∧ Cond.instantiable q.1.cls q.2 ∈ tables_1 ∧ Cond.privateMethod q.1 ∈ tables_1 ∧ Cond.instanceMethod q.1 ∈ tables_1
theorem lw_p0 : lw_okq (⟨"IslandsWed$Waters", "clear", "()V"⟩, 12) := ⟨⟨by decide +kernel, by decide +kernel⟩, List.mem_of_getElem? (i := 19) (by decide +kernel), List.mem_of_getElem? (i := 195) (by decide +kernel), List.mem_of_getElem? (i := 196) (by decide +kernel)⟩
theorem lw_p1 : lw_okq (⟨"IslandsWed$Waters", "currents", "()I"⟩, 12) := ⟨⟨by decide +kernel, by decide +kernel⟩, List.mem_of_getElem? (i := 19) (by decide +kernel), List.mem_of_getElem? (i := 202) (by decide +kernel), List.mem_of_getElem? (i := 203) (by decide +kernel)⟩
theorem lw_p2 : lw_okq (⟨"IslandsWed", "isPlace", "(I)Z"⟩, 13) := ⟨⟨by decide +kernel, by decide +kernel⟩, List.mem_of_getElem? (i := 11) (by decide +kernel), List.mem_of_getElem? (i := 210) (by decide +kernel), List.mem_of_getElem? (i := 211) (by decide +kernel)⟩
theorem lw_p3 : lw_okq (⟨"IslandsWed$Waters", "islandAt", "(I)I"⟩, 12) := ⟨⟨by decide +kernel, by decide +kernel⟩, List.mem_of_getElem? (i := 19) (by decide +kernel), List.mem_of_getElem? (i := 214) (by decide +kernel), List.mem_of_getElem? (i := 215) (by decide +kernel)⟩
theorem lw_p4 : lw_okq (⟨"IslandsWed$Waters", "add", "(III)I"⟩, 12) := ⟨⟨by decide +kernel, by decide +kernel⟩, List.mem_of_getElem? (i := 19) (by decide +kernel), List.mem_of_getElem? (i := 229) (by decide +kernel), List.mem_of_getElem? (i := 230) (by decide +kernel)⟩
theorem lw_p5 : lw_okq (⟨"IslandsWed", "isIsland", "(I)Z"⟩, 13) := ⟨⟨by decide +kernel, by decide +kernel⟩, List.mem_of_getElem? (i := 11) (by decide +kernel), List.mem_of_getElem? (i := 237) (by decide +kernel), List.mem_of_getElem? (i := 238) (by decide +kernel)⟩
theorem lw_p6 : lw_okq (⟨"IslandsWed$Waters", "pushOf", "(I)I"⟩, 12) := ⟨⟨by decide +kernel, by decide +kernel⟩, List.mem_of_getElem? (i := 19) (by decide +kernel), List.mem_of_getElem? (i := 241) (by decide +kernel), List.mem_of_getElem? (i := 242) (by decide +kernel)⟩
theorem lw_p7 : lw_okq (⟨"IslandsWed$Waters", "isAnchored", "(I)Z"⟩, 12) := ⟨⟨by decide +kernel, by decide +kernel⟩, List.mem_of_getElem? (i := 19) (by decide +kernel), List.mem_of_getElem? (i := 249) (by decide +kernel), List.mem_of_getElem? (i := 250) (by decide +kernel)⟩
theorem lw_p8 : lw_okq (⟨"IslandsWed$Waters", "neighbours", "(I)I"⟩, 12) := ⟨⟨by decide +kernel, by decide +kernel⟩, List.mem_of_getElem? (i := 19) (by decide +kernel), List.mem_of_getElem? (i := 253) (by decide +kernel), List.mem_of_getElem? (i := 254) (by decide +kernel)⟩
theorem lw_p9 : lw_okq (⟨"IslandsWed$Waters", "areBeside", "(II)Z"⟩, 12) := ⟨⟨by decide +kernel, by decide +kernel⟩, List.mem_of_getElem? (i := 19) (by decide +kernel), List.mem_of_getElem? (i := 257) (by decide +kernel), List.mem_of_getElem? (i := 258) (by decide +kernel)⟩
theorem lw_p10 : lw_okq (⟨"IslandsWed", "areTwo", "(II)Z"⟩, 13) := ⟨⟨by decide +kernel, by decide +kernel⟩, List.mem_of_getElem? (i := 11) (by decide +kernel), List.mem_of_getElem? (i := 276) (by decide +kernel), List.mem_of_getElem? (i := 277) (by decide +kernel)⟩
theorem lw_p11 : lw_okq (⟨"IslandsWed$Waters", "areRoped", "(II)Z"⟩, 12) := ⟨⟨by decide +kernel, by decide +kernel⟩, List.mem_of_getElem? (i := 19) (by decide +kernel), List.mem_of_getElem? (i := 280) (by decide +kernel), List.mem_of_getElem? (i := 281) (by decide +kernel)⟩
theorem lw_p12 : lw_okq (⟨"IslandsWed$Waters", "tie", "(II)V"⟩, 12) := ⟨⟨by decide +kernel, by decide +kernel⟩, List.mem_of_getElem? (i := 19) (by decide +kernel), List.mem_of_getElem? (i := 285) (by decide +kernel), List.mem_of_getElem? (i := 286) (by decide +kernel)⟩
theorem lw_p13 : lw_okq (⟨"IslandsWed$Waters", "findParties", "()V"⟩, 12) := ⟨⟨by decide +kernel, by decide +kernel⟩, List.mem_of_getElem? (i := 19) (by decide +kernel), List.mem_of_getElem? (i := 289) (by decide +kernel), List.mem_of_getElem? (i := 290) (by decide +kernel)⟩
theorem lw_p14 : lw_okq (⟨"IslandsWed$Waters", "tiedTo", "(I)I"⟩, 12) := ⟨⟨by decide +kernel, by decide +kernel⟩, List.mem_of_getElem? (i := 19) (by decide +kernel), List.mem_of_getElem? (i := 293) (by decide +kernel), List.mem_of_getElem? (i := 294) (by decide +kernel)⟩
theorem lw_p15 : lw_okq (⟨"IslandsWed$Waters", "cut", "(II)V"⟩, 12) := ⟨⟨by decide +kernel, by decide +kernel⟩, List.mem_of_getElem? (i := 19) (by decide +kernel), List.mem_of_getElem? (i := 301) (by decide +kernel), List.mem_of_getElem? (i := 302) (by decide +kernel)⟩
def lw_privs_1 : List (MethodName × Nat) := [(⟨"IslandsWed$Waters", "clear", "()V"⟩, 12), (⟨"IslandsWed$Waters", "currents", "()I"⟩, 12), (⟨"IslandsWed", "isPlace", "(I)Z"⟩, 13), (⟨"IslandsWed$Waters", "islandAt", "(I)I"⟩, 12), (⟨"IslandsWed$Waters", "add", "(III)I"⟩, 12), (⟨"IslandsWed", "isIsland", "(I)Z"⟩, 13), (⟨"IslandsWed$Waters", "pushOf", "(I)I"⟩, 12), (⟨"IslandsWed$Waters", "isAnchored", "(I)Z"⟩, 12), (⟨"IslandsWed$Waters", "neighbours", "(I)I"⟩, 12), (⟨"IslandsWed$Waters", "areBeside", "(II)Z"⟩, 12), (⟨"IslandsWed", "areTwo", "(II)Z"⟩, 13), (⟨"IslandsWed$Waters", "areRoped", "(II)Z"⟩, 12), (⟨"IslandsWed$Waters", "tie", "(II)V"⟩, 12), (⟨"IslandsWed$Waters", "findParties", "()V"⟩, 12), (⟨"IslandsWed$Waters", "tiedTo", "(I)I"⟩, 12), (⟨"IslandsWed$Waters", "cut", "(II)V"⟩, 12)]
theorem lw_r1 : ∀ q ∈ lw_privs_1, lw_okq q := List.forall_mem_cons.mpr ⟨lw_p0, List.forall_mem_cons.mpr ⟨lw_p1, List.forall_mem_cons.mpr ⟨lw_p2, List.forall_mem_cons.mpr ⟨lw_p3, List.forall_mem_cons.mpr ⟨lw_p4, List.forall_mem_cons.mpr ⟨lw_p5, List.forall_mem_cons.mpr ⟨lw_p6, List.forall_mem_cons.mpr ⟨lw_p7, List.forall_mem_cons.mpr ⟨lw_p8, List.forall_mem_cons.mpr ⟨lw_p9, List.forall_mem_cons.mpr ⟨lw_p10, List.forall_mem_cons.mpr ⟨lw_p11, List.forall_mem_cons.mpr ⟨lw_p12, List.forall_mem_cons.mpr ⟨lw_p13, List.forall_mem_cons.mpr ⟨lw_p14, List.forall_mem_cons.mpr ⟨lw_p15, fun _ h => absurd h List.not_mem_nil⟩⟩⟩⟩⟩⟩⟩⟩⟩⟩⟩⟩⟩⟩⟩⟩
theorem lw_p16 : lw_okq (⟨"IslandsWed$Waters", "drift", "()I"⟩, 12) := ⟨⟨by decide +kernel, by decide +kernel⟩, List.mem_of_getElem? (i := 19) (by decide +kernel), List.mem_of_getElem? (i := 309) (by decide +kernel), List.mem_of_getElem? (i := 310) (by decide +kernel)⟩
theorem lw_p17 : lw_okq (⟨"IslandsWed$Waters", "leads", "(I)Z"⟩, 12) := ⟨⟨by decide +kernel, by decide +kernel⟩, List.mem_of_getElem? (i := 19) (by decide +kernel), List.mem_of_getElem? (i := 313) (by decide +kernel), List.mem_of_getElem? (i := 314) (by decide +kernel)⟩
theorem lw_p18 : lw_okq (⟨"IslandsWed$Waters", "moves", "(I)Z"⟩, 12) := ⟨⟨by decide +kernel, by decide +kernel⟩, List.mem_of_getElem? (i := 19) (by decide +kernel), List.mem_of_getElem? (i := 317) (by decide +kernel), List.mem_of_getElem? (i := 318) (by decide +kernel)⟩
theorem lw_p19 : lw_okq (⟨"IslandsWed$Waters", "stepOf", "(I)I"⟩, 12) := ⟨⟨by decide +kernel, by decide +kernel⟩, List.mem_of_getElem? (i := 19) (by decide +kernel), List.mem_of_getElem? (i := 321) (by decide +kernel), List.mem_of_getElem? (i := 322) (by decide +kernel)⟩
theorem lw_p20 : lw_okq (⟨"IslandsWed$Waters", "isBarred", "(II)Z"⟩, 12) := ⟨⟨by decide +kernel, by decide +kernel⟩, List.mem_of_getElem? (i := 19) (by decide +kernel), List.mem_of_getElem? (i := 329) (by decide +kernel), List.mem_of_getElem? (i := 330) (by decide +kernel)⟩
theorem lw_p21 : lw_okq (⟨"IslandsWed", "firstMeeting", "(IIII)I"⟩, 13) := ⟨⟨by decide +kernel, by decide +kernel⟩, List.mem_of_getElem? (i := 11) (by decide +kernel), List.mem_of_getElem? (i := 337) (by decide +kernel), List.mem_of_getElem? (i := 338) (by decide +kernel)⟩
theorem lw_p22 : lw_okq (⟨"IslandsWed$Waters", "copy", "(LIslandsWed$Waters;)V"⟩, 12) := ⟨⟨by decide +kernel, by decide +kernel⟩, List.mem_of_getElem? (i := 19) (by decide +kernel), List.mem_of_getElem? (i := 341) (by decide +kernel), List.mem_of_getElem? (i := 342) (by decide +kernel)⟩
theorem lw_p23 : lw_okq (⟨"IslandsWed", "fewestAnchors", "(III)I"⟩, 13) := ⟨⟨by decide +kernel, by decide +kernel⟩, List.mem_of_getElem? (i := 11) (by decide +kernel), List.mem_of_getElem? (i := 352) (by decide +kernel), List.mem_of_getElem? (i := 353) (by decide +kernel)⟩
theorem lw_p24 : lw_okq (⟨"IslandsWed", "meetAll", "(I)V"⟩, 13) := ⟨⟨by decide +kernel, by decide +kernel⟩, List.mem_of_getElem? (i := 11) (by decide +kernel), List.mem_of_getElem? (i := 366) (by decide +kernel), List.mem_of_getElem? (i := 367) (by decide +kernel)⟩
theorem lw_p25 : lw_okq (⟨"IslandsWed$Waters", "noteMeetings", "([II)V"⟩, 12) := ⟨⟨by decide +kernel, by decide +kernel⟩, List.mem_of_getElem? (i := 19) (by decide +kernel), List.mem_of_getElem? (i := 373) (by decide +kernel), List.mem_of_getElem? (i := 374) (by decide +kernel)⟩
theorem lw_p26 : lw_okq (⟨"IslandsWed$Matches", "solve", "(LIslandsWed$Waters;[I)V"⟩, 7) := ⟨⟨by decide +kernel, by decide +kernel⟩, List.mem_of_getElem? (i := 101) (by decide +kernel), List.mem_of_getElem? (i := 377) (by decide +kernel), List.mem_of_getElem? (i := 378) (by decide +kernel)⟩
theorem lw_p27 : lw_okq (⟨"IslandsWed$Matches", "goThrough", "(II)V"⟩, 7) := ⟨⟨by decide +kernel, by decide +kernel⟩, List.mem_of_getElem? (i := 101) (by decide +kernel), List.mem_of_getElem? (i := 382) (by decide +kernel), List.mem_of_getElem? (i := 383) (by decide +kernel)⟩
theorem lw_p28 : lw_okq (⟨"IslandsWed$Matches", "weigh", "(I)V"⟩, 7) := ⟨⟨by decide +kernel, by decide +kernel⟩, List.mem_of_getElem? (i := 101) (by decide +kernel), List.mem_of_getElem? (i := 386) (by decide +kernel), List.mem_of_getElem? (i := 387) (by decide +kernel)⟩
theorem lw_p29 : lw_okq (⟨"IslandsWed$Matches", "isStable", "()Z"⟩, 7) := ⟨⟨by decide +kernel, by decide +kernel⟩, List.mem_of_getElem? (i := 101) (by decide +kernel), List.mem_of_getElem? (i := 390) (by decide +kernel), List.mem_of_getElem? (i := 391) (by decide +kernel)⟩
theorem lw_p30 : lw_okq (⟨"IslandsWed$Matches", "likesBetter", "(II)Z"⟩, 7) := ⟨⟨by decide +kernel, by decide +kernel⟩, List.mem_of_getElem? (i := 101) (by decide +kernel), List.mem_of_getElem? (i := 394) (by decide +kernel), List.mem_of_getElem? (i := 395) (by decide +kernel)⟩
theorem lw_p31 : lw_okq (⟨"IslandsWed", "matchesTell", "(I)I"⟩, 13) := ⟨⟨by decide +kernel, by decide +kernel⟩, List.mem_of_getElem? (i := 11) (by decide +kernel), List.mem_of_getElem? (i := 399) (by decide +kernel), List.mem_of_getElem? (i := 400) (by decide +kernel)⟩
def lw_privs_2 : List (MethodName × Nat) := [(⟨"IslandsWed$Waters", "drift", "()I"⟩, 12), (⟨"IslandsWed$Waters", "leads", "(I)Z"⟩, 12), (⟨"IslandsWed$Waters", "moves", "(I)Z"⟩, 12), (⟨"IslandsWed$Waters", "stepOf", "(I)I"⟩, 12), (⟨"IslandsWed$Waters", "isBarred", "(II)Z"⟩, 12), (⟨"IslandsWed", "firstMeeting", "(IIII)I"⟩, 13), (⟨"IslandsWed$Waters", "copy", "(LIslandsWed$Waters;)V"⟩, 12), (⟨"IslandsWed", "fewestAnchors", "(III)I"⟩, 13), (⟨"IslandsWed", "meetAll", "(I)V"⟩, 13), (⟨"IslandsWed$Waters", "noteMeetings", "([II)V"⟩, 12), (⟨"IslandsWed$Matches", "solve", "(LIslandsWed$Waters;[I)V"⟩, 7), (⟨"IslandsWed$Matches", "goThrough", "(II)V"⟩, 7), (⟨"IslandsWed$Matches", "weigh", "(I)V"⟩, 7), (⟨"IslandsWed$Matches", "isStable", "()Z"⟩, 7), (⟨"IslandsWed$Matches", "likesBetter", "(II)Z"⟩, 7), (⟨"IslandsWed", "matchesTell", "(I)I"⟩, 13)]
theorem lw_r2 : ∀ q ∈ lw_privs_2, lw_okq q := List.forall_mem_cons.mpr ⟨lw_p16, List.forall_mem_cons.mpr ⟨lw_p17, List.forall_mem_cons.mpr ⟨lw_p18, List.forall_mem_cons.mpr ⟨lw_p19, List.forall_mem_cons.mpr ⟨lw_p20, List.forall_mem_cons.mpr ⟨lw_p21, List.forall_mem_cons.mpr ⟨lw_p22, List.forall_mem_cons.mpr ⟨lw_p23, List.forall_mem_cons.mpr ⟨lw_p24, List.forall_mem_cons.mpr ⟨lw_p25, List.forall_mem_cons.mpr ⟨lw_p26, List.forall_mem_cons.mpr ⟨lw_p27, List.forall_mem_cons.mpr ⟨lw_p28, List.forall_mem_cons.mpr ⟨lw_p29, List.forall_mem_cons.mpr ⟨lw_p30, List.forall_mem_cons.mpr ⟨lw_p31, fun _ h => absurd h List.not_mem_nil⟩⟩⟩⟩⟩⟩⟩⟩⟩⟩⟩⟩⟩⟩⟩⟩
theorem lw_p32 : lw_okq (⟨"IslandsWed$Waters", "fewestCuts", "(II)I"⟩, 12) := ⟨⟨by decide +kernel, by decide +kernel⟩, List.mem_of_getElem? (i := 19) (by decide +kernel), List.mem_of_getElem? (i := 410) (by decide +kernel), List.mem_of_getElem? (i := 411) (by decide +kernel)⟩
theorem lw_p33 : lw_okq (⟨"IslandsWed$Waters", "ropesOutOf", "(I)I"⟩, 12) := ⟨⟨by decide +kernel, by decide +kernel⟩, List.mem_of_getElem? (i := 19) (by decide +kernel), List.mem_of_getElem? (i := 414) (by decide +kernel), List.mem_of_getElem? (i := 415) (by decide +kernel)⟩
theorem lw_p34 : lw_okq (⟨"IslandsWed$Shells", "add", "(IIIZ)I"⟩, 5) := ⟨⟨by decide +kernel, by decide +kernel⟩, List.mem_of_getElem? (i := 77) (by decide +kernel), List.mem_of_getElem? (i := 424) (by decide +kernel), List.mem_of_getElem? (i := 425) (by decide +kernel)⟩
theorem lw_p35 : lw_okq (⟨"IslandsWed", "shellsWouldHold", "(III)Z"⟩, 13) := ⟨⟨by decide +kernel, by decide +kernel⟩, List.mem_of_getElem? (i := 11) (by decide +kernel), List.mem_of_getElem? (i := 436) (by decide +kernel), List.mem_of_getElem? (i := 437) (by decide +kernel)⟩
theorem lw_p36 : lw_okq (⟨"IslandsWed$Shells", "lastDay", "()I"⟩, 5) := ⟨⟨by decide +kernel, by decide +kernel⟩, List.mem_of_getElem? (i := 77) (by decide +kernel), List.mem_of_getElem? (i := 440) (by decide +kernel), List.mem_of_getElem? (i := 441) (by decide +kernel)⟩
theorem lw_p37 : lw_okq (⟨"IslandsWed$Shells", "holdOn", "(ILIslandsWed$Waters;)Z"⟩, 5) := ⟨⟨by decide +kernel, by decide +kernel⟩, List.mem_of_getElem? (i := 77) (by decide +kernel), List.mem_of_getElem? (i := 445) (by decide +kernel), List.mem_of_getElem? (i := 446) (by decide +kernel)⟩
theorem lw_p38 : lw_okq (⟨"IslandsWed$Waters", "pairsBeside", "()I"⟩, 12) := ⟨⟨by decide +kernel, by decide +kernel⟩, List.mem_of_getElem? (i := 19) (by decide +kernel), List.mem_of_getElem? (i := 460) (by decide +kernel), List.mem_of_getElem? (i := 461) (by decide +kernel)⟩
theorem lw_p39 : lw_okq (⟨"IslandsWed$Shells", "copy", "(LIslandsWed$Shells;)V"⟩, 5) := ⟨⟨by decide +kernel, by decide +kernel⟩, List.mem_of_getElem? (i := 77) (by decide +kernel), List.mem_of_getElem? (i := 469) (by decide +kernel), List.mem_of_getElem? (i := 470) (by decide +kernel)⟩
theorem lw_p40 : lw_okq (⟨"IslandsWed$Waters", "parties", "()I"⟩, 12) := ⟨⟨by decide +kernel, by decide +kernel⟩, List.mem_of_getElem? (i := 19) (by decide +kernel), List.mem_of_getElem? (i := 481) (by decide +kernel), List.mem_of_getElem? (i := 482) (by decide +kernel)⟩
theorem lw_p41 : lw_okq (⟨"IslandsWed", "digestIslands", "(J)J"⟩, 13) := ⟨⟨by decide +kernel, by decide +kernel⟩, List.mem_of_getElem? (i := 11) (by decide +kernel), List.mem_of_getElem? (i := 491) (by decide +kernel), List.mem_of_getElem? (i := 492) (by decide +kernel)⟩
theorem lw_p42 : lw_okq (⟨"IslandsWed", "digestMatches", "(J)J"⟩, 13) := ⟨⟨by decide +kernel, by decide +kernel⟩, List.mem_of_getElem? (i := 11) (by decide +kernel), List.mem_of_getElem? (i := 496) (by decide +kernel), List.mem_of_getElem? (i := 497) (by decide +kernel)⟩
theorem lw_p43 : lw_okq (⟨"IslandsWedModel", "faultOf", "()I"⟩, 36) := ⟨⟨by decide +kernel, by decide +kernel⟩, List.mem_of_getElem? (i := 501) (by decide +kernel), List.mem_of_getElem? (i := 632) (by decide +kernel), List.mem_of_getElem? (i := 633) (by decide +kernel)⟩
theorem lw_p44 : lw_okq (⟨"IslandsWedModel", "currentMany", "()I"⟩, 36) := ⟨⟨by decide +kernel, by decide +kernel⟩, List.mem_of_getElem? (i := 501) (by decide +kernel), List.mem_of_getElem? (i := 640) (by decide +kernel), List.mem_of_getElem? (i := 641) (by decide +kernel)⟩
theorem lw_p45 : lw_okq (⟨"IslandsWedModel", "whoIsAt", "(I)I"⟩, 36) := ⟨⟨by decide +kernel, by decide +kernel⟩, List.mem_of_getElem? (i := 501) (by decide +kernel), List.mem_of_getElem? (i := 649) (by decide +kernel), List.mem_of_getElem? (i := 650) (by decide +kernel)⟩
theorem lw_p46 : lw_okq (⟨"IslandsWedModel", "isIsland", "(I)Z"⟩, 36) := ⟨⟨by decide +kernel, by decide +kernel⟩, List.mem_of_getElem? (i := 501) (by decide +kernel), List.mem_of_getElem? (i := 668) (by decide +kernel), List.mem_of_getElem? (i := 669) (by decide +kernel)⟩
theorem lw_p47 : lw_okq (⟨"IslandsWedModel", "tell", "(II)I"⟩, 36) := ⟨⟨by decide +kernel, by decide +kernel⟩, List.mem_of_getElem? (i := 501) (by decide +kernel), List.mem_of_getElem? (i := 672) (by decide +kernel), List.mem_of_getElem? (i := 673) (by decide +kernel)⟩
def lw_privs_3 : List (MethodName × Nat) := [(⟨"IslandsWed$Waters", "fewestCuts", "(II)I"⟩, 12), (⟨"IslandsWed$Waters", "ropesOutOf", "(I)I"⟩, 12), (⟨"IslandsWed$Shells", "add", "(IIIZ)I"⟩, 5), (⟨"IslandsWed", "shellsWouldHold", "(III)Z"⟩, 13), (⟨"IslandsWed$Shells", "lastDay", "()I"⟩, 5), (⟨"IslandsWed$Shells", "holdOn", "(ILIslandsWed$Waters;)Z"⟩, 5), (⟨"IslandsWed$Waters", "pairsBeside", "()I"⟩, 12), (⟨"IslandsWed$Shells", "copy", "(LIslandsWed$Shells;)V"⟩, 5), (⟨"IslandsWed$Waters", "parties", "()I"⟩, 12), (⟨"IslandsWed", "digestIslands", "(J)J"⟩, 13), (⟨"IslandsWed", "digestMatches", "(J)J"⟩, 13), (⟨"IslandsWedModel", "faultOf", "()I"⟩, 36), (⟨"IslandsWedModel", "currentMany", "()I"⟩, 36), (⟨"IslandsWedModel", "whoIsAt", "(I)I"⟩, 36), (⟨"IslandsWedModel", "isIsland", "(I)Z"⟩, 36), (⟨"IslandsWedModel", "tell", "(II)I"⟩, 36)]
theorem lw_r3 : ∀ q ∈ lw_privs_3, lw_okq q := List.forall_mem_cons.mpr ⟨lw_p32, List.forall_mem_cons.mpr ⟨lw_p33, List.forall_mem_cons.mpr ⟨lw_p34, List.forall_mem_cons.mpr ⟨lw_p35, List.forall_mem_cons.mpr ⟨lw_p36, List.forall_mem_cons.mpr ⟨lw_p37, List.forall_mem_cons.mpr ⟨lw_p38, List.forall_mem_cons.mpr ⟨lw_p39, List.forall_mem_cons.mpr ⟨lw_p40, List.forall_mem_cons.mpr ⟨lw_p41, List.forall_mem_cons.mpr ⟨lw_p42, List.forall_mem_cons.mpr ⟨lw_p43, List.forall_mem_cons.mpr ⟨lw_p44, List.forall_mem_cons.mpr ⟨lw_p45, List.forall_mem_cons.mpr ⟨lw_p46, List.forall_mem_cons.mpr ⟨lw_p47, fun _ h => absurd h List.not_mem_nil⟩⟩⟩⟩⟩⟩⟩⟩⟩⟩⟩⟩⟩⟩⟩⟩
theorem lw_p48 : lw_okq (⟨"IslandsWedModel", "asItIs", "()V"⟩, 36) := ⟨⟨by decide +kernel, by decide +kernel⟩, List.mem_of_getElem? (i := 501) (by decide +kernel), List.mem_of_getElem? (i := 676) (by decide +kernel), List.mem_of_getElem? (i := 677) (by decide +kernel)⟩
theorem lw_p49 : lw_okq (⟨"IslandsWedModel", "pushOf", "(I)I"⟩, 36) := ⟨⟨by decide +kernel, by decide +kernel⟩, List.mem_of_getElem? (i := 501) (by decide +kernel), List.mem_of_getElem? (i := 680) (by decide +kernel), List.mem_of_getElem? (i := 681) (by decide +kernel)⟩
theorem lw_p50 : lw_okq (⟨"IslandsWedModel", "partyOf", "(I)I"⟩, 36) := ⟨⟨by decide +kernel, by decide +kernel⟩, List.mem_of_getElem? (i := 501) (by decide +kernel), List.mem_of_getElem? (i := 684) (by decide +kernel), List.mem_of_getElem? (i := 685) (by decide +kernel)⟩
theorem lw_p51 : lw_okq (⟨"IslandsWedModel", "partyBy", "(II)I"⟩, 36) := ⟨⟨by decide +kernel, by decide +kernel⟩, List.mem_of_getElem? (i := 501) (by decide +kernel), List.mem_of_getElem? (i := 688) (by decide +kernel), List.mem_of_getElem? (i := 689) (by decide +kernel)⟩
theorem lw_p52 : lw_okq (⟨"IslandsWedModel", "besideBits", "(I)I"⟩, 36) := ⟨⟨by decide +kernel, by decide +kernel⟩, List.mem_of_getElem? (i := 501) (by decide +kernel), List.mem_of_getElem? (i := 692) (by decide +kernel), List.mem_of_getElem? (i := 693) (by decide +kernel)⟩
theorem lw_p53 : lw_okq (⟨"IslandsWedModel", "ropedBits", "(I)I"⟩, 36) := ⟨⟨by decide +kernel, by decide +kernel⟩, List.mem_of_getElem? (i := 501) (by decide +kernel), List.mem_of_getElem? (i := 699) (by decide +kernel), List.mem_of_getElem? (i := 700) (by decide +kernel)⟩
theorem lw_p54 : lw_okq (⟨"IslandsWedModel", "areRoped", "(II)Z"⟩, 36) := ⟨⟨by decide +kernel, by decide +kernel⟩, List.mem_of_getElem? (i := 501) (by decide +kernel), List.mem_of_getElem? (i := 703) (by decide +kernel), List.mem_of_getElem? (i := 704) (by decide +kernel)⟩
theorem lw_p55 : lw_okq (⟨"IslandsWedModel", "arePair", "(II)Z"⟩, 36) := ⟨⟨by decide +kernel, by decide +kernel⟩, List.mem_of_getElem? (i := 501) (by decide +kernel), List.mem_of_getElem? (i := 719) (by decide +kernel), List.mem_of_getElem? (i := 720) (by decide +kernel)⟩
theorem lw_p56 : lw_okq (⟨"IslandsWedModel", "passes", "()I"⟩, 36) := ⟨⟨by decide +kernel, by decide +kernel⟩, List.mem_of_getElem? (i := 501) (by decide +kernel), List.mem_of_getElem? (i := 731) (by decide +kernel), List.mem_of_getElem? (i := 732) (by decide +kernel)⟩
theorem lw_p57 : lw_okq (⟨"IslandsWedModel", "isFirst", "(I)Z"⟩, 36) := ⟨⟨by decide +kernel, by decide +kernel⟩, List.mem_of_getElem? (i := 501) (by decide +kernel), List.mem_of_getElem? (i := 735) (by decide +kernel), List.mem_of_getElem? (i := 736) (by decide +kernel)⟩
theorem lw_p58 : lw_okq (⟨"IslandsWedModel", "drifts", "(I)I"⟩, 36) := ⟨⟨by decide +kernel, by decide +kernel⟩, List.mem_of_getElem? (i := 501) (by decide +kernel), List.mem_of_getElem? (i := 739) (by decide +kernel), List.mem_of_getElem? (i := 740) (by decide +kernel)⟩
theorem lw_p59 : lw_okq (⟨"IslandsWedModel", "meetBy", "(IIII)I"⟩, 36) := ⟨⟨by decide +kernel, by decide +kernel⟩, List.mem_of_getElem? (i := 501) (by decide +kernel), List.mem_of_getElem? (i := 747) (by decide +kernel), List.mem_of_getElem? (i := 748) (by decide +kernel)⟩
theorem lw_p60 : lw_okq (⟨"IslandsWedModel", "anchorsOf", "(III)I"⟩, 36) := ⟨⟨by decide +kernel, by decide +kernel⟩, List.mem_of_getElem? (i := 501) (by decide +kernel), List.mem_of_getElem? (i := 756) (by decide +kernel), List.mem_of_getElem? (i := 757) (by decide +kernel)⟩
theorem lw_p61 : lw_okq (⟨"IslandsWedModel", "layStable", "()V"⟩, 36) := ⟨⟨by decide +kernel, by decide +kernel⟩, List.mem_of_getElem? (i := 501) (by decide +kernel), List.mem_of_getElem? (i := 769) (by decide +kernel), List.mem_of_getElem? (i := 770) (by decide +kernel)⟩
theorem lw_p62 : lw_okq (⟨"IslandsWedModel", "isMatch", "(I)Z"⟩, 36) := ⟨⟨by decide +kernel, by decide +kernel⟩, List.mem_of_getElem? (i := 501) (by decide +kernel), List.mem_of_getElem? (i := 773) (by decide +kernel), List.mem_of_getElem? (i := 774) (by decide +kernel)⟩
theorem lw_p63 : lw_okq (⟨"IslandsWedModel", "isStable", "()Z"⟩, 36) := ⟨⟨by decide +kernel, by decide +kernel⟩, List.mem_of_getElem? (i := 501) (by decide +kernel), List.mem_of_getElem? (i := 777) (by decide +kernel), List.mem_of_getElem? (i := 778) (by decide +kernel)⟩
def lw_privs_4 : List (MethodName × Nat) := [(⟨"IslandsWedModel", "asItIs", "()V"⟩, 36), (⟨"IslandsWedModel", "pushOf", "(I)I"⟩, 36), (⟨"IslandsWedModel", "partyOf", "(I)I"⟩, 36), (⟨"IslandsWedModel", "partyBy", "(II)I"⟩, 36), (⟨"IslandsWedModel", "besideBits", "(I)I"⟩, 36), (⟨"IslandsWedModel", "ropedBits", "(I)I"⟩, 36), (⟨"IslandsWedModel", "areRoped", "(II)Z"⟩, 36), (⟨"IslandsWedModel", "arePair", "(II)Z"⟩, 36), (⟨"IslandsWedModel", "passes", "()I"⟩, 36), (⟨"IslandsWedModel", "isFirst", "(I)Z"⟩, 36), (⟨"IslandsWedModel", "drifts", "(I)I"⟩, 36), (⟨"IslandsWedModel", "meetBy", "(IIII)I"⟩, 36), (⟨"IslandsWedModel", "anchorsOf", "(III)I"⟩, 36), (⟨"IslandsWedModel", "layStable", "()V"⟩, 36), (⟨"IslandsWedModel", "isMatch", "(I)Z"⟩, 36), (⟨"IslandsWedModel", "isStable", "()Z"⟩, 36)]
theorem lw_r4 : ∀ q ∈ lw_privs_4, lw_okq q := List.forall_mem_cons.mpr ⟨lw_p48, List.forall_mem_cons.mpr ⟨lw_p49, List.forall_mem_cons.mpr ⟨lw_p50, List.forall_mem_cons.mpr ⟨lw_p51, List.forall_mem_cons.mpr ⟨lw_p52, List.forall_mem_cons.mpr ⟨lw_p53, List.forall_mem_cons.mpr ⟨lw_p54, List.forall_mem_cons.mpr ⟨lw_p55, List.forall_mem_cons.mpr ⟨lw_p56, List.forall_mem_cons.mpr ⟨lw_p57, List.forall_mem_cons.mpr ⟨lw_p58, List.forall_mem_cons.mpr ⟨lw_p59, List.forall_mem_cons.mpr ⟨lw_p60, List.forall_mem_cons.mpr ⟨lw_p61, List.forall_mem_cons.mpr ⟨lw_p62, List.forall_mem_cons.mpr ⟨lw_p63, fun _ h => absurd h List.not_mem_nil⟩⟩⟩⟩⟩⟩⟩⟩⟩⟩⟩⟩⟩⟩⟩⟩
theorem lw_p64 : lw_okq (⟨"IslandsWedModel", "likes", "(II)Z"⟩, 36) := ⟨⟨by decide +kernel, by decide +kernel⟩, List.mem_of_getElem? (i := 501) (by decide +kernel), List.mem_of_getElem? (i := 781) (by decide +kernel), List.mem_of_getElem? (i := 782) (by decide +kernel)⟩
theorem lw_p65 : lw_okq (⟨"IslandsWedModel", "tellStable", "(I)I"⟩, 36) := ⟨⟨by decide +kernel, by decide +kernel⟩, List.mem_of_getElem? (i := 501) (by decide +kernel), List.mem_of_getElem? (i := 788) (by decide +kernel), List.mem_of_getElem? (i := 789) (by decide +kernel)⟩
theorem lw_p66 : lw_okq (⟨"IslandsWedModel", "guessOf", "(II)I"⟩, 36) := ⟨⟨by decide +kernel, by decide +kernel⟩, List.mem_of_getElem? (i := 501) (by decide +kernel), List.mem_of_getElem? (i := 809) (by decide +kernel), List.mem_of_getElem? (i := 810) (by decide +kernel)⟩
theorem lw_p67 : lw_okq (⟨"IslandsWedModel", "isSo", "(III)Z"⟩, 36) := ⟨⟨by decide +kernel, by decide +kernel⟩, List.mem_of_getElem? (i := 501) (by decide +kernel), List.mem_of_getElem? (i := 813) (by decide +kernel), List.mem_of_getElem? (i := 814) (by decide +kernel)⟩
theorem lw_p68 : lw_okq (⟨"IslandsWedModel", "draw", "(I)I"⟩, 36) := ⟨⟨by decide +kernel, by decide +kernel⟩, List.mem_of_getElem? (i := 501) (by decide +kernel), List.mem_of_getElem? (i := 823) (by decide +kernel), List.mem_of_getElem? (i := 824) (by decide +kernel)⟩
theorem lw_p69 : lw_okq (⟨"IslandsWedModel", "countOf", "(I)I"⟩, 36) := ⟨⟨by decide +kernel, by decide +kernel⟩, List.mem_of_getElem? (i := 501) (by decide +kernel), List.mem_of_getElem? (i := 843) (by decide +kernel), List.mem_of_getElem? (i := 844) (by decide +kernel)⟩
theorem lw_p70 : lw_okq (⟨"IslandsWedModel", "partyMany", "()I"⟩, 36) := ⟨⟨by decide +kernel, by decide +kernel⟩, List.mem_of_getElem? (i := 501) (by decide +kernel), List.mem_of_getElem? (i := 847) (by decide +kernel), List.mem_of_getElem? (i := 848) (by decide +kernel)⟩
theorem lw_p71 : lw_okq (⟨"IslandsWedModel", "say", "(J)V"⟩, 36) := ⟨⟨by decide +kernel, by decide +kernel⟩, List.mem_of_getElem? (i := 501) (by decide +kernel), List.mem_of_getElem? (i := 856) (by decide +kernel), List.mem_of_getElem? (i := 857) (by decide +kernel)⟩
theorem lw_p72 : lw_okq (⟨"IslandsWedModel", "sayIsland", "(I)V"⟩, 36) := ⟨⟨by decide +kernel, by decide +kernel⟩, List.mem_of_getElem? (i := 501) (by decide +kernel), List.mem_of_getElem? (i := 861) (by decide +kernel), List.mem_of_getElem? (i := 862) (by decide +kernel)⟩
def lw_privs_5 : List (MethodName × Nat) := [(⟨"IslandsWedModel", "likes", "(II)Z"⟩, 36), (⟨"IslandsWedModel", "tellStable", "(I)I"⟩, 36), (⟨"IslandsWedModel", "guessOf", "(II)I"⟩, 36), (⟨"IslandsWedModel", "isSo", "(III)Z"⟩, 36), (⟨"IslandsWedModel", "draw", "(I)I"⟩, 36), (⟨"IslandsWedModel", "countOf", "(I)I"⟩, 36), (⟨"IslandsWedModel", "partyMany", "()I"⟩, 36), (⟨"IslandsWedModel", "say", "(J)V"⟩, 36), (⟨"IslandsWedModel", "sayIsland", "(I)V"⟩, 36)]
theorem lw_r5 : ∀ q ∈ lw_privs_5, lw_okq q := List.forall_mem_cons.mpr ⟨lw_p64, List.forall_mem_cons.mpr ⟨lw_p65, List.forall_mem_cons.mpr ⟨lw_p66, List.forall_mem_cons.mpr ⟨lw_p67, List.forall_mem_cons.mpr ⟨lw_p68, List.forall_mem_cons.mpr ⟨lw_p69, List.forall_mem_cons.mpr ⟨lw_p70, List.forall_mem_cons.mpr ⟨lw_p71, List.forall_mem_cons.mpr ⟨lw_p72, fun _ h => absurd h List.not_mem_nil⟩⟩⟩⟩⟩⟩⟩⟩⟩
def lw_privs : List (MethodName × Nat) := lw_privs_1 ++ (lw_privs_2 ++ (lw_privs_3 ++ (lw_privs_4 ++ (lw_privs_5))))
def lw_tbl : List Cond := k2_sels lw_privs ++ tables_1
theorem lw_privs_ok : ∀ q ∈ lw_privs, lw_okq q := by
  show ∀ q ∈ lw_privs_1 ++ (lw_privs_2 ++ (lw_privs_3 ++ (lw_privs_4 ++ (lw_privs_5)))), lw_okq q
  exact List.forall_mem_append.mpr ⟨lw_r1, List.forall_mem_append.mpr ⟨lw_r2, List.forall_mem_append.mpr ⟨lw_r3, List.forall_mem_append.mpr ⟨lw_r4, lw_r5⟩⟩⟩⟩
end
section
def RX0 : String := "IslandsWed$Matches"
def TX0 : u_T := fun k => match k with
  | 0 => ("IslandsWed$Matches", "size", "[I", true)
  | 1 => ("IslandsWed$Matches", "suitors", "[I", true)
  | 2 => ("IslandsWed$Matches", "mate", "[I", true)
  | 3 => ("IslandsWed$Matches", "best", "[I", true)
  | 4 => ("IslandsWed$Matches", "islands", "I", false)
  | 5 => ("IslandsWed$Matches", "stable", "I", false)
  | _ => ("IslandsWed$Matches", "mostPairs", "I", false)
def tyX0 : Nat → FieldType := fun k => match k with
  | 0 => .array .int
  | 1 => .array .int
  | 2 => .array .int
  | 3 => .array .int
  | 4 => .int
  | 5 => .int
  | _ => .int
abbrev wsX00 : List Cond := u_ws RX0 TX0 7
theorem nmX0 : ∀ a, a < 7 → ∀ b, b < 7 → a ≠ b → (TX0 a).2.1 ≠ (TX0 b).2.1 := by decide +kernel
theorem tyX0_ok : ∀ k, k < 7 → parseFieldDescriptor (TX0 k).2.2.1 = some (tyX0 k) := by decide +kernel
abbrev cX0_init : ByteArray := prog_2_method_1_code
def yX0_init : MethodName := ⟨RX0, "<init>", "()V"⟩
abbrev cX0_solve : ByteArray := prog_2_method_2_code
def yX0_solve : MethodName := ⟨RX0, "solve", "(LIslandsWed$Waters;[I)V"⟩
abbrev cX0_goThrough : ByteArray := prog_2_method_3_code
def yX0_goThrough : MethodName := ⟨RX0, "goThrough", "(II)V"⟩
abbrev cX0_weigh : ByteArray := prog_2_method_4_code
def yX0_weigh : MethodName := ⟨RX0, "weigh", "(I)V"⟩
abbrev cX0_isStable : ByteArray := prog_2_method_5_code
def yX0_isStable : MethodName := ⟨RX0, "isStable", "()Z"⟩
abbrev cX0_likesBetter : ByteArray := prog_2_method_6_code
def yX0_likesBetter : MethodName := ⟨RX0, "likesBetter", "(II)Z"⟩
def RX1 : String := "IslandsWed$Shells"
def TX1 : u_T := fun k => match k with
  | 0 => ("IslandsWed$Shells", "one", "[I", true)
  | 1 => ("IslandsWed$Shells", "other", "[I", true)
  | 2 => ("IslandsWed$Shells", "when", "[I", true)
  | 3 => ("IslandsWed$Shells", "were", "[Z", true)
  | _ => ("IslandsWed$Shells", "number", "I", false)
def tyX1 : Nat → FieldType := fun k => match k with
  | 0 => .array .int
  | 1 => .array .int
  | 2 => .array .int
  | 3 => .array .boolean
  | _ => .int
abbrev wsX10 : List Cond := u_ws RX1 TX1 5
theorem nmX1 : ∀ a, a < 5 → ∀ b, b < 5 → a ≠ b → (TX1 a).2.1 ≠ (TX1 b).2.1 := by decide +kernel
theorem tyX1_ok : ∀ k, k < 5 → parseFieldDescriptor (TX1 k).2.2.1 = some (tyX1 k) := by decide +kernel
abbrev cX1_init : ByteArray := prog_3_method_1_code
def yX1_init : MethodName := ⟨RX1, "<init>", "()V"⟩
abbrev cX1_add : ByteArray := prog_3_method_2_code
def yX1_add : MethodName := ⟨RX1, "add", "(IIIZ)I"⟩
abbrev cX1_copy : ByteArray := prog_3_method_3_code
def yX1_copy : MethodName := ⟨RX1, "copy", "(LIslandsWed$Shells;)V"⟩
abbrev cX1_lastDay : ByteArray := prog_3_method_4_code
def yX1_lastDay : MethodName := ⟨RX1, "lastDay", "()I"⟩
abbrev cX1_holdOn : ByteArray := prog_3_method_5_code
def yX1_holdOn : MethodName := ⟨RX1, "holdOn", "(ILIslandsWed$Waters;)Z"⟩
def RX2 : String := "IslandsWed$Waters"
def TX2 : u_T := fun k => match k with
  | 0 => ("IslandsWed$Waters", "current", "[I", true)
  | 1 => ("IslandsWed$Waters", "kind", "[I", true)
  | 2 => ("IslandsWed$Waters", "size", "[I", true)
  | 3 => ("IslandsWed$Waters", "place", "[I", true)
  | 4 => ("IslandsWed$Waters", "roped", "[I", true)
  | 5 => ("IslandsWed$Waters", "party", "[I", true)
  | 6 => ("IslandsWed$Waters", "islands", "I", false)
  | 7 => ("IslandsWed$Waters", "ropes", "I", false)
  | 8 => ("IslandsWed$Waters", "anchored", "I", false)
  | 9 => ("IslandsWed$Waters", "wind", "I", false)
  | 10 => ("IslandsWed$Waters", "day", "I", false)
  | _ => ("IslandsWed$Waters", "bumps", "I", false)
def tyX2 : Nat → FieldType := fun k => match k with
  | 0 => .array .int
  | 1 => .array .int
  | 2 => .array .int
  | 3 => .array .int
  | 4 => .array .int
  | 5 => .array .int
  | 6 => .int
  | 7 => .int
  | 8 => .int
  | 9 => .int
  | 10 => .int
  | _ => .int
abbrev wsX20 : List Cond := u_ws RX2 TX2 12
theorem nmX2 : ∀ a, a < 12 → ∀ b, b < 12 → a ≠ b → (TX2 a).2.1 ≠ (TX2 b).2.1 := by decide +kernel
theorem tyX2_ok : ∀ k, k < 12 → parseFieldDescriptor (TX2 k).2.2.1 = some (tyX2 k) := by decide +kernel
abbrev cX2_init : ByteArray := prog_4_method_1_code
def yX2_init : MethodName := ⟨RX2, "<init>", "()V"⟩
abbrev cX2_clear : ByteArray := prog_4_method_2_code
def yX2_clear : MethodName := ⟨RX2, "clear", "()V"⟩
abbrev cX2_copy : ByteArray := prog_4_method_3_code
def yX2_copy : MethodName := ⟨RX2, "copy", "(LIslandsWed$Waters;)V"⟩
abbrev cX2_currents : ByteArray := prog_4_method_4_code
def yX2_currents : MethodName := ⟨RX2, "currents", "()I"⟩
abbrev cX2_add : ByteArray := prog_4_method_5_code
def yX2_add : MethodName := ⟨RX2, "add", "(III)I"⟩
abbrev cX2_islandAt : ByteArray := prog_4_method_6_code
def yX2_islandAt : MethodName := ⟨RX2, "islandAt", "(I)I"⟩
abbrev cX2_isAnchored : ByteArray := prog_4_method_7_code
def yX2_isAnchored : MethodName := ⟨RX2, "isAnchored", "(I)Z"⟩
abbrev cX2_pushOf : ByteArray := prog_4_method_8_code
def yX2_pushOf : MethodName := ⟨RX2, "pushOf", "(I)I"⟩
abbrev cX2_areBeside : ByteArray := prog_4_method_9_code
def yX2_areBeside : MethodName := ⟨RX2, "areBeside", "(II)Z"⟩
abbrev cX2_neighbours : ByteArray := prog_4_method_10_code
def yX2_neighbours : MethodName := ⟨RX2, "neighbours", "(I)I"⟩
abbrev cX2_pairsBeside : ByteArray := prog_4_method_11_code
def yX2_pairsBeside : MethodName := ⟨RX2, "pairsBeside", "()I"⟩
abbrev cX2_noteMeetings : ByteArray := prog_4_method_12_code
def yX2_noteMeetings : MethodName := ⟨RX2, "noteMeetings", "([II)V"⟩
abbrev cX2_areRoped : ByteArray := prog_4_method_13_code
def yX2_areRoped : MethodName := ⟨RX2, "areRoped", "(II)Z"⟩
abbrev cX2_tie : ByteArray := prog_4_method_14_code
def yX2_tie : MethodName := ⟨RX2, "tie", "(II)V"⟩
abbrev cX2_cut : ByteArray := prog_4_method_15_code
def yX2_cut : MethodName := ⟨RX2, "cut", "(II)V"⟩
abbrev cX2_findParties : ByteArray := prog_4_method_16_code
def yX2_findParties : MethodName := ⟨RX2, "findParties", "()V"⟩
abbrev cX2_tiedTo : ByteArray := prog_4_method_17_code
def yX2_tiedTo : MethodName := ⟨RX2, "tiedTo", "(I)I"⟩
abbrev cX2_leads : ByteArray := prog_4_method_18_code
def yX2_leads : MethodName := ⟨RX2, "leads", "(I)Z"⟩
abbrev cX2_parties : ByteArray := prog_4_method_19_code
def yX2_parties : MethodName := ⟨RX2, "parties", "()I"⟩
abbrev cX2_fewestCuts : ByteArray := prog_4_method_20_code
def yX2_fewestCuts : MethodName := ⟨RX2, "fewestCuts", "(II)I"⟩
abbrev cX2_ropesOutOf : ByteArray := prog_4_method_21_code
def yX2_ropesOutOf : MethodName := ⟨RX2, "ropesOutOf", "(I)I"⟩
abbrev cX2_drift : ByteArray := prog_4_method_22_code
def yX2_drift : MethodName := ⟨RX2, "drift", "()I"⟩
abbrev cX2_moves : ByteArray := prog_4_method_23_code
def yX2_moves : MethodName := ⟨RX2, "moves", "(I)Z"⟩
abbrev cX2_stepOf : ByteArray := prog_4_method_24_code
def yX2_stepOf : MethodName := ⟨RX2, "stepOf", "(I)I"⟩
abbrev cX2_isBarred : ByteArray := prog_4_method_25_code
def yX2_isBarred : MethodName := ⟨RX2, "isBarred", "(II)Z"⟩
abbrev cX2_stepped : ByteArray := prog_4_method_26_code
def yX2_stepped : MethodName := ⟨RX2, "stepped", "(II)I"⟩
def RX3 : String := "IslandsWed"
def TX3 : u_T := fun k => match k with
  | 0 => ("IslandsWed", "page", "[I", true)
  | 1 => ("IslandsWed", "letters", "I", false)
  | 2 => ("IslandsWed", "hasSea", "Z", false)
  | 3 => ("IslandsWed", "hasImage", "Z", false)
  | 4 => ("IslandsWed", "seasRead", "I", false)
  | 5 => ("IslandsWed", "anchorsDone", "I", false)
  | 6 => ("IslandsWed", "now", "LIslandsWed$Waters;", true)
  | 7 => ("IslandsWed", "kept", "LIslandsWed$Waters;", true)
  | 8 => ("IslandsWed", "trial", "LIslandsWed$Waters;", true)
  | 9 => ("IslandsWed", "shells", "LIslandsWed$Shells;", true)
  | 10 => ("IslandsWed", "keptShells", "LIslandsWed$Shells;", true)
  | 11 => ("IslandsWed", "met", "[I", true)
  | _ => ("IslandsWed", "matches", "LIslandsWed$Matches;", true)
def tyX3 : Nat → FieldType := fun k => match k with
  | 0 => .array .int
  | 1 => .int
  | 2 => .boolean
  | 3 => .boolean
  | 4 => .int
  | 5 => .int
  | 6 => .object "IslandsWed$Waters"
  | 7 => .object "IslandsWed$Waters"
  | 8 => .object "IslandsWed$Waters"
  | 9 => .object "IslandsWed$Shells"
  | 10 => .object "IslandsWed$Shells"
  | 11 => .array .int
  | _ => .object "IslandsWed$Matches"
abbrev wsX30 : List Cond := u_ws RX3 TX3 13
theorem nmX3 : ∀ a, a < 13 → ∀ b, b < 13 → a ≠ b → (TX3 a).2.1 ≠ (TX3 b).2.1 := by decide +kernel
theorem tyX3_ok : ∀ k, k < 13 → parseFieldDescriptor (TX3 k).2.2.1 = some (tyX3 k) := by decide +kernel
abbrev cX3_init : ByteArray := prog_1_method_1_code
def yX3_init : MethodName := ⟨RX3, "<init>", "()V"⟩
abbrev cX3_letter : ByteArray := prog_1_method_2_code
def yX3_letter : MethodName := ⟨RX3, "letter", "(I)I"⟩
abbrev cX3_blank : ByteArray := prog_1_method_3_code
def yX3_blank : MethodName := ⟨RX3, "blank", "()I"⟩
abbrev cX3_fault : ByteArray := prog_1_method_4_code
def yX3_fault : MethodName := ⟨RX3, "fault", "()I"⟩
abbrev cX3_sea : ByteArray := prog_1_method_5_code
def yX3_sea : MethodName := ⟨RX3, "sea", "()I"⟩
abbrev cX3_place : ByteArray := prog_1_method_6_code
def yX3_place : MethodName := ⟨RX3, "place", "(II)I"⟩
abbrev cX3_wind : ByteArray := prog_1_method_7_code
def yX3_wind : MethodName := ⟨RX3, "wind", "(I)I"⟩
abbrev cX3_island : ByteArray := prog_1_method_8_code
def yX3_island : MethodName := ⟨RX3, "island", "(III)I"⟩
abbrev cX3_about : ByteArray := prog_1_method_9_code
def yX3_about : MethodName := ⟨RX3, "about", "(II)I"⟩
abbrev cX3_as : ByteArray := prog_1_method_10_code
def yX3_as : MethodName := ⟨RX3, "as", "(II)I"⟩
abbrev cX3_anchor : ByteArray := prog_1_method_11_code
def yX3_anchor : MethodName := ⟨RX3, "anchor", "(IZ)I"⟩
abbrev cX3_wed : ByteArray := prog_1_method_12_code
def yX3_wed : MethodName := ⟨RX3, "wed", "(II)I"⟩
abbrev cX3_axe : ByteArray := prog_1_method_13_code
def yX3_axe : MethodName := ⟨RX3, "axe", "(II)I"⟩
abbrev cX3_day : ByteArray := prog_1_method_14_code
def yX3_day : MethodName := ⟨RX3, "day", "()I"⟩
abbrev cX3_meet : ByteArray := prog_1_method_15_code
def yX3_meet : MethodName := ⟨RX3, "meet", "(II)I"⟩
abbrev cX3_anchors : ByteArray := prog_1_method_16_code
def yX3_anchors : MethodName := ⟨RX3, "anchors", "(IIII)I"⟩
abbrev cX3_stable : ByteArray := prog_1_method_17_code
def yX3_stable : MethodName := ⟨RX3, "stable", "(I)I"⟩
abbrev cX3_parting : ByteArray := prog_1_method_18_code
def yX3_parting : MethodName := ⟨RX3, "parting", "(II)I"⟩
abbrev cX3_shell : ByteArray := prog_1_method_19_code
def yX3_shell : MethodName := ⟨RX3, "shell", "(IIIZ)I"⟩
abbrev cX3_forget : ByteArray := prog_1_method_20_code
def yX3_forget : MethodName := ⟨RX3, "forget", "()I"⟩
abbrev cX3_guess : ByteArray := prog_1_method_21_code
def yX3_guess : MethodName := ⟨RX3, "guess", "(II)I"⟩
abbrev cX3_seasons : ByteArray := prog_1_method_22_code
def yX3_seasons : MethodName := ⟨RX3, "seasons", "(III)I"⟩
abbrev cX3_image : ByteArray := prog_1_method_23_code
def yX3_image : MethodName := ⟨RX3, "image", "()I"⟩
abbrev cX3_restore : ByteArray := prog_1_method_24_code
def yX3_restore : MethodName := ⟨RX3, "restore", "()I"⟩
abbrev cX3_count : ByteArray := prog_1_method_25_code
def yX3_count : MethodName := ⟨RX3, "count", "(I)I"⟩
abbrev cX3_digest : ByteArray := prog_1_method_26_code
def yX3_digest : MethodName := ⟨RX3, "digest", "()J"⟩
abbrev cX3_isSign : ByteArray := prog_1_method_27_code
def yX3_isSign : MethodName := ⟨RX3, "isSign", "(I)Z"⟩
abbrev cX3_currentOf : ByteArray := prog_1_method_28_code
def yX3_currentOf : MethodName := ⟨RX3, "currentOf", "(I)I"⟩
abbrev cX3_nextSeed : ByteArray := prog_1_method_29_code
def yX3_nextSeed : MethodName := ⟨RX3, "nextSeed", "(I)I"⟩
abbrev cX3_isKind : ByteArray := prog_1_method_30_code
def yX3_isKind : MethodName := ⟨RX3, "isKind", "(I)Z"⟩
abbrev cX3_isPlace : ByteArray := prog_1_method_31_code
def yX3_isPlace : MethodName := ⟨RX3, "isPlace", "(I)Z"⟩
abbrev cX3_isIsland : ByteArray := prog_1_method_32_code
def yX3_isIsland : MethodName := ⟨RX3, "isIsland", "(I)Z"⟩
abbrev cX3_areTwo : ByteArray := prog_1_method_33_code
def yX3_areTwo : MethodName := ⟨RX3, "areTwo", "(II)Z"⟩
abbrev cX3_firstMeeting : ByteArray := prog_1_method_34_code
def yX3_firstMeeting : MethodName := ⟨RX3, "firstMeeting", "(IIII)I"⟩
abbrev cX3_fewestAnchors : ByteArray := prog_1_method_35_code
def yX3_fewestAnchors : MethodName := ⟨RX3, "fewestAnchors", "(III)I"⟩
abbrev cX3_meetAll : ByteArray := prog_1_method_36_code
def yX3_meetAll : MethodName := ⟨RX3, "meetAll", "(I)V"⟩
abbrev cX3_matchesTell : ByteArray := prog_1_method_37_code
def yX3_matchesTell : MethodName := ⟨RX3, "matchesTell", "(I)I"⟩
abbrev cX3_shellsWouldHold : ByteArray := prog_1_method_38_code
def yX3_shellsWouldHold : MethodName := ⟨RX3, "shellsWouldHold", "(III)Z"⟩
abbrev cX3_digestIslands : ByteArray := prog_1_method_39_code
def yX3_digestIslands : MethodName := ⟨RX3, "digestIslands", "(J)J"⟩
abbrev cX3_digestMatches : ByteArray := prog_1_method_40_code
def yX3_digestMatches : MethodName := ⟨RX3, "digestMatches", "(J)J"⟩
def RX4 : String := "IslandsWedModel"
def TX4 : u_T := fun k => match k with
  | 0 => ("IslandsWedModel", "page", "[I", true)
  | 1 => ("IslandsWedModel", "pageMany", "I", false)
  | 2 => ("IslandsWedModel", "isThere", "Z", false)
  | 3 => ("IslandsWedModel", "windNow", "I", false)
  | 4 => ("IslandsWedModel", "dayNow", "I", false)
  | 5 => ("IslandsWedModel", "bumpsNow", "I", false)
  | 6 => ("IslandsWedModel", "seasRead", "I", false)
  | 7 => ("IslandsWedModel", "currents", "[I", true)
  | 8 => ("IslandsWedModel", "islands", "I", false)
  | 9 => ("IslandsWedModel", "ropeMany", "I", false)
  | 10 => ("IslandsWedModel", "rows", "[I", true)
  | 11 => ("IslandsWedModel", "ropes", "[I", true)
  | 12 => ("IslandsWedModel", "now", "[I", true)
  | 13 => ("IslandsWedModel", "nowAnchored", "I", false)
  | 14 => ("IslandsWedModel", "nowWind", "I", false)
  | 15 => ("IslandsWedModel", "nowDay", "I", false)
  | 16 => ("IslandsWedModel", "anchorsMany", "I", false)
  | 17 => ("IslandsWedModel", "meets", "[I", true)
  | 18 => ("IslandsWedModel", "has", "[I", true)
  | 19 => ("IslandsWedModel", "bestHas", "[I", true)
  | 20 => ("IslandsWedModel", "stableMany", "I", false)
  | 21 => ("IslandsWedModel", "bestPairs", "I", false)
  | 22 => ("IslandsWedModel", "shellMany", "I", false)
  | 23 => ("IslandsWedModel", "shells", "[I", true)
  | 24 => ("IslandsWedModel", "seedNow", "I", false)
  | 25 => ("IslandsWedModel", "keptSea", "I", false)
  | 26 => ("IslandsWedModel", "keptIslands", "I", false)
  | 27 => ("IslandsWedModel", "keptRopeMany", "I", false)
  | 28 => ("IslandsWedModel", "keptWind", "I", false)
  | 29 => ("IslandsWedModel", "keptDay", "I", false)
  | 30 => ("IslandsWedModel", "keptBumps", "I", false)
  | 31 => ("IslandsWedModel", "keptShellMany", "I", false)
  | 32 => ("IslandsWedModel", "keptRows", "[I", true)
  | 33 => ("IslandsWedModel", "keptRopes", "[I", true)
  | 34 => ("IslandsWedModel", "keptShells", "[I", true)
  | _ => ("IslandsWedModel", "hash", "J", false)
def tyX4 : Nat → FieldType := fun k => match k with
  | 0 => .array .int
  | 1 => .int
  | 2 => .boolean
  | 3 => .int
  | 4 => .int
  | 5 => .int
  | 6 => .int
  | 7 => .array .int
  | 8 => .int
  | 9 => .int
  | 10 => .array .int
  | 11 => .array .int
  | 12 => .array .int
  | 13 => .int
  | 14 => .int
  | 15 => .int
  | 16 => .int
  | 17 => .array .int
  | 18 => .array .int
  | 19 => .array .int
  | 20 => .int
  | 21 => .int
  | 22 => .int
  | 23 => .array .int
  | 24 => .int
  | 25 => .int
  | 26 => .int
  | 27 => .int
  | 28 => .int
  | 29 => .int
  | 30 => .int
  | 31 => .int
  | 32 => .array .int
  | 33 => .array .int
  | 34 => .array .int
  | _ => .long
abbrev wsX40 : List Cond := u_ws RX4 TX4 36
theorem nmX4 : ∀ a, a < 36 → ∀ b, b < 36 → a ≠ b → (TX4 a).2.1 ≠ (TX4 b).2.1 := by decide +kernel
theorem tyX4_ok : ∀ k, k < 36 → parseFieldDescriptor (TX4 k).2.2.1 = some (tyX4 k) := by decide +kernel
abbrev cX4_init : ByteArray := prog_6_method_1_code
def yX4_init : MethodName := ⟨RX4, "<init>", "()V"⟩
abbrev cX4_in : ByteArray := prog_6_method_2_code
def yX4_in : MethodName := ⟨RX4, "in", "(JJJ)Z"⟩
abbrev cX4_letter : ByteArray := prog_6_method_3_code
def yX4_letter : MethodName := ⟨RX4, "letter", "(I)I"⟩
abbrev cX4_blank : ByteArray := prog_6_method_4_code
def yX4_blank : MethodName := ⟨RX4, "blank", "()I"⟩
abbrev cX4_faultOf : ByteArray := prog_6_method_5_code
def yX4_faultOf : MethodName := ⟨RX4, "faultOf", "()I"⟩
abbrev cX4_fault : ByteArray := prog_6_method_6_code
def yX4_fault : MethodName := ⟨RX4, "fault", "()I"⟩
abbrev cX4_currentMany : ByteArray := prog_6_method_7_code
def yX4_currentMany : MethodName := ⟨RX4, "currentMany", "()I"⟩
abbrev cX4_sea : ByteArray := prog_6_method_8_code
def yX4_sea : MethodName := ⟨RX4, "sea", "()I"⟩
abbrev cX4_isIsland : ByteArray := prog_6_method_9_code
def yX4_isIsland : MethodName := ⟨RX4, "isIsland", "(I)Z"⟩
abbrev cX4_arePair : ByteArray := prog_6_method_10_code
def yX4_arePair : MethodName := ⟨RX4, "arePair", "(II)Z"⟩
abbrev cX4_whoIsAt : ByteArray := prog_6_method_11_code
def yX4_whoIsAt : MethodName := ⟨RX4, "whoIsAt", "(I)I"⟩
abbrev cX4_place : ByteArray := prog_6_method_12_code
def yX4_place : MethodName := ⟨RX4, "place", "(II)I"⟩
abbrev cX4_wind : ByteArray := prog_6_method_13_code
def yX4_wind : MethodName := ⟨RX4, "wind", "(I)I"⟩
abbrev cX4_island : ByteArray := prog_6_method_14_code
def yX4_island : MethodName := ⟨RX4, "island", "(III)I"⟩
abbrev cX4_asItIs : ByteArray := prog_6_method_15_code
def yX4_asItIs : MethodName := ⟨RX4, "asItIs", "()V"⟩
abbrev cX4_pushOf : ByteArray := prog_6_method_16_code
def yX4_pushOf : MethodName := ⟨RX4, "pushOf", "(I)I"⟩
abbrev cX4_areBeside : ByteArray := prog_6_method_17_code
def yX4_areBeside : MethodName := ⟨RX4, "areBeside", "(II)Z"⟩
abbrev cX4_areRoped : ByteArray := prog_6_method_18_code
def yX4_areRoped : MethodName := ⟨RX4, "areRoped", "(II)Z"⟩
abbrev cX4_partyBy : ByteArray := prog_6_method_19_code
def yX4_partyBy : MethodName := ⟨RX4, "partyBy", "(II)I"⟩
abbrev cX4_partyOf : ByteArray := prog_6_method_20_code
def yX4_partyOf : MethodName := ⟨RX4, "partyOf", "(I)I"⟩
abbrev cX4_isFirst : ByteArray := prog_6_method_21_code
def yX4_isFirst : MethodName := ⟨RX4, "isFirst", "(I)Z"⟩
abbrev cX4_drifts : ByteArray := prog_6_method_22_code
def yX4_drifts : MethodName := ⟨RX4, "drifts", "(I)I"⟩
abbrev cX4_passes : ByteArray := prog_6_method_23_code
def yX4_passes : MethodName := ⟨RX4, "passes", "()I"⟩
abbrev cX4_besideBits : ByteArray := prog_6_method_24_code
def yX4_besideBits : MethodName := ⟨RX4, "besideBits", "(I)I"⟩
abbrev cX4_ropedBits : ByteArray := prog_6_method_25_code
def yX4_ropedBits : MethodName := ⟨RX4, "ropedBits", "(I)I"⟩
abbrev cX4_tell : ByteArray := prog_6_method_26_code
def yX4_tell : MethodName := ⟨RX4, "tell", "(II)I"⟩
abbrev cX4_about : ByteArray := prog_6_method_27_code
def yX4_about : MethodName := ⟨RX4, "about", "(II)I"⟩
abbrev cX4_as : ByteArray := prog_6_method_28_code
def yX4_as : MethodName := ⟨RX4, "as", "(II)I"⟩
abbrev cX4_anchor : ByteArray := prog_6_method_29_code
def yX4_anchor : MethodName := ⟨RX4, "anchor", "(IZ)I"⟩
abbrev cX4_wed : ByteArray := prog_6_method_30_code
def yX4_wed : MethodName := ⟨RX4, "wed", "(II)I"⟩
abbrev cX4_axe : ByteArray := prog_6_method_31_code
def yX4_axe : MethodName := ⟨RX4, "axe", "(II)I"⟩
abbrev cX4_day : ByteArray := prog_6_method_32_code
def yX4_day : MethodName := ⟨RX4, "day", "()I"⟩
abbrev cX4_meetBy : ByteArray := prog_6_method_33_code
def yX4_meetBy : MethodName := ⟨RX4, "meetBy", "(IIII)I"⟩
abbrev cX4_meet : ByteArray := prog_6_method_34_code
def yX4_meet : MethodName := ⟨RX4, "meet", "(II)I"⟩
abbrev cX4_ones : ByteArray := prog_6_method_35_code
def yX4_ones : MethodName := ⟨RX4, "ones", "(I)I"⟩
abbrev cX4_anchorsOf : ByteArray := prog_6_method_36_code
def yX4_anchorsOf : MethodName := ⟨RX4, "anchorsOf", "(III)I"⟩
abbrev cX4_anchors : ByteArray := prog_6_method_37_code
def yX4_anchors : MethodName := ⟨RX4, "anchors", "(IIII)I"⟩
abbrev cX4_likes : ByteArray := prog_6_method_38_code
def yX4_likes : MethodName := ⟨RX4, "likes", "(II)Z"⟩
abbrev cX4_isMatch : ByteArray := prog_6_method_39_code
def yX4_isMatch : MethodName := ⟨RX4, "isMatch", "(I)Z"⟩
abbrev cX4_isStable : ByteArray := prog_6_method_40_code
def yX4_isStable : MethodName := ⟨RX4, "isStable", "()Z"⟩
abbrev cX4_layStable : ByteArray := prog_6_method_41_code
def yX4_layStable : MethodName := ⟨RX4, "layStable", "()V"⟩
abbrev cX4_tellStable : ByteArray := prog_6_method_42_code
def yX4_tellStable : MethodName := ⟨RX4, "tellStable", "(I)I"⟩
abbrev cX4_stable : ByteArray := prog_6_method_43_code
def yX4_stable : MethodName := ⟨RX4, "stable", "(I)I"⟩
abbrev cX4_parting : ByteArray := prog_6_method_44_code
def yX4_parting : MethodName := ⟨RX4, "parting", "(II)I"⟩
abbrev cX4_shell : ByteArray := prog_6_method_45_code
def yX4_shell : MethodName := ⟨RX4, "shell", "(IIIZ)I"⟩
abbrev cX4_forget : ByteArray := prog_6_method_46_code
def yX4_forget : MethodName := ⟨RX4, "forget", "()I"⟩
abbrev cX4_isSo : ByteArray := prog_6_method_47_code
def yX4_isSo : MethodName := ⟨RX4, "isSo", "(III)Z"⟩
abbrev cX4_guessOf : ByteArray := prog_6_method_48_code
def yX4_guessOf : MethodName := ⟨RX4, "guessOf", "(II)I"⟩
abbrev cX4_guess : ByteArray := prog_6_method_49_code
def yX4_guess : MethodName := ⟨RX4, "guess", "(II)I"⟩
abbrev cX4_draw : ByteArray := prog_6_method_50_code
def yX4_draw : MethodName := ⟨RX4, "draw", "(I)I"⟩
abbrev cX4_seasons : ByteArray := prog_6_method_51_code
def yX4_seasons : MethodName := ⟨RX4, "seasons", "(III)I"⟩
abbrev cX4_copy : ByteArray := prog_6_method_52_code
def yX4_copy : MethodName := ⟨RX4, "copy", "([I[I)V"⟩
abbrev cX4_image : ByteArray := prog_6_method_53_code
def yX4_image : MethodName := ⟨RX4, "image", "()I"⟩
abbrev cX4_restore : ByteArray := prog_6_method_54_code
def yX4_restore : MethodName := ⟨RX4, "restore", "()I"⟩
abbrev cX4_partyMany : ByteArray := prog_6_method_55_code
def yX4_partyMany : MethodName := ⟨RX4, "partyMany", "()I"⟩
abbrev cX4_countOf : ByteArray := prog_6_method_56_code
def yX4_countOf : MethodName := ⟨RX4, "countOf", "(I)I"⟩
abbrev cX4_count : ByteArray := prog_6_method_57_code
def yX4_count : MethodName := ⟨RX4, "count", "(I)I"⟩
abbrev cX4_say : ByteArray := prog_6_method_58_code
def yX4_say : MethodName := ⟨RX4, "say", "(J)V"⟩
abbrev cX4_sayIsland : ByteArray := prog_6_method_59_code
def yX4_sayIsland : MethodName := ⟨RX4, "sayIsland", "(I)V"⟩
abbrev cX4_digest : ByteArray := prog_6_method_60_code
def yX4_digest : MethodName := ⟨RX4, "digest", "()J"⟩
def RJ6 : String := "java/lang/Integer"
def TJ6 : u_T := fun k => match k with
  | _ => ("", "", "", false)
def tyJ6 : Nat → FieldType := fun k => match k with
  | _ => .int
abbrev wsJ60 : List Cond := u_ws RJ6 TJ6 0
theorem nmJ6 : ∀ a, a < 0 → ∀ b, b < 0 → a ≠ b → (TJ6 a).2.1 ≠ (TJ6 b).2.1 := by decide +kernel
theorem tyJ6_ok : ∀ k, k < 0 → parseFieldDescriptor (TJ6 k).2.2.1 = some (tyJ6 k) := by decide +kernel
abbrev cJ6_compare_7cf53 : ByteArray := prog_7_method_40_code
def yJ6_compare_7cf53 : MethodName := ⟨RJ6, "compare", "(II)I"⟩
abbrev cJ6_bitCount_0f7a4 : ByteArray := prog_7_method_49_code
def yJ6_bitCount_0f7a4 : MethodName := ⟨RJ6, "bitCount", "(I)I"⟩
def RJ9 : String := "java/lang/Math"
def TJ9 : u_T := fun k => match k with
  | _ => ("", "", "", false)
def tyJ9 : Nat → FieldType := fun k => match k with
  | _ => .int
abbrev wsJ90 : List Cond := u_ws RJ9 TJ9 0
theorem nmJ9 : ∀ a, a < 0 → ∀ b, b < 0 → a ≠ b → (TJ9 a).2.1 ≠ (TJ9 b).2.1 := by decide +kernel
theorem tyJ9_ok : ∀ k, k < 0 → parseFieldDescriptor (TJ9 k).2.2.1 = some (tyJ9 k) := by decide +kernel
abbrev cJ9_max_7cf53 : ByteArray := prog_8_method_65_code
def yJ9_max_7cf53 : MethodName := ⟨RJ9, "max", "(II)I"⟩
abbrev cJ9_min_7cf53 : ByteArray := prog_8_method_69_code
def yJ9_min_7cf53 : MethodName := ⟨RJ9, "min", "(II)I"⟩
def RJ10 : String := "java/lang/System"
def TJ10 : u_T := fun k => match k with
  | _ => ("", "", "", false)
def tyJ10 : Nat → FieldType := fun k => match k with
  | _ => .int
abbrev wsJ100 : List Cond := u_ws RJ10 TJ10 0
theorem nmJ10 : ∀ a, a < 0 → ∀ b, b < 0 → a ≠ b → (TJ10 a).2.1 ≠ (TJ10 b).2.1 := by decide +kernel
theorem tyJ10_ok : ∀ k, k < 0 → parseFieldDescriptor (TJ10 k).2.2.1 = some (tyJ10 k) := by decide +kernel
def RJ7 : String := "java/util/Arrays"
def TJ7 : u_T := fun k => match k with
  | _ => ("", "", "", false)
def tyJ7 : Nat → FieldType := fun k => match k with
  | _ => .int
abbrev wsJ70 : List Cond := u_ws RJ7 TJ7 0
theorem nmJ7 : ∀ a, a < 0 → ∀ b, b < 0 → a ≠ b → (TJ7 a).2.1 ≠ (TJ7 b).2.1 := by decide +kernel
theorem tyJ7_ok : ∀ k, k < 0 → parseFieldDescriptor (TJ7 k).2.2.1 = some (tyJ7 k) := by decide +kernel
abbrev cJ7_fill_53178 : ByteArray := prog_10_method_103_code
def yJ7_fill_53178 : MethodName := ⟨RJ7, "fill", "([II)V"⟩
def RL : String := "IslandsWedLaw"
abbrev cL_law : ByteArray := code
def yL_law : MethodName := ⟨RL, "law", "([I)Z"⟩
abbrev vwCl : List vw_C := [(RX0, TX0, 7), (RX1, TX1, 5), (RX2, TX2, 12), (RX3, TX3, 13), (RX4, TX4, 36)]
end
section
theorem dX0_init_0 : decode cX0_init 0 = .ok (.aload_n 0, 1) := by decide +kernel
theorem dX0_init_1 : decode cX0_init 1 = .ok (.invokespecial 3, 3) := by decide +kernel
theorem dX0_init_4 : decode cX0_init 4 = .ok (.aload_n 0, 1) := by decide +kernel
theorem dX0_init_5 : decode cX0_init 5 = .ok (.iconst 5, 1) := by decide +kernel
theorem dX0_init_6 : decode cX0_init 6 = .ok (.newarray .int, 2) := by decide +kernel
theorem dX0_init_8 : decode cX0_init 8 = .ok (.putfield 9, 3) := by decide +kernel
theorem dX0_init_11 : decode cX0_init 11 = .ok (.aload_n 0, 1) := by decide +kernel
theorem dX0_init_12 : decode cX0_init 12 = .ok (.iconst 5, 1) := by decide +kernel
theorem dX0_init_13 : decode cX0_init 13 = .ok (.newarray .int, 2) := by decide +kernel
theorem dX0_init_15 : decode cX0_init 15 = .ok (.putfield 15, 3) := by decide +kernel
theorem dX0_init_18 : decode cX0_init 18 = .ok (.aload_n 0, 1) := by decide +kernel
theorem dX0_init_19 : decode cX0_init 19 = .ok (.iconst 5, 1) := by decide +kernel
theorem dX0_init_20 : decode cX0_init 20 = .ok (.newarray .int, 2) := by decide +kernel
theorem dX0_init_22 : decode cX0_init 22 = .ok (.putfield 18, 3) := by decide +kernel
theorem dX0_init_25 : decode cX0_init 25 = .ok (.aload_n 0, 1) := by decide +kernel
theorem dX0_init_26 : decode cX0_init 26 = .ok (.iconst 5, 1) := by decide +kernel
theorem dX0_init_27 : decode cX0_init 27 = .ok (.newarray .int, 2) := by decide +kernel
theorem dX0_init_29 : decode cX0_init 29 = .ok (.putfield 21, 3) := by decide +kernel
theorem dX0_init_32 : decode cX0_init 32 = .ok (.aload_n 0, 1) := by decide +kernel
theorem dX0_init_33 : decode cX0_init 33 = .ok (.iconst 0, 1) := by decide +kernel
theorem dX0_init_34 : decode cX0_init 34 = .ok (.putfield 24, 3) := by decide +kernel
theorem dX0_init_37 : decode cX0_init 37 = .ok (.aload_n 0, 1) := by decide +kernel
theorem dX0_init_38 : decode cX0_init 38 = .ok (.iconst 0, 1) := by decide +kernel
theorem dX0_init_39 : decode cX0_init 39 = .ok (.putfield 28, 3) := by decide +kernel
theorem dX0_init_42 : decode cX0_init 42 = .ok (.aload_n 0, 1) := by decide +kernel
theorem dX0_init_43 : decode cX0_init 43 = .ok (.iconst (-1), 1) := by decide +kernel
theorem dX0_init_44 : decode cX0_init 44 = .ok (.putfield 31, 3) := by decide +kernel
theorem dX0_init_47 : decode cX0_init 47 = .ok (.return_, 1) := by decide +kernel
theorem dX0_solve_0 : decode cX0_solve 0 = .ok (.aload_n 0, 1) := by decide +kernel
theorem dX0_solve_1 : decode cX0_solve 1 = .ok (.aload_n 1, 1) := by decide +kernel
theorem dX0_solve_2 : decode cX0_solve 2 = .ok (.getfield 34, 3) := by decide +kernel
theorem dX0_solve_5 : decode cX0_solve 5 = .ok (.putfield 24, 3) := by decide +kernel
theorem dX0_solve_8 : decode cX0_solve 8 = .ok (.iconst 0, 1) := by decide +kernel
theorem dX0_solve_9 : decode cX0_solve 9 = .ok (.istore_n 3, 1) := by decide +kernel
theorem dX0_solve_10 : decode cX0_solve 10 = .ok (.iload_n 3, 1) := by decide +kernel
theorem dX0_solve_11 : decode cX0_solve 11 = .ok (.aload_n 0, 1) := by decide +kernel
theorem dX0_solve_12 : decode cX0_solve 12 = .ok (.getfield 24, 3) := by decide +kernel
theorem dX0_solve_15 : decode cX0_solve 15 = .ok (.if_icmp .ge 82, 3) := by decide +kernel
theorem dX0_solve_18 : decode cX0_solve 18 = .ok (.aload_n 0, 1) := by decide +kernel
theorem dX0_solve_19 : decode cX0_solve 19 = .ok (.getfield 9, 3) := by decide +kernel
theorem dX0_solve_22 : decode cX0_solve 22 = .ok (.iload_n 3, 1) := by decide +kernel
theorem dX0_solve_23 : decode cX0_solve 23 = .ok (.aload_n 1, 1) := by decide +kernel
theorem dX0_solve_24 : decode cX0_solve 24 = .ok (.getfield 37, 3) := by decide +kernel
theorem dX0_solve_27 : decode cX0_solve 27 = .ok (.iload_n 3, 1) := by decide +kernel
theorem dX0_solve_28 : decode cX0_solve 28 = .ok (.iaload, 1) := by decide +kernel
theorem dX0_solve_29 : decode cX0_solve 29 = .ok (.iastore, 1) := by decide +kernel
theorem dX0_solve_30 : decode cX0_solve 30 = .ok (.aload_n 0, 1) := by decide +kernel
theorem dX0_solve_31 : decode cX0_solve 31 = .ok (.getfield 15, 3) := by decide +kernel
theorem dX0_solve_34 : decode cX0_solve 34 = .ok (.iload_n 3, 1) := by decide +kernel
theorem dX0_solve_35 : decode cX0_solve 35 = .ok (.iconst 0, 1) := by decide +kernel
theorem dX0_solve_36 : decode cX0_solve 36 = .ok (.iastore, 1) := by decide +kernel
theorem dX0_solve_37 : decode cX0_solve 37 = .ok (.iconst 0, 1) := by decide +kernel
theorem dX0_solve_38 : decode cX0_solve 38 = .ok (.istore 4, 2) := by decide +kernel
theorem dX0_solve_40 : decode cX0_solve 40 = .ok (.iload 4, 2) := by decide +kernel
theorem dX0_solve_42 : decode cX0_solve 42 = .ok (.aload_n 0, 1) := by decide +kernel
theorem dX0_solve_43 : decode cX0_solve 43 = .ok (.getfield 24, 3) := by decide +kernel
theorem dX0_solve_46 : decode cX0_solve 46 = .ok (.if_icmp .ge 45, 3) := by decide +kernel
theorem dX0_solve_49 : decode cX0_solve 49 = .ok (.aload_n 2, 1) := by decide +kernel
theorem dX0_solve_50 : decode cX0_solve 50 = .ok (.iload_n 3, 1) := by decide +kernel
theorem dX0_solve_51 : decode cX0_solve 51 = .ok (.iconst 5, 1) := by decide +kernel
theorem dX0_solve_52 : decode cX0_solve 52 = .ok (.imul, 1) := by decide +kernel
theorem dX0_solve_53 : decode cX0_solve 53 = .ok (.iload 4, 2) := by decide +kernel
theorem dX0_solve_55 : decode cX0_solve 55 = .ok (.iadd, 1) := by decide +kernel
theorem dX0_solve_56 : decode cX0_solve 56 = .ok (.iaload, 1) := by decide +kernel
theorem dX0_solve_57 : decode cX0_solve 57 = .ok (.istore 5, 2) := by decide +kernel
theorem dX0_solve_59 : decode cX0_solve 59 = .ok (.iload 5, 2) := by decide +kernel
theorem dX0_solve_61 : decode cX0_solve 61 = .ok (.iconst (-1), 1) := by decide +kernel
theorem dX0_solve_62 : decode cX0_solve 62 = .ok (.if_icmp .eq 23, 3) := by decide +kernel
theorem dX0_solve_65 : decode cX0_solve 65 = .ok (.iload 5, 2) := by decide +kernel
theorem dX0_solve_67 : decode cX0_solve 67 = .ok (.bipush 30, 2) := by decide +kernel
theorem dX0_solve_69 : decode cX0_solve 69 = .ok (.if_icmp .gt 16, 3) := by decide +kernel
theorem dX0_solve_72 : decode cX0_solve 72 = .ok (.aload_n 0, 1) := by decide +kernel
theorem dX0_solve_73 : decode cX0_solve 73 = .ok (.getfield 15, 3) := by decide +kernel
theorem dX0_solve_76 : decode cX0_solve 76 = .ok (.iload_n 3, 1) := by decide +kernel
theorem dX0_solve_77 : decode cX0_solve 77 = .ok (.dup2, 1) := by decide +kernel
theorem dX0_solve_78 : decode cX0_solve 78 = .ok (.iaload, 1) := by decide +kernel
theorem dX0_solve_79 : decode cX0_solve 79 = .ok (.iconst 1, 1) := by decide +kernel
theorem dX0_solve_80 : decode cX0_solve 80 = .ok (.iload 4, 2) := by decide +kernel
theorem dX0_solve_82 : decode cX0_solve 82 = .ok (.ishl, 1) := by decide +kernel
theorem dX0_solve_83 : decode cX0_solve 83 = .ok (.ior, 1) := by decide +kernel
theorem dX0_solve_84 : decode cX0_solve 84 = .ok (.iastore, 1) := by decide +kernel
theorem dX0_solve_85 : decode cX0_solve 85 = .ok (.iinc 4 1, 3) := by decide +kernel
theorem dX0_solve_88 : decode cX0_solve 88 = .ok (.goto (-48), 3) := by decide +kernel
theorem dX0_solve_91 : decode cX0_solve 91 = .ok (.iinc 3 1, 3) := by decide +kernel
theorem dX0_solve_94 : decode cX0_solve 94 = .ok (.goto (-84), 3) := by decide +kernel
theorem dX0_solve_97 : decode cX0_solve 97 = .ok (.aload_n 0, 1) := by decide +kernel
theorem dX0_solve_98 : decode cX0_solve 98 = .ok (.getfield 18, 3) := by decide +kernel
theorem dX0_solve_101 : decode cX0_solve 101 = .ok (.iconst (-1), 1) := by decide +kernel
theorem dX0_solve_102 : decode cX0_solve 102 = .ok (.invokestatic 38, 3) := by decide +kernel
theorem dX0_solve_105 : decode cX0_solve 105 = .ok (.aload_n 0, 1) := by decide +kernel
theorem dX0_solve_106 : decode cX0_solve 106 = .ok (.getfield 21, 3) := by decide +kernel
theorem dX0_solve_109 : decode cX0_solve 109 = .ok (.iconst (-1), 1) := by decide +kernel
theorem dX0_solve_110 : decode cX0_solve 110 = .ok (.invokestatic 38, 3) := by decide +kernel
theorem dX0_solve_113 : decode cX0_solve 113 = .ok (.aload_n 0, 1) := by decide +kernel
theorem dX0_solve_114 : decode cX0_solve 114 = .ok (.iconst 0, 1) := by decide +kernel
theorem dX0_solve_115 : decode cX0_solve 115 = .ok (.putfield 28, 3) := by decide +kernel
theorem dX0_solve_118 : decode cX0_solve 118 = .ok (.aload_n 0, 1) := by decide +kernel
theorem dX0_solve_119 : decode cX0_solve 119 = .ok (.iconst (-1), 1) := by decide +kernel
theorem dX0_solve_120 : decode cX0_solve 120 = .ok (.putfield 31, 3) := by decide +kernel
theorem dX0_solve_123 : decode cX0_solve 123 = .ok (.aload_n 0, 1) := by decide +kernel
theorem dX0_solve_124 : decode cX0_solve 124 = .ok (.iconst 0, 1) := by decide +kernel
theorem dX0_solve_125 : decode cX0_solve 125 = .ok (.iconst 0, 1) := by decide +kernel
theorem dX0_solve_126 : decode cX0_solve 126 = .ok (.invokevirtual 44, 3) := by decide +kernel
theorem dX0_solve_129 : decode cX0_solve 129 = .ok (.return_, 1) := by decide +kernel
theorem dX0_goThrough_0 : decode cX0_goThrough 0 = .ok (.iload_n 1, 1) := by decide +kernel
theorem dX0_goThrough_1 : decode cX0_goThrough 1 = .ok (.aload_n 0, 1) := by decide +kernel
theorem dX0_goThrough_2 : decode cX0_goThrough 2 = .ok (.getfield 24, 3) := by decide +kernel
theorem dX0_goThrough_5 : decode cX0_goThrough 5 = .ok (.if_icmp .lt 9, 3) := by decide +kernel
theorem dX0_goThrough_8 : decode cX0_goThrough 8 = .ok (.aload_n 0, 1) := by decide +kernel
theorem dX0_goThrough_9 : decode cX0_goThrough 9 = .ok (.iload_n 2, 1) := by decide +kernel
theorem dX0_goThrough_10 : decode cX0_goThrough 10 = .ok (.invokevirtual 48, 3) := by decide +kernel
theorem dX0_goThrough_13 : decode cX0_goThrough 13 = .ok (.return_, 1) := by decide +kernel
theorem dX0_goThrough_14 : decode cX0_goThrough 14 = .ok (.aload_n 0, 1) := by decide +kernel
theorem dX0_goThrough_15 : decode cX0_goThrough 15 = .ok (.iload_n 1, 1) := by decide +kernel
theorem dX0_goThrough_16 : decode cX0_goThrough 16 = .ok (.iconst 1, 1) := by decide +kernel
theorem dX0_goThrough_17 : decode cX0_goThrough 17 = .ok (.iadd, 1) := by decide +kernel
theorem dX0_goThrough_18 : decode cX0_goThrough 18 = .ok (.iload_n 2, 1) := by decide +kernel
theorem dX0_goThrough_19 : decode cX0_goThrough 19 = .ok (.invokevirtual 44, 3) := by decide +kernel
theorem dX0_goThrough_22 : decode cX0_goThrough 22 = .ok (.aload_n 0, 1) := by decide +kernel
theorem dX0_goThrough_23 : decode cX0_goThrough 23 = .ok (.getfield 18, 3) := by decide +kernel
theorem dX0_goThrough_26 : decode cX0_goThrough 26 = .ok (.iload_n 1, 1) := by decide +kernel
theorem dX0_goThrough_27 : decode cX0_goThrough 27 = .ok (.iaload, 1) := by decide +kernel
theorem dX0_goThrough_28 : decode cX0_goThrough 28 = .ok (.iconst (-1), 1) := by decide +kernel
theorem dX0_goThrough_29 : decode cX0_goThrough 29 = .ok (.if_icmp .eq 4, 3) := by decide +kernel
theorem dX0_goThrough_32 : decode cX0_goThrough 32 = .ok (.return_, 1) := by decide +kernel
theorem dX0_goThrough_33 : decode cX0_goThrough 33 = .ok (.iload_n 1, 1) := by decide +kernel
theorem dX0_goThrough_34 : decode cX0_goThrough 34 = .ok (.iconst 1, 1) := by decide +kernel
theorem dX0_goThrough_35 : decode cX0_goThrough 35 = .ok (.iadd, 1) := by decide +kernel
theorem dX0_goThrough_36 : decode cX0_goThrough 36 = .ok (.istore_n 3, 1) := by decide +kernel
theorem dX0_goThrough_37 : decode cX0_goThrough 37 = .ok (.iload_n 3, 1) := by decide +kernel
theorem dX0_goThrough_38 : decode cX0_goThrough 38 = .ok (.aload_n 0, 1) := by decide +kernel
theorem dX0_goThrough_39 : decode cX0_goThrough 39 = .ok (.getfield 24, 3) := by decide +kernel
theorem dX0_goThrough_42 : decode cX0_goThrough 42 = .ok (.if_icmp .ge 71, 3) := by decide +kernel
theorem dX0_goThrough_45 : decode cX0_goThrough 45 = .ok (.aload_n 0, 1) := by decide +kernel
theorem dX0_goThrough_46 : decode cX0_goThrough 46 = .ok (.getfield 18, 3) := by decide +kernel
theorem dX0_goThrough_49 : decode cX0_goThrough 49 = .ok (.iload_n 3, 1) := by decide +kernel
theorem dX0_goThrough_50 : decode cX0_goThrough 50 = .ok (.iaload, 1) := by decide +kernel
theorem dX0_goThrough_51 : decode cX0_goThrough 51 = .ok (.iconst (-1), 1) := by decide +kernel
theorem dX0_goThrough_52 : decode cX0_goThrough 52 = .ok (.if_icmp .ne 55, 3) := by decide +kernel
theorem dX0_goThrough_55 : decode cX0_goThrough 55 = .ok (.aload_n 0, 1) := by decide +kernel
theorem dX0_goThrough_56 : decode cX0_goThrough 56 = .ok (.getfield 15, 3) := by decide +kernel
theorem dX0_goThrough_59 : decode cX0_goThrough 59 = .ok (.iload_n 1, 1) := by decide +kernel
theorem dX0_goThrough_60 : decode cX0_goThrough 60 = .ok (.iaload, 1) := by decide +kernel
theorem dX0_goThrough_61 : decode cX0_goThrough 61 = .ok (.iload_n 3, 1) := by decide +kernel
theorem dX0_goThrough_62 : decode cX0_goThrough 62 = .ok (.ishr, 1) := by decide +kernel
theorem dX0_goThrough_63 : decode cX0_goThrough 63 = .ok (.iconst 1, 1) := by decide +kernel
theorem dX0_goThrough_64 : decode cX0_goThrough 64 = .ok (.iand, 1) := by decide +kernel
theorem dX0_goThrough_65 : decode cX0_goThrough 65 = .ok (.iconst 1, 1) := by decide +kernel
theorem dX0_goThrough_66 : decode cX0_goThrough 66 = .ok (.if_icmp .ne 41, 3) := by decide +kernel
theorem dX0_goThrough_69 : decode cX0_goThrough 69 = .ok (.aload_n 0, 1) := by decide +kernel
theorem dX0_goThrough_70 : decode cX0_goThrough 70 = .ok (.getfield 18, 3) := by decide +kernel
theorem dX0_goThrough_73 : decode cX0_goThrough 73 = .ok (.iload_n 1, 1) := by decide +kernel
theorem dX0_goThrough_74 : decode cX0_goThrough 74 = .ok (.iload_n 3, 1) := by decide +kernel
theorem dX0_goThrough_75 : decode cX0_goThrough 75 = .ok (.iastore, 1) := by decide +kernel
theorem dX0_goThrough_76 : decode cX0_goThrough 76 = .ok (.aload_n 0, 1) := by decide +kernel
theorem dX0_goThrough_77 : decode cX0_goThrough 77 = .ok (.getfield 18, 3) := by decide +kernel
theorem dX0_goThrough_80 : decode cX0_goThrough 80 = .ok (.iload_n 3, 1) := by decide +kernel
theorem dX0_goThrough_81 : decode cX0_goThrough 81 = .ok (.iload_n 1, 1) := by decide +kernel
theorem dX0_goThrough_82 : decode cX0_goThrough 82 = .ok (.iastore, 1) := by decide +kernel
theorem dX0_goThrough_83 : decode cX0_goThrough 83 = .ok (.aload_n 0, 1) := by decide +kernel
theorem dX0_goThrough_84 : decode cX0_goThrough 84 = .ok (.iload_n 1, 1) := by decide +kernel
theorem dX0_goThrough_85 : decode cX0_goThrough 85 = .ok (.iconst 1, 1) := by decide +kernel
theorem dX0_goThrough_86 : decode cX0_goThrough 86 = .ok (.iadd, 1) := by decide +kernel
theorem dX0_goThrough_87 : decode cX0_goThrough 87 = .ok (.iload_n 2, 1) := by decide +kernel
theorem dX0_goThrough_88 : decode cX0_goThrough 88 = .ok (.iconst 1, 1) := by decide +kernel
theorem dX0_goThrough_89 : decode cX0_goThrough 89 = .ok (.iadd, 1) := by decide +kernel
theorem dX0_goThrough_90 : decode cX0_goThrough 90 = .ok (.invokevirtual 44, 3) := by decide +kernel
theorem dX0_goThrough_93 : decode cX0_goThrough 93 = .ok (.aload_n 0, 1) := by decide +kernel
theorem dX0_goThrough_94 : decode cX0_goThrough 94 = .ok (.getfield 18, 3) := by decide +kernel
theorem dX0_goThrough_97 : decode cX0_goThrough 97 = .ok (.iload_n 1, 1) := by decide +kernel
theorem dX0_goThrough_98 : decode cX0_goThrough 98 = .ok (.iconst (-1), 1) := by decide +kernel
theorem dX0_goThrough_99 : decode cX0_goThrough 99 = .ok (.iastore, 1) := by decide +kernel
theorem dX0_goThrough_100 : decode cX0_goThrough 100 = .ok (.aload_n 0, 1) := by decide +kernel
theorem dX0_goThrough_101 : decode cX0_goThrough 101 = .ok (.getfield 18, 3) := by decide +kernel
theorem dX0_goThrough_104 : decode cX0_goThrough 104 = .ok (.iload_n 3, 1) := by decide +kernel
theorem dX0_goThrough_105 : decode cX0_goThrough 105 = .ok (.iconst (-1), 1) := by decide +kernel
theorem dX0_goThrough_106 : decode cX0_goThrough 106 = .ok (.iastore, 1) := by decide +kernel
theorem dX0_goThrough_107 : decode cX0_goThrough 107 = .ok (.iinc 3 1, 3) := by decide +kernel
theorem dX0_goThrough_110 : decode cX0_goThrough 110 = .ok (.goto (-73), 3) := by decide +kernel
theorem dX0_goThrough_113 : decode cX0_goThrough 113 = .ok (.return_, 1) := by decide +kernel
theorem dX0_weigh_0 : decode cX0_weigh 0 = .ok (.aload_n 0, 1) := by decide +kernel
theorem dX0_weigh_1 : decode cX0_weigh 1 = .ok (.invokevirtual 52, 3) := by decide +kernel
theorem dX0_weigh_4 : decode cX0_weigh 4 = .ok (.ifCond .ne 4, 3) := by decide +kernel
theorem dX0_weigh_7 : decode cX0_weigh 7 = .ok (.return_, 1) := by decide +kernel
theorem dX0_weigh_8 : decode cX0_weigh 8 = .ok (.aload_n 0, 1) := by decide +kernel
theorem dX0_weigh_9 : decode cX0_weigh 9 = .ok (.dup, 1) := by decide +kernel
theorem dX0_weigh_10 : decode cX0_weigh 10 = .ok (.getfield 28, 3) := by decide +kernel
theorem dX0_weigh_13 : decode cX0_weigh 13 = .ok (.iconst 1, 1) := by decide +kernel
theorem dX0_weigh_14 : decode cX0_weigh 14 = .ok (.iadd, 1) := by decide +kernel
theorem dX0_weigh_15 : decode cX0_weigh 15 = .ok (.putfield 28, 3) := by decide +kernel
theorem dX0_weigh_18 : decode cX0_weigh 18 = .ok (.iload_n 1, 1) := by decide +kernel
theorem dX0_weigh_19 : decode cX0_weigh 19 = .ok (.aload_n 0, 1) := by decide +kernel
theorem dX0_weigh_20 : decode cX0_weigh 20 = .ok (.getfield 31, 3) := by decide +kernel
theorem dX0_weigh_23 : decode cX0_weigh 23 = .ok (.if_icmp .le 22, 3) := by decide +kernel
theorem dX0_weigh_26 : decode cX0_weigh 26 = .ok (.aload_n 0, 1) := by decide +kernel
theorem dX0_weigh_27 : decode cX0_weigh 27 = .ok (.iload_n 1, 1) := by decide +kernel
theorem dX0_weigh_28 : decode cX0_weigh 28 = .ok (.putfield 31, 3) := by decide +kernel
theorem dX0_weigh_31 : decode cX0_weigh 31 = .ok (.aload_n 0, 1) := by decide +kernel
theorem dX0_weigh_32 : decode cX0_weigh 32 = .ok (.getfield 18, 3) := by decide +kernel
theorem dX0_weigh_35 : decode cX0_weigh 35 = .ok (.iconst 0, 1) := by decide +kernel
theorem dX0_weigh_36 : decode cX0_weigh 36 = .ok (.aload_n 0, 1) := by decide +kernel
theorem dX0_weigh_37 : decode cX0_weigh 37 = .ok (.getfield 21, 3) := by decide +kernel
theorem dX0_weigh_40 : decode cX0_weigh 40 = .ok (.iconst 0, 1) := by decide +kernel
theorem dX0_weigh_41 : decode cX0_weigh 41 = .ok (.iconst 5, 1) := by decide +kernel
theorem dX0_weigh_42 : decode cX0_weigh 42 = .ok (.invokestatic 56, 3) := by decide +kernel
theorem dX0_weigh_45 : decode cX0_weigh 45 = .ok (.return_, 1) := by decide +kernel
theorem dX0_isStable_0 : decode cX0_isStable 0 = .ok (.iconst 0, 1) := by decide +kernel
theorem dX0_isStable_1 : decode cX0_isStable 1 = .ok (.istore_n 1, 1) := by decide +kernel
theorem dX0_isStable_2 : decode cX0_isStable 2 = .ok (.iload_n 1, 1) := by decide +kernel
theorem dX0_isStable_3 : decode cX0_isStable 3 = .ok (.aload_n 0, 1) := by decide +kernel
theorem dX0_isStable_4 : decode cX0_isStable 4 = .ok (.getfield 24, 3) := by decide +kernel
theorem dX0_isStable_7 : decode cX0_isStable 7 = .ok (.if_icmp .ge 91, 3) := by decide +kernel
theorem dX0_isStable_10 : decode cX0_isStable 10 = .ok (.iload_n 1, 1) := by decide +kernel
theorem dX0_isStable_11 : decode cX0_isStable 11 = .ok (.iconst 1, 1) := by decide +kernel
theorem dX0_isStable_12 : decode cX0_isStable 12 = .ok (.iadd, 1) := by decide +kernel
theorem dX0_isStable_13 : decode cX0_isStable 13 = .ok (.istore_n 2, 1) := by decide +kernel
theorem dX0_isStable_14 : decode cX0_isStable 14 = .ok (.iload_n 2, 1) := by decide +kernel
theorem dX0_isStable_15 : decode cX0_isStable 15 = .ok (.aload_n 0, 1) := by decide +kernel
theorem dX0_isStable_16 : decode cX0_isStable 16 = .ok (.getfield 24, 3) := by decide +kernel
theorem dX0_isStable_19 : decode cX0_isStable 19 = .ok (.if_icmp .ge 73, 3) := by decide +kernel
theorem dX0_isStable_22 : decode cX0_isStable 22 = .ok (.aload_n 0, 1) := by decide +kernel
theorem dX0_isStable_23 : decode cX0_isStable 23 = .ok (.getfield 15, 3) := by decide +kernel
theorem dX0_isStable_26 : decode cX0_isStable 26 = .ok (.iload_n 1, 1) := by decide +kernel
theorem dX0_isStable_27 : decode cX0_isStable 27 = .ok (.iaload, 1) := by decide +kernel
theorem dX0_isStable_28 : decode cX0_isStable 28 = .ok (.iload_n 2, 1) := by decide +kernel
theorem dX0_isStable_29 : decode cX0_isStable 29 = .ok (.ishr, 1) := by decide +kernel
theorem dX0_isStable_30 : decode cX0_isStable 30 = .ok (.iconst 1, 1) := by decide +kernel
theorem dX0_isStable_31 : decode cX0_isStable 31 = .ok (.iand, 1) := by decide +kernel
theorem dX0_isStable_32 : decode cX0_isStable 32 = .ok (.iconst 1, 1) := by decide +kernel
theorem dX0_isStable_33 : decode cX0_isStable 33 = .ok (.if_icmp .ne 7, 3) := by decide +kernel
theorem dX0_isStable_36 : decode cX0_isStable 36 = .ok (.iconst 1, 1) := by decide +kernel
theorem dX0_isStable_37 : decode cX0_isStable 37 = .ok (.goto 4, 3) := by decide +kernel
theorem dX0_isStable_40 : decode cX0_isStable 40 = .ok (.iconst 0, 1) := by decide +kernel
theorem dX0_isStable_41 : decode cX0_isStable 41 = .ok (.istore_n 3, 1) := by decide +kernel
theorem dX0_isStable_42 : decode cX0_isStable 42 = .ok (.iload_n 3, 1) := by decide +kernel
theorem dX0_isStable_43 : decode cX0_isStable 43 = .ok (.ifCond .eq 43, 3) := by decide +kernel
theorem dX0_isStable_46 : decode cX0_isStable 46 = .ok (.aload_n 0, 1) := by decide +kernel
theorem dX0_isStable_47 : decode cX0_isStable 47 = .ok (.getfield 18, 3) := by decide +kernel
theorem dX0_isStable_50 : decode cX0_isStable 50 = .ok (.iload_n 1, 1) := by decide +kernel
theorem dX0_isStable_51 : decode cX0_isStable 51 = .ok (.iaload, 1) := by decide +kernel
theorem dX0_isStable_52 : decode cX0_isStable 52 = .ok (.iload_n 2, 1) := by decide +kernel
theorem dX0_isStable_53 : decode cX0_isStable 53 = .ok (.if_icmp .eq 33, 3) := by decide +kernel
theorem dX0_isStable_56 : decode cX0_isStable 56 = .ok (.aload_n 0, 1) := by decide +kernel
theorem dX0_isStable_57 : decode cX0_isStable 57 = .ok (.iload_n 2, 1) := by decide +kernel
theorem dX0_isStable_58 : decode cX0_isStable 58 = .ok (.aload_n 0, 1) := by decide +kernel
theorem dX0_isStable_59 : decode cX0_isStable 59 = .ok (.getfield 18, 3) := by decide +kernel
theorem dX0_isStable_62 : decode cX0_isStable 62 = .ok (.iload_n 1, 1) := by decide +kernel
theorem dX0_isStable_63 : decode cX0_isStable 63 = .ok (.iaload, 1) := by decide +kernel
theorem dX0_isStable_64 : decode cX0_isStable 64 = .ok (.invokevirtual 62, 3) := by decide +kernel
theorem dX0_isStable_67 : decode cX0_isStable 67 = .ok (.ifCond .eq 19, 3) := by decide +kernel
theorem dX0_isStable_70 : decode cX0_isStable 70 = .ok (.aload_n 0, 1) := by decide +kernel
theorem dX0_isStable_71 : decode cX0_isStable 71 = .ok (.iload_n 1, 1) := by decide +kernel
theorem dX0_isStable_72 : decode cX0_isStable 72 = .ok (.aload_n 0, 1) := by decide +kernel
theorem dX0_isStable_73 : decode cX0_isStable 73 = .ok (.getfield 18, 3) := by decide +kernel
theorem dX0_isStable_76 : decode cX0_isStable 76 = .ok (.iload_n 2, 1) := by decide +kernel
theorem dX0_isStable_77 : decode cX0_isStable 77 = .ok (.iaload, 1) := by decide +kernel
theorem dX0_isStable_78 : decode cX0_isStable 78 = .ok (.invokevirtual 62, 3) := by decide +kernel
theorem dX0_isStable_81 : decode cX0_isStable 81 = .ok (.ifCond .eq 5, 3) := by decide +kernel
theorem dX0_isStable_84 : decode cX0_isStable 84 = .ok (.iconst 0, 1) := by decide +kernel
theorem dX0_isStable_85 : decode cX0_isStable 85 = .ok (.ireturn, 1) := by decide +kernel
theorem dX0_isStable_86 : decode cX0_isStable 86 = .ok (.iinc 2 1, 3) := by decide +kernel
theorem dX0_isStable_89 : decode cX0_isStable 89 = .ok (.goto (-75), 3) := by decide +kernel
theorem dX0_isStable_92 : decode cX0_isStable 92 = .ok (.iinc 1 1, 3) := by decide +kernel
theorem dX0_isStable_95 : decode cX0_isStable 95 = .ok (.goto (-93), 3) := by decide +kernel
theorem dX0_isStable_98 : decode cX0_isStable 98 = .ok (.iconst 1, 1) := by decide +kernel
theorem dX0_isStable_99 : decode cX0_isStable 99 = .ok (.ireturn, 1) := by decide +kernel
theorem dX0_likesBetter_0 : decode cX0_likesBetter 0 = .ok (.iload_n 2, 1) := by decide +kernel
theorem dX0_likesBetter_1 : decode cX0_likesBetter 1 = .ok (.iconst (-1), 1) := by decide +kernel
theorem dX0_likesBetter_2 : decode cX0_likesBetter 2 = .ok (.if_icmp .ne 5, 3) := by decide +kernel
theorem dX0_likesBetter_5 : decode cX0_likesBetter 5 = .ok (.iconst 1, 1) := by decide +kernel
theorem dX0_likesBetter_6 : decode cX0_likesBetter 6 = .ok (.ireturn, 1) := by decide +kernel
theorem dX0_likesBetter_7 : decode cX0_likesBetter 7 = .ok (.aload_n 0, 1) := by decide +kernel
theorem dX0_likesBetter_8 : decode cX0_likesBetter 8 = .ok (.getfield 9, 3) := by decide +kernel
theorem dX0_likesBetter_11 : decode cX0_likesBetter 11 = .ok (.iload_n 1, 1) := by decide +kernel
theorem dX0_likesBetter_12 : decode cX0_likesBetter 12 = .ok (.iaload, 1) := by decide +kernel
theorem dX0_likesBetter_13 : decode cX0_likesBetter 13 = .ok (.aload_n 0, 1) := by decide +kernel
theorem dX0_likesBetter_14 : decode cX0_likesBetter 14 = .ok (.getfield 9, 3) := by decide +kernel
theorem dX0_likesBetter_17 : decode cX0_likesBetter 17 = .ok (.iload_n 2, 1) := by decide +kernel
theorem dX0_likesBetter_18 : decode cX0_likesBetter 18 = .ok (.iaload, 1) := by decide +kernel
theorem dX0_likesBetter_19 : decode cX0_likesBetter 19 = .ok (.if_icmp .gt 23, 3) := by decide +kernel
theorem dX0_likesBetter_22 : decode cX0_likesBetter 22 = .ok (.aload_n 0, 1) := by decide +kernel
theorem dX0_likesBetter_23 : decode cX0_likesBetter 23 = .ok (.getfield 9, 3) := by decide +kernel
theorem dX0_likesBetter_26 : decode cX0_likesBetter 26 = .ok (.iload_n 1, 1) := by decide +kernel
theorem dX0_likesBetter_27 : decode cX0_likesBetter 27 = .ok (.iaload, 1) := by decide +kernel
theorem dX0_likesBetter_28 : decode cX0_likesBetter 28 = .ok (.aload_n 0, 1) := by decide +kernel
theorem dX0_likesBetter_29 : decode cX0_likesBetter 29 = .ok (.getfield 9, 3) := by decide +kernel
theorem dX0_likesBetter_32 : decode cX0_likesBetter 32 = .ok (.iload_n 2, 1) := by decide +kernel
theorem dX0_likesBetter_33 : decode cX0_likesBetter 33 = .ok (.iaload, 1) := by decide +kernel
theorem dX0_likesBetter_34 : decode cX0_likesBetter 34 = .ok (.if_icmp .ne 12, 3) := by decide +kernel
theorem dX0_likesBetter_37 : decode cX0_likesBetter 37 = .ok (.iload_n 1, 1) := by decide +kernel
theorem dX0_likesBetter_38 : decode cX0_likesBetter 38 = .ok (.iload_n 2, 1) := by decide +kernel
theorem dX0_likesBetter_39 : decode cX0_likesBetter 39 = .ok (.if_icmp .ge 7, 3) := by decide +kernel
theorem dX0_likesBetter_42 : decode cX0_likesBetter 42 = .ok (.iconst 1, 1) := by decide +kernel
theorem dX0_likesBetter_43 : decode cX0_likesBetter 43 = .ok (.goto 4, 3) := by decide +kernel
theorem dX0_likesBetter_46 : decode cX0_likesBetter 46 = .ok (.iconst 0, 1) := by decide +kernel
theorem dX0_likesBetter_47 : decode cX0_likesBetter 47 = .ok (.ireturn, 1) := by decide +kernel
theorem dX1_init_0 : decode cX1_init 0 = .ok (.aload_n 0, 1) := by decide +kernel
theorem dX1_init_1 : decode cX1_init 1 = .ok (.invokespecial 3, 3) := by decide +kernel
theorem dX1_init_4 : decode cX1_init 4 = .ok (.aload_n 0, 1) := by decide +kernel
theorem dX1_init_5 : decode cX1_init 5 = .ok (.bipush 8, 2) := by decide +kernel
theorem dX1_init_7 : decode cX1_init 7 = .ok (.newarray .int, 2) := by decide +kernel
theorem dX1_init_9 : decode cX1_init 9 = .ok (.putfield 9, 3) := by decide +kernel
theorem dX1_init_12 : decode cX1_init 12 = .ok (.aload_n 0, 1) := by decide +kernel
theorem dX1_init_13 : decode cX1_init 13 = .ok (.bipush 8, 2) := by decide +kernel
theorem dX1_init_15 : decode cX1_init 15 = .ok (.newarray .int, 2) := by decide +kernel
theorem dX1_init_17 : decode cX1_init 17 = .ok (.putfield 15, 3) := by decide +kernel
theorem dX1_init_20 : decode cX1_init 20 = .ok (.aload_n 0, 1) := by decide +kernel
theorem dX1_init_21 : decode cX1_init 21 = .ok (.bipush 8, 2) := by decide +kernel
theorem dX1_init_23 : decode cX1_init 23 = .ok (.newarray .int, 2) := by decide +kernel
theorem dX1_init_25 : decode cX1_init 25 = .ok (.putfield 18, 3) := by decide +kernel
theorem dX1_init_28 : decode cX1_init 28 = .ok (.aload_n 0, 1) := by decide +kernel
theorem dX1_init_29 : decode cX1_init 29 = .ok (.bipush 8, 2) := by decide +kernel
theorem dX1_init_31 : decode cX1_init 31 = .ok (.newarray .boolean, 2) := by decide +kernel
theorem dX1_init_33 : decode cX1_init 33 = .ok (.putfield 21, 3) := by decide +kernel
theorem dX1_init_36 : decode cX1_init 36 = .ok (.aload_n 0, 1) := by decide +kernel
theorem dX1_init_37 : decode cX1_init 37 = .ok (.iconst 0, 1) := by decide +kernel
theorem dX1_init_38 : decode cX1_init 38 = .ok (.putfield 25, 3) := by decide +kernel
theorem dX1_init_41 : decode cX1_init 41 = .ok (.return_, 1) := by decide +kernel
theorem dX1_add_0 : decode cX1_add 0 = .ok (.aload_n 0, 1) := by decide +kernel
theorem dX1_add_1 : decode cX1_add 1 = .ok (.getfield 9, 3) := by decide +kernel
theorem dX1_add_4 : decode cX1_add 4 = .ok (.aload_n 0, 1) := by decide +kernel
theorem dX1_add_5 : decode cX1_add 5 = .ok (.getfield 25, 3) := by decide +kernel
theorem dX1_add_8 : decode cX1_add 8 = .ok (.iload_n 1, 1) := by decide +kernel
theorem dX1_add_9 : decode cX1_add 9 = .ok (.iastore, 1) := by decide +kernel
theorem dX1_add_10 : decode cX1_add 10 = .ok (.aload_n 0, 1) := by decide +kernel
theorem dX1_add_11 : decode cX1_add 11 = .ok (.getfield 15, 3) := by decide +kernel
theorem dX1_add_14 : decode cX1_add 14 = .ok (.aload_n 0, 1) := by decide +kernel
theorem dX1_add_15 : decode cX1_add 15 = .ok (.getfield 25, 3) := by decide +kernel
theorem dX1_add_18 : decode cX1_add 18 = .ok (.iload_n 2, 1) := by decide +kernel
theorem dX1_add_19 : decode cX1_add 19 = .ok (.iastore, 1) := by decide +kernel
theorem dX1_add_20 : decode cX1_add 20 = .ok (.aload_n 0, 1) := by decide +kernel
theorem dX1_add_21 : decode cX1_add 21 = .ok (.getfield 18, 3) := by decide +kernel
theorem dX1_add_24 : decode cX1_add 24 = .ok (.aload_n 0, 1) := by decide +kernel
theorem dX1_add_25 : decode cX1_add 25 = .ok (.getfield 25, 3) := by decide +kernel
theorem dX1_add_28 : decode cX1_add 28 = .ok (.iload_n 3, 1) := by decide +kernel
theorem dX1_add_29 : decode cX1_add 29 = .ok (.iastore, 1) := by decide +kernel
theorem dX1_add_30 : decode cX1_add 30 = .ok (.aload_n 0, 1) := by decide +kernel
theorem dX1_add_31 : decode cX1_add 31 = .ok (.getfield 21, 3) := by decide +kernel
theorem dX1_add_34 : decode cX1_add 34 = .ok (.aload_n 0, 1) := by decide +kernel
theorem dX1_add_35 : decode cX1_add 35 = .ok (.getfield 25, 3) := by decide +kernel
theorem dX1_add_38 : decode cX1_add 38 = .ok (.iload 4, 2) := by decide +kernel
theorem dX1_add_40 : decode cX1_add 40 = .ok (.bastore, 1) := by decide +kernel
theorem dX1_add_41 : decode cX1_add 41 = .ok (.aload_n 0, 1) := by decide +kernel
theorem dX1_add_42 : decode cX1_add 42 = .ok (.dup, 1) := by decide +kernel
theorem dX1_add_43 : decode cX1_add 43 = .ok (.getfield 25, 3) := by decide +kernel
theorem dX1_add_46 : decode cX1_add 46 = .ok (.iconst 1, 1) := by decide +kernel
theorem dX1_add_47 : decode cX1_add 47 = .ok (.iadd, 1) := by decide +kernel
theorem dX1_add_48 : decode cX1_add 48 = .ok (.putfield 25, 3) := by decide +kernel
theorem dX1_add_51 : decode cX1_add 51 = .ok (.aload_n 0, 1) := by decide +kernel
theorem dX1_add_52 : decode cX1_add 52 = .ok (.getfield 25, 3) := by decide +kernel
theorem dX1_add_55 : decode cX1_add 55 = .ok (.ireturn, 1) := by decide +kernel
theorem dX1_copy_0 : decode cX1_copy 0 = .ok (.iconst 0, 1) := by decide +kernel
theorem dX1_copy_1 : decode cX1_copy 1 = .ok (.istore_n 2, 1) := by decide +kernel
theorem dX1_copy_2 : decode cX1_copy 2 = .ok (.iload_n 2, 1) := by decide +kernel
theorem dX1_copy_3 : decode cX1_copy 3 = .ok (.aload_n 1, 1) := by decide +kernel
theorem dX1_copy_4 : decode cX1_copy 4 = .ok (.getfield 25, 3) := by decide +kernel
theorem dX1_copy_7 : decode cX1_copy 7 = .ok (.if_icmp .ge 57, 3) := by decide +kernel
theorem dX1_copy_10 : decode cX1_copy 10 = .ok (.aload_n 0, 1) := by decide +kernel
theorem dX1_copy_11 : decode cX1_copy 11 = .ok (.getfield 9, 3) := by decide +kernel
theorem dX1_copy_14 : decode cX1_copy 14 = .ok (.iload_n 2, 1) := by decide +kernel
theorem dX1_copy_15 : decode cX1_copy 15 = .ok (.aload_n 1, 1) := by decide +kernel
theorem dX1_copy_16 : decode cX1_copy 16 = .ok (.getfield 9, 3) := by decide +kernel
theorem dX1_copy_19 : decode cX1_copy 19 = .ok (.iload_n 2, 1) := by decide +kernel
theorem dX1_copy_20 : decode cX1_copy 20 = .ok (.iaload, 1) := by decide +kernel
theorem dX1_copy_21 : decode cX1_copy 21 = .ok (.iastore, 1) := by decide +kernel
theorem dX1_copy_22 : decode cX1_copy 22 = .ok (.aload_n 0, 1) := by decide +kernel
theorem dX1_copy_23 : decode cX1_copy 23 = .ok (.getfield 15, 3) := by decide +kernel
theorem dX1_copy_26 : decode cX1_copy 26 = .ok (.iload_n 2, 1) := by decide +kernel
theorem dX1_copy_27 : decode cX1_copy 27 = .ok (.aload_n 1, 1) := by decide +kernel
theorem dX1_copy_28 : decode cX1_copy 28 = .ok (.getfield 15, 3) := by decide +kernel
theorem dX1_copy_31 : decode cX1_copy 31 = .ok (.iload_n 2, 1) := by decide +kernel
theorem dX1_copy_32 : decode cX1_copy 32 = .ok (.iaload, 1) := by decide +kernel
theorem dX1_copy_33 : decode cX1_copy 33 = .ok (.iastore, 1) := by decide +kernel
theorem dX1_copy_34 : decode cX1_copy 34 = .ok (.aload_n 0, 1) := by decide +kernel
theorem dX1_copy_35 : decode cX1_copy 35 = .ok (.getfield 18, 3) := by decide +kernel
theorem dX1_copy_38 : decode cX1_copy 38 = .ok (.iload_n 2, 1) := by decide +kernel
theorem dX1_copy_39 : decode cX1_copy 39 = .ok (.aload_n 1, 1) := by decide +kernel
theorem dX1_copy_40 : decode cX1_copy 40 = .ok (.getfield 18, 3) := by decide +kernel
theorem dX1_copy_43 : decode cX1_copy 43 = .ok (.iload_n 2, 1) := by decide +kernel
theorem dX1_copy_44 : decode cX1_copy 44 = .ok (.iaload, 1) := by decide +kernel
theorem dX1_copy_45 : decode cX1_copy 45 = .ok (.iastore, 1) := by decide +kernel
theorem dX1_copy_46 : decode cX1_copy 46 = .ok (.aload_n 0, 1) := by decide +kernel
theorem dX1_copy_47 : decode cX1_copy 47 = .ok (.getfield 21, 3) := by decide +kernel
theorem dX1_copy_50 : decode cX1_copy 50 = .ok (.iload_n 2, 1) := by decide +kernel
theorem dX1_copy_51 : decode cX1_copy 51 = .ok (.aload_n 1, 1) := by decide +kernel
theorem dX1_copy_52 : decode cX1_copy 52 = .ok (.getfield 21, 3) := by decide +kernel
theorem dX1_copy_55 : decode cX1_copy 55 = .ok (.iload_n 2, 1) := by decide +kernel
theorem dX1_copy_56 : decode cX1_copy 56 = .ok (.baload, 1) := by decide +kernel
theorem dX1_copy_57 : decode cX1_copy 57 = .ok (.bastore, 1) := by decide +kernel
theorem dX1_copy_58 : decode cX1_copy 58 = .ok (.iinc 2 1, 3) := by decide +kernel
theorem dX1_copy_61 : decode cX1_copy 61 = .ok (.goto (-59), 3) := by decide +kernel
theorem dX1_copy_64 : decode cX1_copy 64 = .ok (.aload_n 0, 1) := by decide +kernel
theorem dX1_copy_65 : decode cX1_copy 65 = .ok (.aload_n 1, 1) := by decide +kernel
theorem dX1_copy_66 : decode cX1_copy 66 = .ok (.getfield 25, 3) := by decide +kernel
theorem dX1_copy_69 : decode cX1_copy 69 = .ok (.putfield 25, 3) := by decide +kernel
theorem dX1_copy_72 : decode cX1_copy 72 = .ok (.return_, 1) := by decide +kernel
theorem dX1_lastDay_0 : decode cX1_lastDay 0 = .ok (.iconst (-1), 1) := by decide +kernel
theorem dX1_lastDay_1 : decode cX1_lastDay 1 = .ok (.istore_n 1, 1) := by decide +kernel
theorem dX1_lastDay_2 : decode cX1_lastDay 2 = .ok (.iconst 0, 1) := by decide +kernel
theorem dX1_lastDay_3 : decode cX1_lastDay 3 = .ok (.istore_n 2, 1) := by decide +kernel
theorem dX1_lastDay_4 : decode cX1_lastDay 4 = .ok (.iload_n 2, 1) := by decide +kernel
theorem dX1_lastDay_5 : decode cX1_lastDay 5 = .ok (.aload_n 0, 1) := by decide +kernel
theorem dX1_lastDay_6 : decode cX1_lastDay 6 = .ok (.getfield 25, 3) := by decide +kernel
theorem dX1_lastDay_9 : decode cX1_lastDay 9 = .ok (.if_icmp .ge 20, 3) := by decide +kernel
theorem dX1_lastDay_12 : decode cX1_lastDay 12 = .ok (.iload_n 1, 1) := by decide +kernel
theorem dX1_lastDay_13 : decode cX1_lastDay 13 = .ok (.aload_n 0, 1) := by decide +kernel
theorem dX1_lastDay_14 : decode cX1_lastDay 14 = .ok (.getfield 18, 3) := by decide +kernel
theorem dX1_lastDay_17 : decode cX1_lastDay 17 = .ok (.iload_n 2, 1) := by decide +kernel
theorem dX1_lastDay_18 : decode cX1_lastDay 18 = .ok (.iaload, 1) := by decide +kernel
theorem dX1_lastDay_19 : decode cX1_lastDay 19 = .ok (.invokestatic 29, 3) := by decide +kernel
theorem dX1_lastDay_22 : decode cX1_lastDay 22 = .ok (.istore_n 1, 1) := by decide +kernel
theorem dX1_lastDay_23 : decode cX1_lastDay 23 = .ok (.iinc 2 1, 3) := by decide +kernel
theorem dX1_lastDay_26 : decode cX1_lastDay 26 = .ok (.goto (-22), 3) := by decide +kernel
theorem dX1_lastDay_29 : decode cX1_lastDay 29 = .ok (.iload_n 1, 1) := by decide +kernel
theorem dX1_lastDay_30 : decode cX1_lastDay 30 = .ok (.ireturn, 1) := by decide +kernel
theorem dX1_holdOn_0 : decode cX1_holdOn 0 = .ok (.iconst 0, 1) := by decide +kernel
theorem dX1_holdOn_1 : decode cX1_holdOn 1 = .ok (.istore_n 3, 1) := by decide +kernel
theorem dX1_holdOn_2 : decode cX1_holdOn 2 = .ok (.iload_n 3, 1) := by decide +kernel
theorem dX1_holdOn_3 : decode cX1_holdOn 3 = .ok (.aload_n 0, 1) := by decide +kernel
theorem dX1_holdOn_4 : decode cX1_holdOn 4 = .ok (.getfield 25, 3) := by decide +kernel
theorem dX1_holdOn_7 : decode cX1_holdOn 7 = .ok (.if_icmp .ge 46, 3) := by decide +kernel
theorem dX1_holdOn_10 : decode cX1_holdOn 10 = .ok (.aload_n 0, 1) := by decide +kernel
theorem dX1_holdOn_11 : decode cX1_holdOn 11 = .ok (.getfield 18, 3) := by decide +kernel
theorem dX1_holdOn_14 : decode cX1_holdOn 14 = .ok (.iload_n 3, 1) := by decide +kernel
theorem dX1_holdOn_15 : decode cX1_holdOn 15 = .ok (.iaload, 1) := by decide +kernel
theorem dX1_holdOn_16 : decode cX1_holdOn 16 = .ok (.iload_n 1, 1) := by decide +kernel
theorem dX1_holdOn_17 : decode cX1_holdOn 17 = .ok (.if_icmp .ne 30, 3) := by decide +kernel
theorem dX1_holdOn_20 : decode cX1_holdOn 20 = .ok (.aload_n 2, 1) := by decide +kernel
theorem dX1_holdOn_21 : decode cX1_holdOn 21 = .ok (.aload_n 0, 1) := by decide +kernel
theorem dX1_holdOn_22 : decode cX1_holdOn 22 = .ok (.getfield 9, 3) := by decide +kernel
theorem dX1_holdOn_25 : decode cX1_holdOn 25 = .ok (.iload_n 3, 1) := by decide +kernel
theorem dX1_holdOn_26 : decode cX1_holdOn 26 = .ok (.iaload, 1) := by decide +kernel
theorem dX1_holdOn_27 : decode cX1_holdOn 27 = .ok (.aload_n 0, 1) := by decide +kernel
theorem dX1_holdOn_28 : decode cX1_holdOn 28 = .ok (.getfield 15, 3) := by decide +kernel
theorem dX1_holdOn_31 : decode cX1_holdOn 31 = .ok (.iload_n 3, 1) := by decide +kernel
theorem dX1_holdOn_32 : decode cX1_holdOn 32 = .ok (.iaload, 1) := by decide +kernel
theorem dX1_holdOn_33 : decode cX1_holdOn 33 = .ok (.invokevirtual 35, 3) := by decide +kernel
theorem dX1_holdOn_36 : decode cX1_holdOn 36 = .ok (.aload_n 0, 1) := by decide +kernel
theorem dX1_holdOn_37 : decode cX1_holdOn 37 = .ok (.getfield 21, 3) := by decide +kernel
theorem dX1_holdOn_40 : decode cX1_holdOn 40 = .ok (.iload_n 3, 1) := by decide +kernel
theorem dX1_holdOn_41 : decode cX1_holdOn 41 = .ok (.baload, 1) := by decide +kernel
theorem dX1_holdOn_42 : decode cX1_holdOn 42 = .ok (.if_icmp .eq 5, 3) := by decide +kernel
theorem dX1_holdOn_45 : decode cX1_holdOn 45 = .ok (.iconst 0, 1) := by decide +kernel
theorem dX1_holdOn_46 : decode cX1_holdOn 46 = .ok (.ireturn, 1) := by decide +kernel
theorem dX1_holdOn_47 : decode cX1_holdOn 47 = .ok (.iinc 3 1, 3) := by decide +kernel
theorem dX1_holdOn_50 : decode cX1_holdOn 50 = .ok (.goto (-48), 3) := by decide +kernel
theorem dX1_holdOn_53 : decode cX1_holdOn 53 = .ok (.iconst 1, 1) := by decide +kernel
theorem dX1_holdOn_54 : decode cX1_holdOn 54 = .ok (.ireturn, 1) := by decide +kernel
theorem dX2_init_0 : decode cX2_init 0 = .ok (.aload_n 0, 1) := by decide +kernel
theorem dX2_init_1 : decode cX2_init 1 = .ok (.invokespecial 3, 3) := by decide +kernel
theorem dX2_init_4 : decode cX2_init 4 = .ok (.aload_n 0, 1) := by decide +kernel
theorem dX2_init_5 : decode cX2_init 5 = .ok (.bipush 12, 2) := by decide +kernel
theorem dX2_init_7 : decode cX2_init 7 = .ok (.newarray .int, 2) := by decide +kernel
theorem dX2_init_9 : decode cX2_init 9 = .ok (.putfield 9, 3) := by decide +kernel
theorem dX2_init_12 : decode cX2_init 12 = .ok (.aload_n 0, 1) := by decide +kernel
theorem dX2_init_13 : decode cX2_init 13 = .ok (.iconst 5, 1) := by decide +kernel
theorem dX2_init_14 : decode cX2_init 14 = .ok (.newarray .int, 2) := by decide +kernel
theorem dX2_init_16 : decode cX2_init 16 = .ok (.putfield 15, 3) := by decide +kernel
theorem dX2_init_19 : decode cX2_init 19 = .ok (.aload_n 0, 1) := by decide +kernel
theorem dX2_init_20 : decode cX2_init 20 = .ok (.iconst 5, 1) := by decide +kernel
theorem dX2_init_21 : decode cX2_init 21 = .ok (.newarray .int, 2) := by decide +kernel
theorem dX2_init_23 : decode cX2_init 23 = .ok (.putfield 18, 3) := by decide +kernel
theorem dX2_init_26 : decode cX2_init 26 = .ok (.aload_n 0, 1) := by decide +kernel
theorem dX2_init_27 : decode cX2_init 27 = .ok (.iconst 5, 1) := by decide +kernel
theorem dX2_init_28 : decode cX2_init 28 = .ok (.newarray .int, 2) := by decide +kernel
theorem dX2_init_30 : decode cX2_init 30 = .ok (.putfield 21, 3) := by decide +kernel
theorem dX2_init_33 : decode cX2_init 33 = .ok (.aload_n 0, 1) := by decide +kernel
theorem dX2_init_34 : decode cX2_init 34 = .ok (.iconst 5, 1) := by decide +kernel
theorem dX2_init_35 : decode cX2_init 35 = .ok (.newarray .int, 2) := by decide +kernel
theorem dX2_init_37 : decode cX2_init 37 = .ok (.putfield 24, 3) := by decide +kernel
theorem dX2_init_40 : decode cX2_init 40 = .ok (.aload_n 0, 1) := by decide +kernel
theorem dX2_init_41 : decode cX2_init 41 = .ok (.iconst 5, 1) := by decide +kernel
theorem dX2_init_42 : decode cX2_init 42 = .ok (.newarray .int, 2) := by decide +kernel
theorem dX2_init_44 : decode cX2_init 44 = .ok (.putfield 27, 3) := by decide +kernel
theorem dX2_init_47 : decode cX2_init 47 = .ok (.aload_n 0, 1) := by decide +kernel
theorem dX2_init_48 : decode cX2_init 48 = .ok (.iconst 0, 1) := by decide +kernel
theorem dX2_init_49 : decode cX2_init 49 = .ok (.putfield 30, 3) := by decide +kernel
theorem dX2_init_52 : decode cX2_init 52 = .ok (.aload_n 0, 1) := by decide +kernel
theorem dX2_init_53 : decode cX2_init 53 = .ok (.iconst 0, 1) := by decide +kernel
theorem dX2_init_54 : decode cX2_init 54 = .ok (.putfield 34, 3) := by decide +kernel
theorem dX2_init_57 : decode cX2_init 57 = .ok (.aload_n 0, 1) := by decide +kernel
theorem dX2_init_58 : decode cX2_init 58 = .ok (.iconst 0, 1) := by decide +kernel
theorem dX2_init_59 : decode cX2_init 59 = .ok (.putfield 37, 3) := by decide +kernel
theorem dX2_init_62 : decode cX2_init 62 = .ok (.aload_n 0, 1) := by decide +kernel
theorem dX2_init_63 : decode cX2_init 63 = .ok (.iconst 0, 1) := by decide +kernel
theorem dX2_init_64 : decode cX2_init 64 = .ok (.putfield 40, 3) := by decide +kernel
theorem dX2_init_67 : decode cX2_init 67 = .ok (.aload_n 0, 1) := by decide +kernel
theorem dX2_init_68 : decode cX2_init 68 = .ok (.iconst 0, 1) := by decide +kernel
theorem dX2_init_69 : decode cX2_init 69 = .ok (.putfield 43, 3) := by decide +kernel
theorem dX2_init_72 : decode cX2_init 72 = .ok (.aload_n 0, 1) := by decide +kernel
theorem dX2_init_73 : decode cX2_init 73 = .ok (.iconst 0, 1) := by decide +kernel
theorem dX2_init_74 : decode cX2_init 74 = .ok (.putfield 46, 3) := by decide +kernel
theorem dX2_init_77 : decode cX2_init 77 = .ok (.return_, 1) := by decide +kernel
theorem dX2_clear_0 : decode cX2_clear 0 = .ok (.aload_n 0, 1) := by decide +kernel
theorem dX2_clear_1 : decode cX2_clear 1 = .ok (.iconst 0, 1) := by decide +kernel
theorem dX2_clear_2 : decode cX2_clear 2 = .ok (.putfield 30, 3) := by decide +kernel
theorem dX2_clear_5 : decode cX2_clear 5 = .ok (.aload_n 0, 1) := by decide +kernel
theorem dX2_clear_6 : decode cX2_clear 6 = .ok (.iconst 0, 1) := by decide +kernel
theorem dX2_clear_7 : decode cX2_clear 7 = .ok (.putfield 34, 3) := by decide +kernel
theorem dX2_clear_10 : decode cX2_clear 10 = .ok (.aload_n 0, 1) := by decide +kernel
theorem dX2_clear_11 : decode cX2_clear 11 = .ok (.iconst 0, 1) := by decide +kernel
theorem dX2_clear_12 : decode cX2_clear 12 = .ok (.putfield 37, 3) := by decide +kernel
theorem dX2_clear_15 : decode cX2_clear 15 = .ok (.aload_n 0, 1) := by decide +kernel
theorem dX2_clear_16 : decode cX2_clear 16 = .ok (.iconst 0, 1) := by decide +kernel
theorem dX2_clear_17 : decode cX2_clear 17 = .ok (.putfield 40, 3) := by decide +kernel
theorem dX2_clear_20 : decode cX2_clear 20 = .ok (.aload_n 0, 1) := by decide +kernel
theorem dX2_clear_21 : decode cX2_clear 21 = .ok (.iconst 0, 1) := by decide +kernel
theorem dX2_clear_22 : decode cX2_clear 22 = .ok (.putfield 43, 3) := by decide +kernel
theorem dX2_clear_25 : decode cX2_clear 25 = .ok (.aload_n 0, 1) := by decide +kernel
theorem dX2_clear_26 : decode cX2_clear 26 = .ok (.iconst 0, 1) := by decide +kernel
theorem dX2_clear_27 : decode cX2_clear 27 = .ok (.putfield 46, 3) := by decide +kernel
theorem dX2_clear_30 : decode cX2_clear 30 = .ok (.return_, 1) := by decide +kernel
theorem dX2_copy_0 : decode cX2_copy 0 = .ok (.aload_n 1, 1) := by decide +kernel
theorem dX2_copy_1 : decode cX2_copy 1 = .ok (.getfield 9, 3) := by decide +kernel
theorem dX2_copy_4 : decode cX2_copy 4 = .ok (.iconst 0, 1) := by decide +kernel
theorem dX2_copy_5 : decode cX2_copy 5 = .ok (.aload_n 0, 1) := by decide +kernel
theorem dX2_copy_6 : decode cX2_copy 6 = .ok (.getfield 9, 3) := by decide +kernel
theorem dX2_copy_9 : decode cX2_copy 9 = .ok (.iconst 0, 1) := by decide +kernel
theorem dX2_copy_10 : decode cX2_copy 10 = .ok (.bipush 12, 2) := by decide +kernel
theorem dX2_copy_12 : decode cX2_copy 12 = .ok (.invokestatic 49, 3) := by decide +kernel
theorem dX2_copy_15 : decode cX2_copy 15 = .ok (.aload_n 1, 1) := by decide +kernel
theorem dX2_copy_16 : decode cX2_copy 16 = .ok (.getfield 15, 3) := by decide +kernel
theorem dX2_copy_19 : decode cX2_copy 19 = .ok (.iconst 0, 1) := by decide +kernel
theorem dX2_copy_20 : decode cX2_copy 20 = .ok (.aload_n 0, 1) := by decide +kernel
theorem dX2_copy_21 : decode cX2_copy 21 = .ok (.getfield 15, 3) := by decide +kernel
theorem dX2_copy_24 : decode cX2_copy 24 = .ok (.iconst 0, 1) := by decide +kernel
theorem dX2_copy_25 : decode cX2_copy 25 = .ok (.iconst 5, 1) := by decide +kernel
theorem dX2_copy_26 : decode cX2_copy 26 = .ok (.invokestatic 49, 3) := by decide +kernel
theorem dX2_copy_29 : decode cX2_copy 29 = .ok (.aload_n 1, 1) := by decide +kernel
theorem dX2_copy_30 : decode cX2_copy 30 = .ok (.getfield 18, 3) := by decide +kernel
theorem dX2_copy_33 : decode cX2_copy 33 = .ok (.iconst 0, 1) := by decide +kernel
theorem dX2_copy_34 : decode cX2_copy 34 = .ok (.aload_n 0, 1) := by decide +kernel
theorem dX2_copy_35 : decode cX2_copy 35 = .ok (.getfield 18, 3) := by decide +kernel
theorem dX2_copy_38 : decode cX2_copy 38 = .ok (.iconst 0, 1) := by decide +kernel
theorem dX2_copy_39 : decode cX2_copy 39 = .ok (.iconst 5, 1) := by decide +kernel
theorem dX2_copy_40 : decode cX2_copy 40 = .ok (.invokestatic 49, 3) := by decide +kernel
theorem dX2_copy_43 : decode cX2_copy 43 = .ok (.aload_n 1, 1) := by decide +kernel
theorem dX2_copy_44 : decode cX2_copy 44 = .ok (.getfield 21, 3) := by decide +kernel
theorem dX2_copy_47 : decode cX2_copy 47 = .ok (.iconst 0, 1) := by decide +kernel
theorem dX2_copy_48 : decode cX2_copy 48 = .ok (.aload_n 0, 1) := by decide +kernel
theorem dX2_copy_49 : decode cX2_copy 49 = .ok (.getfield 21, 3) := by decide +kernel
theorem dX2_copy_52 : decode cX2_copy 52 = .ok (.iconst 0, 1) := by decide +kernel
theorem dX2_copy_53 : decode cX2_copy 53 = .ok (.iconst 5, 1) := by decide +kernel
theorem dX2_copy_54 : decode cX2_copy 54 = .ok (.invokestatic 49, 3) := by decide +kernel
theorem dX2_copy_57 : decode cX2_copy 57 = .ok (.aload_n 1, 1) := by decide +kernel
theorem dX2_copy_58 : decode cX2_copy 58 = .ok (.getfield 24, 3) := by decide +kernel
theorem dX2_copy_61 : decode cX2_copy 61 = .ok (.iconst 0, 1) := by decide +kernel
theorem dX2_copy_62 : decode cX2_copy 62 = .ok (.aload_n 0, 1) := by decide +kernel
theorem dX2_copy_63 : decode cX2_copy 63 = .ok (.getfield 24, 3) := by decide +kernel
theorem dX2_copy_66 : decode cX2_copy 66 = .ok (.iconst 0, 1) := by decide +kernel
theorem dX2_copy_67 : decode cX2_copy 67 = .ok (.iconst 5, 1) := by decide +kernel
theorem dX2_copy_68 : decode cX2_copy 68 = .ok (.invokestatic 49, 3) := by decide +kernel
theorem dX2_copy_71 : decode cX2_copy 71 = .ok (.aload_n 1, 1) := by decide +kernel
theorem dX2_copy_72 : decode cX2_copy 72 = .ok (.getfield 27, 3) := by decide +kernel
theorem dX2_copy_75 : decode cX2_copy 75 = .ok (.iconst 0, 1) := by decide +kernel
theorem dX2_copy_76 : decode cX2_copy 76 = .ok (.aload_n 0, 1) := by decide +kernel
theorem dX2_copy_77 : decode cX2_copy 77 = .ok (.getfield 27, 3) := by decide +kernel
theorem dX2_copy_80 : decode cX2_copy 80 = .ok (.iconst 0, 1) := by decide +kernel
theorem dX2_copy_81 : decode cX2_copy 81 = .ok (.iconst 5, 1) := by decide +kernel
theorem dX2_copy_82 : decode cX2_copy 82 = .ok (.invokestatic 49, 3) := by decide +kernel
theorem dX2_copy_85 : decode cX2_copy 85 = .ok (.aload_n 0, 1) := by decide +kernel
theorem dX2_copy_86 : decode cX2_copy 86 = .ok (.aload_n 1, 1) := by decide +kernel
theorem dX2_copy_87 : decode cX2_copy 87 = .ok (.getfield 30, 3) := by decide +kernel
theorem dX2_copy_90 : decode cX2_copy 90 = .ok (.putfield 30, 3) := by decide +kernel
theorem dX2_copy_93 : decode cX2_copy 93 = .ok (.aload_n 0, 1) := by decide +kernel
theorem dX2_copy_94 : decode cX2_copy 94 = .ok (.aload_n 1, 1) := by decide +kernel
theorem dX2_copy_95 : decode cX2_copy 95 = .ok (.getfield 34, 3) := by decide +kernel
theorem dX2_copy_98 : decode cX2_copy 98 = .ok (.putfield 34, 3) := by decide +kernel
theorem dX2_copy_101 : decode cX2_copy 101 = .ok (.aload_n 0, 1) := by decide +kernel
theorem dX2_copy_102 : decode cX2_copy 102 = .ok (.aload_n 1, 1) := by decide +kernel
theorem dX2_copy_103 : decode cX2_copy 103 = .ok (.getfield 37, 3) := by decide +kernel
theorem dX2_copy_106 : decode cX2_copy 106 = .ok (.putfield 37, 3) := by decide +kernel
theorem dX2_copy_109 : decode cX2_copy 109 = .ok (.aload_n 0, 1) := by decide +kernel
theorem dX2_copy_110 : decode cX2_copy 110 = .ok (.aload_n 1, 1) := by decide +kernel
theorem dX2_copy_111 : decode cX2_copy 111 = .ok (.getfield 40, 3) := by decide +kernel
theorem dX2_copy_114 : decode cX2_copy 114 = .ok (.putfield 40, 3) := by decide +kernel
theorem dX2_copy_117 : decode cX2_copy 117 = .ok (.aload_n 0, 1) := by decide +kernel
theorem dX2_copy_118 : decode cX2_copy 118 = .ok (.aload_n 1, 1) := by decide +kernel
theorem dX2_copy_119 : decode cX2_copy 119 = .ok (.getfield 43, 3) := by decide +kernel
theorem dX2_copy_122 : decode cX2_copy 122 = .ok (.putfield 43, 3) := by decide +kernel
theorem dX2_copy_125 : decode cX2_copy 125 = .ok (.aload_n 0, 1) := by decide +kernel
theorem dX2_copy_126 : decode cX2_copy 126 = .ok (.aload_n 1, 1) := by decide +kernel
theorem dX2_copy_127 : decode cX2_copy 127 = .ok (.getfield 46, 3) := by decide +kernel
theorem dX2_copy_130 : decode cX2_copy 130 = .ok (.putfield 46, 3) := by decide +kernel
theorem dX2_copy_133 : decode cX2_copy 133 = .ok (.return_, 1) := by decide +kernel
theorem dX2_currents_0 : decode cX2_currents 0 = .ok (.iconst 0, 1) := by decide +kernel
theorem dX2_currents_1 : decode cX2_currents 1 = .ok (.istore_n 1, 1) := by decide +kernel
theorem dX2_currents_2 : decode cX2_currents 2 = .ok (.iconst 0, 1) := by decide +kernel
theorem dX2_currents_3 : decode cX2_currents 3 = .ok (.istore_n 2, 1) := by decide +kernel
theorem dX2_currents_4 : decode cX2_currents 4 = .ok (.iload_n 2, 1) := by decide +kernel
theorem dX2_currents_5 : decode cX2_currents 5 = .ok (.bipush 12, 2) := by decide +kernel
theorem dX2_currents_7 : decode cX2_currents 7 = .ok (.if_icmp .ge 26, 3) := by decide +kernel
theorem dX2_currents_10 : decode cX2_currents 10 = .ok (.iload_n 1, 1) := by decide +kernel
theorem dX2_currents_11 : decode cX2_currents 11 = .ok (.aload_n 0, 1) := by decide +kernel
theorem dX2_currents_12 : decode cX2_currents 12 = .ok (.getfield 9, 3) := by decide +kernel
theorem dX2_currents_15 : decode cX2_currents 15 = .ok (.iload_n 2, 1) := by decide +kernel
theorem dX2_currents_16 : decode cX2_currents 16 = .ok (.iaload, 1) := by decide +kernel
theorem dX2_currents_17 : decode cX2_currents 17 = .ok (.ifCond .ne 7, 3) := by decide +kernel
theorem dX2_currents_20 : decode cX2_currents 20 = .ok (.iconst 0, 1) := by decide +kernel
theorem dX2_currents_21 : decode cX2_currents 21 = .ok (.goto 4, 3) := by decide +kernel
theorem dX2_currents_24 : decode cX2_currents 24 = .ok (.iconst 1, 1) := by decide +kernel
theorem dX2_currents_25 : decode cX2_currents 25 = .ok (.iadd, 1) := by decide +kernel
theorem dX2_currents_26 : decode cX2_currents 26 = .ok (.istore_n 1, 1) := by decide +kernel
theorem dX2_currents_27 : decode cX2_currents 27 = .ok (.iinc 2 1, 3) := by decide +kernel
theorem dX2_currents_30 : decode cX2_currents 30 = .ok (.goto (-26), 3) := by decide +kernel
theorem dX2_currents_33 : decode cX2_currents 33 = .ok (.iload_n 1, 1) := by decide +kernel
theorem dX2_currents_34 : decode cX2_currents 34 = .ok (.ireturn, 1) := by decide +kernel
theorem dX2_add_0 : decode cX2_add 0 = .ok (.aload_n 0, 1) := by decide +kernel
theorem dX2_add_1 : decode cX2_add 1 = .ok (.getfield 30, 3) := by decide +kernel
theorem dX2_add_4 : decode cX2_add 4 = .ok (.istore 4, 2) := by decide +kernel
theorem dX2_add_6 : decode cX2_add 6 = .ok (.aload_n 0, 1) := by decide +kernel
theorem dX2_add_7 : decode cX2_add 7 = .ok (.getfield 15, 3) := by decide +kernel
theorem dX2_add_10 : decode cX2_add 10 = .ok (.iload 4, 2) := by decide +kernel
theorem dX2_add_12 : decode cX2_add 12 = .ok (.iload_n 1, 1) := by decide +kernel
theorem dX2_add_13 : decode cX2_add 13 = .ok (.iastore, 1) := by decide +kernel
theorem dX2_add_14 : decode cX2_add 14 = .ok (.aload_n 0, 1) := by decide +kernel
theorem dX2_add_15 : decode cX2_add 15 = .ok (.getfield 18, 3) := by decide +kernel
theorem dX2_add_18 : decode cX2_add 18 = .ok (.iload 4, 2) := by decide +kernel
theorem dX2_add_20 : decode cX2_add 20 = .ok (.iload_n 2, 1) := by decide +kernel
theorem dX2_add_21 : decode cX2_add 21 = .ok (.iastore, 1) := by decide +kernel
theorem dX2_add_22 : decode cX2_add 22 = .ok (.aload_n 0, 1) := by decide +kernel
theorem dX2_add_23 : decode cX2_add 23 = .ok (.getfield 21, 3) := by decide +kernel
theorem dX2_add_26 : decode cX2_add 26 = .ok (.iload 4, 2) := by decide +kernel
theorem dX2_add_28 : decode cX2_add 28 = .ok (.iload_n 3, 1) := by decide +kernel
theorem dX2_add_29 : decode cX2_add 29 = .ok (.iastore, 1) := by decide +kernel
theorem dX2_add_30 : decode cX2_add 30 = .ok (.aload_n 0, 1) := by decide +kernel
theorem dX2_add_31 : decode cX2_add 31 = .ok (.getfield 24, 3) := by decide +kernel
theorem dX2_add_34 : decode cX2_add 34 = .ok (.iload 4, 2) := by decide +kernel
theorem dX2_add_36 : decode cX2_add 36 = .ok (.iconst 0, 1) := by decide +kernel
theorem dX2_add_37 : decode cX2_add 37 = .ok (.iastore, 1) := by decide +kernel
theorem dX2_add_38 : decode cX2_add 38 = .ok (.aload_n 0, 1) := by decide +kernel
theorem dX2_add_39 : decode cX2_add 39 = .ok (.getfield 27, 3) := by decide +kernel
theorem dX2_add_42 : decode cX2_add 42 = .ok (.iload 4, 2) := by decide +kernel
theorem dX2_add_44 : decode cX2_add 44 = .ok (.iconst 1, 1) := by decide +kernel
theorem dX2_add_45 : decode cX2_add 45 = .ok (.iload 4, 2) := by decide +kernel
theorem dX2_add_47 : decode cX2_add 47 = .ok (.ishl, 1) := by decide +kernel
theorem dX2_add_48 : decode cX2_add 48 = .ok (.iastore, 1) := by decide +kernel
theorem dX2_add_49 : decode cX2_add 49 = .ok (.aload_n 0, 1) := by decide +kernel
theorem dX2_add_50 : decode cX2_add 50 = .ok (.dup, 1) := by decide +kernel
theorem dX2_add_51 : decode cX2_add 51 = .ok (.getfield 30, 3) := by decide +kernel
theorem dX2_add_54 : decode cX2_add 54 = .ok (.iconst 1, 1) := by decide +kernel
theorem dX2_add_55 : decode cX2_add 55 = .ok (.iadd, 1) := by decide +kernel
theorem dX2_add_56 : decode cX2_add 56 = .ok (.putfield 30, 3) := by decide +kernel
theorem dX2_add_59 : decode cX2_add 59 = .ok (.iload 4, 2) := by decide +kernel
theorem dX2_add_61 : decode cX2_add 61 = .ok (.ireturn, 1) := by decide +kernel
theorem dX2_islandAt_0 : decode cX2_islandAt 0 = .ok (.iconst 0, 1) := by decide +kernel
theorem dX2_islandAt_1 : decode cX2_islandAt 1 = .ok (.istore_n 2, 1) := by decide +kernel
theorem dX2_islandAt_2 : decode cX2_islandAt 2 = .ok (.iload_n 2, 1) := by decide +kernel
theorem dX2_islandAt_3 : decode cX2_islandAt 3 = .ok (.aload_n 0, 1) := by decide +kernel
theorem dX2_islandAt_4 : decode cX2_islandAt 4 = .ok (.getfield 30, 3) := by decide +kernel
theorem dX2_islandAt_7 : decode cX2_islandAt 7 = .ok (.if_icmp .ge 21, 3) := by decide +kernel
theorem dX2_islandAt_10 : decode cX2_islandAt 10 = .ok (.aload_n 0, 1) := by decide +kernel
theorem dX2_islandAt_11 : decode cX2_islandAt 11 = .ok (.getfield 21, 3) := by decide +kernel
theorem dX2_islandAt_14 : decode cX2_islandAt 14 = .ok (.iload_n 2, 1) := by decide +kernel
theorem dX2_islandAt_15 : decode cX2_islandAt 15 = .ok (.iaload, 1) := by decide +kernel
theorem dX2_islandAt_16 : decode cX2_islandAt 16 = .ok (.iload_n 1, 1) := by decide +kernel
theorem dX2_islandAt_17 : decode cX2_islandAt 17 = .ok (.if_icmp .ne 5, 3) := by decide +kernel
theorem dX2_islandAt_20 : decode cX2_islandAt 20 = .ok (.iload_n 2, 1) := by decide +kernel
theorem dX2_islandAt_21 : decode cX2_islandAt 21 = .ok (.ireturn, 1) := by decide +kernel
theorem dX2_islandAt_22 : decode cX2_islandAt 22 = .ok (.iinc 2 1, 3) := by decide +kernel
theorem dX2_islandAt_25 : decode cX2_islandAt 25 = .ok (.goto (-23), 3) := by decide +kernel
theorem dX2_islandAt_28 : decode cX2_islandAt 28 = .ok (.iconst (-1), 1) := by decide +kernel
theorem dX2_islandAt_29 : decode cX2_islandAt 29 = .ok (.ireturn, 1) := by decide +kernel
theorem dX2_isAnchored_0 : decode cX2_isAnchored 0 = .ok (.aload_n 0, 1) := by decide +kernel
theorem dX2_isAnchored_1 : decode cX2_isAnchored 1 = .ok (.getfield 37, 3) := by decide +kernel
theorem dX2_isAnchored_4 : decode cX2_isAnchored 4 = .ok (.iload_n 1, 1) := by decide +kernel
theorem dX2_isAnchored_5 : decode cX2_isAnchored 5 = .ok (.ishr, 1) := by decide +kernel
theorem dX2_isAnchored_6 : decode cX2_isAnchored 6 = .ok (.iconst 1, 1) := by decide +kernel
theorem dX2_isAnchored_7 : decode cX2_isAnchored 7 = .ok (.iand, 1) := by decide +kernel
theorem dX2_isAnchored_8 : decode cX2_isAnchored 8 = .ok (.iconst 1, 1) := by decide +kernel
theorem dX2_isAnchored_9 : decode cX2_isAnchored 9 = .ok (.if_icmp .ne 7, 3) := by decide +kernel
theorem dX2_isAnchored_12 : decode cX2_isAnchored 12 = .ok (.iconst 1, 1) := by decide +kernel
theorem dX2_isAnchored_13 : decode cX2_isAnchored 13 = .ok (.goto 4, 3) := by decide +kernel
theorem dX2_isAnchored_16 : decode cX2_isAnchored 16 = .ok (.iconst 0, 1) := by decide +kernel
theorem dX2_isAnchored_17 : decode cX2_isAnchored 17 = .ok (.ireturn, 1) := by decide +kernel
theorem dX2_pushOf_0 : decode cX2_pushOf 0 = .ok (.aload_n 0, 1) := by decide +kernel
theorem dX2_pushOf_1 : decode cX2_pushOf 1 = .ok (.getfield 37, 3) := by decide +kernel
theorem dX2_pushOf_4 : decode cX2_pushOf 4 = .ok (.iload_n 1, 1) := by decide +kernel
theorem dX2_pushOf_5 : decode cX2_pushOf 5 = .ok (.ishr, 1) := by decide +kernel
theorem dX2_pushOf_6 : decode cX2_pushOf 6 = .ok (.iconst 1, 1) := by decide +kernel
theorem dX2_pushOf_7 : decode cX2_pushOf 7 = .ok (.iand, 1) := by decide +kernel
theorem dX2_pushOf_8 : decode cX2_pushOf 8 = .ok (.iconst 1, 1) := by decide +kernel
theorem dX2_pushOf_9 : decode cX2_pushOf 9 = .ok (.if_icmp .ne 5, 3) := by decide +kernel
theorem dX2_pushOf_12 : decode cX2_pushOf 12 = .ok (.iconst 0, 1) := by decide +kernel
theorem dX2_pushOf_13 : decode cX2_pushOf 13 = .ok (.ireturn, 1) := by decide +kernel
theorem dX2_pushOf_14 : decode cX2_pushOf 14 = .ok (.aload_n 0, 1) := by decide +kernel
theorem dX2_pushOf_15 : decode cX2_pushOf 15 = .ok (.getfield 15, 3) := by decide +kernel
theorem dX2_pushOf_18 : decode cX2_pushOf 18 = .ok (.iload_n 1, 1) := by decide +kernel
theorem dX2_pushOf_19 : decode cX2_pushOf 19 = .ok (.iaload, 1) := by decide +kernel
theorem dX2_pushOf_20 : decode cX2_pushOf 20 = .ok (.istore_n 2, 1) := by decide +kernel
theorem dX2_pushOf_21 : decode cX2_pushOf 21 = .ok (.aload_n 0, 1) := by decide +kernel
theorem dX2_pushOf_22 : decode cX2_pushOf 22 = .ok (.getfield 9, 3) := by decide +kernel
theorem dX2_pushOf_25 : decode cX2_pushOf 25 = .ok (.aload_n 0, 1) := by decide +kernel
theorem dX2_pushOf_26 : decode cX2_pushOf 26 = .ok (.getfield 21, 3) := by decide +kernel
theorem dX2_pushOf_29 : decode cX2_pushOf 29 = .ok (.iload_n 1, 1) := by decide +kernel
theorem dX2_pushOf_30 : decode cX2_pushOf 30 = .ok (.iaload, 1) := by decide +kernel
theorem dX2_pushOf_31 : decode cX2_pushOf 31 = .ok (.iaload, 1) := by decide +kernel
theorem dX2_pushOf_32 : decode cX2_pushOf 32 = .ok (.istore_n 3, 1) := by decide +kernel
theorem dX2_pushOf_33 : decode cX2_pushOf 33 = .ok (.iload_n 2, 1) := by decide +kernel
theorem dX2_pushOf_34 : decode cX2_pushOf 34 = .ok (.iconst 3, 1) := by decide +kernel
theorem dX2_pushOf_35 : decode cX2_pushOf 35 = .ok (.if_icmp .ne 15, 3) := by decide +kernel
theorem dX2_pushOf_38 : decode cX2_pushOf 38 = .ok (.aload_n 0, 1) := by decide +kernel
theorem dX2_pushOf_39 : decode cX2_pushOf 39 = .ok (.getfield 43, 3) := by decide +kernel
theorem dX2_pushOf_42 : decode cX2_pushOf 42 = .ok (.iconst 2, 1) := by decide +kernel
theorem dX2_pushOf_43 : decode cX2_pushOf 43 = .ok (.irem, 1) := by decide +kernel
theorem dX2_pushOf_44 : decode cX2_pushOf 44 = .ok (.ifCond .ne 6, 3) := by decide +kernel
theorem dX2_pushOf_47 : decode cX2_pushOf 47 = .ok (.iload_n 3, 1) := by decide +kernel
theorem dX2_pushOf_48 : decode cX2_pushOf 48 = .ok (.ineg, 1) := by decide +kernel
theorem dX2_pushOf_49 : decode cX2_pushOf 49 = .ok (.istore_n 3, 1) := by decide +kernel
theorem dX2_pushOf_50 : decode cX2_pushOf 50 = .ok (.getstatic 55, 3) := by decide +kernel
theorem dX2_pushOf_53 : decode cX2_pushOf 53 = .ok (.iload_n 2, 1) := by decide +kernel
theorem dX2_pushOf_54 : decode cX2_pushOf 54 = .ok (.iaload, 1) := by decide +kernel
theorem dX2_pushOf_55 : decode cX2_pushOf 55 = .ok (.iload_n 3, 1) := by decide +kernel
theorem dX2_pushOf_56 : decode cX2_pushOf 56 = .ok (.imul, 1) := by decide +kernel
theorem dX2_pushOf_57 : decode cX2_pushOf 57 = .ok (.getstatic 58, 3) := by decide +kernel
theorem dX2_pushOf_60 : decode cX2_pushOf 60 = .ok (.iload_n 2, 1) := by decide +kernel
theorem dX2_pushOf_61 : decode cX2_pushOf 61 = .ok (.iaload, 1) := by decide +kernel
theorem dX2_pushOf_62 : decode cX2_pushOf 62 = .ok (.aload_n 0, 1) := by decide +kernel
theorem dX2_pushOf_63 : decode cX2_pushOf 63 = .ok (.getfield 40, 3) := by decide +kernel
theorem dX2_pushOf_66 : decode cX2_pushOf 66 = .ok (.imul, 1) := by decide +kernel
theorem dX2_pushOf_67 : decode cX2_pushOf 67 = .ok (.iadd, 1) := by decide +kernel
theorem dX2_pushOf_68 : decode cX2_pushOf 68 = .ok (.ireturn, 1) := by decide +kernel
theorem dX2_areBeside_0 : decode cX2_areBeside 0 = .ok (.aload_n 0, 1) := by decide +kernel
theorem dX2_areBeside_1 : decode cX2_areBeside 1 = .ok (.getfield 21, 3) := by decide +kernel
theorem dX2_areBeside_4 : decode cX2_areBeside 4 = .ok (.iload_n 1, 1) := by decide +kernel
theorem dX2_areBeside_5 : decode cX2_areBeside 5 = .ok (.iaload, 1) := by decide +kernel
theorem dX2_areBeside_6 : decode cX2_areBeside 6 = .ok (.iconst 1, 1) := by decide +kernel
theorem dX2_areBeside_7 : decode cX2_areBeside 7 = .ok (.invokestatic 61, 3) := by decide +kernel
theorem dX2_areBeside_10 : decode cX2_areBeside 10 = .ok (.aload_n 0, 1) := by decide +kernel
theorem dX2_areBeside_11 : decode cX2_areBeside 11 = .ok (.getfield 21, 3) := by decide +kernel
theorem dX2_areBeside_14 : decode cX2_areBeside 14 = .ok (.iload_n 2, 1) := by decide +kernel
theorem dX2_areBeside_15 : decode cX2_areBeside 15 = .ok (.iaload, 1) := by decide +kernel
theorem dX2_areBeside_16 : decode cX2_areBeside 16 = .ok (.if_icmp .eq 22, 3) := by decide +kernel
theorem dX2_areBeside_19 : decode cX2_areBeside 19 = .ok (.aload_n 0, 1) := by decide +kernel
theorem dX2_areBeside_20 : decode cX2_areBeside 20 = .ok (.getfield 21, 3) := by decide +kernel
theorem dX2_areBeside_23 : decode cX2_areBeside 23 = .ok (.iload_n 2, 1) := by decide +kernel
theorem dX2_areBeside_24 : decode cX2_areBeside 24 = .ok (.iaload, 1) := by decide +kernel
theorem dX2_areBeside_25 : decode cX2_areBeside 25 = .ok (.iconst 1, 1) := by decide +kernel
theorem dX2_areBeside_26 : decode cX2_areBeside 26 = .ok (.invokestatic 61, 3) := by decide +kernel
theorem dX2_areBeside_29 : decode cX2_areBeside 29 = .ok (.aload_n 0, 1) := by decide +kernel
theorem dX2_areBeside_30 : decode cX2_areBeside 30 = .ok (.getfield 21, 3) := by decide +kernel
theorem dX2_areBeside_33 : decode cX2_areBeside 33 = .ok (.iload_n 1, 1) := by decide +kernel
theorem dX2_areBeside_34 : decode cX2_areBeside 34 = .ok (.iaload, 1) := by decide +kernel
theorem dX2_areBeside_35 : decode cX2_areBeside 35 = .ok (.if_icmp .ne 7, 3) := by decide +kernel
theorem dX2_areBeside_38 : decode cX2_areBeside 38 = .ok (.iconst 1, 1) := by decide +kernel
theorem dX2_areBeside_39 : decode cX2_areBeside 39 = .ok (.goto 4, 3) := by decide +kernel
theorem dX2_areBeside_42 : decode cX2_areBeside 42 = .ok (.iconst 0, 1) := by decide +kernel
theorem dX2_areBeside_43 : decode cX2_areBeside 43 = .ok (.ireturn, 1) := by decide +kernel
theorem dX2_neighbours_0 : decode cX2_neighbours 0 = .ok (.iconst 0, 1) := by decide +kernel
theorem dX2_neighbours_1 : decode cX2_neighbours 1 = .ok (.istore_n 2, 1) := by decide +kernel
theorem dX2_neighbours_2 : decode cX2_neighbours 2 = .ok (.iconst 0, 1) := by decide +kernel
theorem dX2_neighbours_3 : decode cX2_neighbours 3 = .ok (.istore_n 3, 1) := by decide +kernel
theorem dX2_neighbours_4 : decode cX2_neighbours 4 = .ok (.iload_n 3, 1) := by decide +kernel
theorem dX2_neighbours_5 : decode cX2_neighbours 5 = .ok (.aload_n 0, 1) := by decide +kernel
theorem dX2_neighbours_6 : decode cX2_neighbours 6 = .ok (.getfield 30, 3) := by decide +kernel
theorem dX2_neighbours_9 : decode cX2_neighbours 9 = .ok (.if_icmp .ge 24, 3) := by decide +kernel
theorem dX2_neighbours_12 : decode cX2_neighbours 12 = .ok (.aload_n 0, 1) := by decide +kernel
theorem dX2_neighbours_13 : decode cX2_neighbours 13 = .ok (.iload_n 1, 1) := by decide +kernel
theorem dX2_neighbours_14 : decode cX2_neighbours 14 = .ok (.iload_n 3, 1) := by decide +kernel
theorem dX2_neighbours_15 : decode cX2_neighbours 15 = .ok (.invokevirtual 65, 3) := by decide +kernel
theorem dX2_neighbours_18 : decode cX2_neighbours 18 = .ok (.ifCond .eq 9, 3) := by decide +kernel
theorem dX2_neighbours_21 : decode cX2_neighbours 21 = .ok (.iload_n 2, 1) := by decide +kernel
theorem dX2_neighbours_22 : decode cX2_neighbours 22 = .ok (.iconst 1, 1) := by decide +kernel
theorem dX2_neighbours_23 : decode cX2_neighbours 23 = .ok (.iload_n 3, 1) := by decide +kernel
theorem dX2_neighbours_24 : decode cX2_neighbours 24 = .ok (.ishl, 1) := by decide +kernel
theorem dX2_neighbours_25 : decode cX2_neighbours 25 = .ok (.ior, 1) := by decide +kernel
theorem dX2_neighbours_26 : decode cX2_neighbours 26 = .ok (.istore_n 2, 1) := by decide +kernel
theorem dX2_neighbours_27 : decode cX2_neighbours 27 = .ok (.iinc 3 1, 3) := by decide +kernel
theorem dX2_neighbours_30 : decode cX2_neighbours 30 = .ok (.goto (-26), 3) := by decide +kernel
theorem dX2_neighbours_33 : decode cX2_neighbours 33 = .ok (.iload_n 2, 1) := by decide +kernel
theorem dX2_neighbours_34 : decode cX2_neighbours 34 = .ok (.ireturn, 1) := by decide +kernel
theorem dX2_pairsBeside_0 : decode cX2_pairsBeside 0 = .ok (.iconst 0, 1) := by decide +kernel
theorem dX2_pairsBeside_1 : decode cX2_pairsBeside 1 = .ok (.istore_n 1, 1) := by decide +kernel
theorem dX2_pairsBeside_2 : decode cX2_pairsBeside 2 = .ok (.iconst 0, 1) := by decide +kernel
theorem dX2_pairsBeside_3 : decode cX2_pairsBeside 3 = .ok (.istore_n 2, 1) := by decide +kernel
theorem dX2_pairsBeside_4 : decode cX2_pairsBeside 4 = .ok (.iload_n 2, 1) := by decide +kernel
theorem dX2_pairsBeside_5 : decode cX2_pairsBeside 5 = .ok (.aload_n 0, 1) := by decide +kernel
theorem dX2_pairsBeside_6 : decode cX2_pairsBeside 6 = .ok (.getfield 30, 3) := by decide +kernel
theorem dX2_pairsBeside_9 : decode cX2_pairsBeside 9 = .ok (.if_icmp .ge 20, 3) := by decide +kernel
theorem dX2_pairsBeside_12 : decode cX2_pairsBeside 12 = .ok (.iload_n 1, 1) := by decide +kernel
theorem dX2_pairsBeside_13 : decode cX2_pairsBeside 13 = .ok (.aload_n 0, 1) := by decide +kernel
theorem dX2_pairsBeside_14 : decode cX2_pairsBeside 14 = .ok (.iload_n 2, 1) := by decide +kernel
theorem dX2_pairsBeside_15 : decode cX2_pairsBeside 15 = .ok (.invokevirtual 69, 3) := by decide +kernel
theorem dX2_pairsBeside_18 : decode cX2_pairsBeside 18 = .ok (.invokestatic 73, 3) := by decide +kernel
theorem dX2_pairsBeside_21 : decode cX2_pairsBeside 21 = .ok (.iadd, 1) := by decide +kernel
theorem dX2_pairsBeside_22 : decode cX2_pairsBeside 22 = .ok (.istore_n 1, 1) := by decide +kernel
theorem dX2_pairsBeside_23 : decode cX2_pairsBeside 23 = .ok (.iinc 2 1, 3) := by decide +kernel
theorem dX2_pairsBeside_26 : decode cX2_pairsBeside 26 = .ok (.goto (-22), 3) := by decide +kernel
theorem dX2_pairsBeside_29 : decode cX2_pairsBeside 29 = .ok (.iload_n 1, 1) := by decide +kernel
theorem dX2_pairsBeside_30 : decode cX2_pairsBeside 30 = .ok (.iconst 2, 1) := by decide +kernel
theorem dX2_pairsBeside_31 : decode cX2_pairsBeside 31 = .ok (.idiv, 1) := by decide +kernel
theorem dX2_pairsBeside_32 : decode cX2_pairsBeside 32 = .ok (.ireturn, 1) := by decide +kernel
theorem dX2_noteMeetings_0 : decode cX2_noteMeetings 0 = .ok (.iconst 0, 1) := by decide +kernel
theorem dX2_noteMeetings_1 : decode cX2_noteMeetings 1 = .ok (.istore_n 3, 1) := by decide +kernel
theorem dX2_noteMeetings_2 : decode cX2_noteMeetings 2 = .ok (.iload_n 3, 1) := by decide +kernel
theorem dX2_noteMeetings_3 : decode cX2_noteMeetings 3 = .ok (.aload_n 0, 1) := by decide +kernel
theorem dX2_noteMeetings_4 : decode cX2_noteMeetings 4 = .ok (.getfield 30, 3) := by decide +kernel
theorem dX2_noteMeetings_7 : decode cX2_noteMeetings 7 = .ok (.if_icmp .ge 69, 3) := by decide +kernel
theorem dX2_noteMeetings_10 : decode cX2_noteMeetings 10 = .ok (.iload_n 3, 1) := by decide +kernel
theorem dX2_noteMeetings_11 : decode cX2_noteMeetings 11 = .ok (.iconst 1, 1) := by decide +kernel
theorem dX2_noteMeetings_12 : decode cX2_noteMeetings 12 = .ok (.iadd, 1) := by decide +kernel
theorem dX2_noteMeetings_13 : decode cX2_noteMeetings 13 = .ok (.istore 4, 2) := by decide +kernel
theorem dX2_noteMeetings_15 : decode cX2_noteMeetings 15 = .ok (.iload 4, 2) := by decide +kernel
theorem dX2_noteMeetings_17 : decode cX2_noteMeetings 17 = .ok (.aload_n 0, 1) := by decide +kernel
theorem dX2_noteMeetings_18 : decode cX2_noteMeetings 18 = .ok (.getfield 30, 3) := by decide +kernel
theorem dX2_noteMeetings_21 : decode cX2_noteMeetings 21 = .ok (.if_icmp .ge 49, 3) := by decide +kernel
theorem dX2_noteMeetings_24 : decode cX2_noteMeetings 24 = .ok (.aload_n 1, 1) := by decide +kernel
theorem dX2_noteMeetings_25 : decode cX2_noteMeetings 25 = .ok (.iload_n 3, 1) := by decide +kernel
theorem dX2_noteMeetings_26 : decode cX2_noteMeetings 26 = .ok (.iconst 5, 1) := by decide +kernel
theorem dX2_noteMeetings_27 : decode cX2_noteMeetings 27 = .ok (.imul, 1) := by decide +kernel
theorem dX2_noteMeetings_28 : decode cX2_noteMeetings 28 = .ok (.iload 4, 2) := by decide +kernel
theorem dX2_noteMeetings_30 : decode cX2_noteMeetings 30 = .ok (.iadd, 1) := by decide +kernel
theorem dX2_noteMeetings_31 : decode cX2_noteMeetings 31 = .ok (.iaload, 1) := by decide +kernel
theorem dX2_noteMeetings_32 : decode cX2_noteMeetings 32 = .ok (.iconst (-1), 1) := by decide +kernel
theorem dX2_noteMeetings_33 : decode cX2_noteMeetings 33 = .ok (.if_icmp .ne 31, 3) := by decide +kernel
theorem dX2_noteMeetings_36 : decode cX2_noteMeetings 36 = .ok (.aload_n 0, 1) := by decide +kernel
theorem dX2_noteMeetings_37 : decode cX2_noteMeetings 37 = .ok (.iload_n 3, 1) := by decide +kernel
theorem dX2_noteMeetings_38 : decode cX2_noteMeetings 38 = .ok (.iload 4, 2) := by decide +kernel
theorem dX2_noteMeetings_40 : decode cX2_noteMeetings 40 = .ok (.invokevirtual 65, 3) := by decide +kernel
theorem dX2_noteMeetings_43 : decode cX2_noteMeetings 43 = .ok (.ifCond .eq 21, 3) := by decide +kernel
theorem dX2_noteMeetings_46 : decode cX2_noteMeetings 46 = .ok (.aload_n 1, 1) := by decide +kernel
theorem dX2_noteMeetings_47 : decode cX2_noteMeetings 47 = .ok (.iload_n 3, 1) := by decide +kernel
theorem dX2_noteMeetings_48 : decode cX2_noteMeetings 48 = .ok (.iconst 5, 1) := by decide +kernel
theorem dX2_noteMeetings_49 : decode cX2_noteMeetings 49 = .ok (.imul, 1) := by decide +kernel
theorem dX2_noteMeetings_50 : decode cX2_noteMeetings 50 = .ok (.iload 4, 2) := by decide +kernel
theorem dX2_noteMeetings_52 : decode cX2_noteMeetings 52 = .ok (.iadd, 1) := by decide +kernel
theorem dX2_noteMeetings_53 : decode cX2_noteMeetings 53 = .ok (.iload_n 2, 1) := by decide +kernel
theorem dX2_noteMeetings_54 : decode cX2_noteMeetings 54 = .ok (.iastore, 1) := by decide +kernel
theorem dX2_noteMeetings_55 : decode cX2_noteMeetings 55 = .ok (.aload_n 1, 1) := by decide +kernel
theorem dX2_noteMeetings_56 : decode cX2_noteMeetings 56 = .ok (.iload 4, 2) := by decide +kernel
theorem dX2_noteMeetings_58 : decode cX2_noteMeetings 58 = .ok (.iconst 5, 1) := by decide +kernel
theorem dX2_noteMeetings_59 : decode cX2_noteMeetings 59 = .ok (.imul, 1) := by decide +kernel
theorem dX2_noteMeetings_60 : decode cX2_noteMeetings 60 = .ok (.iload_n 3, 1) := by decide +kernel
theorem dX2_noteMeetings_61 : decode cX2_noteMeetings 61 = .ok (.iadd, 1) := by decide +kernel
theorem dX2_noteMeetings_62 : decode cX2_noteMeetings 62 = .ok (.iload_n 2, 1) := by decide +kernel
theorem dX2_noteMeetings_63 : decode cX2_noteMeetings 63 = .ok (.iastore, 1) := by decide +kernel
theorem dX2_noteMeetings_64 : decode cX2_noteMeetings 64 = .ok (.iinc 4 1, 3) := by decide +kernel
theorem dX2_noteMeetings_67 : decode cX2_noteMeetings 67 = .ok (.goto (-52), 3) := by decide +kernel
theorem dX2_noteMeetings_70 : decode cX2_noteMeetings 70 = .ok (.iinc 3 1, 3) := by decide +kernel
theorem dX2_noteMeetings_73 : decode cX2_noteMeetings 73 = .ok (.goto (-71), 3) := by decide +kernel
theorem dX2_noteMeetings_76 : decode cX2_noteMeetings 76 = .ok (.return_, 1) := by decide +kernel
theorem dX2_areRoped_0 : decode cX2_areRoped 0 = .ok (.aload_n 0, 1) := by decide +kernel
theorem dX2_areRoped_1 : decode cX2_areRoped 1 = .ok (.getfield 24, 3) := by decide +kernel
theorem dX2_areRoped_4 : decode cX2_areRoped 4 = .ok (.iload_n 1, 1) := by decide +kernel
theorem dX2_areRoped_5 : decode cX2_areRoped 5 = .ok (.iaload, 1) := by decide +kernel
theorem dX2_areRoped_6 : decode cX2_areRoped 6 = .ok (.iload_n 2, 1) := by decide +kernel
theorem dX2_areRoped_7 : decode cX2_areRoped 7 = .ok (.ishr, 1) := by decide +kernel
theorem dX2_areRoped_8 : decode cX2_areRoped 8 = .ok (.iconst 1, 1) := by decide +kernel
theorem dX2_areRoped_9 : decode cX2_areRoped 9 = .ok (.iand, 1) := by decide +kernel
theorem dX2_areRoped_10 : decode cX2_areRoped 10 = .ok (.iconst 1, 1) := by decide +kernel
theorem dX2_areRoped_11 : decode cX2_areRoped 11 = .ok (.if_icmp .ne 7, 3) := by decide +kernel
theorem dX2_areRoped_14 : decode cX2_areRoped 14 = .ok (.iconst 1, 1) := by decide +kernel
theorem dX2_areRoped_15 : decode cX2_areRoped 15 = .ok (.goto 4, 3) := by decide +kernel
theorem dX2_areRoped_18 : decode cX2_areRoped 18 = .ok (.iconst 0, 1) := by decide +kernel
theorem dX2_areRoped_19 : decode cX2_areRoped 19 = .ok (.ireturn, 1) := by decide +kernel
theorem dX2_tie_0 : decode cX2_tie 0 = .ok (.aload_n 0, 1) := by decide +kernel
theorem dX2_tie_1 : decode cX2_tie 1 = .ok (.getfield 24, 3) := by decide +kernel
theorem dX2_tie_4 : decode cX2_tie 4 = .ok (.iload_n 1, 1) := by decide +kernel
theorem dX2_tie_5 : decode cX2_tie 5 = .ok (.dup2, 1) := by decide +kernel
theorem dX2_tie_6 : decode cX2_tie 6 = .ok (.iaload, 1) := by decide +kernel
theorem dX2_tie_7 : decode cX2_tie 7 = .ok (.iconst 1, 1) := by decide +kernel
theorem dX2_tie_8 : decode cX2_tie 8 = .ok (.iload_n 2, 1) := by decide +kernel
theorem dX2_tie_9 : decode cX2_tie 9 = .ok (.ishl, 1) := by decide +kernel
theorem dX2_tie_10 : decode cX2_tie 10 = .ok (.ior, 1) := by decide +kernel
theorem dX2_tie_11 : decode cX2_tie 11 = .ok (.iastore, 1) := by decide +kernel
theorem dX2_tie_12 : decode cX2_tie 12 = .ok (.aload_n 0, 1) := by decide +kernel
theorem dX2_tie_13 : decode cX2_tie 13 = .ok (.getfield 24, 3) := by decide +kernel
theorem dX2_tie_16 : decode cX2_tie 16 = .ok (.iload_n 2, 1) := by decide +kernel
theorem dX2_tie_17 : decode cX2_tie 17 = .ok (.dup2, 1) := by decide +kernel
theorem dX2_tie_18 : decode cX2_tie 18 = .ok (.iaload, 1) := by decide +kernel
theorem dX2_tie_19 : decode cX2_tie 19 = .ok (.iconst 1, 1) := by decide +kernel
theorem dX2_tie_20 : decode cX2_tie 20 = .ok (.iload_n 1, 1) := by decide +kernel
theorem dX2_tie_21 : decode cX2_tie 21 = .ok (.ishl, 1) := by decide +kernel
theorem dX2_tie_22 : decode cX2_tie 22 = .ok (.ior, 1) := by decide +kernel
theorem dX2_tie_23 : decode cX2_tie 23 = .ok (.iastore, 1) := by decide +kernel
theorem dX2_tie_24 : decode cX2_tie 24 = .ok (.aload_n 0, 1) := by decide +kernel
theorem dX2_tie_25 : decode cX2_tie 25 = .ok (.dup, 1) := by decide +kernel
theorem dX2_tie_26 : decode cX2_tie 26 = .ok (.getfield 34, 3) := by decide +kernel
theorem dX2_tie_29 : decode cX2_tie 29 = .ok (.iconst 1, 1) := by decide +kernel
theorem dX2_tie_30 : decode cX2_tie 30 = .ok (.iadd, 1) := by decide +kernel
theorem dX2_tie_31 : decode cX2_tie 31 = .ok (.putfield 34, 3) := by decide +kernel
theorem dX2_tie_34 : decode cX2_tie 34 = .ok (.aload_n 0, 1) := by decide +kernel
theorem dX2_tie_35 : decode cX2_tie 35 = .ok (.invokevirtual 78, 3) := by decide +kernel
theorem dX2_tie_38 : decode cX2_tie 38 = .ok (.return_, 1) := by decide +kernel
theorem dX2_cut_0 : decode cX2_cut 0 = .ok (.aload_n 0, 1) := by decide +kernel
theorem dX2_cut_1 : decode cX2_cut 1 = .ok (.getfield 24, 3) := by decide +kernel
theorem dX2_cut_4 : decode cX2_cut 4 = .ok (.iload_n 1, 1) := by decide +kernel
theorem dX2_cut_5 : decode cX2_cut 5 = .ok (.dup2, 1) := by decide +kernel
theorem dX2_cut_6 : decode cX2_cut 6 = .ok (.iaload, 1) := by decide +kernel
theorem dX2_cut_7 : decode cX2_cut 7 = .ok (.iconst 1, 1) := by decide +kernel
theorem dX2_cut_8 : decode cX2_cut 8 = .ok (.iload_n 2, 1) := by decide +kernel
theorem dX2_cut_9 : decode cX2_cut 9 = .ok (.ishl, 1) := by decide +kernel
theorem dX2_cut_10 : decode cX2_cut 10 = .ok (.iconst (-1), 1) := by decide +kernel
theorem dX2_cut_11 : decode cX2_cut 11 = .ok (.ixor, 1) := by decide +kernel
theorem dX2_cut_12 : decode cX2_cut 12 = .ok (.iand, 1) := by decide +kernel
theorem dX2_cut_13 : decode cX2_cut 13 = .ok (.iastore, 1) := by decide +kernel
theorem dX2_cut_14 : decode cX2_cut 14 = .ok (.aload_n 0, 1) := by decide +kernel
theorem dX2_cut_15 : decode cX2_cut 15 = .ok (.getfield 24, 3) := by decide +kernel
theorem dX2_cut_18 : decode cX2_cut 18 = .ok (.iload_n 2, 1) := by decide +kernel
theorem dX2_cut_19 : decode cX2_cut 19 = .ok (.dup2, 1) := by decide +kernel
theorem dX2_cut_20 : decode cX2_cut 20 = .ok (.iaload, 1) := by decide +kernel
theorem dX2_cut_21 : decode cX2_cut 21 = .ok (.iconst 1, 1) := by decide +kernel
theorem dX2_cut_22 : decode cX2_cut 22 = .ok (.iload_n 1, 1) := by decide +kernel
theorem dX2_cut_23 : decode cX2_cut 23 = .ok (.ishl, 1) := by decide +kernel
theorem dX2_cut_24 : decode cX2_cut 24 = .ok (.iconst (-1), 1) := by decide +kernel
theorem dX2_cut_25 : decode cX2_cut 25 = .ok (.ixor, 1) := by decide +kernel
theorem dX2_cut_26 : decode cX2_cut 26 = .ok (.iand, 1) := by decide +kernel
theorem dX2_cut_27 : decode cX2_cut 27 = .ok (.iastore, 1) := by decide +kernel
theorem dX2_cut_28 : decode cX2_cut 28 = .ok (.aload_n 0, 1) := by decide +kernel
theorem dX2_cut_29 : decode cX2_cut 29 = .ok (.dup, 1) := by decide +kernel
theorem dX2_cut_30 : decode cX2_cut 30 = .ok (.getfield 34, 3) := by decide +kernel
theorem dX2_cut_33 : decode cX2_cut 33 = .ok (.iconst 1, 1) := by decide +kernel
theorem dX2_cut_34 : decode cX2_cut 34 = .ok (.isub, 1) := by decide +kernel
theorem dX2_cut_35 : decode cX2_cut 35 = .ok (.putfield 34, 3) := by decide +kernel
theorem dX2_cut_38 : decode cX2_cut 38 = .ok (.aload_n 0, 1) := by decide +kernel
theorem dX2_cut_39 : decode cX2_cut 39 = .ok (.invokevirtual 78, 3) := by decide +kernel
theorem dX2_cut_42 : decode cX2_cut 42 = .ok (.return_, 1) := by decide +kernel
theorem dX2_findParties_0 : decode cX2_findParties 0 = .ok (.iconst 0, 1) := by decide +kernel
theorem dX2_findParties_1 : decode cX2_findParties 1 = .ok (.istore_n 1, 1) := by decide +kernel
theorem dX2_findParties_2 : decode cX2_findParties 2 = .ok (.iload_n 1, 1) := by decide +kernel
theorem dX2_findParties_3 : decode cX2_findParties 3 = .ok (.aload_n 0, 1) := by decide +kernel
theorem dX2_findParties_4 : decode cX2_findParties 4 = .ok (.getfield 30, 3) := by decide +kernel
theorem dX2_findParties_7 : decode cX2_findParties 7 = .ok (.if_icmp .ge 20, 3) := by decide +kernel
theorem dX2_findParties_10 : decode cX2_findParties 10 = .ok (.aload_n 0, 1) := by decide +kernel
theorem dX2_findParties_11 : decode cX2_findParties 11 = .ok (.getfield 27, 3) := by decide +kernel
theorem dX2_findParties_14 : decode cX2_findParties 14 = .ok (.iload_n 1, 1) := by decide +kernel
theorem dX2_findParties_15 : decode cX2_findParties 15 = .ok (.aload_n 0, 1) := by decide +kernel
theorem dX2_findParties_16 : decode cX2_findParties 16 = .ok (.iload_n 1, 1) := by decide +kernel
theorem dX2_findParties_17 : decode cX2_findParties 17 = .ok (.invokevirtual 81, 3) := by decide +kernel
theorem dX2_findParties_20 : decode cX2_findParties 20 = .ok (.iastore, 1) := by decide +kernel
theorem dX2_findParties_21 : decode cX2_findParties 21 = .ok (.iinc 1 1, 3) := by decide +kernel
theorem dX2_findParties_24 : decode cX2_findParties 24 = .ok (.goto (-22), 3) := by decide +kernel
theorem dX2_findParties_27 : decode cX2_findParties 27 = .ok (.return_, 1) := by decide +kernel
theorem dX2_tiedTo_0 : decode cX2_tiedTo 0 = .ok (.iconst 1, 1) := by decide +kernel
theorem dX2_tiedTo_1 : decode cX2_tiedTo 1 = .ok (.iload_n 1, 1) := by decide +kernel
theorem dX2_tiedTo_2 : decode cX2_tiedTo 2 = .ok (.ishl, 1) := by decide +kernel
theorem dX2_tiedTo_3 : decode cX2_tiedTo 3 = .ok (.istore_n 2, 1) := by decide +kernel
theorem dX2_tiedTo_4 : decode cX2_tiedTo 4 = .ok (.iconst 1, 1) := by decide +kernel
theorem dX2_tiedTo_5 : decode cX2_tiedTo 5 = .ok (.istore_n 3, 1) := by decide +kernel
theorem dX2_tiedTo_6 : decode cX2_tiedTo 6 = .ok (.iload_n 3, 1) := by decide +kernel
theorem dX2_tiedTo_7 : decode cX2_tiedTo 7 = .ok (.aload_n 0, 1) := by decide +kernel
theorem dX2_tiedTo_8 : decode cX2_tiedTo 8 = .ok (.getfield 30, 3) := by decide +kernel
theorem dX2_tiedTo_11 : decode cX2_tiedTo 11 = .ok (.if_icmp .ge 47, 3) := by decide +kernel
theorem dX2_tiedTo_14 : decode cX2_tiedTo 14 = .ok (.iconst 0, 1) := by decide +kernel
theorem dX2_tiedTo_15 : decode cX2_tiedTo 15 = .ok (.istore 4, 2) := by decide +kernel
theorem dX2_tiedTo_17 : decode cX2_tiedTo 17 = .ok (.iload 4, 2) := by decide +kernel
theorem dX2_tiedTo_19 : decode cX2_tiedTo 19 = .ok (.aload_n 0, 1) := by decide +kernel
theorem dX2_tiedTo_20 : decode cX2_tiedTo 20 = .ok (.getfield 30, 3) := by decide +kernel
theorem dX2_tiedTo_23 : decode cX2_tiedTo 23 = .ok (.if_icmp .ge 29, 3) := by decide +kernel
theorem dX2_tiedTo_26 : decode cX2_tiedTo 26 = .ok (.iload_n 2, 1) := by decide +kernel
theorem dX2_tiedTo_27 : decode cX2_tiedTo 27 = .ok (.iload 4, 2) := by decide +kernel
theorem dX2_tiedTo_29 : decode cX2_tiedTo 29 = .ok (.ishr, 1) := by decide +kernel
theorem dX2_tiedTo_30 : decode cX2_tiedTo 30 = .ok (.iconst 1, 1) := by decide +kernel
theorem dX2_tiedTo_31 : decode cX2_tiedTo 31 = .ok (.iand, 1) := by decide +kernel
theorem dX2_tiedTo_32 : decode cX2_tiedTo 32 = .ok (.iconst 1, 1) := by decide +kernel
theorem dX2_tiedTo_33 : decode cX2_tiedTo 33 = .ok (.if_icmp .ne 13, 3) := by decide +kernel
theorem dX2_tiedTo_36 : decode cX2_tiedTo 36 = .ok (.iload_n 2, 1) := by decide +kernel
theorem dX2_tiedTo_37 : decode cX2_tiedTo 37 = .ok (.aload_n 0, 1) := by decide +kernel
theorem dX2_tiedTo_38 : decode cX2_tiedTo 38 = .ok (.getfield 24, 3) := by decide +kernel
theorem dX2_tiedTo_41 : decode cX2_tiedTo 41 = .ok (.iload 4, 2) := by decide +kernel
theorem dX2_tiedTo_43 : decode cX2_tiedTo 43 = .ok (.iaload, 1) := by decide +kernel
theorem dX2_tiedTo_44 : decode cX2_tiedTo 44 = .ok (.ior, 1) := by decide +kernel
theorem dX2_tiedTo_45 : decode cX2_tiedTo 45 = .ok (.istore_n 2, 1) := by decide +kernel
theorem dX2_tiedTo_46 : decode cX2_tiedTo 46 = .ok (.iinc 4 1, 3) := by decide +kernel
theorem dX2_tiedTo_49 : decode cX2_tiedTo 49 = .ok (.goto (-32), 3) := by decide +kernel
theorem dX2_tiedTo_52 : decode cX2_tiedTo 52 = .ok (.iinc 3 1, 3) := by decide +kernel
theorem dX2_tiedTo_55 : decode cX2_tiedTo 55 = .ok (.goto (-49), 3) := by decide +kernel
theorem dX2_tiedTo_58 : decode cX2_tiedTo 58 = .ok (.iload_n 2, 1) := by decide +kernel
theorem dX2_tiedTo_59 : decode cX2_tiedTo 59 = .ok (.ireturn, 1) := by decide +kernel
theorem dX2_leads_0 : decode cX2_leads 0 = .ok (.aload_n 0, 1) := by decide +kernel
theorem dX2_leads_1 : decode cX2_leads 1 = .ok (.getfield 27, 3) := by decide +kernel
theorem dX2_leads_4 : decode cX2_leads 4 = .ok (.iload_n 1, 1) := by decide +kernel
theorem dX2_leads_5 : decode cX2_leads 5 = .ok (.iaload, 1) := by decide +kernel
theorem dX2_leads_6 : decode cX2_leads 6 = .ok (.iconst 1, 1) := by decide +kernel
theorem dX2_leads_7 : decode cX2_leads 7 = .ok (.iload_n 1, 1) := by decide +kernel
theorem dX2_leads_8 : decode cX2_leads 8 = .ok (.ishl, 1) := by decide +kernel
theorem dX2_leads_9 : decode cX2_leads 9 = .ok (.iconst 1, 1) := by decide +kernel
theorem dX2_leads_10 : decode cX2_leads 10 = .ok (.isub, 1) := by decide +kernel
theorem dX2_leads_11 : decode cX2_leads 11 = .ok (.iand, 1) := by decide +kernel
theorem dX2_leads_12 : decode cX2_leads 12 = .ok (.ifCond .ne 7, 3) := by decide +kernel
theorem dX2_leads_15 : decode cX2_leads 15 = .ok (.iconst 1, 1) := by decide +kernel
theorem dX2_leads_16 : decode cX2_leads 16 = .ok (.goto 4, 3) := by decide +kernel
theorem dX2_leads_19 : decode cX2_leads 19 = .ok (.iconst 0, 1) := by decide +kernel
theorem dX2_leads_20 : decode cX2_leads 20 = .ok (.ireturn, 1) := by decide +kernel
theorem dX2_parties_0 : decode cX2_parties 0 = .ok (.iconst 0, 1) := by decide +kernel
theorem dX2_parties_1 : decode cX2_parties 1 = .ok (.istore_n 1, 1) := by decide +kernel
theorem dX2_parties_2 : decode cX2_parties 2 = .ok (.iconst 0, 1) := by decide +kernel
theorem dX2_parties_3 : decode cX2_parties 3 = .ok (.istore_n 2, 1) := by decide +kernel
theorem dX2_parties_4 : decode cX2_parties 4 = .ok (.iload_n 2, 1) := by decide +kernel
theorem dX2_parties_5 : decode cX2_parties 5 = .ok (.aload_n 0, 1) := by decide +kernel
theorem dX2_parties_6 : decode cX2_parties 6 = .ok (.getfield 30, 3) := by decide +kernel
theorem dX2_parties_9 : decode cX2_parties 9 = .ok (.if_icmp .ge 25, 3) := by decide +kernel
theorem dX2_parties_12 : decode cX2_parties 12 = .ok (.iload_n 1, 1) := by decide +kernel
theorem dX2_parties_13 : decode cX2_parties 13 = .ok (.aload_n 0, 1) := by decide +kernel
theorem dX2_parties_14 : decode cX2_parties 14 = .ok (.iload_n 2, 1) := by decide +kernel
theorem dX2_parties_15 : decode cX2_parties 15 = .ok (.invokevirtual 84, 3) := by decide +kernel
theorem dX2_parties_18 : decode cX2_parties 18 = .ok (.ifCond .eq 7, 3) := by decide +kernel
theorem dX2_parties_21 : decode cX2_parties 21 = .ok (.iconst 1, 1) := by decide +kernel
theorem dX2_parties_22 : decode cX2_parties 22 = .ok (.goto 4, 3) := by decide +kernel
theorem dX2_parties_25 : decode cX2_parties 25 = .ok (.iconst 0, 1) := by decide +kernel
theorem dX2_parties_26 : decode cX2_parties 26 = .ok (.iadd, 1) := by decide +kernel
theorem dX2_parties_27 : decode cX2_parties 27 = .ok (.istore_n 1, 1) := by decide +kernel
theorem dX2_parties_28 : decode cX2_parties 28 = .ok (.iinc 2 1, 3) := by decide +kernel
theorem dX2_parties_31 : decode cX2_parties 31 = .ok (.goto (-27), 3) := by decide +kernel
theorem dX2_parties_34 : decode cX2_parties 34 = .ok (.iload_n 1, 1) := by decide +kernel
theorem dX2_parties_35 : decode cX2_parties 35 = .ok (.ireturn, 1) := by decide +kernel
theorem dX2_fewestCuts_0 : decode cX2_fewestCuts 0 = .ok (.aload_n 0, 1) := by decide +kernel
theorem dX2_fewestCuts_1 : decode cX2_fewestCuts 1 = .ok (.getfield 34, 3) := by decide +kernel
theorem dX2_fewestCuts_4 : decode cX2_fewestCuts 4 = .ok (.istore_n 3, 1) := by decide +kernel
theorem dX2_fewestCuts_5 : decode cX2_fewestCuts 5 = .ok (.iconst 1, 1) := by decide +kernel
theorem dX2_fewestCuts_6 : decode cX2_fewestCuts 6 = .ok (.aload_n 0, 1) := by decide +kernel
theorem dX2_fewestCuts_7 : decode cX2_fewestCuts 7 = .ok (.getfield 30, 3) := by decide +kernel
theorem dX2_fewestCuts_10 : decode cX2_fewestCuts 10 = .ok (.ishl, 1) := by decide +kernel
theorem dX2_fewestCuts_11 : decode cX2_fewestCuts 11 = .ok (.istore 4, 2) := by decide +kernel
theorem dX2_fewestCuts_13 : decode cX2_fewestCuts 13 = .ok (.iconst 0, 1) := by decide +kernel
theorem dX2_fewestCuts_14 : decode cX2_fewestCuts 14 = .ok (.istore 5, 2) := by decide +kernel
theorem dX2_fewestCuts_16 : decode cX2_fewestCuts 16 = .ok (.iload 5, 2) := by decide +kernel
theorem dX2_fewestCuts_18 : decode cX2_fewestCuts 18 = .ok (.iload 4, 2) := by decide +kernel
theorem dX2_fewestCuts_20 : decode cX2_fewestCuts 20 = .ok (.if_icmp .ge 39, 3) := by decide +kernel
theorem dX2_fewestCuts_23 : decode cX2_fewestCuts 23 = .ok (.iload 5, 2) := by decide +kernel
theorem dX2_fewestCuts_25 : decode cX2_fewestCuts 25 = .ok (.iload_n 1, 1) := by decide +kernel
theorem dX2_fewestCuts_26 : decode cX2_fewestCuts 26 = .ok (.ishr, 1) := by decide +kernel
theorem dX2_fewestCuts_27 : decode cX2_fewestCuts 27 = .ok (.iconst 1, 1) := by decide +kernel
theorem dX2_fewestCuts_28 : decode cX2_fewestCuts 28 = .ok (.iand, 1) := by decide +kernel
theorem dX2_fewestCuts_29 : decode cX2_fewestCuts 29 = .ok (.iconst 1, 1) := by decide +kernel
theorem dX2_fewestCuts_30 : decode cX2_fewestCuts 30 = .ok (.if_icmp .ne 23, 3) := by decide +kernel
theorem dX2_fewestCuts_33 : decode cX2_fewestCuts 33 = .ok (.iload 5, 2) := by decide +kernel
theorem dX2_fewestCuts_35 : decode cX2_fewestCuts 35 = .ok (.iload_n 2, 1) := by decide +kernel
theorem dX2_fewestCuts_36 : decode cX2_fewestCuts 36 = .ok (.ishr, 1) := by decide +kernel
theorem dX2_fewestCuts_37 : decode cX2_fewestCuts 37 = .ok (.iconst 1, 1) := by decide +kernel
theorem dX2_fewestCuts_38 : decode cX2_fewestCuts 38 = .ok (.iand, 1) := by decide +kernel
theorem dX2_fewestCuts_39 : decode cX2_fewestCuts 39 = .ok (.ifCond .ne 14, 3) := by decide +kernel
theorem dX2_fewestCuts_42 : decode cX2_fewestCuts 42 = .ok (.iload_n 3, 1) := by decide +kernel
theorem dX2_fewestCuts_43 : decode cX2_fewestCuts 43 = .ok (.aload_n 0, 1) := by decide +kernel
theorem dX2_fewestCuts_44 : decode cX2_fewestCuts 44 = .ok (.iload 5, 2) := by decide +kernel
theorem dX2_fewestCuts_46 : decode cX2_fewestCuts 46 = .ok (.invokevirtual 88, 3) := by decide +kernel
theorem dX2_fewestCuts_49 : decode cX2_fewestCuts 49 = .ok (.invokestatic 91, 3) := by decide +kernel
theorem dX2_fewestCuts_52 : decode cX2_fewestCuts 52 = .ok (.istore_n 3, 1) := by decide +kernel
theorem dX2_fewestCuts_53 : decode cX2_fewestCuts 53 = .ok (.iinc 5 1, 3) := by decide +kernel
theorem dX2_fewestCuts_56 : decode cX2_fewestCuts 56 = .ok (.goto (-40), 3) := by decide +kernel
theorem dX2_fewestCuts_59 : decode cX2_fewestCuts 59 = .ok (.iload_n 3, 1) := by decide +kernel
theorem dX2_fewestCuts_60 : decode cX2_fewestCuts 60 = .ok (.ireturn, 1) := by decide +kernel
theorem dX2_ropesOutOf_0 : decode cX2_ropesOutOf 0 = .ok (.iconst 0, 1) := by decide +kernel
theorem dX2_ropesOutOf_1 : decode cX2_ropesOutOf 1 = .ok (.istore_n 2, 1) := by decide +kernel
theorem dX2_ropesOutOf_2 : decode cX2_ropesOutOf 2 = .ok (.iconst 0, 1) := by decide +kernel
theorem dX2_ropesOutOf_3 : decode cX2_ropesOutOf 3 = .ok (.istore_n 3, 1) := by decide +kernel
theorem dX2_ropesOutOf_4 : decode cX2_ropesOutOf 4 = .ok (.iload_n 3, 1) := by decide +kernel
theorem dX2_ropesOutOf_5 : decode cX2_ropesOutOf 5 = .ok (.aload_n 0, 1) := by decide +kernel
theorem dX2_ropesOutOf_6 : decode cX2_ropesOutOf 6 = .ok (.getfield 30, 3) := by decide +kernel
theorem dX2_ropesOutOf_9 : decode cX2_ropesOutOf 9 = .ok (.if_icmp .ge 34, 3) := by decide +kernel
theorem dX2_ropesOutOf_12 : decode cX2_ropesOutOf 12 = .ok (.iload_n 1, 1) := by decide +kernel
theorem dX2_ropesOutOf_13 : decode cX2_ropesOutOf 13 = .ok (.iload_n 3, 1) := by decide +kernel
theorem dX2_ropesOutOf_14 : decode cX2_ropesOutOf 14 = .ok (.ishr, 1) := by decide +kernel
theorem dX2_ropesOutOf_15 : decode cX2_ropesOutOf 15 = .ok (.iconst 1, 1) := by decide +kernel
theorem dX2_ropesOutOf_16 : decode cX2_ropesOutOf 16 = .ok (.iand, 1) := by decide +kernel
theorem dX2_ropesOutOf_17 : decode cX2_ropesOutOf 17 = .ok (.iconst 1, 1) := by decide +kernel
theorem dX2_ropesOutOf_18 : decode cX2_ropesOutOf 18 = .ok (.if_icmp .ne 19, 3) := by decide +kernel
theorem dX2_ropesOutOf_21 : decode cX2_ropesOutOf 21 = .ok (.iload_n 2, 1) := by decide +kernel
theorem dX2_ropesOutOf_22 : decode cX2_ropesOutOf 22 = .ok (.aload_n 0, 1) := by decide +kernel
theorem dX2_ropesOutOf_23 : decode cX2_ropesOutOf 23 = .ok (.getfield 24, 3) := by decide +kernel
theorem dX2_ropesOutOf_26 : decode cX2_ropesOutOf 26 = .ok (.iload_n 3, 1) := by decide +kernel
theorem dX2_ropesOutOf_27 : decode cX2_ropesOutOf 27 = .ok (.iaload, 1) := by decide +kernel
theorem dX2_ropesOutOf_28 : decode cX2_ropesOutOf 28 = .ok (.iload_n 1, 1) := by decide +kernel
theorem dX2_ropesOutOf_29 : decode cX2_ropesOutOf 29 = .ok (.iconst (-1), 1) := by decide +kernel
theorem dX2_ropesOutOf_30 : decode cX2_ropesOutOf 30 = .ok (.ixor, 1) := by decide +kernel
theorem dX2_ropesOutOf_31 : decode cX2_ropesOutOf 31 = .ok (.iand, 1) := by decide +kernel
theorem dX2_ropesOutOf_32 : decode cX2_ropesOutOf 32 = .ok (.invokestatic 73, 3) := by decide +kernel
theorem dX2_ropesOutOf_35 : decode cX2_ropesOutOf 35 = .ok (.iadd, 1) := by decide +kernel
theorem dX2_ropesOutOf_36 : decode cX2_ropesOutOf 36 = .ok (.istore_n 2, 1) := by decide +kernel
theorem dX2_ropesOutOf_37 : decode cX2_ropesOutOf 37 = .ok (.iinc 3 1, 3) := by decide +kernel
theorem dX2_ropesOutOf_40 : decode cX2_ropesOutOf 40 = .ok (.goto (-36), 3) := by decide +kernel
theorem dX2_ropesOutOf_43 : decode cX2_ropesOutOf 43 = .ok (.iload_n 2, 1) := by decide +kernel
theorem dX2_ropesOutOf_44 : decode cX2_ropesOutOf 44 = .ok (.ireturn, 1) := by decide +kernel
theorem dX2_drift_0 : decode cX2_drift 0 = .ok (.iconst 0, 1) := by decide +kernel
theorem dX2_drift_1 : decode cX2_drift 1 = .ok (.istore_n 1, 1) := by decide +kernel
theorem dX2_drift_2 : decode cX2_drift 2 = .ok (.iconst 0, 1) := by decide +kernel
theorem dX2_drift_3 : decode cX2_drift 3 = .ok (.istore_n 2, 1) := by decide +kernel
theorem dX2_drift_4 : decode cX2_drift 4 = .ok (.iload_n 2, 1) := by decide +kernel
theorem dX2_drift_5 : decode cX2_drift 5 = .ok (.aload_n 0, 1) := by decide +kernel
theorem dX2_drift_6 : decode cX2_drift 6 = .ok (.getfield 30, 3) := by decide +kernel
theorem dX2_drift_9 : decode cX2_drift 9 = .ok (.if_icmp .ge 33, 3) := by decide +kernel
theorem dX2_drift_12 : decode cX2_drift 12 = .ok (.aload_n 0, 1) := by decide +kernel
theorem dX2_drift_13 : decode cX2_drift 13 = .ok (.iload_n 2, 1) := by decide +kernel
theorem dX2_drift_14 : decode cX2_drift 14 = .ok (.invokevirtual 84, 3) := by decide +kernel
theorem dX2_drift_17 : decode cX2_drift 17 = .ok (.ifCond .eq 19, 3) := by decide +kernel
theorem dX2_drift_20 : decode cX2_drift 20 = .ok (.aload_n 0, 1) := by decide +kernel
theorem dX2_drift_21 : decode cX2_drift 21 = .ok (.aload_n 0, 1) := by decide +kernel
theorem dX2_drift_22 : decode cX2_drift 22 = .ok (.getfield 27, 3) := by decide +kernel
theorem dX2_drift_25 : decode cX2_drift 25 = .ok (.iload_n 2, 1) := by decide +kernel
theorem dX2_drift_26 : decode cX2_drift 26 = .ok (.iaload, 1) := by decide +kernel
theorem dX2_drift_27 : decode cX2_drift 27 = .ok (.invokevirtual 96, 3) := by decide +kernel
theorem dX2_drift_30 : decode cX2_drift 30 = .ok (.ifCond .ne 6, 3) := by decide +kernel
theorem dX2_drift_33 : decode cX2_drift 33 = .ok (.iinc 1 1, 3) := by decide +kernel
theorem dX2_drift_36 : decode cX2_drift 36 = .ok (.iinc 2 1, 3) := by decide +kernel
theorem dX2_drift_39 : decode cX2_drift 39 = .ok (.goto (-35), 3) := by decide +kernel
theorem dX2_drift_42 : decode cX2_drift 42 = .ok (.aload_n 0, 1) := by decide +kernel
theorem dX2_drift_43 : decode cX2_drift 43 = .ok (.dup, 1) := by decide +kernel
theorem dX2_drift_44 : decode cX2_drift 44 = .ok (.getfield 46, 3) := by decide +kernel
theorem dX2_drift_47 : decode cX2_drift 47 = .ok (.iload_n 1, 1) := by decide +kernel
theorem dX2_drift_48 : decode cX2_drift 48 = .ok (.iadd, 1) := by decide +kernel
theorem dX2_drift_49 : decode cX2_drift 49 = .ok (.putfield 46, 3) := by decide +kernel
theorem dX2_drift_52 : decode cX2_drift 52 = .ok (.aload_n 0, 1) := by decide +kernel
theorem dX2_drift_53 : decode cX2_drift 53 = .ok (.dup, 1) := by decide +kernel
theorem dX2_drift_54 : decode cX2_drift 54 = .ok (.getfield 43, 3) := by decide +kernel
theorem dX2_drift_57 : decode cX2_drift 57 = .ok (.iconst 1, 1) := by decide +kernel
theorem dX2_drift_58 : decode cX2_drift 58 = .ok (.iadd, 1) := by decide +kernel
theorem dX2_drift_59 : decode cX2_drift 59 = .ok (.putfield 43, 3) := by decide +kernel
theorem dX2_drift_62 : decode cX2_drift 62 = .ok (.iload_n 1, 1) := by decide +kernel
theorem dX2_drift_63 : decode cX2_drift 63 = .ok (.ireturn, 1) := by decide +kernel
theorem dX2_moves_0 : decode cX2_moves 0 = .ok (.aload_n 0, 1) := by decide +kernel
theorem dX2_moves_1 : decode cX2_moves 1 = .ok (.iload_n 1, 1) := by decide +kernel
theorem dX2_moves_2 : decode cX2_moves 2 = .ok (.invokevirtual 99, 3) := by decide +kernel
theorem dX2_moves_5 : decode cX2_moves 5 = .ok (.istore_n 2, 1) := by decide +kernel
theorem dX2_moves_6 : decode cX2_moves 6 = .ok (.iload_n 2, 1) := by decide +kernel
theorem dX2_moves_7 : decode cX2_moves 7 = .ok (.ifCond .ne 5, 3) := by decide +kernel
theorem dX2_moves_10 : decode cX2_moves 10 = .ok (.iconst 1, 1) := by decide +kernel
theorem dX2_moves_11 : decode cX2_moves 11 = .ok (.ireturn, 1) := by decide +kernel
theorem dX2_moves_12 : decode cX2_moves 12 = .ok (.aload_n 0, 1) := by decide +kernel
theorem dX2_moves_13 : decode cX2_moves 13 = .ok (.iload_n 1, 1) := by decide +kernel
theorem dX2_moves_14 : decode cX2_moves 14 = .ok (.iload_n 2, 1) := by decide +kernel
theorem dX2_moves_15 : decode cX2_moves 15 = .ok (.invokevirtual 102, 3) := by decide +kernel
theorem dX2_moves_18 : decode cX2_moves 18 = .ok (.ifCond .eq 5, 3) := by decide +kernel
theorem dX2_moves_21 : decode cX2_moves 21 = .ok (.iconst 0, 1) := by decide +kernel
theorem dX2_moves_22 : decode cX2_moves 22 = .ok (.ireturn, 1) := by decide +kernel
theorem dX2_moves_23 : decode cX2_moves 23 = .ok (.iconst 0, 1) := by decide +kernel
theorem dX2_moves_24 : decode cX2_moves 24 = .ok (.istore_n 3, 1) := by decide +kernel
theorem dX2_moves_25 : decode cX2_moves 25 = .ok (.iload_n 3, 1) := by decide +kernel
theorem dX2_moves_26 : decode cX2_moves 26 = .ok (.aload_n 0, 1) := by decide +kernel
theorem dX2_moves_27 : decode cX2_moves 27 = .ok (.getfield 30, 3) := by decide +kernel
theorem dX2_moves_30 : decode cX2_moves 30 = .ok (.if_icmp .ge 34, 3) := by decide +kernel
theorem dX2_moves_33 : decode cX2_moves 33 = .ok (.iload_n 1, 1) := by decide +kernel
theorem dX2_moves_34 : decode cX2_moves 34 = .ok (.iload_n 3, 1) := by decide +kernel
theorem dX2_moves_35 : decode cX2_moves 35 = .ok (.ishr, 1) := by decide +kernel
theorem dX2_moves_36 : decode cX2_moves 36 = .ok (.iconst 1, 1) := by decide +kernel
theorem dX2_moves_37 : decode cX2_moves 37 = .ok (.iand, 1) := by decide +kernel
theorem dX2_moves_38 : decode cX2_moves 38 = .ok (.iconst 1, 1) := by decide +kernel
theorem dX2_moves_39 : decode cX2_moves 39 = .ok (.if_icmp .ne 19, 3) := by decide +kernel
theorem dX2_moves_42 : decode cX2_moves 42 = .ok (.aload_n 0, 1) := by decide +kernel
theorem dX2_moves_43 : decode cX2_moves 43 = .ok (.getfield 21, 3) := by decide +kernel
theorem dX2_moves_46 : decode cX2_moves 46 = .ok (.iload_n 3, 1) := by decide +kernel
theorem dX2_moves_47 : decode cX2_moves 47 = .ok (.aload_n 0, 1) := by decide +kernel
theorem dX2_moves_48 : decode cX2_moves 48 = .ok (.getfield 21, 3) := by decide +kernel
theorem dX2_moves_51 : decode cX2_moves 51 = .ok (.iload_n 3, 1) := by decide +kernel
theorem dX2_moves_52 : decode cX2_moves 52 = .ok (.iaload, 1) := by decide +kernel
theorem dX2_moves_53 : decode cX2_moves 53 = .ok (.iload_n 2, 1) := by decide +kernel
theorem dX2_moves_54 : decode cX2_moves 54 = .ok (.invokestatic 61, 3) := by decide +kernel
theorem dX2_moves_57 : decode cX2_moves 57 = .ok (.iastore, 1) := by decide +kernel
theorem dX2_moves_58 : decode cX2_moves 58 = .ok (.iinc 3 1, 3) := by decide +kernel
theorem dX2_moves_61 : decode cX2_moves 61 = .ok (.goto (-36), 3) := by decide +kernel
theorem dX2_moves_64 : decode cX2_moves 64 = .ok (.iconst 1, 1) := by decide +kernel
theorem dX2_moves_65 : decode cX2_moves 65 = .ok (.ireturn, 1) := by decide +kernel
theorem dX2_stepOf_0 : decode cX2_stepOf 0 = .ok (.iconst 0, 1) := by decide +kernel
theorem dX2_stepOf_1 : decode cX2_stepOf 1 = .ok (.istore_n 2, 1) := by decide +kernel
theorem dX2_stepOf_2 : decode cX2_stepOf 2 = .ok (.iconst 0, 1) := by decide +kernel
theorem dX2_stepOf_3 : decode cX2_stepOf 3 = .ok (.istore_n 3, 1) := by decide +kernel
theorem dX2_stepOf_4 : decode cX2_stepOf 4 = .ok (.iload_n 3, 1) := by decide +kernel
theorem dX2_stepOf_5 : decode cX2_stepOf 5 = .ok (.aload_n 0, 1) := by decide +kernel
theorem dX2_stepOf_6 : decode cX2_stepOf 6 = .ok (.getfield 30, 3) := by decide +kernel
theorem dX2_stepOf_9 : decode cX2_stepOf 9 = .ok (.if_icmp .ge 33, 3) := by decide +kernel
theorem dX2_stepOf_12 : decode cX2_stepOf 12 = .ok (.iload_n 1, 1) := by decide +kernel
theorem dX2_stepOf_13 : decode cX2_stepOf 13 = .ok (.iload_n 3, 1) := by decide +kernel
theorem dX2_stepOf_14 : decode cX2_stepOf 14 = .ok (.ishr, 1) := by decide +kernel
theorem dX2_stepOf_15 : decode cX2_stepOf 15 = .ok (.iconst 1, 1) := by decide +kernel
theorem dX2_stepOf_16 : decode cX2_stepOf 16 = .ok (.iand, 1) := by decide +kernel
theorem dX2_stepOf_17 : decode cX2_stepOf 17 = .ok (.iconst 1, 1) := by decide +kernel
theorem dX2_stepOf_18 : decode cX2_stepOf 18 = .ok (.if_icmp .ne 18, 3) := by decide +kernel
theorem dX2_stepOf_21 : decode cX2_stepOf 21 = .ok (.iload_n 2, 1) := by decide +kernel
theorem dX2_stepOf_22 : decode cX2_stepOf 22 = .ok (.aload_n 0, 1) := by decide +kernel
theorem dX2_stepOf_23 : decode cX2_stepOf 23 = .ok (.iload_n 3, 1) := by decide +kernel
theorem dX2_stepOf_24 : decode cX2_stepOf 24 = .ok (.invokevirtual 105, 3) := by decide +kernel
theorem dX2_stepOf_27 : decode cX2_stepOf 27 = .ok (.aload_n 0, 1) := by decide +kernel
theorem dX2_stepOf_28 : decode cX2_stepOf 28 = .ok (.getfield 18, 3) := by decide +kernel
theorem dX2_stepOf_31 : decode cX2_stepOf 31 = .ok (.iload_n 3, 1) := by decide +kernel
theorem dX2_stepOf_32 : decode cX2_stepOf 32 = .ok (.iaload, 1) := by decide +kernel
theorem dX2_stepOf_33 : decode cX2_stepOf 33 = .ok (.imul, 1) := by decide +kernel
theorem dX2_stepOf_34 : decode cX2_stepOf 34 = .ok (.iadd, 1) := by decide +kernel
theorem dX2_stepOf_35 : decode cX2_stepOf 35 = .ok (.istore_n 2, 1) := by decide +kernel
theorem dX2_stepOf_36 : decode cX2_stepOf 36 = .ok (.iinc 3 1, 3) := by decide +kernel
theorem dX2_stepOf_39 : decode cX2_stepOf 39 = .ok (.goto (-35), 3) := by decide +kernel
theorem dX2_stepOf_42 : decode cX2_stepOf 42 = .ok (.iload_n 2, 1) := by decide +kernel
theorem dX2_stepOf_43 : decode cX2_stepOf 43 = .ok (.iconst 0, 1) := by decide +kernel
theorem dX2_stepOf_44 : decode cX2_stepOf 44 = .ok (.invokestatic 108, 3) := by decide +kernel
theorem dX2_stepOf_47 : decode cX2_stepOf 47 = .ok (.ireturn, 1) := by decide +kernel
theorem dX2_isBarred_0 : decode cX2_isBarred 0 = .ok (.iconst 0, 1) := by decide +kernel
theorem dX2_isBarred_1 : decode cX2_isBarred 1 = .ok (.istore_n 3, 1) := by decide +kernel
theorem dX2_isBarred_2 : decode cX2_isBarred 2 = .ok (.iconst 0, 1) := by decide +kernel
theorem dX2_isBarred_3 : decode cX2_isBarred 3 = .ok (.istore 4, 2) := by decide +kernel
theorem dX2_isBarred_5 : decode cX2_isBarred 5 = .ok (.iconst 0, 1) := by decide +kernel
theorem dX2_isBarred_6 : decode cX2_isBarred 6 = .ok (.istore 5, 2) := by decide +kernel
theorem dX2_isBarred_8 : decode cX2_isBarred 8 = .ok (.iload 5, 2) := by decide +kernel
theorem dX2_isBarred_10 : decode cX2_isBarred 10 = .ok (.aload_n 0, 1) := by decide +kernel
theorem dX2_isBarred_11 : decode cX2_isBarred 11 = .ok (.getfield 30, 3) := by decide +kernel
theorem dX2_isBarred_14 : decode cX2_isBarred 14 = .ok (.if_icmp .ge 52, 3) := by decide +kernel
theorem dX2_isBarred_17 : decode cX2_isBarred 17 = .ok (.iload_n 1, 1) := by decide +kernel
theorem dX2_isBarred_18 : decode cX2_isBarred 18 = .ok (.iload 5, 2) := by decide +kernel
theorem dX2_isBarred_20 : decode cX2_isBarred 20 = .ok (.ishr, 1) := by decide +kernel
theorem dX2_isBarred_21 : decode cX2_isBarred 21 = .ok (.iconst 1, 1) := by decide +kernel
theorem dX2_isBarred_22 : decode cX2_isBarred 22 = .ok (.iand, 1) := by decide +kernel
theorem dX2_isBarred_23 : decode cX2_isBarred 23 = .ok (.iconst 1, 1) := by decide +kernel
theorem dX2_isBarred_24 : decode cX2_isBarred 24 = .ok (.if_icmp .ne 22, 3) := by decide +kernel
theorem dX2_isBarred_27 : decode cX2_isBarred 27 = .ok (.iload_n 3, 1) := by decide +kernel
theorem dX2_isBarred_28 : decode cX2_isBarred 28 = .ok (.iconst 1, 1) := by decide +kernel
theorem dX2_isBarred_29 : decode cX2_isBarred 29 = .ok (.aload_n 0, 1) := by decide +kernel
theorem dX2_isBarred_30 : decode cX2_isBarred 30 = .ok (.getfield 21, 3) := by decide +kernel
theorem dX2_isBarred_33 : decode cX2_isBarred 33 = .ok (.iload 5, 2) := by decide +kernel
theorem dX2_isBarred_35 : decode cX2_isBarred 35 = .ok (.iaload, 1) := by decide +kernel
theorem dX2_isBarred_36 : decode cX2_isBarred 36 = .ok (.iload_n 2, 1) := by decide +kernel
theorem dX2_isBarred_37 : decode cX2_isBarred 37 = .ok (.invokestatic 61, 3) := by decide +kernel
theorem dX2_isBarred_40 : decode cX2_isBarred 40 = .ok (.ishl, 1) := by decide +kernel
theorem dX2_isBarred_41 : decode cX2_isBarred 41 = .ok (.ior, 1) := by decide +kernel
theorem dX2_isBarred_42 : decode cX2_isBarred 42 = .ok (.istore_n 3, 1) := by decide +kernel
theorem dX2_isBarred_43 : decode cX2_isBarred 43 = .ok (.goto 17, 3) := by decide +kernel
theorem dX2_isBarred_46 : decode cX2_isBarred 46 = .ok (.iload 4, 2) := by decide +kernel
theorem dX2_isBarred_48 : decode cX2_isBarred 48 = .ok (.iconst 1, 1) := by decide +kernel
theorem dX2_isBarred_49 : decode cX2_isBarred 49 = .ok (.aload_n 0, 1) := by decide +kernel
theorem dX2_isBarred_50 : decode cX2_isBarred 50 = .ok (.getfield 21, 3) := by decide +kernel
theorem dX2_isBarred_53 : decode cX2_isBarred 53 = .ok (.iload 5, 2) := by decide +kernel
theorem dX2_isBarred_55 : decode cX2_isBarred 55 = .ok (.iaload, 1) := by decide +kernel
theorem dX2_isBarred_56 : decode cX2_isBarred 56 = .ok (.ishl, 1) := by decide +kernel
theorem dX2_isBarred_57 : decode cX2_isBarred 57 = .ok (.ior, 1) := by decide +kernel
theorem dX2_isBarred_58 : decode cX2_isBarred 58 = .ok (.istore 4, 2) := by decide +kernel
theorem dX2_isBarred_60 : decode cX2_isBarred 60 = .ok (.iinc 5 1, 3) := by decide +kernel
theorem dX2_isBarred_63 : decode cX2_isBarred 63 = .ok (.goto (-55), 3) := by decide +kernel
theorem dX2_isBarred_66 : decode cX2_isBarred 66 = .ok (.iload_n 3, 1) := by decide +kernel
theorem dX2_isBarred_67 : decode cX2_isBarred 67 = .ok (.iload 4, 2) := by decide +kernel
theorem dX2_isBarred_69 : decode cX2_isBarred 69 = .ok (.iand, 1) := by decide +kernel
theorem dX2_isBarred_70 : decode cX2_isBarred 70 = .ok (.ifCond .eq 7, 3) := by decide +kernel
theorem dX2_isBarred_73 : decode cX2_isBarred 73 = .ok (.iconst 1, 1) := by decide +kernel
theorem dX2_isBarred_74 : decode cX2_isBarred 74 = .ok (.goto 4, 3) := by decide +kernel
theorem dX2_isBarred_77 : decode cX2_isBarred 77 = .ok (.iconst 0, 1) := by decide +kernel
theorem dX2_isBarred_78 : decode cX2_isBarred 78 = .ok (.ireturn, 1) := by decide +kernel
theorem dX2_stepped_0 : decode cX2_stepped 0 = .ok (.iload_n 0, 1) := by decide +kernel
theorem dX2_stepped_1 : decode cX2_stepped 1 = .ok (.iload_n 1, 1) := by decide +kernel
theorem dX2_stepped_2 : decode cX2_stepped 2 = .ok (.iadd, 1) := by decide +kernel
theorem dX2_stepped_3 : decode cX2_stepped 3 = .ok (.istore_n 2, 1) := by decide +kernel
theorem dX2_stepped_4 : decode cX2_stepped 4 = .ok (.iload_n 2, 1) := by decide +kernel
theorem dX2_stepped_5 : decode cX2_stepped 5 = .ok (.ifCond .ge 6, 3) := by decide +kernel
theorem dX2_stepped_8 : decode cX2_stepped 8 = .ok (.bipush 11, 2) := by decide +kernel
theorem dX2_stepped_10 : decode cX2_stepped 10 = .ok (.ireturn, 1) := by decide +kernel
theorem dX2_stepped_11 : decode cX2_stepped 11 = .ok (.iload_n 2, 1) := by decide +kernel
theorem dX2_stepped_12 : decode cX2_stepped 12 = .ok (.bipush 12, 2) := by decide +kernel
theorem dX2_stepped_14 : decode cX2_stepped 14 = .ok (.if_icmp .ge 7, 3) := by decide +kernel
theorem dX2_stepped_17 : decode cX2_stepped 17 = .ok (.iload_n 2, 1) := by decide +kernel
theorem dX2_stepped_18 : decode cX2_stepped 18 = .ok (.goto 4, 3) := by decide +kernel
theorem dX2_stepped_21 : decode cX2_stepped 21 = .ok (.iconst 0, 1) := by decide +kernel
theorem dX2_stepped_22 : decode cX2_stepped 22 = .ok (.ireturn, 1) := by decide +kernel
theorem dJ6_compare_7cf53_0 : decode cJ6_compare_7cf53 0 = .ok (.iload_n 0, 1) := by decide +kernel
theorem dJ6_compare_7cf53_1 : decode cJ6_compare_7cf53 1 = .ok (.iload_n 1, 1) := by decide +kernel
theorem dJ6_compare_7cf53_2 : decode cJ6_compare_7cf53 2 = .ok (.if_icmp .ge 7, 3) := by decide +kernel
theorem dJ6_compare_7cf53_5 : decode cJ6_compare_7cf53 5 = .ok (.iconst (-1), 1) := by decide +kernel
theorem dJ6_compare_7cf53_6 : decode cJ6_compare_7cf53 6 = .ok (.goto 13, 3) := by decide +kernel
theorem dJ6_compare_7cf53_9 : decode cJ6_compare_7cf53 9 = .ok (.iload_n 0, 1) := by decide +kernel
theorem dJ6_compare_7cf53_10 : decode cJ6_compare_7cf53 10 = .ok (.iload_n 1, 1) := by decide +kernel
theorem dJ6_compare_7cf53_11 : decode cJ6_compare_7cf53 11 = .ok (.if_icmp .ne 7, 3) := by decide +kernel
theorem dJ6_compare_7cf53_14 : decode cJ6_compare_7cf53 14 = .ok (.iconst 0, 1) := by decide +kernel
theorem dJ6_compare_7cf53_15 : decode cJ6_compare_7cf53 15 = .ok (.goto 4, 3) := by decide +kernel
theorem dJ6_compare_7cf53_18 : decode cJ6_compare_7cf53 18 = .ok (.iconst 1, 1) := by decide +kernel
theorem dJ6_compare_7cf53_19 : decode cJ6_compare_7cf53 19 = .ok (.ireturn, 1) := by decide +kernel
theorem dJ6_bitCount_0f7a4_0 : decode cJ6_bitCount_0f7a4 0 = .ok (.iload_n 0, 1) := by decide +kernel
theorem dJ6_bitCount_0f7a4_1 : decode cJ6_bitCount_0f7a4 1 = .ok (.iload_n 0, 1) := by decide +kernel
theorem dJ6_bitCount_0f7a4_2 : decode cJ6_bitCount_0f7a4 2 = .ok (.iconst 1, 1) := by decide +kernel
theorem dJ6_bitCount_0f7a4_3 : decode cJ6_bitCount_0f7a4 3 = .ok (.iushr, 1) := by decide +kernel
theorem dJ6_bitCount_0f7a4_4 : decode cJ6_bitCount_0f7a4 4 = .ok (.ldc_w 265, 3) := by decide +kernel
theorem dJ6_bitCount_0f7a4_7 : decode cJ6_bitCount_0f7a4 7 = .ok (.iand, 1) := by decide +kernel
theorem dJ6_bitCount_0f7a4_8 : decode cJ6_bitCount_0f7a4 8 = .ok (.isub, 1) := by decide +kernel
theorem dJ6_bitCount_0f7a4_9 : decode cJ6_bitCount_0f7a4 9 = .ok (.istore_n 0, 1) := by decide +kernel
theorem dJ6_bitCount_0f7a4_10 : decode cJ6_bitCount_0f7a4 10 = .ok (.iload_n 0, 1) := by decide +kernel
theorem dJ6_bitCount_0f7a4_11 : decode cJ6_bitCount_0f7a4 11 = .ok (.ldc_w 266, 3) := by decide +kernel
theorem dJ6_bitCount_0f7a4_14 : decode cJ6_bitCount_0f7a4 14 = .ok (.iand, 1) := by decide +kernel
theorem dJ6_bitCount_0f7a4_15 : decode cJ6_bitCount_0f7a4 15 = .ok (.iload_n 0, 1) := by decide +kernel
theorem dJ6_bitCount_0f7a4_16 : decode cJ6_bitCount_0f7a4 16 = .ok (.iconst 2, 1) := by decide +kernel
theorem dJ6_bitCount_0f7a4_17 : decode cJ6_bitCount_0f7a4 17 = .ok (.iushr, 1) := by decide +kernel
theorem dJ6_bitCount_0f7a4_18 : decode cJ6_bitCount_0f7a4 18 = .ok (.ldc_w 266, 3) := by decide +kernel
theorem dJ6_bitCount_0f7a4_21 : decode cJ6_bitCount_0f7a4 21 = .ok (.iand, 1) := by decide +kernel
theorem dJ6_bitCount_0f7a4_22 : decode cJ6_bitCount_0f7a4 22 = .ok (.iadd, 1) := by decide +kernel
theorem dJ6_bitCount_0f7a4_23 : decode cJ6_bitCount_0f7a4 23 = .ok (.istore_n 0, 1) := by decide +kernel
theorem dJ6_bitCount_0f7a4_24 : decode cJ6_bitCount_0f7a4 24 = .ok (.iload_n 0, 1) := by decide +kernel
theorem dJ6_bitCount_0f7a4_25 : decode cJ6_bitCount_0f7a4 25 = .ok (.iload_n 0, 1) := by decide +kernel
theorem dJ6_bitCount_0f7a4_26 : decode cJ6_bitCount_0f7a4 26 = .ok (.iconst 4, 1) := by decide +kernel
theorem dJ6_bitCount_0f7a4_27 : decode cJ6_bitCount_0f7a4 27 = .ok (.iushr, 1) := by decide +kernel
theorem dJ6_bitCount_0f7a4_28 : decode cJ6_bitCount_0f7a4 28 = .ok (.iadd, 1) := by decide +kernel
theorem dJ6_bitCount_0f7a4_29 : decode cJ6_bitCount_0f7a4 29 = .ok (.ldc_w 267, 3) := by decide +kernel
theorem dJ6_bitCount_0f7a4_32 : decode cJ6_bitCount_0f7a4 32 = .ok (.iand, 1) := by decide +kernel
theorem dJ6_bitCount_0f7a4_33 : decode cJ6_bitCount_0f7a4 33 = .ok (.istore_n 0, 1) := by decide +kernel
theorem dJ6_bitCount_0f7a4_34 : decode cJ6_bitCount_0f7a4 34 = .ok (.iload_n 0, 1) := by decide +kernel
theorem dJ6_bitCount_0f7a4_35 : decode cJ6_bitCount_0f7a4 35 = .ok (.iload_n 0, 1) := by decide +kernel
theorem dJ6_bitCount_0f7a4_36 : decode cJ6_bitCount_0f7a4 36 = .ok (.bipush 8, 2) := by decide +kernel
theorem dJ6_bitCount_0f7a4_38 : decode cJ6_bitCount_0f7a4 38 = .ok (.iushr, 1) := by decide +kernel
theorem dJ6_bitCount_0f7a4_39 : decode cJ6_bitCount_0f7a4 39 = .ok (.iadd, 1) := by decide +kernel
theorem dJ6_bitCount_0f7a4_40 : decode cJ6_bitCount_0f7a4 40 = .ok (.istore_n 0, 1) := by decide +kernel
theorem dJ6_bitCount_0f7a4_41 : decode cJ6_bitCount_0f7a4 41 = .ok (.iload_n 0, 1) := by decide +kernel
theorem dJ6_bitCount_0f7a4_42 : decode cJ6_bitCount_0f7a4 42 = .ok (.iload_n 0, 1) := by decide +kernel
theorem dJ6_bitCount_0f7a4_43 : decode cJ6_bitCount_0f7a4 43 = .ok (.bipush 16, 2) := by decide +kernel
theorem dJ6_bitCount_0f7a4_45 : decode cJ6_bitCount_0f7a4 45 = .ok (.iushr, 1) := by decide +kernel
theorem dJ6_bitCount_0f7a4_46 : decode cJ6_bitCount_0f7a4 46 = .ok (.iadd, 1) := by decide +kernel
theorem dJ6_bitCount_0f7a4_47 : decode cJ6_bitCount_0f7a4 47 = .ok (.istore_n 0, 1) := by decide +kernel
theorem dJ6_bitCount_0f7a4_48 : decode cJ6_bitCount_0f7a4 48 = .ok (.iload_n 0, 1) := by decide +kernel
theorem dJ6_bitCount_0f7a4_49 : decode cJ6_bitCount_0f7a4 49 = .ok (.bipush 63, 2) := by decide +kernel
theorem dJ6_bitCount_0f7a4_51 : decode cJ6_bitCount_0f7a4 51 = .ok (.iand, 1) := by decide +kernel
theorem dJ6_bitCount_0f7a4_52 : decode cJ6_bitCount_0f7a4 52 = .ok (.ireturn, 1) := by decide +kernel
theorem dJ9_max_7cf53_0 : decode cJ9_max_7cf53 0 = .ok (.iload_n 0, 1) := by decide +kernel
theorem dJ9_max_7cf53_1 : decode cJ9_max_7cf53 1 = .ok (.iload_n 1, 1) := by decide +kernel
theorem dJ9_max_7cf53_2 : decode cJ9_max_7cf53 2 = .ok (.if_icmp .lt 7, 3) := by decide +kernel
theorem dJ9_max_7cf53_5 : decode cJ9_max_7cf53 5 = .ok (.iload_n 0, 1) := by decide +kernel
theorem dJ9_max_7cf53_6 : decode cJ9_max_7cf53 6 = .ok (.goto 4, 3) := by decide +kernel
theorem dJ9_max_7cf53_9 : decode cJ9_max_7cf53 9 = .ok (.iload_n 1, 1) := by decide +kernel
theorem dJ9_max_7cf53_10 : decode cJ9_max_7cf53 10 = .ok (.ireturn, 1) := by decide +kernel
theorem dJ9_min_7cf53_0 : decode cJ9_min_7cf53 0 = .ok (.iload_n 0, 1) := by decide +kernel
theorem dJ9_min_7cf53_1 : decode cJ9_min_7cf53 1 = .ok (.iload_n 1, 1) := by decide +kernel
theorem dJ9_min_7cf53_2 : decode cJ9_min_7cf53 2 = .ok (.if_icmp .gt 7, 3) := by decide +kernel
theorem dJ9_min_7cf53_5 : decode cJ9_min_7cf53 5 = .ok (.iload_n 0, 1) := by decide +kernel
theorem dJ9_min_7cf53_6 : decode cJ9_min_7cf53 6 = .ok (.goto 4, 3) := by decide +kernel
theorem dJ9_min_7cf53_9 : decode cJ9_min_7cf53 9 = .ok (.iload_n 1, 1) := by decide +kernel
theorem dJ9_min_7cf53_10 : decode cJ9_min_7cf53 10 = .ok (.ireturn, 1) := by decide +kernel
theorem dJ7_fill_53178_0 : decode cJ7_fill_53178 0 = .ok (.iconst 0, 1) := by decide +kernel
theorem dJ7_fill_53178_1 : decode cJ7_fill_53178 1 = .ok (.istore_n 2, 1) := by decide +kernel
theorem dJ7_fill_53178_2 : decode cJ7_fill_53178 2 = .ok (.aload_n 0, 1) := by decide +kernel
theorem dJ7_fill_53178_3 : decode cJ7_fill_53178 3 = .ok (.arraylength, 1) := by decide +kernel
theorem dJ7_fill_53178_4 : decode cJ7_fill_53178 4 = .ok (.istore_n 3, 1) := by decide +kernel
theorem dJ7_fill_53178_5 : decode cJ7_fill_53178 5 = .ok (.iload_n 2, 1) := by decide +kernel
theorem dJ7_fill_53178_6 : decode cJ7_fill_53178 6 = .ok (.iload_n 3, 1) := by decide +kernel
theorem dJ7_fill_53178_7 : decode cJ7_fill_53178 7 = .ok (.if_icmp .ge 13, 3) := by decide +kernel
theorem dJ7_fill_53178_10 : decode cJ7_fill_53178 10 = .ok (.aload_n 0, 1) := by decide +kernel
theorem dJ7_fill_53178_11 : decode cJ7_fill_53178 11 = .ok (.iload_n 2, 1) := by decide +kernel
theorem dJ7_fill_53178_12 : decode cJ7_fill_53178 12 = .ok (.iload_n 1, 1) := by decide +kernel
theorem dJ7_fill_53178_13 : decode cJ7_fill_53178 13 = .ok (.iastore, 1) := by decide +kernel
theorem dJ7_fill_53178_14 : decode cJ7_fill_53178 14 = .ok (.iinc 2 1, 3) := by decide +kernel
theorem dJ7_fill_53178_17 : decode cJ7_fill_53178 17 = .ok (.goto (-12), 3) := by decide +kernel
theorem dJ7_fill_53178_20 : decode cJ7_fill_53178 20 = .ok (.return_, 1) := by decide +kernel
end
section
theorem dX3_init_0 : decode cX3_init 0 = .ok (.aload_n 0, 1) := by decide +kernel
theorem dX3_init_1 : decode cX3_init 1 = .ok (.invokespecial 1, 3) := by decide +kernel
theorem dX3_init_4 : decode cX3_init 4 = .ok (.aload_n 0, 1) := by decide +kernel
theorem dX3_init_5 : decode cX3_init 5 = .ok (.bipush 14, 2) := by decide +kernel
theorem dX3_init_7 : decode cX3_init 7 = .ok (.newarray .int, 2) := by decide +kernel
theorem dX3_init_9 : decode cX3_init 9 = .ok (.putfield 9, 3) := by decide +kernel
theorem dX3_init_12 : decode cX3_init 12 = .ok (.aload_n 0, 1) := by decide +kernel
theorem dX3_init_13 : decode cX3_init 13 = .ok (.iconst 0, 1) := by decide +kernel
theorem dX3_init_14 : decode cX3_init 14 = .ok (.putfield 13, 3) := by decide +kernel
theorem dX3_init_17 : decode cX3_init 17 = .ok (.aload_n 0, 1) := by decide +kernel
theorem dX3_init_18 : decode cX3_init 18 = .ok (.iconst 0, 1) := by decide +kernel
theorem dX3_init_19 : decode cX3_init 19 = .ok (.putfield 17, 3) := by decide +kernel
theorem dX3_init_22 : decode cX3_init 22 = .ok (.aload_n 0, 1) := by decide +kernel
theorem dX3_init_23 : decode cX3_init 23 = .ok (.iconst 0, 1) := by decide +kernel
theorem dX3_init_24 : decode cX3_init 24 = .ok (.putfield 21, 3) := by decide +kernel
theorem dX3_init_27 : decode cX3_init 27 = .ok (.aload_n 0, 1) := by decide +kernel
theorem dX3_init_28 : decode cX3_init 28 = .ok (.iconst 0, 1) := by decide +kernel
theorem dX3_init_29 : decode cX3_init 29 = .ok (.putfield 24, 3) := by decide +kernel
theorem dX3_init_32 : decode cX3_init 32 = .ok (.aload_n 0, 1) := by decide +kernel
theorem dX3_init_33 : decode cX3_init 33 = .ok (.iconst 0, 1) := by decide +kernel
theorem dX3_init_34 : decode cX3_init 34 = .ok (.putfield 27, 3) := by decide +kernel
theorem dX3_init_37 : decode cX3_init 37 = .ok (.aload_n 0, 1) := by decide +kernel
theorem dX3_init_38 : decode cX3_init 38 = .ok (.new 30, 3) := by decide +kernel
theorem dX3_init_41 : decode cX3_init 41 = .ok (.dup, 1) := by decide +kernel
theorem dX3_init_42 : decode cX3_init 42 = .ok (.invokespecial 32, 3) := by decide +kernel
theorem dX3_init_45 : decode cX3_init 45 = .ok (.putfield 33, 3) := by decide +kernel
theorem dX3_init_48 : decode cX3_init 48 = .ok (.aload_n 0, 1) := by decide +kernel
theorem dX3_init_49 : decode cX3_init 49 = .ok (.new 30, 3) := by decide +kernel
theorem dX3_init_52 : decode cX3_init 52 = .ok (.dup, 1) := by decide +kernel
theorem dX3_init_53 : decode cX3_init 53 = .ok (.invokespecial 32, 3) := by decide +kernel
theorem dX3_init_56 : decode cX3_init 56 = .ok (.putfield 37, 3) := by decide +kernel
theorem dX3_init_59 : decode cX3_init 59 = .ok (.aload_n 0, 1) := by decide +kernel
theorem dX3_init_60 : decode cX3_init 60 = .ok (.new 30, 3) := by decide +kernel
theorem dX3_init_63 : decode cX3_init 63 = .ok (.dup, 1) := by decide +kernel
theorem dX3_init_64 : decode cX3_init 64 = .ok (.invokespecial 32, 3) := by decide +kernel
theorem dX3_init_67 : decode cX3_init 67 = .ok (.putfield 40, 3) := by decide +kernel
theorem dX3_init_70 : decode cX3_init 70 = .ok (.aload_n 0, 1) := by decide +kernel
theorem dX3_init_71 : decode cX3_init 71 = .ok (.new 43, 3) := by decide +kernel
theorem dX3_init_74 : decode cX3_init 74 = .ok (.dup, 1) := by decide +kernel
theorem dX3_init_75 : decode cX3_init 75 = .ok (.invokespecial 45, 3) := by decide +kernel
theorem dX3_init_78 : decode cX3_init 78 = .ok (.putfield 46, 3) := by decide +kernel
theorem dX3_init_81 : decode cX3_init 81 = .ok (.aload_n 0, 1) := by decide +kernel
theorem dX3_init_82 : decode cX3_init 82 = .ok (.new 43, 3) := by decide +kernel
theorem dX3_init_85 : decode cX3_init 85 = .ok (.dup, 1) := by decide +kernel
theorem dX3_init_86 : decode cX3_init 86 = .ok (.invokespecial 45, 3) := by decide +kernel
theorem dX3_init_89 : decode cX3_init 89 = .ok (.putfield 50, 3) := by decide +kernel
theorem dX3_init_92 : decode cX3_init 92 = .ok (.aload_n 0, 1) := by decide +kernel
theorem dX3_init_93 : decode cX3_init 93 = .ok (.bipush 25, 2) := by decide +kernel
theorem dX3_init_95 : decode cX3_init 95 = .ok (.newarray .int, 2) := by decide +kernel
theorem dX3_init_97 : decode cX3_init 97 = .ok (.putfield 53, 3) := by decide +kernel
theorem dX3_init_100 : decode cX3_init 100 = .ok (.aload_n 0, 1) := by decide +kernel
theorem dX3_init_101 : decode cX3_init 101 = .ok (.new 56, 3) := by decide +kernel
theorem dX3_init_104 : decode cX3_init 104 = .ok (.dup, 1) := by decide +kernel
theorem dX3_init_105 : decode cX3_init 105 = .ok (.invokespecial 58, 3) := by decide +kernel
theorem dX3_init_108 : decode cX3_init 108 = .ok (.putfield 59, 3) := by decide +kernel
theorem dX3_init_111 : decode cX3_init 111 = .ok (.return_, 1) := by decide +kernel
theorem dX3_letter_0 : decode cX3_letter 0 = .ok (.iload_n 1, 1) := by decide +kernel
theorem dX3_letter_1 : decode cX3_letter 1 = .ok (.iconst 1, 1) := by decide +kernel
theorem dX3_letter_2 : decode cX3_letter 2 = .ok (.if_icmp .lt 9, 3) := by decide +kernel
theorem dX3_letter_5 : decode cX3_letter 5 = .ok (.iload_n 1, 1) := by decide +kernel
theorem dX3_letter_6 : decode cX3_letter 6 = .ok (.bipush 126, 2) := by decide +kernel
theorem dX3_letter_8 : decode cX3_letter 8 = .ok (.if_icmp .le 6, 3) := by decide +kernel
theorem dX3_letter_11 : decode cX3_letter 11 = .ok (.bipush (-102), 2) := by decide +kernel
theorem dX3_letter_13 : decode cX3_letter 13 = .ok (.ireturn, 1) := by decide +kernel
theorem dX3_letter_14 : decode cX3_letter 14 = .ok (.aload_n 0, 1) := by decide +kernel
theorem dX3_letter_15 : decode cX3_letter 15 = .ok (.getfield 13, 3) := by decide +kernel
theorem dX3_letter_18 : decode cX3_letter 18 = .ok (.bipush 14, 2) := by decide +kernel
theorem dX3_letter_20 : decode cX3_letter 20 = .ok (.if_icmp .lt 6, 3) := by decide +kernel
theorem dX3_letter_23 : decode cX3_letter 23 = .ok (.bipush (-104), 2) := by decide +kernel
theorem dX3_letter_25 : decode cX3_letter 25 = .ok (.ireturn, 1) := by decide +kernel
theorem dX3_letter_26 : decode cX3_letter 26 = .ok (.aload_n 0, 1) := by decide +kernel
theorem dX3_letter_27 : decode cX3_letter 27 = .ok (.getfield 9, 3) := by decide +kernel
theorem dX3_letter_30 : decode cX3_letter 30 = .ok (.aload_n 0, 1) := by decide +kernel
theorem dX3_letter_31 : decode cX3_letter 31 = .ok (.getfield 13, 3) := by decide +kernel
theorem dX3_letter_34 : decode cX3_letter 34 = .ok (.iload_n 1, 1) := by decide +kernel
theorem dX3_letter_35 : decode cX3_letter 35 = .ok (.iastore, 1) := by decide +kernel
theorem dX3_letter_36 : decode cX3_letter 36 = .ok (.aload_n 0, 1) := by decide +kernel
theorem dX3_letter_37 : decode cX3_letter 37 = .ok (.dup, 1) := by decide +kernel
theorem dX3_letter_38 : decode cX3_letter 38 = .ok (.getfield 13, 3) := by decide +kernel
theorem dX3_letter_41 : decode cX3_letter 41 = .ok (.iconst 1, 1) := by decide +kernel
theorem dX3_letter_42 : decode cX3_letter 42 = .ok (.iadd, 1) := by decide +kernel
theorem dX3_letter_43 : decode cX3_letter 43 = .ok (.putfield 13, 3) := by decide +kernel
theorem dX3_letter_46 : decode cX3_letter 46 = .ok (.aload_n 0, 1) := by decide +kernel
theorem dX3_letter_47 : decode cX3_letter 47 = .ok (.getfield 13, 3) := by decide +kernel
theorem dX3_letter_50 : decode cX3_letter 50 = .ok (.ireturn, 1) := by decide +kernel
theorem dX3_blank_0 : decode cX3_blank 0 = .ok (.aload_n 0, 1) := by decide +kernel
theorem dX3_blank_1 : decode cX3_blank 1 = .ok (.getfield 13, 3) := by decide +kernel
theorem dX3_blank_4 : decode cX3_blank 4 = .ok (.istore_n 1, 1) := by decide +kernel
theorem dX3_blank_5 : decode cX3_blank 5 = .ok (.aload_n 0, 1) := by decide +kernel
theorem dX3_blank_6 : decode cX3_blank 6 = .ok (.iconst 0, 1) := by decide +kernel
theorem dX3_blank_7 : decode cX3_blank 7 = .ok (.putfield 13, 3) := by decide +kernel
theorem dX3_blank_10 : decode cX3_blank 10 = .ok (.iload_n 1, 1) := by decide +kernel
theorem dX3_blank_11 : decode cX3_blank 11 = .ok (.ireturn, 1) := by decide +kernel
theorem dX3_fault_0 : decode cX3_fault 0 = .ok (.aload_n 0, 1) := by decide +kernel
theorem dX3_fault_1 : decode cX3_fault 1 = .ok (.getfield 13, 3) := by decide +kernel
theorem dX3_fault_4 : decode cX3_fault 4 = .ok (.bipush 12, 2) := by decide +kernel
theorem dX3_fault_6 : decode cX3_fault 6 = .ok (.invokestatic 63, 3) := by decide +kernel
theorem dX3_fault_9 : decode cX3_fault 9 = .ok (.istore_n 1, 1) := by decide +kernel
theorem dX3_fault_10 : decode cX3_fault 10 = .ok (.iconst 0, 1) := by decide +kernel
theorem dX3_fault_11 : decode cX3_fault 11 = .ok (.istore_n 2, 1) := by decide +kernel
theorem dX3_fault_12 : decode cX3_fault 12 = .ok (.iload_n 2, 1) := by decide +kernel
theorem dX3_fault_13 : decode cX3_fault 13 = .ok (.iload_n 1, 1) := by decide +kernel
theorem dX3_fault_14 : decode cX3_fault 14 = .ok (.if_icmp .ge 23, 3) := by decide +kernel
theorem dX3_fault_17 : decode cX3_fault 17 = .ok (.aload_n 0, 1) := by decide +kernel
theorem dX3_fault_18 : decode cX3_fault 18 = .ok (.getfield 9, 3) := by decide +kernel
theorem dX3_fault_21 : decode cX3_fault 21 = .ok (.iload_n 2, 1) := by decide +kernel
theorem dX3_fault_22 : decode cX3_fault 22 = .ok (.iaload, 1) := by decide +kernel
theorem dX3_fault_23 : decode cX3_fault 23 = .ok (.invokestatic 69, 3) := by decide +kernel
theorem dX3_fault_26 : decode cX3_fault 26 = .ok (.ifCond .ne 5, 3) := by decide +kernel
theorem dX3_fault_29 : decode cX3_fault 29 = .ok (.iload_n 2, 1) := by decide +kernel
theorem dX3_fault_30 : decode cX3_fault 30 = .ok (.ireturn, 1) := by decide +kernel
theorem dX3_fault_31 : decode cX3_fault 31 = .ok (.iinc 2 1, 3) := by decide +kernel
theorem dX3_fault_34 : decode cX3_fault 34 = .ok (.goto (-22), 3) := by decide +kernel
theorem dX3_fault_37 : decode cX3_fault 37 = .ok (.iload_n 1, 1) := by decide +kernel
theorem dX3_fault_38 : decode cX3_fault 38 = .ok (.ireturn, 1) := by decide +kernel
theorem dX3_sea_0 : decode cX3_sea 0 = .ok (.aload_n 0, 1) := by decide +kernel
theorem dX3_sea_1 : decode cX3_sea 1 = .ok (.getfield 13, 3) := by decide +kernel
theorem dX3_sea_4 : decode cX3_sea 4 = .ok (.bipush 12, 2) := by decide +kernel
theorem dX3_sea_6 : decode cX3_sea 6 = .ok (.if_icmp .ne 12, 3) := by decide +kernel
theorem dX3_sea_9 : decode cX3_sea 9 = .ok (.aload_n 0, 1) := by decide +kernel
theorem dX3_sea_10 : decode cX3_sea 10 = .ok (.invokevirtual 73, 3) := by decide +kernel
theorem dX3_sea_13 : decode cX3_sea 13 = .ok (.bipush 12, 2) := by decide +kernel
theorem dX3_sea_15 : decode cX3_sea 15 = .ok (.if_icmp .eq 6, 3) := by decide +kernel
theorem dX3_sea_18 : decode cX3_sea 18 = .ok (.bipush (-103), 2) := by decide +kernel
theorem dX3_sea_20 : decode cX3_sea 20 = .ok (.ireturn, 1) := by decide +kernel
theorem dX3_sea_21 : decode cX3_sea 21 = .ok (.aload_n 0, 1) := by decide +kernel
theorem dX3_sea_22 : decode cX3_sea 22 = .ok (.getfield 33, 3) := by decide +kernel
theorem dX3_sea_25 : decode cX3_sea 25 = .ok (.invokevirtual 77, 3) := by decide +kernel
theorem dX3_sea_28 : decode cX3_sea 28 = .ok (.iconst 0, 1) := by decide +kernel
theorem dX3_sea_29 : decode cX3_sea 29 = .ok (.istore_n 1, 1) := by decide +kernel
theorem dX3_sea_30 : decode cX3_sea 30 = .ok (.iload_n 1, 1) := by decide +kernel
theorem dX3_sea_31 : decode cX3_sea 31 = .ok (.bipush 12, 2) := by decide +kernel
theorem dX3_sea_33 : decode cX3_sea 33 = .ok (.if_icmp .ge 27, 3) := by decide +kernel
theorem dX3_sea_36 : decode cX3_sea 36 = .ok (.aload_n 0, 1) := by decide +kernel
theorem dX3_sea_37 : decode cX3_sea 37 = .ok (.getfield 33, 3) := by decide +kernel
theorem dX3_sea_40 : decode cX3_sea 40 = .ok (.getfield 80, 3) := by decide +kernel
theorem dX3_sea_43 : decode cX3_sea 43 = .ok (.iload_n 1, 1) := by decide +kernel
theorem dX3_sea_44 : decode cX3_sea 44 = .ok (.aload_n 0, 1) := by decide +kernel
theorem dX3_sea_45 : decode cX3_sea 45 = .ok (.getfield 9, 3) := by decide +kernel
theorem dX3_sea_48 : decode cX3_sea 48 = .ok (.iload_n 1, 1) := by decide +kernel
theorem dX3_sea_49 : decode cX3_sea 49 = .ok (.iaload, 1) := by decide +kernel
theorem dX3_sea_50 : decode cX3_sea 50 = .ok (.invokestatic 83, 3) := by decide +kernel
theorem dX3_sea_53 : decode cX3_sea 53 = .ok (.iastore, 1) := by decide +kernel
theorem dX3_sea_54 : decode cX3_sea 54 = .ok (.iinc 1 1, 3) := by decide +kernel
theorem dX3_sea_57 : decode cX3_sea 57 = .ok (.goto (-27), 3) := by decide +kernel
theorem dX3_sea_60 : decode cX3_sea 60 = .ok (.aload_n 0, 1) := by decide +kernel
theorem dX3_sea_61 : decode cX3_sea 61 = .ok (.getfield 46, 3) := by decide +kernel
theorem dX3_sea_64 : decode cX3_sea 64 = .ok (.iconst 0, 1) := by decide +kernel
theorem dX3_sea_65 : decode cX3_sea 65 = .ok (.putfield 87, 3) := by decide +kernel
theorem dX3_sea_68 : decode cX3_sea 68 = .ok (.aload_n 0, 1) := by decide +kernel
theorem dX3_sea_69 : decode cX3_sea 69 = .ok (.iconst 0, 1) := by decide +kernel
theorem dX3_sea_70 : decode cX3_sea 70 = .ok (.putfield 13, 3) := by decide +kernel
theorem dX3_sea_73 : decode cX3_sea 73 = .ok (.aload_n 0, 1) := by decide +kernel
theorem dX3_sea_74 : decode cX3_sea 74 = .ok (.iconst 1, 1) := by decide +kernel
theorem dX3_sea_75 : decode cX3_sea 75 = .ok (.putfield 17, 3) := by decide +kernel
theorem dX3_sea_78 : decode cX3_sea 78 = .ok (.aload_n 0, 1) := by decide +kernel
theorem dX3_sea_79 : decode cX3_sea 79 = .ok (.iconst 0, 1) := by decide +kernel
theorem dX3_sea_80 : decode cX3_sea 80 = .ok (.putfield 21, 3) := by decide +kernel
theorem dX3_sea_83 : decode cX3_sea 83 = .ok (.aload_n 0, 1) := by decide +kernel
theorem dX3_sea_84 : decode cX3_sea 84 = .ok (.dup, 1) := by decide +kernel
theorem dX3_sea_85 : decode cX3_sea 85 = .ok (.getfield 24, 3) := by decide +kernel
theorem dX3_sea_88 : decode cX3_sea 88 = .ok (.iconst 1, 1) := by decide +kernel
theorem dX3_sea_89 : decode cX3_sea 89 = .ok (.iadd, 1) := by decide +kernel
theorem dX3_sea_90 : decode cX3_sea 90 = .ok (.putfield 24, 3) := by decide +kernel
theorem dX3_sea_93 : decode cX3_sea 93 = .ok (.aload_n 0, 1) := by decide +kernel
theorem dX3_sea_94 : decode cX3_sea 94 = .ok (.getfield 33, 3) := by decide +kernel
theorem dX3_sea_97 : decode cX3_sea 97 = .ok (.invokevirtual 90, 3) := by decide +kernel
theorem dX3_sea_100 : decode cX3_sea 100 = .ok (.ireturn, 1) := by decide +kernel
theorem dX3_place_0 : decode cX3_place 0 = .ok (.aload_n 0, 1) := by decide +kernel
theorem dX3_place_1 : decode cX3_place 1 = .ok (.iload_n 1, 1) := by decide +kernel
theorem dX3_place_2 : decode cX3_place 2 = .ok (.invokevirtual 93, 3) := by decide +kernel
theorem dX3_place_5 : decode cX3_place 5 = .ok (.ifCond .ne 6, 3) := by decide +kernel
theorem dX3_place_8 : decode cX3_place 8 = .ok (.bipush (-101), 2) := by decide +kernel
theorem dX3_place_10 : decode cX3_place 10 = .ok (.ireturn, 1) := by decide +kernel
theorem dX3_place_11 : decode cX3_place 11 = .ok (.iload_n 2, 1) := by decide +kernel
theorem dX3_place_12 : decode cX3_place 12 = .ok (.ifCond .lt 8, 3) := by decide +kernel
theorem dX3_place_15 : decode cX3_place 15 = .ok (.iload_n 2, 1) := by decide +kernel
theorem dX3_place_16 : decode cX3_place 16 = .ok (.iconst 1, 1) := by decide +kernel
theorem dX3_place_17 : decode cX3_place 17 = .ok (.if_icmp .le 6, 3) := by decide +kernel
theorem dX3_place_20 : decode cX3_place 20 = .ok (.bipush (-102), 2) := by decide +kernel
theorem dX3_place_22 : decode cX3_place 22 = .ok (.ireturn, 1) := by decide +kernel
theorem dX3_place_23 : decode cX3_place 23 = .ok (.iload_n 2, 1) := by decide +kernel
theorem dX3_place_24 : decode cX3_place 24 = .ok (.ifCond .ne 15, 3) := by decide +kernel
theorem dX3_place_27 : decode cX3_place 27 = .ok (.aload_n 0, 1) := by decide +kernel
theorem dX3_place_28 : decode cX3_place 28 = .ok (.getfield 33, 3) := by decide +kernel
theorem dX3_place_31 : decode cX3_place 31 = .ok (.getfield 80, 3) := by decide +kernel
theorem dX3_place_34 : decode cX3_place 34 = .ok (.iload_n 1, 1) := by decide +kernel
theorem dX3_place_35 : decode cX3_place 35 = .ok (.iaload, 1) := by decide +kernel
theorem dX3_place_36 : decode cX3_place 36 = .ok (.goto 11, 3) := by decide +kernel
theorem dX3_place_39 : decode cX3_place 39 = .ok (.aload_n 0, 1) := by decide +kernel
theorem dX3_place_40 : decode cX3_place 40 = .ok (.getfield 33, 3) := by decide +kernel
theorem dX3_place_43 : decode cX3_place 43 = .ok (.iload_n 1, 1) := by decide +kernel
theorem dX3_place_44 : decode cX3_place 44 = .ok (.invokevirtual 96, 3) := by decide +kernel
theorem dX3_place_47 : decode cX3_place 47 = .ok (.ireturn, 1) := by decide +kernel
theorem dX3_wind_0 : decode cX3_wind 0 = .ok (.iload_n 1, 1) := by decide +kernel
theorem dX3_wind_1 : decode cX3_wind 1 = .ok (.iconst (-1), 1) := by decide +kernel
theorem dX3_wind_2 : decode cX3_wind 2 = .ok (.if_icmp .lt 8, 3) := by decide +kernel
theorem dX3_wind_5 : decode cX3_wind 5 = .ok (.iload_n 1, 1) := by decide +kernel
theorem dX3_wind_6 : decode cX3_wind 6 = .ok (.iconst 1, 1) := by decide +kernel
theorem dX3_wind_7 : decode cX3_wind 7 = .ok (.if_icmp .le 6, 3) := by decide +kernel
theorem dX3_wind_10 : decode cX3_wind 10 = .ok (.bipush (-102), 2) := by decide +kernel
theorem dX3_wind_12 : decode cX3_wind 12 = .ok (.ireturn, 1) := by decide +kernel
theorem dX3_wind_13 : decode cX3_wind 13 = .ok (.aload_n 0, 1) := by decide +kernel
theorem dX3_wind_14 : decode cX3_wind 14 = .ok (.getfield 17, 3) := by decide +kernel
theorem dX3_wind_17 : decode cX3_wind 17 = .ok (.ifCond .ne 6, 3) := by decide +kernel
theorem dX3_wind_20 : decode cX3_wind 20 = .ok (.bipush (-103), 2) := by decide +kernel
theorem dX3_wind_22 : decode cX3_wind 22 = .ok (.ireturn, 1) := by decide +kernel
theorem dX3_wind_23 : decode cX3_wind 23 = .ok (.aload_n 0, 1) := by decide +kernel
theorem dX3_wind_24 : decode cX3_wind 24 = .ok (.getfield 33, 3) := by decide +kernel
theorem dX3_wind_27 : decode cX3_wind 27 = .ok (.getfield 99, 3) := by decide +kernel
theorem dX3_wind_30 : decode cX3_wind 30 = .ok (.istore_n 2, 1) := by decide +kernel
theorem dX3_wind_31 : decode cX3_wind 31 = .ok (.aload_n 0, 1) := by decide +kernel
theorem dX3_wind_32 : decode cX3_wind 32 = .ok (.getfield 33, 3) := by decide +kernel
theorem dX3_wind_35 : decode cX3_wind 35 = .ok (.iload_n 1, 1) := by decide +kernel
theorem dX3_wind_36 : decode cX3_wind 36 = .ok (.putfield 99, 3) := by decide +kernel
theorem dX3_wind_39 : decode cX3_wind 39 = .ok (.iload_n 2, 1) := by decide +kernel
theorem dX3_wind_40 : decode cX3_wind 40 = .ok (.iconst 1, 1) := by decide +kernel
theorem dX3_wind_41 : decode cX3_wind 41 = .ok (.iadd, 1) := by decide +kernel
theorem dX3_wind_42 : decode cX3_wind 42 = .ok (.ireturn, 1) := by decide +kernel
theorem dX3_island_0 : decode cX3_island 0 = .ok (.iload_n 1, 1) := by decide +kernel
theorem dX3_island_1 : decode cX3_island 1 = .ok (.invokestatic 102, 3) := by decide +kernel
theorem dX3_island_4 : decode cX3_island 4 = .ok (.ifCond .eq 14, 3) := by decide +kernel
theorem dX3_island_7 : decode cX3_island 7 = .ok (.iload_n 2, 1) := by decide +kernel
theorem dX3_island_8 : decode cX3_island 8 = .ok (.iconst 1, 1) := by decide +kernel
theorem dX3_island_9 : decode cX3_island 9 = .ok (.if_icmp .lt 9, 3) := by decide +kernel
theorem dX3_island_12 : decode cX3_island 12 = .ok (.iload_n 2, 1) := by decide +kernel
theorem dX3_island_13 : decode cX3_island 13 = .ok (.bipush 9, 2) := by decide +kernel
theorem dX3_island_15 : decode cX3_island 15 = .ok (.if_icmp .le 6, 3) := by decide +kernel
theorem dX3_island_18 : decode cX3_island 18 = .ok (.bipush (-102), 2) := by decide +kernel
theorem dX3_island_20 : decode cX3_island 20 = .ok (.ireturn, 1) := by decide +kernel
theorem dX3_island_21 : decode cX3_island 21 = .ok (.aload_n 0, 1) := by decide +kernel
theorem dX3_island_22 : decode cX3_island 22 = .ok (.iload_n 3, 1) := by decide +kernel
theorem dX3_island_23 : decode cX3_island 23 = .ok (.invokevirtual 93, 3) := by decide +kernel
theorem dX3_island_26 : decode cX3_island 26 = .ok (.ifCond .ne 6, 3) := by decide +kernel
theorem dX3_island_29 : decode cX3_island 29 = .ok (.bipush (-101), 2) := by decide +kernel
theorem dX3_island_31 : decode cX3_island 31 = .ok (.ireturn, 1) := by decide +kernel
theorem dX3_island_32 : decode cX3_island 32 = .ok (.aload_n 0, 1) := by decide +kernel
theorem dX3_island_33 : decode cX3_island 33 = .ok (.getfield 33, 3) := by decide +kernel
theorem dX3_island_36 : decode cX3_island 36 = .ok (.iload_n 3, 1) := by decide +kernel
theorem dX3_island_37 : decode cX3_island 37 = .ok (.invokevirtual 96, 3) := by decide +kernel
theorem dX3_island_40 : decode cX3_island 40 = .ok (.iconst (-1), 1) := by decide +kernel
theorem dX3_island_41 : decode cX3_island 41 = .ok (.if_icmp .eq 6, 3) := by decide +kernel
theorem dX3_island_44 : decode cX3_island 44 = .ok (.bipush (-103), 2) := by decide +kernel
theorem dX3_island_46 : decode cX3_island 46 = .ok (.ireturn, 1) := by decide +kernel
theorem dX3_island_47 : decode cX3_island 47 = .ok (.aload_n 0, 1) := by decide +kernel
theorem dX3_island_48 : decode cX3_island 48 = .ok (.getfield 33, 3) := by decide +kernel
theorem dX3_island_51 : decode cX3_island 51 = .ok (.getfield 105, 3) := by decide +kernel
theorem dX3_island_54 : decode cX3_island 54 = .ok (.iconst 5, 1) := by decide +kernel
theorem dX3_island_55 : decode cX3_island 55 = .ok (.if_icmp .lt 6, 3) := by decide +kernel
theorem dX3_island_58 : decode cX3_island 58 = .ok (.bipush (-104), 2) := by decide +kernel
theorem dX3_island_60 : decode cX3_island 60 = .ok (.ireturn, 1) := by decide +kernel
theorem dX3_island_61 : decode cX3_island 61 = .ok (.aload_n 0, 1) := by decide +kernel
theorem dX3_island_62 : decode cX3_island 62 = .ok (.getfield 33, 3) := by decide +kernel
theorem dX3_island_65 : decode cX3_island 65 = .ok (.iload_n 1, 1) := by decide +kernel
theorem dX3_island_66 : decode cX3_island 66 = .ok (.iload_n 2, 1) := by decide +kernel
theorem dX3_island_67 : decode cX3_island 67 = .ok (.iload_n 3, 1) := by decide +kernel
theorem dX3_island_68 : decode cX3_island 68 = .ok (.invokevirtual 108, 3) := by decide +kernel
theorem dX3_island_71 : decode cX3_island 71 = .ok (.ireturn, 1) := by decide +kernel
theorem dX3_about_0 : decode cX3_about 0 = .ok (.aload_n 0, 1) := by decide +kernel
theorem dX3_about_1 : decode cX3_about 1 = .ok (.iload_n 1, 1) := by decide +kernel
theorem dX3_about_2 : decode cX3_about 2 = .ok (.invokevirtual 112, 3) := by decide +kernel
theorem dX3_about_5 : decode cX3_about 5 = .ok (.ifCond .ne 6, 3) := by decide +kernel
theorem dX3_about_8 : decode cX3_about 8 = .ok (.bipush (-101), 2) := by decide +kernel
theorem dX3_about_10 : decode cX3_about 10 = .ok (.ireturn, 1) := by decide +kernel
theorem dX3_about_11 : decode cX3_about 11 = .ok (.iload_n 2, 1) := by decide +kernel
theorem dX3_about_12 : decode cX3_about 12 = .ok (.tableswitch 136 0 7 #[48, 58, 68, 78, 90, 107, 117, 126], 48) := by decide +kernel
theorem dX3_about_60 : decode cX3_about 60 = .ok (.aload_n 0, 1) := by decide +kernel
theorem dX3_about_61 : decode cX3_about 61 = .ok (.getfield 33, 3) := by decide +kernel
theorem dX3_about_64 : decode cX3_about 64 = .ok (.getfield 115, 3) := by decide +kernel
theorem dX3_about_67 : decode cX3_about 67 = .ok (.iload_n 1, 1) := by decide +kernel
theorem dX3_about_68 : decode cX3_about 68 = .ok (.iaload, 1) := by decide +kernel
theorem dX3_about_69 : decode cX3_about 69 = .ok (.ireturn, 1) := by decide +kernel
theorem dX3_about_70 : decode cX3_about 70 = .ok (.aload_n 0, 1) := by decide +kernel
theorem dX3_about_71 : decode cX3_about 71 = .ok (.getfield 33, 3) := by decide +kernel
theorem dX3_about_74 : decode cX3_about 74 = .ok (.getfield 118, 3) := by decide +kernel
theorem dX3_about_77 : decode cX3_about 77 = .ok (.iload_n 1, 1) := by decide +kernel
theorem dX3_about_78 : decode cX3_about 78 = .ok (.iaload, 1) := by decide +kernel
theorem dX3_about_79 : decode cX3_about 79 = .ok (.ireturn, 1) := by decide +kernel
theorem dX3_about_80 : decode cX3_about 80 = .ok (.aload_n 0, 1) := by decide +kernel
theorem dX3_about_81 : decode cX3_about 81 = .ok (.getfield 33, 3) := by decide +kernel
theorem dX3_about_84 : decode cX3_about 84 = .ok (.getfield 121, 3) := by decide +kernel
theorem dX3_about_87 : decode cX3_about 87 = .ok (.iload_n 1, 1) := by decide +kernel
theorem dX3_about_88 : decode cX3_about 88 = .ok (.iaload, 1) := by decide +kernel
theorem dX3_about_89 : decode cX3_about 89 = .ok (.ireturn, 1) := by decide +kernel
theorem dX3_about_90 : decode cX3_about 90 = .ok (.aload_n 0, 1) := by decide +kernel
theorem dX3_about_91 : decode cX3_about 91 = .ok (.getfield 33, 3) := by decide +kernel
theorem dX3_about_94 : decode cX3_about 94 = .ok (.iload_n 1, 1) := by decide +kernel
theorem dX3_about_95 : decode cX3_about 95 = .ok (.invokevirtual 124, 3) := by decide +kernel
theorem dX3_about_98 : decode cX3_about 98 = .ok (.bipush 100, 2) := by decide +kernel
theorem dX3_about_100 : decode cX3_about 100 = .ok (.iadd, 1) := by decide +kernel
theorem dX3_about_101 : decode cX3_about 101 = .ok (.ireturn, 1) := by decide +kernel
theorem dX3_about_102 : decode cX3_about 102 = .ok (.aload_n 0, 1) := by decide +kernel
theorem dX3_about_103 : decode cX3_about 103 = .ok (.getfield 33, 3) := by decide +kernel
theorem dX3_about_106 : decode cX3_about 106 = .ok (.iload_n 1, 1) := by decide +kernel
theorem dX3_about_107 : decode cX3_about 107 = .ok (.invokevirtual 127, 3) := by decide +kernel
theorem dX3_about_110 : decode cX3_about 110 = .ok (.ifCond .eq 7, 3) := by decide +kernel
theorem dX3_about_113 : decode cX3_about 113 = .ok (.iconst 1, 1) := by decide +kernel
theorem dX3_about_114 : decode cX3_about 114 = .ok (.goto 4, 3) := by decide +kernel
theorem dX3_about_117 : decode cX3_about 117 = .ok (.iconst 0, 1) := by decide +kernel
theorem dX3_about_118 : decode cX3_about 118 = .ok (.ireturn, 1) := by decide +kernel
theorem dX3_about_119 : decode cX3_about 119 = .ok (.aload_n 0, 1) := by decide +kernel
theorem dX3_about_120 : decode cX3_about 120 = .ok (.getfield 33, 3) := by decide +kernel
theorem dX3_about_123 : decode cX3_about 123 = .ok (.getfield 130, 3) := by decide +kernel
theorem dX3_about_126 : decode cX3_about 126 = .ok (.iload_n 1, 1) := by decide +kernel
theorem dX3_about_127 : decode cX3_about 127 = .ok (.iaload, 1) := by decide +kernel
theorem dX3_about_128 : decode cX3_about 128 = .ok (.ireturn, 1) := by decide +kernel
theorem dX3_about_129 : decode cX3_about 129 = .ok (.aload_n 0, 1) := by decide +kernel
theorem dX3_about_130 : decode cX3_about 130 = .ok (.getfield 33, 3) := by decide +kernel
theorem dX3_about_133 : decode cX3_about 133 = .ok (.iload_n 1, 1) := by decide +kernel
theorem dX3_about_134 : decode cX3_about 134 = .ok (.invokevirtual 133, 3) := by decide +kernel
theorem dX3_about_137 : decode cX3_about 137 = .ok (.ireturn, 1) := by decide +kernel
theorem dX3_about_138 : decode cX3_about 138 = .ok (.aload_n 0, 1) := by decide +kernel
theorem dX3_about_139 : decode cX3_about 139 = .ok (.getfield 33, 3) := by decide +kernel
theorem dX3_about_142 : decode cX3_about 142 = .ok (.getfield 136, 3) := by decide +kernel
theorem dX3_about_145 : decode cX3_about 145 = .ok (.iload_n 1, 1) := by decide +kernel
theorem dX3_about_146 : decode cX3_about 146 = .ok (.iaload, 1) := by decide +kernel
theorem dX3_about_147 : decode cX3_about 147 = .ok (.ireturn, 1) := by decide +kernel
theorem dX3_about_148 : decode cX3_about 148 = .ok (.bipush (-102), 2) := by decide +kernel
theorem dX3_about_150 : decode cX3_about 150 = .ok (.ireturn, 1) := by decide +kernel
theorem dX3_as_0 : decode cX3_as 0 = .ok (.aload_n 0, 1) := by decide +kernel
theorem dX3_as_1 : decode cX3_as 1 = .ok (.iload_n 1, 1) := by decide +kernel
theorem dX3_as_2 : decode cX3_as 2 = .ok (.invokevirtual 112, 3) := by decide +kernel
theorem dX3_as_5 : decode cX3_as 5 = .ok (.ifCond .ne 6, 3) := by decide +kernel
theorem dX3_as_8 : decode cX3_as 8 = .ok (.bipush (-101), 2) := by decide +kernel
theorem dX3_as_10 : decode cX3_as 10 = .ok (.ireturn, 1) := by decide +kernel
theorem dX3_as_11 : decode cX3_as 11 = .ok (.iload_n 2, 1) := by decide +kernel
theorem dX3_as_12 : decode cX3_as 12 = .ok (.invokestatic 102, 3) := by decide +kernel
theorem dX3_as_15 : decode cX3_as 15 = .ok (.ifCond .ne 6, 3) := by decide +kernel
theorem dX3_as_18 : decode cX3_as 18 = .ok (.bipush (-102), 2) := by decide +kernel
theorem dX3_as_20 : decode cX3_as 20 = .ok (.ireturn, 1) := by decide +kernel
theorem dX3_as_21 : decode cX3_as 21 = .ok (.aload_n 0, 1) := by decide +kernel
theorem dX3_as_22 : decode cX3_as 22 = .ok (.getfield 33, 3) := by decide +kernel
theorem dX3_as_25 : decode cX3_as 25 = .ok (.getfield 115, 3) := by decide +kernel
theorem dX3_as_28 : decode cX3_as 28 = .ok (.iload_n 1, 1) := by decide +kernel
theorem dX3_as_29 : decode cX3_as 29 = .ok (.iaload, 1) := by decide +kernel
theorem dX3_as_30 : decode cX3_as 30 = .ok (.istore_n 3, 1) := by decide +kernel
theorem dX3_as_31 : decode cX3_as 31 = .ok (.iload_n 2, 1) := by decide +kernel
theorem dX3_as_32 : decode cX3_as 32 = .ok (.ifCond .eq 18, 3) := by decide +kernel
theorem dX3_as_35 : decode cX3_as 35 = .ok (.iload_n 2, 1) := by decide +kernel
theorem dX3_as_36 : decode cX3_as 36 = .ok (.iload_n 3, 1) := by decide +kernel
theorem dX3_as_37 : decode cX3_as 37 = .ok (.if_icmp .eq 13, 3) := by decide +kernel
theorem dX3_as_40 : decode cX3_as 40 = .ok (.iload_n 2, 1) := by decide +kernel
theorem dX3_as_41 : decode cX3_as 41 = .ok (.iconst 2, 1) := by decide +kernel
theorem dX3_as_42 : decode cX3_as 42 = .ok (.if_icmp .ne 12, 3) := by decide +kernel
theorem dX3_as_45 : decode cX3_as 45 = .ok (.iload_n 3, 1) := by decide +kernel
theorem dX3_as_46 : decode cX3_as 46 = .ok (.iconst 4, 1) := by decide +kernel
theorem dX3_as_47 : decode cX3_as 47 = .ok (.if_icmp .ne 7, 3) := by decide +kernel
theorem dX3_as_50 : decode cX3_as 50 = .ok (.iconst 1, 1) := by decide +kernel
theorem dX3_as_51 : decode cX3_as 51 = .ok (.goto 4, 3) := by decide +kernel
theorem dX3_as_54 : decode cX3_as 54 = .ok (.iconst 0, 1) := by decide +kernel
theorem dX3_as_55 : decode cX3_as 55 = .ok (.istore 4, 2) := by decide +kernel
theorem dX3_as_57 : decode cX3_as 57 = .ok (.iload 4, 2) := by decide +kernel
theorem dX3_as_59 : decode cX3_as 59 = .ok (.ifCond .eq 7, 3) := by decide +kernel
theorem dX3_as_62 : decode cX3_as 62 = .ok (.iload_n 1, 1) := by decide +kernel
theorem dX3_as_63 : decode cX3_as 63 = .ok (.goto 4, 3) := by decide +kernel
theorem dX3_as_66 : decode cX3_as 66 = .ok (.iconst (-1), 1) := by decide +kernel
theorem dX3_as_67 : decode cX3_as 67 = .ok (.ireturn, 1) := by decide +kernel
theorem dX3_anchor_0 : decode cX3_anchor 0 = .ok (.aload_n 0, 1) := by decide +kernel
theorem dX3_anchor_1 : decode cX3_anchor 1 = .ok (.iload_n 1, 1) := by decide +kernel
theorem dX3_anchor_2 : decode cX3_anchor 2 = .ok (.invokevirtual 112, 3) := by decide +kernel
theorem dX3_anchor_5 : decode cX3_anchor 5 = .ok (.ifCond .ne 6, 3) := by decide +kernel
theorem dX3_anchor_8 : decode cX3_anchor 8 = .ok (.bipush (-101), 2) := by decide +kernel
theorem dX3_anchor_10 : decode cX3_anchor 10 = .ok (.ireturn, 1) := by decide +kernel
theorem dX3_anchor_11 : decode cX3_anchor 11 = .ok (.aload_n 0, 1) := by decide +kernel
theorem dX3_anchor_12 : decode cX3_anchor 12 = .ok (.getfield 33, 3) := by decide +kernel
theorem dX3_anchor_15 : decode cX3_anchor 15 = .ok (.iload_n 1, 1) := by decide +kernel
theorem dX3_anchor_16 : decode cX3_anchor 16 = .ok (.invokevirtual 127, 3) := by decide +kernel
theorem dX3_anchor_19 : decode cX3_anchor 19 = .ok (.ifCond .eq 7, 3) := by decide +kernel
theorem dX3_anchor_22 : decode cX3_anchor 22 = .ok (.iconst 1, 1) := by decide +kernel
theorem dX3_anchor_23 : decode cX3_anchor 23 = .ok (.goto 4, 3) := by decide +kernel
theorem dX3_anchor_26 : decode cX3_anchor 26 = .ok (.iconst 0, 1) := by decide +kernel
theorem dX3_anchor_27 : decode cX3_anchor 27 = .ok (.istore_n 3, 1) := by decide +kernel
theorem dX3_anchor_28 : decode cX3_anchor 28 = .ok (.iload_n 2, 1) := by decide +kernel
theorem dX3_anchor_29 : decode cX3_anchor 29 = .ok (.ifCond .eq 21, 3) := by decide +kernel
theorem dX3_anchor_32 : decode cX3_anchor 32 = .ok (.aload_n 0, 1) := by decide +kernel
theorem dX3_anchor_33 : decode cX3_anchor 33 = .ok (.getfield 33, 3) := by decide +kernel
theorem dX3_anchor_36 : decode cX3_anchor 36 = .ok (.dup, 1) := by decide +kernel
theorem dX3_anchor_37 : decode cX3_anchor 37 = .ok (.getfield 139, 3) := by decide +kernel
theorem dX3_anchor_40 : decode cX3_anchor 40 = .ok (.iconst 1, 1) := by decide +kernel
theorem dX3_anchor_41 : decode cX3_anchor 41 = .ok (.iload_n 1, 1) := by decide +kernel
theorem dX3_anchor_42 : decode cX3_anchor 42 = .ok (.ishl, 1) := by decide +kernel
theorem dX3_anchor_43 : decode cX3_anchor 43 = .ok (.ior, 1) := by decide +kernel
theorem dX3_anchor_44 : decode cX3_anchor 44 = .ok (.putfield 139, 3) := by decide +kernel
theorem dX3_anchor_47 : decode cX3_anchor 47 = .ok (.goto 20, 3) := by decide +kernel
theorem dX3_anchor_50 : decode cX3_anchor 50 = .ok (.aload_n 0, 1) := by decide +kernel
theorem dX3_anchor_51 : decode cX3_anchor 51 = .ok (.getfield 33, 3) := by decide +kernel
theorem dX3_anchor_54 : decode cX3_anchor 54 = .ok (.dup, 1) := by decide +kernel
theorem dX3_anchor_55 : decode cX3_anchor 55 = .ok (.getfield 139, 3) := by decide +kernel
theorem dX3_anchor_58 : decode cX3_anchor 58 = .ok (.iconst 1, 1) := by decide +kernel
theorem dX3_anchor_59 : decode cX3_anchor 59 = .ok (.iload_n 1, 1) := by decide +kernel
theorem dX3_anchor_60 : decode cX3_anchor 60 = .ok (.ishl, 1) := by decide +kernel
theorem dX3_anchor_61 : decode cX3_anchor 61 = .ok (.iconst (-1), 1) := by decide +kernel
theorem dX3_anchor_62 : decode cX3_anchor 62 = .ok (.ixor, 1) := by decide +kernel
theorem dX3_anchor_63 : decode cX3_anchor 63 = .ok (.iand, 1) := by decide +kernel
theorem dX3_anchor_64 : decode cX3_anchor 64 = .ok (.putfield 139, 3) := by decide +kernel
theorem dX3_anchor_67 : decode cX3_anchor 67 = .ok (.iload_n 3, 1) := by decide +kernel
theorem dX3_anchor_68 : decode cX3_anchor 68 = .ok (.ireturn, 1) := by decide +kernel
theorem dX3_wed_0 : decode cX3_wed 0 = .ok (.aload_n 0, 1) := by decide +kernel
theorem dX3_wed_1 : decode cX3_wed 1 = .ok (.iload_n 1, 1) := by decide +kernel
theorem dX3_wed_2 : decode cX3_wed 2 = .ok (.iload_n 2, 1) := by decide +kernel
theorem dX3_wed_3 : decode cX3_wed 3 = .ok (.invokevirtual 142, 3) := by decide +kernel
theorem dX3_wed_6 : decode cX3_wed 6 = .ok (.ifCond .ne 6, 3) := by decide +kernel
theorem dX3_wed_9 : decode cX3_wed 9 = .ok (.bipush (-101), 2) := by decide +kernel
theorem dX3_wed_11 : decode cX3_wed 11 = .ok (.ireturn, 1) := by decide +kernel
theorem dX3_wed_12 : decode cX3_wed 12 = .ok (.aload_n 0, 1) := by decide +kernel
theorem dX3_wed_13 : decode cX3_wed 13 = .ok (.getfield 33, 3) := by decide +kernel
theorem dX3_wed_16 : decode cX3_wed 16 = .ok (.iload_n 1, 1) := by decide +kernel
theorem dX3_wed_17 : decode cX3_wed 17 = .ok (.iload_n 2, 1) := by decide +kernel
theorem dX3_wed_18 : decode cX3_wed 18 = .ok (.invokevirtual 146, 3) := by decide +kernel
theorem dX3_wed_21 : decode cX3_wed 21 = .ok (.ifCond .ne 15, 3) := by decide +kernel
theorem dX3_wed_24 : decode cX3_wed 24 = .ok (.aload_n 0, 1) := by decide +kernel
theorem dX3_wed_25 : decode cX3_wed 25 = .ok (.getfield 33, 3) := by decide +kernel
theorem dX3_wed_28 : decode cX3_wed 28 = .ok (.iload_n 1, 1) := by decide +kernel
theorem dX3_wed_29 : decode cX3_wed 29 = .ok (.iload_n 2, 1) := by decide +kernel
theorem dX3_wed_30 : decode cX3_wed 30 = .ok (.invokevirtual 149, 3) := by decide +kernel
theorem dX3_wed_33 : decode cX3_wed 33 = .ok (.ifCond .ne 6, 3) := by decide +kernel
theorem dX3_wed_36 : decode cX3_wed 36 = .ok (.bipush (-103), 2) := by decide +kernel
theorem dX3_wed_38 : decode cX3_wed 38 = .ok (.ireturn, 1) := by decide +kernel
theorem dX3_wed_39 : decode cX3_wed 39 = .ok (.aload_n 0, 1) := by decide +kernel
theorem dX3_wed_40 : decode cX3_wed 40 = .ok (.getfield 33, 3) := by decide +kernel
theorem dX3_wed_43 : decode cX3_wed 43 = .ok (.getfield 152, 3) := by decide +kernel
theorem dX3_wed_46 : decode cX3_wed 46 = .ok (.bipush 6, 2) := by decide +kernel
theorem dX3_wed_48 : decode cX3_wed 48 = .ok (.if_icmp .lt 6, 3) := by decide +kernel
theorem dX3_wed_51 : decode cX3_wed 51 = .ok (.bipush (-104), 2) := by decide +kernel
theorem dX3_wed_53 : decode cX3_wed 53 = .ok (.ireturn, 1) := by decide +kernel
theorem dX3_wed_54 : decode cX3_wed 54 = .ok (.aload_n 0, 1) := by decide +kernel
theorem dX3_wed_55 : decode cX3_wed 55 = .ok (.getfield 33, 3) := by decide +kernel
theorem dX3_wed_58 : decode cX3_wed 58 = .ok (.iload_n 1, 1) := by decide +kernel
theorem dX3_wed_59 : decode cX3_wed 59 = .ok (.iload_n 2, 1) := by decide +kernel
theorem dX3_wed_60 : decode cX3_wed 60 = .ok (.invokevirtual 155, 3) := by decide +kernel
theorem dX3_wed_63 : decode cX3_wed 63 = .ok (.aload_n 0, 1) := by decide +kernel
theorem dX3_wed_64 : decode cX3_wed 64 = .ok (.getfield 33, 3) := by decide +kernel
theorem dX3_wed_67 : decode cX3_wed 67 = .ok (.getfield 152, 3) := by decide +kernel
theorem dX3_wed_70 : decode cX3_wed 70 = .ok (.ireturn, 1) := by decide +kernel
theorem dX3_axe_0 : decode cX3_axe 0 = .ok (.aload_n 0, 1) := by decide +kernel
theorem dX3_axe_1 : decode cX3_axe 1 = .ok (.iload_n 1, 1) := by decide +kernel
theorem dX3_axe_2 : decode cX3_axe 2 = .ok (.iload_n 2, 1) := by decide +kernel
theorem dX3_axe_3 : decode cX3_axe 3 = .ok (.invokevirtual 142, 3) := by decide +kernel
theorem dX3_axe_6 : decode cX3_axe 6 = .ok (.ifCond .ne 6, 3) := by decide +kernel
theorem dX3_axe_9 : decode cX3_axe 9 = .ok (.bipush (-101), 2) := by decide +kernel
theorem dX3_axe_11 : decode cX3_axe 11 = .ok (.ireturn, 1) := by decide +kernel
theorem dX3_axe_12 : decode cX3_axe 12 = .ok (.aload_n 0, 1) := by decide +kernel
theorem dX3_axe_13 : decode cX3_axe 13 = .ok (.getfield 33, 3) := by decide +kernel
theorem dX3_axe_16 : decode cX3_axe 16 = .ok (.iload_n 1, 1) := by decide +kernel
theorem dX3_axe_17 : decode cX3_axe 17 = .ok (.iload_n 2, 1) := by decide +kernel
theorem dX3_axe_18 : decode cX3_axe 18 = .ok (.invokevirtual 146, 3) := by decide +kernel
theorem dX3_axe_21 : decode cX3_axe 21 = .ok (.ifCond .ne 6, 3) := by decide +kernel
theorem dX3_axe_24 : decode cX3_axe 24 = .ok (.bipush (-103), 2) := by decide +kernel
theorem dX3_axe_26 : decode cX3_axe 26 = .ok (.ireturn, 1) := by decide +kernel
theorem dX3_axe_27 : decode cX3_axe 27 = .ok (.aload_n 0, 1) := by decide +kernel
theorem dX3_axe_28 : decode cX3_axe 28 = .ok (.getfield 33, 3) := by decide +kernel
theorem dX3_axe_31 : decode cX3_axe 31 = .ok (.iload_n 1, 1) := by decide +kernel
theorem dX3_axe_32 : decode cX3_axe 32 = .ok (.iload_n 2, 1) := by decide +kernel
theorem dX3_axe_33 : decode cX3_axe 33 = .ok (.invokevirtual 159, 3) := by decide +kernel
theorem dX3_axe_36 : decode cX3_axe 36 = .ok (.aload_n 0, 1) := by decide +kernel
theorem dX3_axe_37 : decode cX3_axe 37 = .ok (.getfield 33, 3) := by decide +kernel
theorem dX3_axe_40 : decode cX3_axe 40 = .ok (.getfield 152, 3) := by decide +kernel
theorem dX3_axe_43 : decode cX3_axe 43 = .ok (.ireturn, 1) := by decide +kernel
theorem dX3_day_0 : decode cX3_day 0 = .ok (.aload_n 0, 1) := by decide +kernel
theorem dX3_day_1 : decode cX3_day 1 = .ok (.getfield 17, 3) := by decide +kernel
theorem dX3_day_4 : decode cX3_day 4 = .ok (.ifCond .eq 13, 3) := by decide +kernel
theorem dX3_day_7 : decode cX3_day 7 = .ok (.aload_n 0, 1) := by decide +kernel
theorem dX3_day_8 : decode cX3_day 8 = .ok (.getfield 33, 3) := by decide +kernel
theorem dX3_day_11 : decode cX3_day 11 = .ok (.invokevirtual 162, 3) := by decide +kernel
theorem dX3_day_14 : decode cX3_day 14 = .ok (.goto 5, 3) := by decide +kernel
theorem dX3_day_17 : decode cX3_day 17 = .ok (.bipush (-103), 2) := by decide +kernel
theorem dX3_day_19 : decode cX3_day 19 = .ok (.ireturn, 1) := by decide +kernel
theorem dX3_meet_0 : decode cX3_meet 0 = .ok (.aload_n 0, 1) := by decide +kernel
theorem dX3_meet_1 : decode cX3_meet 1 = .ok (.iload_n 1, 1) := by decide +kernel
theorem dX3_meet_2 : decode cX3_meet 2 = .ok (.iload_n 2, 1) := by decide +kernel
theorem dX3_meet_3 : decode cX3_meet 3 = .ok (.invokevirtual 142, 3) := by decide +kernel
theorem dX3_meet_6 : decode cX3_meet 6 = .ok (.ifCond .ne 6, 3) := by decide +kernel
theorem dX3_meet_9 : decode cX3_meet 9 = .ok (.bipush (-101), 2) := by decide +kernel
theorem dX3_meet_11 : decode cX3_meet 11 = .ok (.ireturn, 1) := by decide +kernel
theorem dX3_meet_12 : decode cX3_meet 12 = .ok (.aload_n 0, 1) := by decide +kernel
theorem dX3_meet_13 : decode cX3_meet 13 = .ok (.iload_n 1, 1) := by decide +kernel
theorem dX3_meet_14 : decode cX3_meet 14 = .ok (.iload_n 2, 1) := by decide +kernel
theorem dX3_meet_15 : decode cX3_meet 15 = .ok (.bipush 60, 2) := by decide +kernel
theorem dX3_meet_17 : decode cX3_meet 17 = .ok (.iconst 0, 1) := by decide +kernel
theorem dX3_meet_18 : decode cX3_meet 18 = .ok (.invokevirtual 165, 3) := by decide +kernel
theorem dX3_meet_21 : decode cX3_meet 21 = .ok (.ireturn, 1) := by decide +kernel
theorem dX3_anchors_0 : decode cX3_anchors 0 = .ok (.aload_n 0, 1) := by decide +kernel
theorem dX3_anchors_1 : decode cX3_anchors 1 = .ok (.iload_n 1, 1) := by decide +kernel
theorem dX3_anchors_2 : decode cX3_anchors 2 = .ok (.iload_n 2, 1) := by decide +kernel
theorem dX3_anchors_3 : decode cX3_anchors 3 = .ok (.invokevirtual 142, 3) := by decide +kernel
theorem dX3_anchors_6 : decode cX3_anchors 6 = .ok (.ifCond .ne 6, 3) := by decide +kernel
theorem dX3_anchors_9 : decode cX3_anchors 9 = .ok (.bipush (-101), 2) := by decide +kernel
theorem dX3_anchors_11 : decode cX3_anchors 11 = .ok (.ireturn, 1) := by decide +kernel
theorem dX3_anchors_12 : decode cX3_anchors 12 = .ok (.iload_n 3, 1) := by decide +kernel
theorem dX3_anchors_13 : decode cX3_anchors 13 = .ok (.ifCond .lt 20, 3) := by decide +kernel
theorem dX3_anchors_16 : decode cX3_anchors 16 = .ok (.iload_n 3, 1) := by decide +kernel
theorem dX3_anchors_17 : decode cX3_anchors 17 = .ok (.bipush 30, 2) := by decide +kernel
theorem dX3_anchors_19 : decode cX3_anchors 19 = .ok (.if_icmp .gt 14, 3) := by decide +kernel
theorem dX3_anchors_22 : decode cX3_anchors 22 = .ok (.iload 4, 2) := by decide +kernel
theorem dX3_anchors_24 : decode cX3_anchors 24 = .ok (.ifCond .lt 9, 3) := by decide +kernel
theorem dX3_anchors_27 : decode cX3_anchors 27 = .ok (.iload 4, 2) := by decide +kernel
theorem dX3_anchors_29 : decode cX3_anchors 29 = .ok (.iconst 1, 1) := by decide +kernel
theorem dX3_anchors_30 : decode cX3_anchors 30 = .ok (.if_icmp .le 6, 3) := by decide +kernel
theorem dX3_anchors_33 : decode cX3_anchors 33 = .ok (.bipush (-102), 2) := by decide +kernel
theorem dX3_anchors_35 : decode cX3_anchors 35 = .ok (.ireturn, 1) := by decide +kernel
theorem dX3_anchors_36 : decode cX3_anchors 36 = .ok (.aload_n 0, 1) := by decide +kernel
theorem dX3_anchors_37 : decode cX3_anchors 37 = .ok (.getfield 27, 3) := by decide +kernel
theorem dX3_anchors_40 : decode cX3_anchors 40 = .ok (.bipush 30, 2) := by decide +kernel
theorem dX3_anchors_42 : decode cX3_anchors 42 = .ok (.if_icmp .lt 6, 3) := by decide +kernel
theorem dX3_anchors_45 : decode cX3_anchors 45 = .ok (.bipush (-103), 2) := by decide +kernel
theorem dX3_anchors_47 : decode cX3_anchors 47 = .ok (.ireturn, 1) := by decide +kernel
theorem dX3_anchors_48 : decode cX3_anchors 48 = .ok (.aload_n 0, 1) := by decide +kernel
theorem dX3_anchors_49 : decode cX3_anchors 49 = .ok (.dup, 1) := by decide +kernel
theorem dX3_anchors_50 : decode cX3_anchors 50 = .ok (.getfield 27, 3) := by decide +kernel
theorem dX3_anchors_53 : decode cX3_anchors 53 = .ok (.iconst 1, 1) := by decide +kernel
theorem dX3_anchors_54 : decode cX3_anchors 54 = .ok (.iadd, 1) := by decide +kernel
theorem dX3_anchors_55 : decode cX3_anchors 55 = .ok (.putfield 27, 3) := by decide +kernel
theorem dX3_anchors_58 : decode cX3_anchors 58 = .ok (.aload_n 0, 1) := by decide +kernel
theorem dX3_anchors_59 : decode cX3_anchors 59 = .ok (.iload_n 1, 1) := by decide +kernel
theorem dX3_anchors_60 : decode cX3_anchors 60 = .ok (.iload_n 2, 1) := by decide +kernel
theorem dX3_anchors_61 : decode cX3_anchors 61 = .ok (.iload_n 3, 1) := by decide +kernel
theorem dX3_anchors_62 : decode cX3_anchors 62 = .ok (.invokevirtual 169, 3) := by decide +kernel
theorem dX3_anchors_65 : decode cX3_anchors 65 = .ok (.istore 5, 2) := by decide +kernel
theorem dX3_anchors_67 : decode cX3_anchors 67 = .ok (.iload 5, 2) := by decide +kernel
theorem dX3_anchors_69 : decode cX3_anchors 69 = .ok (.iconst (-1), 1) := by decide +kernel
theorem dX3_anchors_70 : decode cX3_anchors 70 = .ok (.if_icmp .ne 5, 3) := by decide +kernel
theorem dX3_anchors_73 : decode cX3_anchors 73 = .ok (.iconst (-1), 1) := by decide +kernel
theorem dX3_anchors_74 : decode cX3_anchors 74 = .ok (.ireturn, 1) := by decide +kernel
theorem dX3_anchors_75 : decode cX3_anchors 75 = .ok (.iload 4, 2) := by decide +kernel
theorem dX3_anchors_77 : decode cX3_anchors 77 = .ok (.ifCond .ne 11, 3) := by decide +kernel
theorem dX3_anchors_80 : decode cX3_anchors 80 = .ok (.iload 5, 2) := by decide +kernel
theorem dX3_anchors_82 : decode cX3_anchors 82 = .ok (.invokestatic 172, 3) := by decide +kernel
theorem dX3_anchors_85 : decode cX3_anchors 85 = .ok (.goto 5, 3) := by decide +kernel
theorem dX3_anchors_88 : decode cX3_anchors 88 = .ok (.iload 5, 2) := by decide +kernel
theorem dX3_anchors_90 : decode cX3_anchors 90 = .ok (.ireturn, 1) := by decide +kernel
theorem dX3_stable_0 : decode cX3_stable 0 = .ok (.iload_n 1, 1) := by decide +kernel
theorem dX3_stable_1 : decode cX3_stable 1 = .ok (.bipush 10, 2) := by decide +kernel
theorem dX3_stable_3 : decode cX3_stable 3 = .ok (.if_icmp .lt 13, 3) := by decide +kernel
theorem dX3_stable_6 : decode cX3_stable 6 = .ok (.iload_n 1, 1) := by decide +kernel
theorem dX3_stable_7 : decode cX3_stable 7 = .ok (.bipush 15, 2) := by decide +kernel
theorem dX3_stable_9 : decode cX3_stable 9 = .ok (.if_icmp .ge 7, 3) := by decide +kernel
theorem dX3_stable_12 : decode cX3_stable 12 = .ok (.iconst 1, 1) := by decide +kernel
theorem dX3_stable_13 : decode cX3_stable 13 = .ok (.goto 4, 3) := by decide +kernel
theorem dX3_stable_16 : decode cX3_stable 16 = .ok (.iconst 0, 1) := by decide +kernel
theorem dX3_stable_17 : decode cX3_stable 17 = .ok (.istore_n 2, 1) := by decide +kernel
theorem dX3_stable_18 : decode cX3_stable 18 = .ok (.iload_n 1, 1) := by decide +kernel
theorem dX3_stable_19 : decode cX3_stable 19 = .ok (.ifCond .eq 15, 3) := by decide +kernel
theorem dX3_stable_22 : decode cX3_stable 22 = .ok (.iload_n 1, 1) := by decide +kernel
theorem dX3_stable_23 : decode cX3_stable 23 = .ok (.iconst 1, 1) := by decide +kernel
theorem dX3_stable_24 : decode cX3_stable 24 = .ok (.if_icmp .eq 10, 3) := by decide +kernel
theorem dX3_stable_27 : decode cX3_stable 27 = .ok (.iload_n 2, 1) := by decide +kernel
theorem dX3_stable_28 : decode cX3_stable 28 = .ok (.ifCond .ne 6, 3) := by decide +kernel
theorem dX3_stable_31 : decode cX3_stable 31 = .ok (.bipush (-102), 2) := by decide +kernel
theorem dX3_stable_33 : decode cX3_stable 33 = .ok (.ireturn, 1) := by decide +kernel
theorem dX3_stable_34 : decode cX3_stable 34 = .ok (.aload_n 0, 1) := by decide +kernel
theorem dX3_stable_35 : decode cX3_stable 35 = .ok (.getfield 17, 3) := by decide +kernel
theorem dX3_stable_38 : decode cX3_stable 38 = .ok (.ifCond .ne 6, 3) := by decide +kernel
theorem dX3_stable_41 : decode cX3_stable 41 = .ok (.bipush (-103), 2) := by decide +kernel
theorem dX3_stable_43 : decode cX3_stable 43 = .ok (.ireturn, 1) := by decide +kernel
theorem dX3_stable_44 : decode cX3_stable 44 = .ok (.aload_n 0, 1) := by decide +kernel
theorem dX3_stable_45 : decode cX3_stable 45 = .ok (.bipush 30, 2) := by decide +kernel
theorem dX3_stable_47 : decode cX3_stable 47 = .ok (.invokevirtual 177, 3) := by decide +kernel
theorem dX3_stable_50 : decode cX3_stable 50 = .ok (.aload_n 0, 1) := by decide +kernel
theorem dX3_stable_51 : decode cX3_stable 51 = .ok (.getfield 59, 3) := by decide +kernel
theorem dX3_stable_54 : decode cX3_stable 54 = .ok (.aload_n 0, 1) := by decide +kernel
theorem dX3_stable_55 : decode cX3_stable 55 = .ok (.getfield 33, 3) := by decide +kernel
theorem dX3_stable_58 : decode cX3_stable 58 = .ok (.aload_n 0, 1) := by decide +kernel
theorem dX3_stable_59 : decode cX3_stable 59 = .ok (.getfield 53, 3) := by decide +kernel
theorem dX3_stable_62 : decode cX3_stable 62 = .ok (.invokevirtual 181, 3) := by decide +kernel
theorem dX3_stable_65 : decode cX3_stable 65 = .ok (.aload_n 0, 1) := by decide +kernel
theorem dX3_stable_66 : decode cX3_stable 66 = .ok (.iload_n 1, 1) := by decide +kernel
theorem dX3_stable_67 : decode cX3_stable 67 = .ok (.invokevirtual 185, 3) := by decide +kernel
theorem dX3_stable_70 : decode cX3_stable 70 = .ok (.ireturn, 1) := by decide +kernel
theorem dX3_parting_0 : decode cX3_parting 0 = .ok (.aload_n 0, 1) := by decide +kernel
theorem dX3_parting_1 : decode cX3_parting 1 = .ok (.iload_n 1, 1) := by decide +kernel
theorem dX3_parting_2 : decode cX3_parting 2 = .ok (.iload_n 2, 1) := by decide +kernel
theorem dX3_parting_3 : decode cX3_parting 3 = .ok (.invokevirtual 142, 3) := by decide +kernel
theorem dX3_parting_6 : decode cX3_parting 6 = .ok (.ifCond .ne 6, 3) := by decide +kernel
theorem dX3_parting_9 : decode cX3_parting 9 = .ok (.bipush (-101), 2) := by decide +kernel
theorem dX3_parting_11 : decode cX3_parting 11 = .ok (.ireturn, 1) := by decide +kernel
theorem dX3_parting_12 : decode cX3_parting 12 = .ok (.aload_n 0, 1) := by decide +kernel
theorem dX3_parting_13 : decode cX3_parting 13 = .ok (.getfield 33, 3) := by decide +kernel
theorem dX3_parting_16 : decode cX3_parting 16 = .ok (.getfield 130, 3) := by decide +kernel
theorem dX3_parting_19 : decode cX3_parting 19 = .ok (.iload_n 1, 1) := by decide +kernel
theorem dX3_parting_20 : decode cX3_parting 20 = .ok (.iaload, 1) := by decide +kernel
theorem dX3_parting_21 : decode cX3_parting 21 = .ok (.iload_n 2, 1) := by decide +kernel
theorem dX3_parting_22 : decode cX3_parting 22 = .ok (.ishr, 1) := by decide +kernel
theorem dX3_parting_23 : decode cX3_parting 23 = .ok (.iconst 1, 1) := by decide +kernel
theorem dX3_parting_24 : decode cX3_parting 24 = .ok (.iand, 1) := by decide +kernel
theorem dX3_parting_25 : decode cX3_parting 25 = .ok (.ifCond .ne 6, 3) := by decide +kernel
theorem dX3_parting_28 : decode cX3_parting 28 = .ok (.bipush (-103), 2) := by decide +kernel
theorem dX3_parting_30 : decode cX3_parting 30 = .ok (.ireturn, 1) := by decide +kernel
theorem dX3_parting_31 : decode cX3_parting 31 = .ok (.aload_n 0, 1) := by decide +kernel
theorem dX3_parting_32 : decode cX3_parting 32 = .ok (.getfield 33, 3) := by decide +kernel
theorem dX3_parting_35 : decode cX3_parting 35 = .ok (.iload_n 1, 1) := by decide +kernel
theorem dX3_parting_36 : decode cX3_parting 36 = .ok (.iload_n 2, 1) := by decide +kernel
theorem dX3_parting_37 : decode cX3_parting 37 = .ok (.invokevirtual 188, 3) := by decide +kernel
theorem dX3_parting_40 : decode cX3_parting 40 = .ok (.ireturn, 1) := by decide +kernel
theorem dX3_shell_0 : decode cX3_shell 0 = .ok (.aload_n 0, 1) := by decide +kernel
theorem dX3_shell_1 : decode cX3_shell 1 = .ok (.iload_n 1, 1) := by decide +kernel
theorem dX3_shell_2 : decode cX3_shell 2 = .ok (.iload_n 2, 1) := by decide +kernel
theorem dX3_shell_3 : decode cX3_shell 3 = .ok (.invokevirtual 142, 3) := by decide +kernel
theorem dX3_shell_6 : decode cX3_shell 6 = .ok (.ifCond .ne 6, 3) := by decide +kernel
theorem dX3_shell_9 : decode cX3_shell 9 = .ok (.bipush (-101), 2) := by decide +kernel
theorem dX3_shell_11 : decode cX3_shell 11 = .ok (.ireturn, 1) := by decide +kernel
theorem dX3_shell_12 : decode cX3_shell 12 = .ok (.iload_n 3, 1) := by decide +kernel
theorem dX3_shell_13 : decode cX3_shell 13 = .ok (.ifCond .lt 9, 3) := by decide +kernel
theorem dX3_shell_16 : decode cX3_shell 16 = .ok (.iload_n 3, 1) := by decide +kernel
theorem dX3_shell_17 : decode cX3_shell 17 = .ok (.bipush 20, 2) := by decide +kernel
theorem dX3_shell_19 : decode cX3_shell 19 = .ok (.if_icmp .le 6, 3) := by decide +kernel
theorem dX3_shell_22 : decode cX3_shell 22 = .ok (.bipush (-102), 2) := by decide +kernel
theorem dX3_shell_24 : decode cX3_shell 24 = .ok (.ireturn, 1) := by decide +kernel
theorem dX3_shell_25 : decode cX3_shell 25 = .ok (.aload_n 0, 1) := by decide +kernel
theorem dX3_shell_26 : decode cX3_shell 26 = .ok (.getfield 46, 3) := by decide +kernel
theorem dX3_shell_29 : decode cX3_shell 29 = .ok (.getfield 87, 3) := by decide +kernel
theorem dX3_shell_32 : decode cX3_shell 32 = .ok (.bipush 8, 2) := by decide +kernel
theorem dX3_shell_34 : decode cX3_shell 34 = .ok (.if_icmp .lt 6, 3) := by decide +kernel
theorem dX3_shell_37 : decode cX3_shell 37 = .ok (.bipush (-104), 2) := by decide +kernel
theorem dX3_shell_39 : decode cX3_shell 39 = .ok (.ireturn, 1) := by decide +kernel
theorem dX3_shell_40 : decode cX3_shell 40 = .ok (.aload_n 0, 1) := by decide +kernel
theorem dX3_shell_41 : decode cX3_shell 41 = .ok (.getfield 46, 3) := by decide +kernel
theorem dX3_shell_44 : decode cX3_shell 44 = .ok (.iload_n 1, 1) := by decide +kernel
theorem dX3_shell_45 : decode cX3_shell 45 = .ok (.iload_n 2, 1) := by decide +kernel
theorem dX3_shell_46 : decode cX3_shell 46 = .ok (.iload_n 3, 1) := by decide +kernel
theorem dX3_shell_47 : decode cX3_shell 47 = .ok (.iload 4, 2) := by decide +kernel
theorem dX3_shell_49 : decode cX3_shell 49 = .ok (.invokevirtual 191, 3) := by decide +kernel
theorem dX3_shell_52 : decode cX3_shell 52 = .ok (.ireturn, 1) := by decide +kernel
theorem dX3_forget_0 : decode cX3_forget 0 = .ok (.aload_n 0, 1) := by decide +kernel
theorem dX3_forget_1 : decode cX3_forget 1 = .ok (.getfield 46, 3) := by decide +kernel
theorem dX3_forget_4 : decode cX3_forget 4 = .ok (.getfield 87, 3) := by decide +kernel
theorem dX3_forget_7 : decode cX3_forget 7 = .ok (.istore_n 1, 1) := by decide +kernel
theorem dX3_forget_8 : decode cX3_forget 8 = .ok (.aload_n 0, 1) := by decide +kernel
theorem dX3_forget_9 : decode cX3_forget 9 = .ok (.getfield 46, 3) := by decide +kernel
theorem dX3_forget_12 : decode cX3_forget 12 = .ok (.iconst 0, 1) := by decide +kernel
theorem dX3_forget_13 : decode cX3_forget 13 = .ok (.putfield 87, 3) := by decide +kernel
theorem dX3_forget_16 : decode cX3_forget 16 = .ok (.iload_n 1, 1) := by decide +kernel
theorem dX3_forget_17 : decode cX3_forget 17 = .ok (.ireturn, 1) := by decide +kernel
theorem dX3_guess_0 : decode cX3_guess 0 = .ok (.aload_n 0, 1) := by decide +kernel
theorem dX3_guess_1 : decode cX3_guess 1 = .ok (.iload_n 1, 1) := by decide +kernel
theorem dX3_guess_2 : decode cX3_guess 2 = .ok (.invokevirtual 112, 3) := by decide +kernel
theorem dX3_guess_5 : decode cX3_guess 5 = .ok (.ifCond .ne 6, 3) := by decide +kernel
theorem dX3_guess_8 : decode cX3_guess 8 = .ok (.bipush (-101), 2) := by decide +kernel
theorem dX3_guess_10 : decode cX3_guess 10 = .ok (.ireturn, 1) := by decide +kernel
theorem dX3_guess_11 : decode cX3_guess 11 = .ok (.iload_n 2, 1) := by decide +kernel
theorem dX3_guess_12 : decode cX3_guess 12 = .ok (.ifCond .lt 8, 3) := by decide +kernel
theorem dX3_guess_15 : decode cX3_guess 15 = .ok (.iload_n 2, 1) := by decide +kernel
theorem dX3_guess_16 : decode cX3_guess 16 = .ok (.iconst 1, 1) := by decide +kernel
theorem dX3_guess_17 : decode cX3_guess 17 = .ok (.if_icmp .le 6, 3) := by decide +kernel
theorem dX3_guess_20 : decode cX3_guess 20 = .ok (.bipush (-102), 2) := by decide +kernel
theorem dX3_guess_22 : decode cX3_guess 22 = .ok (.ireturn, 1) := by decide +kernel
theorem dX3_guess_23 : decode cX3_guess 23 = .ok (.iconst 0, 1) := by decide +kernel
theorem dX3_guess_24 : decode cX3_guess 24 = .ok (.istore_n 3, 1) := by decide +kernel
theorem dX3_guess_25 : decode cX3_guess 25 = .ok (.iconst (-1), 1) := by decide +kernel
theorem dX3_guess_26 : decode cX3_guess 26 = .ok (.istore 4, 2) := by decide +kernel
theorem dX3_guess_28 : decode cX3_guess 28 = .ok (.iconst 0, 1) := by decide +kernel
theorem dX3_guess_29 : decode cX3_guess 29 = .ok (.istore 5, 2) := by decide +kernel
theorem dX3_guess_31 : decode cX3_guess 31 = .ok (.iload 5, 2) := by decide +kernel
theorem dX3_guess_33 : decode cX3_guess 33 = .ok (.bipush 12, 2) := by decide +kernel
theorem dX3_guess_35 : decode cX3_guess 35 = .ok (.if_icmp .ge 87, 3) := by decide +kernel
theorem dX3_guess_38 : decode cX3_guess 38 = .ok (.aload_n 0, 1) := by decide +kernel
theorem dX3_guess_39 : decode cX3_guess 39 = .ok (.getfield 33, 3) := by decide +kernel
theorem dX3_guess_42 : decode cX3_guess 42 = .ok (.iload 5, 2) := by decide +kernel
theorem dX3_guess_44 : decode cX3_guess 44 = .ok (.invokevirtual 96, 3) := by decide +kernel
theorem dX3_guess_47 : decode cX3_guess 47 = .ok (.istore 6, 2) := by decide +kernel
theorem dX3_guess_49 : decode cX3_guess 49 = .ok (.iload 6, 2) := by decide +kernel
theorem dX3_guess_51 : decode cX3_guess 51 = .ok (.iconst (-1), 1) := by decide +kernel
theorem dX3_guess_52 : decode cX3_guess 52 = .ok (.if_icmp .eq 12, 3) := by decide +kernel
theorem dX3_guess_55 : decode cX3_guess 55 = .ok (.iload 6, 2) := by decide +kernel
theorem dX3_guess_57 : decode cX3_guess 57 = .ok (.iload_n 1, 1) := by decide +kernel
theorem dX3_guess_58 : decode cX3_guess 58 = .ok (.if_icmp .eq 6, 3) := by decide +kernel
theorem dX3_guess_61 : decode cX3_guess 61 = .ok (.goto 55, 3) := by decide +kernel
theorem dX3_guess_64 : decode cX3_guess 64 = .ok (.iconst (-1), 1) := by decide +kernel
theorem dX3_guess_65 : decode cX3_guess 65 = .ok (.istore 7, 2) := by decide +kernel
theorem dX3_guess_67 : decode cX3_guess 67 = .ok (.iload 7, 2) := by decide +kernel
theorem dX3_guess_69 : decode cX3_guess 69 = .ok (.iconst 1, 1) := by decide +kernel
theorem dX3_guess_70 : decode cX3_guess 70 = .ok (.if_icmp .gt 46, 3) := by decide +kernel
theorem dX3_guess_73 : decode cX3_guess 73 = .ok (.aload_n 0, 1) := by decide +kernel
theorem dX3_guess_74 : decode cX3_guess 74 = .ok (.iload_n 1, 1) := by decide +kernel
theorem dX3_guess_75 : decode cX3_guess 75 = .ok (.iload 5, 2) := by decide +kernel
theorem dX3_guess_77 : decode cX3_guess 77 = .ok (.iload 7, 2) := by decide +kernel
theorem dX3_guess_79 : decode cX3_guess 79 = .ok (.invokevirtual 194, 3) := by decide +kernel
theorem dX3_guess_82 : decode cX3_guess 82 = .ok (.ifCond .eq 28, 3) := by decide +kernel
theorem dX3_guess_85 : decode cX3_guess 85 = .ok (.iinc 3 1, 3) := by decide +kernel
theorem dX3_guess_88 : decode cX3_guess 88 = .ok (.iload 4, 2) := by decide +kernel
theorem dX3_guess_90 : decode cX3_guess 90 = .ok (.iconst (-1), 1) := by decide +kernel
theorem dX3_guess_91 : decode cX3_guess 91 = .ok (.if_icmp .ne 15, 3) := by decide +kernel
theorem dX3_guess_94 : decode cX3_guess 94 = .ok (.iconst 3, 1) := by decide +kernel
theorem dX3_guess_95 : decode cX3_guess 95 = .ok (.iload 5, 2) := by decide +kernel
theorem dX3_guess_97 : decode cX3_guess 97 = .ok (.imul, 1) := by decide +kernel
theorem dX3_guess_98 : decode cX3_guess 98 = .ok (.iload 7, 2) := by decide +kernel
theorem dX3_guess_100 : decode cX3_guess 100 = .ok (.iadd, 1) := by decide +kernel
theorem dX3_guess_101 : decode cX3_guess 101 = .ok (.iconst 1, 1) := by decide +kernel
theorem dX3_guess_102 : decode cX3_guess 102 = .ok (.iadd, 1) := by decide +kernel
theorem dX3_guess_103 : decode cX3_guess 103 = .ok (.goto 5, 3) := by decide +kernel
theorem dX3_guess_106 : decode cX3_guess 106 = .ok (.iload 4, 2) := by decide +kernel
theorem dX3_guess_108 : decode cX3_guess 108 = .ok (.istore 4, 2) := by decide +kernel
theorem dX3_guess_110 : decode cX3_guess 110 = .ok (.iinc 7 1, 3) := by decide +kernel
theorem dX3_guess_113 : decode cX3_guess 113 = .ok (.goto (-46), 3) := by decide +kernel
theorem dX3_guess_116 : decode cX3_guess 116 = .ok (.iinc 5 1, 3) := by decide +kernel
theorem dX3_guess_119 : decode cX3_guess 119 = .ok (.goto (-88), 3) := by decide +kernel
theorem dX3_guess_122 : decode cX3_guess 122 = .ok (.iload_n 2, 1) := by decide +kernel
theorem dX3_guess_123 : decode cX3_guess 123 = .ok (.ifCond .ne 7, 3) := by decide +kernel
theorem dX3_guess_126 : decode cX3_guess 126 = .ok (.iload_n 3, 1) := by decide +kernel
theorem dX3_guess_127 : decode cX3_guess 127 = .ok (.goto 5, 3) := by decide +kernel
theorem dX3_guess_130 : decode cX3_guess 130 = .ok (.iload 4, 2) := by decide +kernel
theorem dX3_guess_132 : decode cX3_guess 132 = .ok (.ireturn, 1) := by decide +kernel
theorem dX3_seasons_0 : decode cX3_seasons 0 = .ok (.iload_n 1, 1) := by decide +kernel
theorem dX3_seasons_1 : decode cX3_seasons 1 = .ok (.iconst 1, 1) := by decide +kernel
theorem dX3_seasons_2 : decode cX3_seasons 2 = .ok (.if_icmp .lt 22, 3) := by decide +kernel
theorem dX3_seasons_5 : decode cX3_seasons 5 = .ok (.iload_n 1, 1) := by decide +kernel
theorem dX3_seasons_6 : decode cX3_seasons 6 = .ok (.bipush 60, 2) := by decide +kernel
theorem dX3_seasons_8 : decode cX3_seasons 8 = .ok (.if_icmp .gt 16, 3) := by decide +kernel
theorem dX3_seasons_11 : decode cX3_seasons 11 = .ok (.iload_n 2, 1) := by decide +kernel
theorem dX3_seasons_12 : decode cX3_seasons 12 = .ok (.ifCond .lt 12, 3) := by decide +kernel
theorem dX3_seasons_15 : decode cX3_seasons 15 = .ok (.iload_n 3, 1) := by decide +kernel
theorem dX3_seasons_16 : decode cX3_seasons 16 = .ok (.ifCond .lt 8, 3) := by decide +kernel
theorem dX3_seasons_19 : decode cX3_seasons 19 = .ok (.iload_n 3, 1) := by decide +kernel
theorem dX3_seasons_20 : decode cX3_seasons 20 = .ok (.iconst 2, 1) := by decide +kernel
theorem dX3_seasons_21 : decode cX3_seasons 21 = .ok (.if_icmp .le 6, 3) := by decide +kernel
theorem dX3_seasons_24 : decode cX3_seasons 24 = .ok (.bipush (-102), 2) := by decide +kernel
theorem dX3_seasons_26 : decode cX3_seasons 26 = .ok (.ireturn, 1) := by decide +kernel
theorem dX3_seasons_27 : decode cX3_seasons 27 = .ok (.aload_n 0, 1) := by decide +kernel
theorem dX3_seasons_28 : decode cX3_seasons 28 = .ok (.getfield 17, 3) := by decide +kernel
theorem dX3_seasons_31 : decode cX3_seasons 31 = .ok (.ifCond .ne 6, 3) := by decide +kernel
theorem dX3_seasons_34 : decode cX3_seasons 34 = .ok (.bipush (-103), 2) := by decide +kernel
theorem dX3_seasons_36 : decode cX3_seasons 36 = .ok (.ireturn, 1) := by decide +kernel
theorem dX3_seasons_37 : decode cX3_seasons 37 = .ok (.aload_n 0, 1) := by decide +kernel
theorem dX3_seasons_38 : decode cX3_seasons 38 = .ok (.getfield 40, 3) := by decide +kernel
theorem dX3_seasons_41 : decode cX3_seasons 41 = .ok (.aload_n 0, 1) := by decide +kernel
theorem dX3_seasons_42 : decode cX3_seasons 42 = .ok (.getfield 33, 3) := by decide +kernel
theorem dX3_seasons_45 : decode cX3_seasons 45 = .ok (.invokevirtual 198, 3) := by decide +kernel
theorem dX3_seasons_48 : decode cX3_seasons 48 = .ok (.iload_n 2, 1) := by decide +kernel
theorem dX3_seasons_49 : decode cX3_seasons 49 = .ok (.istore 4, 2) := by decide +kernel
theorem dX3_seasons_51 : decode cX3_seasons 51 = .ok (.iconst 0, 1) := by decide +kernel
theorem dX3_seasons_52 : decode cX3_seasons 52 = .ok (.istore 5, 2) := by decide +kernel
theorem dX3_seasons_54 : decode cX3_seasons 54 = .ok (.iconst 0, 1) := by decide +kernel
theorem dX3_seasons_55 : decode cX3_seasons 55 = .ok (.istore 6, 2) := by decide +kernel
theorem dX3_seasons_57 : decode cX3_seasons 57 = .ok (.iload 6, 2) := by decide +kernel
theorem dX3_seasons_59 : decode cX3_seasons 59 = .ok (.iload_n 1, 1) := by decide +kernel
theorem dX3_seasons_60 : decode cX3_seasons 60 = .ok (.if_icmp .ge 44, 3) := by decide +kernel
theorem dX3_seasons_63 : decode cX3_seasons 63 = .ok (.iload 4, 2) := by decide +kernel
theorem dX3_seasons_65 : decode cX3_seasons 65 = .ok (.invokestatic 202, 3) := by decide +kernel
theorem dX3_seasons_68 : decode cX3_seasons 68 = .ok (.istore 4, 2) := by decide +kernel
theorem dX3_seasons_70 : decode cX3_seasons 70 = .ok (.aload_n 0, 1) := by decide +kernel
theorem dX3_seasons_71 : decode cX3_seasons 71 = .ok (.getfield 40, 3) := by decide +kernel
theorem dX3_seasons_74 : decode cX3_seasons 74 = .ok (.iload 4, 2) := by decide +kernel
theorem dX3_seasons_76 : decode cX3_seasons 76 = .ok (.bipush 16, 2) := by decide +kernel
theorem dX3_seasons_78 : decode cX3_seasons 78 = .ok (.ishr, 1) := by decide +kernel
theorem dX3_seasons_79 : decode cX3_seasons 79 = .ok (.iconst 3, 1) := by decide +kernel
theorem dX3_seasons_80 : decode cX3_seasons 80 = .ok (.irem, 1) := by decide +kernel
theorem dX3_seasons_81 : decode cX3_seasons 81 = .ok (.iconst 1, 1) := by decide +kernel
theorem dX3_seasons_82 : decode cX3_seasons 82 = .ok (.isub, 1) := by decide +kernel
theorem dX3_seasons_83 : decode cX3_seasons 83 = .ok (.putfield 99, 3) := by decide +kernel
theorem dX3_seasons_86 : decode cX3_seasons 86 = .ok (.iload 5, 2) := by decide +kernel
theorem dX3_seasons_88 : decode cX3_seasons 88 = .ok (.aload_n 0, 1) := by decide +kernel
theorem dX3_seasons_89 : decode cX3_seasons 89 = .ok (.getfield 40, 3) := by decide +kernel
theorem dX3_seasons_92 : decode cX3_seasons 92 = .ok (.invokevirtual 162, 3) := by decide +kernel
theorem dX3_seasons_95 : decode cX3_seasons 95 = .ok (.iadd, 1) := by decide +kernel
theorem dX3_seasons_96 : decode cX3_seasons 96 = .ok (.istore 5, 2) := by decide +kernel
theorem dX3_seasons_98 : decode cX3_seasons 98 = .ok (.iinc 6 1, 3) := by decide +kernel
theorem dX3_seasons_101 : decode cX3_seasons 101 = .ok (.goto (-44), 3) := by decide +kernel
theorem dX3_seasons_104 : decode cX3_seasons 104 = .ok (.iload_n 3, 1) := by decide +kernel
theorem dX3_seasons_105 : decode cX3_seasons 105 = .ok (.ifCond .ne 6, 3) := by decide +kernel
theorem dX3_seasons_108 : decode cX3_seasons 108 = .ok (.iload 5, 2) := by decide +kernel
theorem dX3_seasons_110 : decode cX3_seasons 110 = .ok (.ireturn, 1) := by decide +kernel
theorem dX3_seasons_111 : decode cX3_seasons 111 = .ok (.iload_n 3, 1) := by decide +kernel
theorem dX3_seasons_112 : decode cX3_seasons 112 = .ok (.iconst 1, 1) := by decide +kernel
theorem dX3_seasons_113 : decode cX3_seasons 113 = .ok (.if_icmp .ne 13, 3) := by decide +kernel
theorem dX3_seasons_116 : decode cX3_seasons 116 = .ok (.aload_n 0, 1) := by decide +kernel
theorem dX3_seasons_117 : decode cX3_seasons 117 = .ok (.getfield 40, 3) := by decide +kernel
theorem dX3_seasons_120 : decode cX3_seasons 120 = .ok (.invokevirtual 205, 3) := by decide +kernel
theorem dX3_seasons_123 : decode cX3_seasons 123 = .ok (.goto 5, 3) := by decide +kernel
theorem dX3_seasons_126 : decode cX3_seasons 126 = .ok (.iload 4, 2) := by decide +kernel
theorem dX3_seasons_128 : decode cX3_seasons 128 = .ok (.ireturn, 1) := by decide +kernel
theorem dX3_image_0 : decode cX3_image 0 = .ok (.aload_n 0, 1) := by decide +kernel
theorem dX3_image_1 : decode cX3_image 1 = .ok (.getfield 17, 3) := by decide +kernel
theorem dX3_image_4 : decode cX3_image 4 = .ok (.ifCond .ne 6, 3) := by decide +kernel
theorem dX3_image_7 : decode cX3_image 7 = .ok (.bipush (-103), 2) := by decide +kernel
theorem dX3_image_9 : decode cX3_image 9 = .ok (.ireturn, 1) := by decide +kernel
theorem dX3_image_10 : decode cX3_image 10 = .ok (.aload_n 0, 1) := by decide +kernel
theorem dX3_image_11 : decode cX3_image 11 = .ok (.getfield 37, 3) := by decide +kernel
theorem dX3_image_14 : decode cX3_image 14 = .ok (.aload_n 0, 1) := by decide +kernel
theorem dX3_image_15 : decode cX3_image 15 = .ok (.getfield 33, 3) := by decide +kernel
theorem dX3_image_18 : decode cX3_image 18 = .ok (.invokevirtual 198, 3) := by decide +kernel
theorem dX3_image_21 : decode cX3_image 21 = .ok (.aload_n 0, 1) := by decide +kernel
theorem dX3_image_22 : decode cX3_image 22 = .ok (.getfield 50, 3) := by decide +kernel
theorem dX3_image_25 : decode cX3_image 25 = .ok (.aload_n 0, 1) := by decide +kernel
theorem dX3_image_26 : decode cX3_image 26 = .ok (.getfield 46, 3) := by decide +kernel
theorem dX3_image_29 : decode cX3_image 29 = .ok (.invokevirtual 208, 3) := by decide +kernel
theorem dX3_image_32 : decode cX3_image 32 = .ok (.aload_n 0, 1) := by decide +kernel
theorem dX3_image_33 : decode cX3_image 33 = .ok (.iconst 1, 1) := by decide +kernel
theorem dX3_image_34 : decode cX3_image 34 = .ok (.putfield 21, 3) := by decide +kernel
theorem dX3_image_37 : decode cX3_image 37 = .ok (.aload_n 0, 1) := by decide +kernel
theorem dX3_image_38 : decode cX3_image 38 = .ok (.getfield 33, 3) := by decide +kernel
theorem dX3_image_41 : decode cX3_image 41 = .ok (.getfield 211, 3) := by decide +kernel
theorem dX3_image_44 : decode cX3_image 44 = .ok (.ireturn, 1) := by decide +kernel
theorem dX3_restore_0 : decode cX3_restore 0 = .ok (.aload_n 0, 1) := by decide +kernel
theorem dX3_restore_1 : decode cX3_restore 1 = .ok (.getfield 21, 3) := by decide +kernel
theorem dX3_restore_4 : decode cX3_restore 4 = .ok (.ifCond .ne 6, 3) := by decide +kernel
theorem dX3_restore_7 : decode cX3_restore 7 = .ok (.bipush (-103), 2) := by decide +kernel
theorem dX3_restore_9 : decode cX3_restore 9 = .ok (.ireturn, 1) := by decide +kernel
theorem dX3_restore_10 : decode cX3_restore 10 = .ok (.aload_n 0, 1) := by decide +kernel
theorem dX3_restore_11 : decode cX3_restore 11 = .ok (.getfield 33, 3) := by decide +kernel
theorem dX3_restore_14 : decode cX3_restore 14 = .ok (.aload_n 0, 1) := by decide +kernel
theorem dX3_restore_15 : decode cX3_restore 15 = .ok (.getfield 37, 3) := by decide +kernel
theorem dX3_restore_18 : decode cX3_restore 18 = .ok (.invokevirtual 198, 3) := by decide +kernel
theorem dX3_restore_21 : decode cX3_restore 21 = .ok (.aload_n 0, 1) := by decide +kernel
theorem dX3_restore_22 : decode cX3_restore 22 = .ok (.getfield 46, 3) := by decide +kernel
theorem dX3_restore_25 : decode cX3_restore 25 = .ok (.aload_n 0, 1) := by decide +kernel
theorem dX3_restore_26 : decode cX3_restore 26 = .ok (.getfield 50, 3) := by decide +kernel
theorem dX3_restore_29 : decode cX3_restore 29 = .ok (.invokevirtual 208, 3) := by decide +kernel
theorem dX3_restore_32 : decode cX3_restore 32 = .ok (.aload_n 0, 1) := by decide +kernel
theorem dX3_restore_33 : decode cX3_restore 33 = .ok (.getfield 33, 3) := by decide +kernel
theorem dX3_restore_36 : decode cX3_restore 36 = .ok (.getfield 211, 3) := by decide +kernel
theorem dX3_restore_39 : decode cX3_restore 39 = .ok (.ireturn, 1) := by decide +kernel
theorem dX3_count_0 : decode cX3_count 0 = .ok (.iload_n 1, 1) := by decide +kernel
theorem dX3_count_1 : decode cX3_count 1 = .ok (.tableswitch 158 0 11 #[63, 77, 85, 93, 101, 109, 117, 125, 135, 143, 148, 153], 63) := by decide +kernel
theorem dX3_count_64 : decode cX3_count 64 = .ok (.aload_n 0, 1) := by decide +kernel
theorem dX3_count_65 : decode cX3_count 65 = .ok (.getfield 17, 3) := by decide +kernel
theorem dX3_count_68 : decode cX3_count 68 = .ok (.ifCond .eq 8, 3) := by decide +kernel
theorem dX3_count_71 : decode cX3_count 71 = .ok (.bipush 12, 2) := by decide +kernel
theorem dX3_count_73 : decode cX3_count 73 = .ok (.goto 4, 3) := by decide +kernel
theorem dX3_count_76 : decode cX3_count 76 = .ok (.iconst 0, 1) := by decide +kernel
theorem dX3_count_77 : decode cX3_count 77 = .ok (.ireturn, 1) := by decide +kernel
theorem dX3_count_78 : decode cX3_count 78 = .ok (.aload_n 0, 1) := by decide +kernel
theorem dX3_count_79 : decode cX3_count 79 = .ok (.getfield 33, 3) := by decide +kernel
theorem dX3_count_82 : decode cX3_count 82 = .ok (.invokevirtual 90, 3) := by decide +kernel
theorem dX3_count_85 : decode cX3_count 85 = .ok (.ireturn, 1) := by decide +kernel
theorem dX3_count_86 : decode cX3_count 86 = .ok (.aload_n 0, 1) := by decide +kernel
theorem dX3_count_87 : decode cX3_count 87 = .ok (.getfield 33, 3) := by decide +kernel
theorem dX3_count_90 : decode cX3_count 90 = .ok (.getfield 105, 3) := by decide +kernel
theorem dX3_count_93 : decode cX3_count 93 = .ok (.ireturn, 1) := by decide +kernel
theorem dX3_count_94 : decode cX3_count 94 = .ok (.aload_n 0, 1) := by decide +kernel
theorem dX3_count_95 : decode cX3_count 95 = .ok (.getfield 33, 3) := by decide +kernel
theorem dX3_count_98 : decode cX3_count 98 = .ok (.getfield 152, 3) := by decide +kernel
theorem dX3_count_101 : decode cX3_count 101 = .ok (.ireturn, 1) := by decide +kernel
theorem dX3_count_102 : decode cX3_count 102 = .ok (.aload_n 0, 1) := by decide +kernel
theorem dX3_count_103 : decode cX3_count 103 = .ok (.getfield 33, 3) := by decide +kernel
theorem dX3_count_106 : decode cX3_count 106 = .ok (.invokevirtual 214, 3) := by decide +kernel
theorem dX3_count_109 : decode cX3_count 109 = .ok (.ireturn, 1) := by decide +kernel
theorem dX3_count_110 : decode cX3_count 110 = .ok (.aload_n 0, 1) := by decide +kernel
theorem dX3_count_111 : decode cX3_count 111 = .ok (.getfield 33, 3) := by decide +kernel
theorem dX3_count_114 : decode cX3_count 114 = .ok (.getfield 211, 3) := by decide +kernel
theorem dX3_count_117 : decode cX3_count 117 = .ok (.ireturn, 1) := by decide +kernel
theorem dX3_count_118 : decode cX3_count 118 = .ok (.aload_n 0, 1) := by decide +kernel
theorem dX3_count_119 : decode cX3_count 119 = .ok (.getfield 33, 3) := by decide +kernel
theorem dX3_count_122 : decode cX3_count 122 = .ok (.getfield 217, 3) := by decide +kernel
theorem dX3_count_125 : decode cX3_count 125 = .ok (.ireturn, 1) := by decide +kernel
theorem dX3_count_126 : decode cX3_count 126 = .ok (.aload_n 0, 1) := by decide +kernel
theorem dX3_count_127 : decode cX3_count 127 = .ok (.getfield 33, 3) := by decide +kernel
theorem dX3_count_130 : decode cX3_count 130 = .ok (.getfield 99, 3) := by decide +kernel
theorem dX3_count_133 : decode cX3_count 133 = .ok (.iconst 1, 1) := by decide +kernel
theorem dX3_count_134 : decode cX3_count 134 = .ok (.iadd, 1) := by decide +kernel
theorem dX3_count_135 : decode cX3_count 135 = .ok (.ireturn, 1) := by decide +kernel
theorem dX3_count_136 : decode cX3_count 136 = .ok (.aload_n 0, 1) := by decide +kernel
theorem dX3_count_137 : decode cX3_count 137 = .ok (.getfield 46, 3) := by decide +kernel
theorem dX3_count_140 : decode cX3_count 140 = .ok (.getfield 87, 3) := by decide +kernel
theorem dX3_count_143 : decode cX3_count 143 = .ok (.ireturn, 1) := by decide +kernel
theorem dX3_count_144 : decode cX3_count 144 = .ok (.aload_n 0, 1) := by decide +kernel
theorem dX3_count_145 : decode cX3_count 145 = .ok (.getfield 13, 3) := by decide +kernel
theorem dX3_count_148 : decode cX3_count 148 = .ok (.ireturn, 1) := by decide +kernel
theorem dX3_count_149 : decode cX3_count 149 = .ok (.aload_n 0, 1) := by decide +kernel
theorem dX3_count_150 : decode cX3_count 150 = .ok (.getfield 24, 3) := by decide +kernel
theorem dX3_count_153 : decode cX3_count 153 = .ok (.ireturn, 1) := by decide +kernel
theorem dX3_count_154 : decode cX3_count 154 = .ok (.aload_n 0, 1) := by decide +kernel
theorem dX3_count_155 : decode cX3_count 155 = .ok (.getfield 27, 3) := by decide +kernel
theorem dX3_count_158 : decode cX3_count 158 = .ok (.ireturn, 1) := by decide +kernel
theorem dX3_count_159 : decode cX3_count 159 = .ok (.bipush (-102), 2) := by decide +kernel
theorem dX3_count_161 : decode cX3_count 161 = .ok (.ireturn, 1) := by decide +kernel
theorem dX3_digest_0 : decode cX3_digest 0 = .ok (.ldc2_w 220, 3) := by decide +kernel
theorem dX3_digest_3 : decode cX3_digest 3 = .ok (.lstore_n 1, 1) := by decide +kernel
theorem dX3_digest_4 : decode cX3_digest 4 = .ok (.aload_n 0, 1) := by decide +kernel
theorem dX3_digest_5 : decode cX3_digest 5 = .ok (.getfield 17, 3) := by decide +kernel
theorem dX3_digest_8 : decode cX3_digest 8 = .ok (.ifCond .eq 50, 3) := by decide +kernel
theorem dX3_digest_11 : decode cX3_digest 11 = .ok (.iconst 0, 1) := by decide +kernel
theorem dX3_digest_12 : decode cX3_digest 12 = .ok (.istore_n 3, 1) := by decide +kernel
theorem dX3_digest_13 : decode cX3_digest 13 = .ok (.iload_n 3, 1) := by decide +kernel
theorem dX3_digest_14 : decode cX3_digest 14 = .ok (.bipush 12, 2) := by decide +kernel
theorem dX3_digest_16 : decode cX3_digest 16 = .ok (.if_icmp .ge 42, 3) := by decide +kernel
theorem dX3_digest_19 : decode cX3_digest 19 = .ok (.ldc2_w 222, 3) := by decide +kernel
theorem dX3_digest_22 : decode cX3_digest 22 = .ok (.lload_n 1, 1) := by decide +kernel
theorem dX3_digest_23 : decode cX3_digest 23 = .ok (.lmul, 1) := by decide +kernel
theorem dX3_digest_24 : decode cX3_digest 24 = .ok (.aload_n 0, 1) := by decide +kernel
theorem dX3_digest_25 : decode cX3_digest 25 = .ok (.getfield 33, 3) := by decide +kernel
theorem dX3_digest_28 : decode cX3_digest 28 = .ok (.getfield 80, 3) := by decide +kernel
theorem dX3_digest_31 : decode cX3_digest 31 = .ok (.iload_n 3, 1) := by decide +kernel
theorem dX3_digest_32 : decode cX3_digest 32 = .ok (.iaload, 1) := by decide +kernel
theorem dX3_digest_33 : decode cX3_digest 33 = .ok (.i2l, 1) := by decide +kernel
theorem dX3_digest_34 : decode cX3_digest 34 = .ok (.ladd, 1) := by decide +kernel
theorem dX3_digest_35 : decode cX3_digest 35 = .ok (.lstore_n 1, 1) := by decide +kernel
theorem dX3_digest_36 : decode cX3_digest 36 = .ok (.ldc2_w 222, 3) := by decide +kernel
theorem dX3_digest_39 : decode cX3_digest 39 = .ok (.lload_n 1, 1) := by decide +kernel
theorem dX3_digest_40 : decode cX3_digest 40 = .ok (.lmul, 1) := by decide +kernel
theorem dX3_digest_41 : decode cX3_digest 41 = .ok (.aload_n 0, 1) := by decide +kernel
theorem dX3_digest_42 : decode cX3_digest 42 = .ok (.getfield 33, 3) := by decide +kernel
theorem dX3_digest_45 : decode cX3_digest 45 = .ok (.iload_n 3, 1) := by decide +kernel
theorem dX3_digest_46 : decode cX3_digest 46 = .ok (.invokevirtual 96, 3) := by decide +kernel
theorem dX3_digest_49 : decode cX3_digest 49 = .ok (.i2l, 1) := by decide +kernel
theorem dX3_digest_50 : decode cX3_digest 50 = .ok (.ladd, 1) := by decide +kernel
theorem dX3_digest_51 : decode cX3_digest 51 = .ok (.lstore_n 1, 1) := by decide +kernel
theorem dX3_digest_52 : decode cX3_digest 52 = .ok (.iinc 3 1, 3) := by decide +kernel
theorem dX3_digest_55 : decode cX3_digest 55 = .ok (.goto (-42), 3) := by decide +kernel
theorem dX3_digest_58 : decode cX3_digest 58 = .ok (.aload_n 0, 1) := by decide +kernel
theorem dX3_digest_59 : decode cX3_digest 59 = .ok (.bipush 60, 2) := by decide +kernel
theorem dX3_digest_61 : decode cX3_digest 61 = .ok (.invokevirtual 177, 3) := by decide +kernel
theorem dX3_digest_64 : decode cX3_digest 64 = .ok (.aload_n 0, 1) := by decide +kernel
theorem dX3_digest_65 : decode cX3_digest 65 = .ok (.lload_n 1, 1) := by decide +kernel
theorem dX3_digest_66 : decode cX3_digest 66 = .ok (.invokevirtual 224, 3) := by decide +kernel
theorem dX3_digest_69 : decode cX3_digest 69 = .ok (.lstore_n 1, 1) := by decide +kernel
theorem dX3_digest_70 : decode cX3_digest 70 = .ok (.aload_n 0, 1) := by decide +kernel
theorem dX3_digest_71 : decode cX3_digest 71 = .ok (.getfield 17, 3) := by decide +kernel
theorem dX3_digest_74 : decode cX3_digest 74 = .ok (.ifCond .eq 24, 3) := by decide +kernel
theorem dX3_digest_77 : decode cX3_digest 77 = .ok (.aload_n 0, 1) := by decide +kernel
theorem dX3_digest_78 : decode cX3_digest 78 = .ok (.getfield 59, 3) := by decide +kernel
theorem dX3_digest_81 : decode cX3_digest 81 = .ok (.aload_n 0, 1) := by decide +kernel
theorem dX3_digest_82 : decode cX3_digest 82 = .ok (.getfield 33, 3) := by decide +kernel
theorem dX3_digest_85 : decode cX3_digest 85 = .ok (.aload_n 0, 1) := by decide +kernel
theorem dX3_digest_86 : decode cX3_digest 86 = .ok (.getfield 53, 3) := by decide +kernel
theorem dX3_digest_89 : decode cX3_digest 89 = .ok (.invokevirtual 181, 3) := by decide +kernel
theorem dX3_digest_92 : decode cX3_digest 92 = .ok (.aload_n 0, 1) := by decide +kernel
theorem dX3_digest_93 : decode cX3_digest 93 = .ok (.lload_n 1, 1) := by decide +kernel
theorem dX3_digest_94 : decode cX3_digest 94 = .ok (.invokevirtual 228, 3) := by decide +kernel
theorem dX3_digest_97 : decode cX3_digest 97 = .ok (.lstore_n 1, 1) := by decide +kernel
theorem dX3_digest_98 : decode cX3_digest 98 = .ok (.iconst 0, 1) := by decide +kernel
theorem dX3_digest_99 : decode cX3_digest 99 = .ok (.istore_n 3, 1) := by decide +kernel
theorem dX3_digest_100 : decode cX3_digest 100 = .ok (.iload_n 3, 1) := by decide +kernel
theorem dX3_digest_101 : decode cX3_digest 101 = .ok (.aload_n 0, 1) := by decide +kernel
theorem dX3_digest_102 : decode cX3_digest 102 = .ok (.getfield 13, 3) := by decide +kernel
theorem dX3_digest_105 : decode cX3_digest 105 = .ok (.if_icmp .ge 23, 3) := by decide +kernel
theorem dX3_digest_108 : decode cX3_digest 108 = .ok (.ldc2_w 222, 3) := by decide +kernel
theorem dX3_digest_111 : decode cX3_digest 111 = .ok (.lload_n 1, 1) := by decide +kernel
theorem dX3_digest_112 : decode cX3_digest 112 = .ok (.lmul, 1) := by decide +kernel
theorem dX3_digest_113 : decode cX3_digest 113 = .ok (.aload_n 0, 1) := by decide +kernel
theorem dX3_digest_114 : decode cX3_digest 114 = .ok (.getfield 9, 3) := by decide +kernel
theorem dX3_digest_117 : decode cX3_digest 117 = .ok (.iload_n 3, 1) := by decide +kernel
theorem dX3_digest_118 : decode cX3_digest 118 = .ok (.iaload, 1) := by decide +kernel
theorem dX3_digest_119 : decode cX3_digest 119 = .ok (.i2l, 1) := by decide +kernel
theorem dX3_digest_120 : decode cX3_digest 120 = .ok (.ladd, 1) := by decide +kernel
theorem dX3_digest_121 : decode cX3_digest 121 = .ok (.lstore_n 1, 1) := by decide +kernel
theorem dX3_digest_122 : decode cX3_digest 122 = .ok (.iinc 3 1, 3) := by decide +kernel
theorem dX3_digest_125 : decode cX3_digest 125 = .ok (.goto (-25), 3) := by decide +kernel
theorem dX3_digest_128 : decode cX3_digest 128 = .ok (.iconst 0, 1) := by decide +kernel
theorem dX3_digest_129 : decode cX3_digest 129 = .ok (.istore_n 3, 1) := by decide +kernel
theorem dX3_digest_130 : decode cX3_digest 130 = .ok (.iload_n 3, 1) := by decide +kernel
theorem dX3_digest_131 : decode cX3_digest 131 = .ok (.bipush 12, 2) := by decide +kernel
theorem dX3_digest_133 : decode cX3_digest 133 = .ok (.if_icmp .ge 22, 3) := by decide +kernel
theorem dX3_digest_136 : decode cX3_digest 136 = .ok (.ldc2_w 222, 3) := by decide +kernel
theorem dX3_digest_139 : decode cX3_digest 139 = .ok (.lload_n 1, 1) := by decide +kernel
theorem dX3_digest_140 : decode cX3_digest 140 = .ok (.lmul, 1) := by decide +kernel
theorem dX3_digest_141 : decode cX3_digest 141 = .ok (.aload_n 0, 1) := by decide +kernel
theorem dX3_digest_142 : decode cX3_digest 142 = .ok (.iload_n 3, 1) := by decide +kernel
theorem dX3_digest_143 : decode cX3_digest 143 = .ok (.invokevirtual 231, 3) := by decide +kernel
theorem dX3_digest_146 : decode cX3_digest 146 = .ok (.i2l, 1) := by decide +kernel
theorem dX3_digest_147 : decode cX3_digest 147 = .ok (.ladd, 1) := by decide +kernel
theorem dX3_digest_148 : decode cX3_digest 148 = .ok (.lstore_n 1, 1) := by decide +kernel
theorem dX3_digest_149 : decode cX3_digest 149 = .ok (.iinc 3 1, 3) := by decide +kernel
theorem dX3_digest_152 : decode cX3_digest 152 = .ok (.goto (-22), 3) := by decide +kernel
theorem dX3_digest_155 : decode cX3_digest 155 = .ok (.lload_n 1, 1) := by decide +kernel
theorem dX3_digest_156 : decode cX3_digest 156 = .ok (.lreturn, 1) := by decide +kernel
theorem dX3_isSign_0 : decode cX3_isSign 0 = .ok (.iload_n 0, 1) := by decide +kernel
theorem dX3_isSign_1 : decode cX3_isSign 1 = .ok (.bipush 62, 2) := by decide +kernel
theorem dX3_isSign_3 : decode cX3_isSign 3 = .ok (.if_icmp .eq 15, 3) := by decide +kernel
theorem dX3_isSign_6 : decode cX3_isSign 6 = .ok (.iload_n 0, 1) := by decide +kernel
theorem dX3_isSign_7 : decode cX3_isSign 7 = .ok (.bipush 60, 2) := by decide +kernel
theorem dX3_isSign_9 : decode cX3_isSign 9 = .ok (.if_icmp .eq 9, 3) := by decide +kernel
theorem dX3_isSign_12 : decode cX3_isSign 12 = .ok (.iload_n 0, 1) := by decide +kernel
theorem dX3_isSign_13 : decode cX3_isSign 13 = .ok (.bipush 46, 2) := by decide +kernel
theorem dX3_isSign_15 : decode cX3_isSign 15 = .ok (.if_icmp .ne 7, 3) := by decide +kernel
theorem dX3_isSign_18 : decode cX3_isSign 18 = .ok (.iconst 1, 1) := by decide +kernel
theorem dX3_isSign_19 : decode cX3_isSign 19 = .ok (.goto 4, 3) := by decide +kernel
theorem dX3_isSign_22 : decode cX3_isSign 22 = .ok (.iconst 0, 1) := by decide +kernel
theorem dX3_isSign_23 : decode cX3_isSign 23 = .ok (.ireturn, 1) := by decide +kernel
theorem dX3_currentOf_0 : decode cX3_currentOf 0 = .ok (.iload_n 0, 1) := by decide +kernel
theorem dX3_currentOf_1 : decode cX3_currentOf 1 = .ok (.bipush 62, 2) := by decide +kernel
theorem dX3_currentOf_3 : decode cX3_currentOf 3 = .ok (.if_icmp .ne 5, 3) := by decide +kernel
theorem dX3_currentOf_6 : decode cX3_currentOf 6 = .ok (.iconst 1, 1) := by decide +kernel
theorem dX3_currentOf_7 : decode cX3_currentOf 7 = .ok (.ireturn, 1) := by decide +kernel
theorem dX3_currentOf_8 : decode cX3_currentOf 8 = .ok (.iload_n 0, 1) := by decide +kernel
theorem dX3_currentOf_9 : decode cX3_currentOf 9 = .ok (.bipush 60, 2) := by decide +kernel
theorem dX3_currentOf_11 : decode cX3_currentOf 11 = .ok (.if_icmp .ne 7, 3) := by decide +kernel
theorem dX3_currentOf_14 : decode cX3_currentOf 14 = .ok (.iconst (-1), 1) := by decide +kernel
theorem dX3_currentOf_15 : decode cX3_currentOf 15 = .ok (.goto 4, 3) := by decide +kernel
theorem dX3_currentOf_18 : decode cX3_currentOf 18 = .ok (.iconst 0, 1) := by decide +kernel
theorem dX3_currentOf_19 : decode cX3_currentOf 19 = .ok (.ireturn, 1) := by decide +kernel
theorem dX3_nextSeed_0 : decode cX3_nextSeed 0 = .ok (.ldc2_w 234, 3) := by decide +kernel
theorem dX3_nextSeed_3 : decode cX3_nextSeed 3 = .ok (.iload_n 0, 1) := by decide +kernel
theorem dX3_nextSeed_4 : decode cX3_nextSeed 4 = .ok (.i2l, 1) := by decide +kernel
theorem dX3_nextSeed_5 : decode cX3_nextSeed 5 = .ok (.lmul, 1) := by decide +kernel
theorem dX3_nextSeed_6 : decode cX3_nextSeed 6 = .ok (.ldc2_w 236, 3) := by decide +kernel
theorem dX3_nextSeed_9 : decode cX3_nextSeed 9 = .ok (.ladd, 1) := by decide +kernel
theorem dX3_nextSeed_10 : decode cX3_nextSeed 10 = .ok (.ldc2_w 238, 3) := by decide +kernel
theorem dX3_nextSeed_13 : decode cX3_nextSeed 13 = .ok (.land, 1) := by decide +kernel
theorem dX3_nextSeed_14 : decode cX3_nextSeed 14 = .ok (.l2i, 1) := by decide +kernel
theorem dX3_nextSeed_15 : decode cX3_nextSeed 15 = .ok (.ireturn, 1) := by decide +kernel
theorem dX3_isKind_0 : decode cX3_isKind 0 = .ok (.iload_n 0, 1) := by decide +kernel
theorem dX3_isKind_1 : decode cX3_isKind 1 = .ok (.ifCond .lt 12, 3) := by decide +kernel
theorem dX3_isKind_4 : decode cX3_isKind 4 = .ok (.iload_n 0, 1) := by decide +kernel
theorem dX3_isKind_5 : decode cX3_isKind 5 = .ok (.iconst 5, 1) := by decide +kernel
theorem dX3_isKind_6 : decode cX3_isKind 6 = .ok (.if_icmp .ge 7, 3) := by decide +kernel
theorem dX3_isKind_9 : decode cX3_isKind 9 = .ok (.iconst 1, 1) := by decide +kernel
theorem dX3_isKind_10 : decode cX3_isKind 10 = .ok (.goto 4, 3) := by decide +kernel
theorem dX3_isKind_13 : decode cX3_isKind 13 = .ok (.iconst 0, 1) := by decide +kernel
theorem dX3_isKind_14 : decode cX3_isKind 14 = .ok (.ireturn, 1) := by decide +kernel
theorem dX3_isPlace_0 : decode cX3_isPlace 0 = .ok (.aload_n 0, 1) := by decide +kernel
theorem dX3_isPlace_1 : decode cX3_isPlace 1 = .ok (.getfield 17, 3) := by decide +kernel
theorem dX3_isPlace_4 : decode cX3_isPlace 4 = .ok (.ifCond .eq 17, 3) := by decide +kernel
theorem dX3_isPlace_7 : decode cX3_isPlace 7 = .ok (.iload_n 1, 1) := by decide +kernel
theorem dX3_isPlace_8 : decode cX3_isPlace 8 = .ok (.ifCond .lt 13, 3) := by decide +kernel
theorem dX3_isPlace_11 : decode cX3_isPlace 11 = .ok (.iload_n 1, 1) := by decide +kernel
theorem dX3_isPlace_12 : decode cX3_isPlace 12 = .ok (.bipush 12, 2) := by decide +kernel
theorem dX3_isPlace_14 : decode cX3_isPlace 14 = .ok (.if_icmp .ge 7, 3) := by decide +kernel
theorem dX3_isPlace_17 : decode cX3_isPlace 17 = .ok (.iconst 1, 1) := by decide +kernel
theorem dX3_isPlace_18 : decode cX3_isPlace 18 = .ok (.goto 4, 3) := by decide +kernel
theorem dX3_isPlace_21 : decode cX3_isPlace 21 = .ok (.iconst 0, 1) := by decide +kernel
theorem dX3_isPlace_22 : decode cX3_isPlace 22 = .ok (.ireturn, 1) := by decide +kernel
theorem dX3_isIsland_0 : decode cX3_isIsland 0 = .ok (.iload_n 1, 1) := by decide +kernel
theorem dX3_isIsland_1 : decode cX3_isIsland 1 = .ok (.ifCond .lt 18, 3) := by decide +kernel
theorem dX3_isIsland_4 : decode cX3_isIsland 4 = .ok (.iload_n 1, 1) := by decide +kernel
theorem dX3_isIsland_5 : decode cX3_isIsland 5 = .ok (.aload_n 0, 1) := by decide +kernel
theorem dX3_isIsland_6 : decode cX3_isIsland 6 = .ok (.getfield 33, 3) := by decide +kernel
theorem dX3_isIsland_9 : decode cX3_isIsland 9 = .ok (.getfield 105, 3) := by decide +kernel
theorem dX3_isIsland_12 : decode cX3_isIsland 12 = .ok (.if_icmp .ge 7, 3) := by decide +kernel
theorem dX3_isIsland_15 : decode cX3_isIsland 15 = .ok (.iconst 1, 1) := by decide +kernel
theorem dX3_isIsland_16 : decode cX3_isIsland 16 = .ok (.goto 4, 3) := by decide +kernel
theorem dX3_isIsland_19 : decode cX3_isIsland 19 = .ok (.iconst 0, 1) := by decide +kernel
theorem dX3_isIsland_20 : decode cX3_isIsland 20 = .ok (.ireturn, 1) := by decide +kernel
theorem dX3_areTwo_0 : decode cX3_areTwo 0 = .ok (.aload_n 0, 1) := by decide +kernel
theorem dX3_areTwo_1 : decode cX3_areTwo 1 = .ok (.iload_n 1, 1) := by decide +kernel
theorem dX3_areTwo_2 : decode cX3_areTwo 2 = .ok (.invokevirtual 112, 3) := by decide +kernel
theorem dX3_areTwo_5 : decode cX3_areTwo 5 = .ok (.ifCond .eq 20, 3) := by decide +kernel
theorem dX3_areTwo_8 : decode cX3_areTwo 8 = .ok (.aload_n 0, 1) := by decide +kernel
theorem dX3_areTwo_9 : decode cX3_areTwo 9 = .ok (.iload_n 2, 1) := by decide +kernel
theorem dX3_areTwo_10 : decode cX3_areTwo 10 = .ok (.invokevirtual 112, 3) := by decide +kernel
theorem dX3_areTwo_13 : decode cX3_areTwo 13 = .ok (.ifCond .eq 12, 3) := by decide +kernel
theorem dX3_areTwo_16 : decode cX3_areTwo 16 = .ok (.iload_n 1, 1) := by decide +kernel
theorem dX3_areTwo_17 : decode cX3_areTwo 17 = .ok (.iload_n 2, 1) := by decide +kernel
theorem dX3_areTwo_18 : decode cX3_areTwo 18 = .ok (.if_icmp .eq 7, 3) := by decide +kernel
theorem dX3_areTwo_21 : decode cX3_areTwo 21 = .ok (.iconst 1, 1) := by decide +kernel
theorem dX3_areTwo_22 : decode cX3_areTwo 22 = .ok (.goto 4, 3) := by decide +kernel
theorem dX3_areTwo_25 : decode cX3_areTwo 25 = .ok (.iconst 0, 1) := by decide +kernel
theorem dX3_areTwo_26 : decode cX3_areTwo 26 = .ok (.ireturn, 1) := by decide +kernel
theorem dX3_firstMeeting_0 : decode cX3_firstMeeting 0 = .ok (.aload_n 0, 1) := by decide +kernel
theorem dX3_firstMeeting_1 : decode cX3_firstMeeting 1 = .ok (.getfield 40, 3) := by decide +kernel
theorem dX3_firstMeeting_4 : decode cX3_firstMeeting 4 = .ok (.aload_n 0, 1) := by decide +kernel
theorem dX3_firstMeeting_5 : decode cX3_firstMeeting 5 = .ok (.getfield 33, 3) := by decide +kernel
theorem dX3_firstMeeting_8 : decode cX3_firstMeeting 8 = .ok (.invokevirtual 198, 3) := by decide +kernel
theorem dX3_firstMeeting_11 : decode cX3_firstMeeting 11 = .ok (.aload_n 0, 1) := by decide +kernel
theorem dX3_firstMeeting_12 : decode cX3_firstMeeting 12 = .ok (.getfield 40, 3) := by decide +kernel
theorem dX3_firstMeeting_15 : decode cX3_firstMeeting 15 = .ok (.dup, 1) := by decide +kernel
theorem dX3_firstMeeting_16 : decode cX3_firstMeeting 16 = .ok (.getfield 139, 3) := by decide +kernel
theorem dX3_firstMeeting_19 : decode cX3_firstMeeting 19 = .ok (.iload 4, 2) := by decide +kernel
theorem dX3_firstMeeting_21 : decode cX3_firstMeeting 21 = .ok (.ior, 1) := by decide +kernel
theorem dX3_firstMeeting_22 : decode cX3_firstMeeting 22 = .ok (.putfield 139, 3) := by decide +kernel
theorem dX3_firstMeeting_25 : decode cX3_firstMeeting 25 = .ok (.iconst 0, 1) := by decide +kernel
theorem dX3_firstMeeting_26 : decode cX3_firstMeeting 26 = .ok (.istore 5, 2) := by decide +kernel
theorem dX3_firstMeeting_28 : decode cX3_firstMeeting 28 = .ok (.iload 5, 2) := by decide +kernel
theorem dX3_firstMeeting_30 : decode cX3_firstMeeting 30 = .ok (.iload_n 3, 1) := by decide +kernel
theorem dX3_firstMeeting_31 : decode cX3_firstMeeting 31 = .ok (.if_icmp .ge 32, 3) := by decide +kernel
theorem dX3_firstMeeting_34 : decode cX3_firstMeeting 34 = .ok (.aload_n 0, 1) := by decide +kernel
theorem dX3_firstMeeting_35 : decode cX3_firstMeeting 35 = .ok (.getfield 40, 3) := by decide +kernel
theorem dX3_firstMeeting_38 : decode cX3_firstMeeting 38 = .ok (.iload_n 1, 1) := by decide +kernel
theorem dX3_firstMeeting_39 : decode cX3_firstMeeting 39 = .ok (.iload_n 2, 1) := by decide +kernel
theorem dX3_firstMeeting_40 : decode cX3_firstMeeting 40 = .ok (.invokevirtual 149, 3) := by decide +kernel
theorem dX3_firstMeeting_43 : decode cX3_firstMeeting 43 = .ok (.ifCond .eq 6, 3) := by decide +kernel
theorem dX3_firstMeeting_46 : decode cX3_firstMeeting 46 = .ok (.iload 5, 2) := by decide +kernel
theorem dX3_firstMeeting_48 : decode cX3_firstMeeting 48 = .ok (.ireturn, 1) := by decide +kernel
theorem dX3_firstMeeting_49 : decode cX3_firstMeeting 49 = .ok (.aload_n 0, 1) := by decide +kernel
theorem dX3_firstMeeting_50 : decode cX3_firstMeeting 50 = .ok (.getfield 40, 3) := by decide +kernel
theorem dX3_firstMeeting_53 : decode cX3_firstMeeting 53 = .ok (.invokevirtual 162, 3) := by decide +kernel
theorem dX3_firstMeeting_56 : decode cX3_firstMeeting 56 = .ok (.pop, 1) := by decide +kernel
theorem dX3_firstMeeting_57 : decode cX3_firstMeeting 57 = .ok (.iinc 5 1, 3) := by decide +kernel
theorem dX3_firstMeeting_60 : decode cX3_firstMeeting 60 = .ok (.goto (-32), 3) := by decide +kernel
theorem dX3_firstMeeting_63 : decode cX3_firstMeeting 63 = .ok (.aload_n 0, 1) := by decide +kernel
theorem dX3_firstMeeting_64 : decode cX3_firstMeeting 64 = .ok (.getfield 40, 3) := by decide +kernel
theorem dX3_firstMeeting_67 : decode cX3_firstMeeting 67 = .ok (.iload_n 1, 1) := by decide +kernel
theorem dX3_firstMeeting_68 : decode cX3_firstMeeting 68 = .ok (.iload_n 2, 1) := by decide +kernel
theorem dX3_firstMeeting_69 : decode cX3_firstMeeting 69 = .ok (.invokevirtual 149, 3) := by decide +kernel
theorem dX3_firstMeeting_72 : decode cX3_firstMeeting 72 = .ok (.ifCond .eq 7, 3) := by decide +kernel
theorem dX3_firstMeeting_75 : decode cX3_firstMeeting 75 = .ok (.iload_n 3, 1) := by decide +kernel
theorem dX3_firstMeeting_76 : decode cX3_firstMeeting 76 = .ok (.goto 4, 3) := by decide +kernel
theorem dX3_firstMeeting_79 : decode cX3_firstMeeting 79 = .ok (.iconst (-1), 1) := by decide +kernel
theorem dX3_firstMeeting_80 : decode cX3_firstMeeting 80 = .ok (.ireturn, 1) := by decide +kernel
theorem dX3_fewestAnchors_0 : decode cX3_fewestAnchors 0 = .ok (.iconst 1, 1) := by decide +kernel
theorem dX3_fewestAnchors_1 : decode cX3_fewestAnchors 1 = .ok (.aload_n 0, 1) := by decide +kernel
theorem dX3_fewestAnchors_2 : decode cX3_fewestAnchors 2 = .ok (.getfield 33, 3) := by decide +kernel
theorem dX3_fewestAnchors_5 : decode cX3_fewestAnchors 5 = .ok (.getfield 105, 3) := by decide +kernel
theorem dX3_fewestAnchors_8 : decode cX3_fewestAnchors 8 = .ok (.ishl, 1) := by decide +kernel
theorem dX3_fewestAnchors_9 : decode cX3_fewestAnchors 9 = .ok (.istore 4, 2) := by decide +kernel
theorem dX3_fewestAnchors_11 : decode cX3_fewestAnchors 11 = .ok (.iconst 0, 1) := by decide +kernel
theorem dX3_fewestAnchors_12 : decode cX3_fewestAnchors 12 = .ok (.istore 5, 2) := by decide +kernel
theorem dX3_fewestAnchors_14 : decode cX3_fewestAnchors 14 = .ok (.iload 5, 2) := by decide +kernel
theorem dX3_fewestAnchors_16 : decode cX3_fewestAnchors 16 = .ok (.aload_n 0, 1) := by decide +kernel
theorem dX3_fewestAnchors_17 : decode cX3_fewestAnchors 17 = .ok (.getfield 33, 3) := by decide +kernel
theorem dX3_fewestAnchors_20 : decode cX3_fewestAnchors 20 = .ok (.getfield 105, 3) := by decide +kernel
theorem dX3_fewestAnchors_23 : decode cX3_fewestAnchors 23 = .ok (.if_icmp .gt 67, 3) := by decide +kernel
theorem dX3_fewestAnchors_26 : decode cX3_fewestAnchors 26 = .ok (.iconst 0, 1) := by decide +kernel
theorem dX3_fewestAnchors_27 : decode cX3_fewestAnchors 27 = .ok (.istore 6, 2) := by decide +kernel
theorem dX3_fewestAnchors_29 : decode cX3_fewestAnchors 29 = .ok (.iload 6, 2) := by decide +kernel
theorem dX3_fewestAnchors_31 : decode cX3_fewestAnchors 31 = .ok (.iload 4, 2) := by decide +kernel
theorem dX3_fewestAnchors_33 : decode cX3_fewestAnchors 33 = .ok (.if_icmp .ge 51, 3) := by decide +kernel
theorem dX3_fewestAnchors_36 : decode cX3_fewestAnchors 36 = .ok (.iload 6, 2) := by decide +kernel
theorem dX3_fewestAnchors_38 : decode cX3_fewestAnchors 38 = .ok (.invokestatic 172, 3) := by decide +kernel
theorem dX3_fewestAnchors_41 : decode cX3_fewestAnchors 41 = .ok (.iload 5, 2) := by decide +kernel
theorem dX3_fewestAnchors_43 : decode cX3_fewestAnchors 43 = .ok (.if_icmp .ne 35, 3) := by decide +kernel
theorem dX3_fewestAnchors_46 : decode cX3_fewestAnchors 46 = .ok (.iload 6, 2) := by decide +kernel
theorem dX3_fewestAnchors_48 : decode cX3_fewestAnchors 48 = .ok (.aload_n 0, 1) := by decide +kernel
theorem dX3_fewestAnchors_49 : decode cX3_fewestAnchors 49 = .ok (.getfield 33, 3) := by decide +kernel
theorem dX3_fewestAnchors_52 : decode cX3_fewestAnchors 52 = .ok (.getfield 139, 3) := by decide +kernel
theorem dX3_fewestAnchors_55 : decode cX3_fewestAnchors 55 = .ok (.iand, 1) := by decide +kernel
theorem dX3_fewestAnchors_56 : decode cX3_fewestAnchors 56 = .ok (.ifCond .eq 6, 3) := by decide +kernel
theorem dX3_fewestAnchors_59 : decode cX3_fewestAnchors 59 = .ok (.goto 19, 3) := by decide +kernel
theorem dX3_fewestAnchors_62 : decode cX3_fewestAnchors 62 = .ok (.aload_n 0, 1) := by decide +kernel
theorem dX3_fewestAnchors_63 : decode cX3_fewestAnchors 63 = .ok (.iload_n 1, 1) := by decide +kernel
theorem dX3_fewestAnchors_64 : decode cX3_fewestAnchors 64 = .ok (.iload_n 2, 1) := by decide +kernel
theorem dX3_fewestAnchors_65 : decode cX3_fewestAnchors 65 = .ok (.iload_n 3, 1) := by decide +kernel
theorem dX3_fewestAnchors_66 : decode cX3_fewestAnchors 66 = .ok (.iload 6, 2) := by decide +kernel
theorem dX3_fewestAnchors_68 : decode cX3_fewestAnchors 68 = .ok (.invokevirtual 165, 3) := by decide +kernel
theorem dX3_fewestAnchors_71 : decode cX3_fewestAnchors 71 = .ok (.iconst (-1), 1) := by decide +kernel
theorem dX3_fewestAnchors_72 : decode cX3_fewestAnchors 72 = .ok (.if_icmp .eq 6, 3) := by decide +kernel
theorem dX3_fewestAnchors_75 : decode cX3_fewestAnchors 75 = .ok (.iload 6, 2) := by decide +kernel
theorem dX3_fewestAnchors_77 : decode cX3_fewestAnchors 77 = .ok (.ireturn, 1) := by decide +kernel
theorem dX3_fewestAnchors_78 : decode cX3_fewestAnchors 78 = .ok (.iinc 6 1, 3) := by decide +kernel
theorem dX3_fewestAnchors_81 : decode cX3_fewestAnchors 81 = .ok (.goto (-52), 3) := by decide +kernel
theorem dX3_fewestAnchors_84 : decode cX3_fewestAnchors 84 = .ok (.iinc 5 1, 3) := by decide +kernel
theorem dX3_fewestAnchors_87 : decode cX3_fewestAnchors 87 = .ok (.goto (-73), 3) := by decide +kernel
theorem dX3_fewestAnchors_90 : decode cX3_fewestAnchors 90 = .ok (.iconst (-1), 1) := by decide +kernel
theorem dX3_fewestAnchors_91 : decode cX3_fewestAnchors 91 = .ok (.ireturn, 1) := by decide +kernel
theorem dX3_meetAll_0 : decode cX3_meetAll 0 = .ok (.aload_n 0, 1) := by decide +kernel
theorem dX3_meetAll_1 : decode cX3_meetAll 1 = .ok (.getfield 53, 3) := by decide +kernel
theorem dX3_meetAll_4 : decode cX3_meetAll 4 = .ok (.iconst (-1), 1) := by decide +kernel
theorem dX3_meetAll_5 : decode cX3_meetAll 5 = .ok (.invokestatic 240, 3) := by decide +kernel
theorem dX3_meetAll_8 : decode cX3_meetAll 8 = .ok (.aload_n 0, 1) := by decide +kernel
theorem dX3_meetAll_9 : decode cX3_meetAll 9 = .ok (.getfield 40, 3) := by decide +kernel
theorem dX3_meetAll_12 : decode cX3_meetAll 12 = .ok (.aload_n 0, 1) := by decide +kernel
theorem dX3_meetAll_13 : decode cX3_meetAll 13 = .ok (.getfield 33, 3) := by decide +kernel
theorem dX3_meetAll_16 : decode cX3_meetAll 16 = .ok (.invokevirtual 198, 3) := by decide +kernel
theorem dX3_meetAll_19 : decode cX3_meetAll 19 = .ok (.aload_n 0, 1) := by decide +kernel
theorem dX3_meetAll_20 : decode cX3_meetAll 20 = .ok (.getfield 40, 3) := by decide +kernel
theorem dX3_meetAll_23 : decode cX3_meetAll 23 = .ok (.aload_n 0, 1) := by decide +kernel
theorem dX3_meetAll_24 : decode cX3_meetAll 24 = .ok (.getfield 53, 3) := by decide +kernel
theorem dX3_meetAll_27 : decode cX3_meetAll 27 = .ok (.iconst 0, 1) := by decide +kernel
theorem dX3_meetAll_28 : decode cX3_meetAll 28 = .ok (.invokevirtual 246, 3) := by decide +kernel
theorem dX3_meetAll_31 : decode cX3_meetAll 31 = .ok (.iconst 1, 1) := by decide +kernel
theorem dX3_meetAll_32 : decode cX3_meetAll 32 = .ok (.istore_n 2, 1) := by decide +kernel
theorem dX3_meetAll_33 : decode cX3_meetAll 33 = .ok (.iload_n 2, 1) := by decide +kernel
theorem dX3_meetAll_34 : decode cX3_meetAll 34 = .ok (.iload_n 1, 1) := by decide +kernel
theorem dX3_meetAll_35 : decode cX3_meetAll 35 = .ok (.if_icmp .gt 29, 3) := by decide +kernel
theorem dX3_meetAll_38 : decode cX3_meetAll 38 = .ok (.aload_n 0, 1) := by decide +kernel
theorem dX3_meetAll_39 : decode cX3_meetAll 39 = .ok (.getfield 40, 3) := by decide +kernel
theorem dX3_meetAll_42 : decode cX3_meetAll 42 = .ok (.invokevirtual 162, 3) := by decide +kernel
theorem dX3_meetAll_45 : decode cX3_meetAll 45 = .ok (.pop, 1) := by decide +kernel
theorem dX3_meetAll_46 : decode cX3_meetAll 46 = .ok (.aload_n 0, 1) := by decide +kernel
theorem dX3_meetAll_47 : decode cX3_meetAll 47 = .ok (.getfield 40, 3) := by decide +kernel
theorem dX3_meetAll_50 : decode cX3_meetAll 50 = .ok (.aload_n 0, 1) := by decide +kernel
theorem dX3_meetAll_51 : decode cX3_meetAll 51 = .ok (.getfield 53, 3) := by decide +kernel
theorem dX3_meetAll_54 : decode cX3_meetAll 54 = .ok (.iload_n 2, 1) := by decide +kernel
theorem dX3_meetAll_55 : decode cX3_meetAll 55 = .ok (.invokevirtual 246, 3) := by decide +kernel
theorem dX3_meetAll_58 : decode cX3_meetAll 58 = .ok (.iinc 2 1, 3) := by decide +kernel
theorem dX3_meetAll_61 : decode cX3_meetAll 61 = .ok (.goto (-28), 3) := by decide +kernel
theorem dX3_meetAll_64 : decode cX3_meetAll 64 = .ok (.return_, 1) := by decide +kernel
theorem dX3_matchesTell_0 : decode cX3_matchesTell 0 = .ok (.iload_n 1, 1) := by decide +kernel
theorem dX3_matchesTell_1 : decode cX3_matchesTell 1 = .ok (.ifCond .ne 11, 3) := by decide +kernel
theorem dX3_matchesTell_4 : decode cX3_matchesTell 4 = .ok (.aload_n 0, 1) := by decide +kernel
theorem dX3_matchesTell_5 : decode cX3_matchesTell 5 = .ok (.getfield 59, 3) := by decide +kernel
theorem dX3_matchesTell_8 : decode cX3_matchesTell 8 = .ok (.getfield 249, 3) := by decide +kernel
theorem dX3_matchesTell_11 : decode cX3_matchesTell 11 = .ok (.ireturn, 1) := by decide +kernel
theorem dX3_matchesTell_12 : decode cX3_matchesTell 12 = .ok (.iload_n 1, 1) := by decide +kernel
theorem dX3_matchesTell_13 : decode cX3_matchesTell 13 = .ok (.iconst 1, 1) := by decide +kernel
theorem dX3_matchesTell_14 : decode cX3_matchesTell 14 = .ok (.if_icmp .ne 15, 3) := by decide +kernel
theorem dX3_matchesTell_17 : decode cX3_matchesTell 17 = .ok (.aload_n 0, 1) := by decide +kernel
theorem dX3_matchesTell_18 : decode cX3_matchesTell 18 = .ok (.getfield 59, 3) := by decide +kernel
theorem dX3_matchesTell_21 : decode cX3_matchesTell 21 = .ok (.getfield 252, 3) := by decide +kernel
theorem dX3_matchesTell_24 : decode cX3_matchesTell 24 = .ok (.iconst 0, 1) := by decide +kernel
theorem dX3_matchesTell_25 : decode cX3_matchesTell 25 = .ok (.invokestatic 255, 3) := by decide +kernel
theorem dX3_matchesTell_28 : decode cX3_matchesTell 28 = .ok (.ireturn, 1) := by decide +kernel
theorem dX3_matchesTell_29 : decode cX3_matchesTell 29 = .ok (.iload_n 1, 1) := by decide +kernel
theorem dX3_matchesTell_30 : decode cX3_matchesTell 30 = .ok (.bipush 10, 2) := by decide +kernel
theorem dX3_matchesTell_32 : decode cX3_matchesTell 32 = .ok (.isub, 1) := by decide +kernel
theorem dX3_matchesTell_33 : decode cX3_matchesTell 33 = .ok (.istore_n 2, 1) := by decide +kernel
theorem dX3_matchesTell_34 : decode cX3_matchesTell 34 = .ok (.aload_n 0, 1) := by decide +kernel
theorem dX3_matchesTell_35 : decode cX3_matchesTell 35 = .ok (.iload_n 2, 1) := by decide +kernel
theorem dX3_matchesTell_36 : decode cX3_matchesTell 36 = .ok (.invokevirtual 112, 3) := by decide +kernel
theorem dX3_matchesTell_39 : decode cX3_matchesTell 39 = .ok (.ifCond .eq 15, 3) := by decide +kernel
theorem dX3_matchesTell_42 : decode cX3_matchesTell 42 = .ok (.aload_n 0, 1) := by decide +kernel
theorem dX3_matchesTell_43 : decode cX3_matchesTell 43 = .ok (.getfield 59, 3) := by decide +kernel
theorem dX3_matchesTell_46 : decode cX3_matchesTell 46 = .ok (.getfield 258, 3) := by decide +kernel
theorem dX3_matchesTell_49 : decode cX3_matchesTell 49 = .ok (.iload_n 2, 1) := by decide +kernel
theorem dX3_matchesTell_50 : decode cX3_matchesTell 50 = .ok (.iaload, 1) := by decide +kernel
theorem dX3_matchesTell_51 : decode cX3_matchesTell 51 = .ok (.goto 4, 3) := by decide +kernel
theorem dX3_matchesTell_54 : decode cX3_matchesTell 54 = .ok (.iconst (-1), 1) := by decide +kernel
theorem dX3_matchesTell_55 : decode cX3_matchesTell 55 = .ok (.ireturn, 1) := by decide +kernel
theorem dX3_shellsWouldHold_0 : decode cX3_shellsWouldHold 0 = .ok (.aload_n 0, 1) := by decide +kernel
theorem dX3_shellsWouldHold_1 : decode cX3_shellsWouldHold 1 = .ok (.getfield 40, 3) := by decide +kernel
theorem dX3_shellsWouldHold_4 : decode cX3_shellsWouldHold 4 = .ok (.aload_n 0, 1) := by decide +kernel
theorem dX3_shellsWouldHold_5 : decode cX3_shellsWouldHold 5 = .ok (.getfield 33, 3) := by decide +kernel
theorem dX3_shellsWouldHold_8 : decode cX3_shellsWouldHold 8 = .ok (.invokevirtual 198, 3) := by decide +kernel
theorem dX3_shellsWouldHold_11 : decode cX3_shellsWouldHold 11 = .ok (.aload_n 0, 1) := by decide +kernel
theorem dX3_shellsWouldHold_12 : decode cX3_shellsWouldHold 12 = .ok (.getfield 40, 3) := by decide +kernel
theorem dX3_shellsWouldHold_15 : decode cX3_shellsWouldHold 15 = .ok (.getfield 121, 3) := by decide +kernel
theorem dX3_shellsWouldHold_18 : decode cX3_shellsWouldHold 18 = .ok (.iload_n 1, 1) := by decide +kernel
theorem dX3_shellsWouldHold_19 : decode cX3_shellsWouldHold 19 = .ok (.iload_n 2, 1) := by decide +kernel
theorem dX3_shellsWouldHold_20 : decode cX3_shellsWouldHold 20 = .ok (.iastore, 1) := by decide +kernel
theorem dX3_shellsWouldHold_21 : decode cX3_shellsWouldHold 21 = .ok (.aload_n 0, 1) := by decide +kernel
theorem dX3_shellsWouldHold_22 : decode cX3_shellsWouldHold 22 = .ok (.getfield 40, 3) := by decide +kernel
theorem dX3_shellsWouldHold_25 : decode cX3_shellsWouldHold 25 = .ok (.iload_n 3, 1) := by decide +kernel
theorem dX3_shellsWouldHold_26 : decode cX3_shellsWouldHold 26 = .ok (.putfield 99, 3) := by decide +kernel
theorem dX3_shellsWouldHold_29 : decode cX3_shellsWouldHold 29 = .ok (.aload_n 0, 1) := by decide +kernel
theorem dX3_shellsWouldHold_30 : decode cX3_shellsWouldHold 30 = .ok (.getfield 46, 3) := by decide +kernel
theorem dX3_shellsWouldHold_33 : decode cX3_shellsWouldHold 33 = .ok (.invokevirtual 261, 3) := by decide +kernel
theorem dX3_shellsWouldHold_36 : decode cX3_shellsWouldHold 36 = .ok (.istore 4, 2) := by decide +kernel
theorem dX3_shellsWouldHold_38 : decode cX3_shellsWouldHold 38 = .ok (.iconst 0, 1) := by decide +kernel
theorem dX3_shellsWouldHold_39 : decode cX3_shellsWouldHold 39 = .ok (.istore 5, 2) := by decide +kernel
theorem dX3_shellsWouldHold_41 : decode cX3_shellsWouldHold 41 = .ok (.iload 5, 2) := by decide +kernel
theorem dX3_shellsWouldHold_43 : decode cX3_shellsWouldHold 43 = .ok (.iload 4, 2) := by decide +kernel
theorem dX3_shellsWouldHold_45 : decode cX3_shellsWouldHold 45 = .ok (.if_icmp .gt 35, 3) := by decide +kernel
theorem dX3_shellsWouldHold_48 : decode cX3_shellsWouldHold 48 = .ok (.aload_n 0, 1) := by decide +kernel
theorem dX3_shellsWouldHold_49 : decode cX3_shellsWouldHold 49 = .ok (.getfield 46, 3) := by decide +kernel
theorem dX3_shellsWouldHold_52 : decode cX3_shellsWouldHold 52 = .ok (.iload 5, 2) := by decide +kernel
theorem dX3_shellsWouldHold_54 : decode cX3_shellsWouldHold 54 = .ok (.aload_n 0, 1) := by decide +kernel
theorem dX3_shellsWouldHold_55 : decode cX3_shellsWouldHold 55 = .ok (.getfield 40, 3) := by decide +kernel
theorem dX3_shellsWouldHold_58 : decode cX3_shellsWouldHold 58 = .ok (.invokevirtual 264, 3) := by decide +kernel
theorem dX3_shellsWouldHold_61 : decode cX3_shellsWouldHold 61 = .ok (.ifCond .ne 5, 3) := by decide +kernel
theorem dX3_shellsWouldHold_64 : decode cX3_shellsWouldHold 64 = .ok (.iconst 0, 1) := by decide +kernel
theorem dX3_shellsWouldHold_65 : decode cX3_shellsWouldHold 65 = .ok (.ireturn, 1) := by decide +kernel
theorem dX3_shellsWouldHold_66 : decode cX3_shellsWouldHold 66 = .ok (.aload_n 0, 1) := by decide +kernel
theorem dX3_shellsWouldHold_67 : decode cX3_shellsWouldHold 67 = .ok (.getfield 40, 3) := by decide +kernel
theorem dX3_shellsWouldHold_70 : decode cX3_shellsWouldHold 70 = .ok (.invokevirtual 162, 3) := by decide +kernel
theorem dX3_shellsWouldHold_73 : decode cX3_shellsWouldHold 73 = .ok (.pop, 1) := by decide +kernel
theorem dX3_shellsWouldHold_74 : decode cX3_shellsWouldHold 74 = .ok (.iinc 5 1, 3) := by decide +kernel
theorem dX3_shellsWouldHold_77 : decode cX3_shellsWouldHold 77 = .ok (.goto (-36), 3) := by decide +kernel
theorem dX3_shellsWouldHold_80 : decode cX3_shellsWouldHold 80 = .ok (.iconst 1, 1) := by decide +kernel
theorem dX3_shellsWouldHold_81 : decode cX3_shellsWouldHold 81 = .ok (.ireturn, 1) := by decide +kernel
theorem dX3_digestIslands_0 : decode cX3_digestIslands 0 = .ok (.lload_n 1, 1) := by decide +kernel
theorem dX3_digestIslands_1 : decode cX3_digestIslands 1 = .ok (.lstore_n 3, 1) := by decide +kernel
theorem dX3_digestIslands_2 : decode cX3_digestIslands 2 = .ok (.iconst 0, 1) := by decide +kernel
theorem dX3_digestIslands_3 : decode cX3_digestIslands 3 = .ok (.istore 5, 2) := by decide +kernel
theorem dX3_digestIslands_5 : decode cX3_digestIslands 5 = .ok (.iload 5, 2) := by decide +kernel
theorem dX3_digestIslands_7 : decode cX3_digestIslands 7 = .ok (.aload_n 0, 1) := by decide +kernel
theorem dX3_digestIslands_8 : decode cX3_digestIslands 8 = .ok (.getfield 33, 3) := by decide +kernel
theorem dX3_digestIslands_11 : decode cX3_digestIslands 11 = .ok (.getfield 105, 3) := by decide +kernel
theorem dX3_digestIslands_14 : decode cX3_digestIslands 14 = .ok (.if_icmp .ge 89, 3) := by decide +kernel
theorem dX3_digestIslands_17 : decode cX3_digestIslands 17 = .ok (.iconst 0, 1) := by decide +kernel
theorem dX3_digestIslands_18 : decode cX3_digestIslands 18 = .ok (.istore 6, 2) := by decide +kernel
theorem dX3_digestIslands_20 : decode cX3_digestIslands 20 = .ok (.iload 6, 2) := by decide +kernel
theorem dX3_digestIslands_22 : decode cX3_digestIslands 22 = .ok (.bipush 8, 2) := by decide +kernel
theorem dX3_digestIslands_24 : decode cX3_digestIslands 24 = .ok (.if_icmp .ge 25, 3) := by decide +kernel
theorem dX3_digestIslands_27 : decode cX3_digestIslands 27 = .ok (.ldc2_w 222, 3) := by decide +kernel
theorem dX3_digestIslands_30 : decode cX3_digestIslands 30 = .ok (.lload_n 3, 1) := by decide +kernel
theorem dX3_digestIslands_31 : decode cX3_digestIslands 31 = .ok (.lmul, 1) := by decide +kernel
theorem dX3_digestIslands_32 : decode cX3_digestIslands 32 = .ok (.aload_n 0, 1) := by decide +kernel
theorem dX3_digestIslands_33 : decode cX3_digestIslands 33 = .ok (.iload 5, 2) := by decide +kernel
theorem dX3_digestIslands_35 : decode cX3_digestIslands 35 = .ok (.iload 6, 2) := by decide +kernel
theorem dX3_digestIslands_37 : decode cX3_digestIslands 37 = .ok (.invokevirtual 268, 3) := by decide +kernel
theorem dX3_digestIslands_40 : decode cX3_digestIslands 40 = .ok (.i2l, 1) := by decide +kernel
theorem dX3_digestIslands_41 : decode cX3_digestIslands 41 = .ok (.ladd, 1) := by decide +kernel
theorem dX3_digestIslands_42 : decode cX3_digestIslands 42 = .ok (.lstore_n 3, 1) := by decide +kernel
theorem dX3_digestIslands_43 : decode cX3_digestIslands 43 = .ok (.iinc 6 1, 3) := by decide +kernel
theorem dX3_digestIslands_46 : decode cX3_digestIslands 46 = .ok (.goto (-26), 3) := by decide +kernel
theorem dX3_digestIslands_49 : decode cX3_digestIslands 49 = .ok (.iconst 0, 1) := by decide +kernel
theorem dX3_digestIslands_50 : decode cX3_digestIslands 50 = .ok (.istore 6, 2) := by decide +kernel
theorem dX3_digestIslands_52 : decode cX3_digestIslands 52 = .ok (.iload 6, 2) := by decide +kernel
theorem dX3_digestIslands_54 : decode cX3_digestIslands 54 = .ok (.aload_n 0, 1) := by decide +kernel
theorem dX3_digestIslands_55 : decode cX3_digestIslands 55 = .ok (.getfield 33, 3) := by decide +kernel
theorem dX3_digestIslands_58 : decode cX3_digestIslands 58 = .ok (.getfield 105, 3) := by decide +kernel
theorem dX3_digestIslands_61 : decode cX3_digestIslands 61 = .ok (.if_icmp .ge 36, 3) := by decide +kernel
theorem dX3_digestIslands_64 : decode cX3_digestIslands 64 = .ok (.iload 6, 2) := by decide +kernel
theorem dX3_digestIslands_66 : decode cX3_digestIslands 66 = .ok (.iload 5, 2) := by decide +kernel
theorem dX3_digestIslands_68 : decode cX3_digestIslands 68 = .ok (.if_icmp .eq 23, 3) := by decide +kernel
theorem dX3_digestIslands_71 : decode cX3_digestIslands 71 = .ok (.ldc2_w 222, 3) := by decide +kernel
theorem dX3_digestIslands_74 : decode cX3_digestIslands 74 = .ok (.lload_n 3, 1) := by decide +kernel
theorem dX3_digestIslands_75 : decode cX3_digestIslands 75 = .ok (.lmul, 1) := by decide +kernel
theorem dX3_digestIslands_76 : decode cX3_digestIslands 76 = .ok (.aload_n 0, 1) := by decide +kernel
theorem dX3_digestIslands_77 : decode cX3_digestIslands 77 = .ok (.getfield 53, 3) := by decide +kernel
theorem dX3_digestIslands_80 : decode cX3_digestIslands 80 = .ok (.iload 5, 2) := by decide +kernel
theorem dX3_digestIslands_82 : decode cX3_digestIslands 82 = .ok (.iconst 5, 1) := by decide +kernel
theorem dX3_digestIslands_83 : decode cX3_digestIslands 83 = .ok (.imul, 1) := by decide +kernel
theorem dX3_digestIslands_84 : decode cX3_digestIslands 84 = .ok (.iload 6, 2) := by decide +kernel
theorem dX3_digestIslands_86 : decode cX3_digestIslands 86 = .ok (.iadd, 1) := by decide +kernel
theorem dX3_digestIslands_87 : decode cX3_digestIslands 87 = .ok (.iaload, 1) := by decide +kernel
theorem dX3_digestIslands_88 : decode cX3_digestIslands 88 = .ok (.i2l, 1) := by decide +kernel
theorem dX3_digestIslands_89 : decode cX3_digestIslands 89 = .ok (.ladd, 1) := by decide +kernel
theorem dX3_digestIslands_90 : decode cX3_digestIslands 90 = .ok (.lstore_n 3, 1) := by decide +kernel
theorem dX3_digestIslands_91 : decode cX3_digestIslands 91 = .ok (.iinc 6 1, 3) := by decide +kernel
theorem dX3_digestIslands_94 : decode cX3_digestIslands 94 = .ok (.goto (-42), 3) := by decide +kernel
theorem dX3_digestIslands_97 : decode cX3_digestIslands 97 = .ok (.iinc 5 1, 3) := by decide +kernel
theorem dX3_digestIslands_100 : decode cX3_digestIslands 100 = .ok (.goto (-95), 3) := by decide +kernel
theorem dX3_digestIslands_103 : decode cX3_digestIslands 103 = .ok (.lload_n 3, 1) := by decide +kernel
theorem dX3_digestIslands_104 : decode cX3_digestIslands 104 = .ok (.lreturn, 1) := by decide +kernel
theorem dX3_digestMatches_0 : decode cX3_digestMatches 0 = .ok (.ldc2_w 222, 3) := by decide +kernel
theorem dX3_digestMatches_3 : decode cX3_digestMatches 3 = .ok (.lload_n 1, 1) := by decide +kernel
theorem dX3_digestMatches_4 : decode cX3_digestMatches 4 = .ok (.lmul, 1) := by decide +kernel
theorem dX3_digestMatches_5 : decode cX3_digestMatches 5 = .ok (.aload_n 0, 1) := by decide +kernel
theorem dX3_digestMatches_6 : decode cX3_digestMatches 6 = .ok (.iconst 0, 1) := by decide +kernel
theorem dX3_digestMatches_7 : decode cX3_digestMatches 7 = .ok (.invokevirtual 185, 3) := by decide +kernel
theorem dX3_digestMatches_10 : decode cX3_digestMatches 10 = .ok (.i2l, 1) := by decide +kernel
theorem dX3_digestMatches_11 : decode cX3_digestMatches 11 = .ok (.ladd, 1) := by decide +kernel
theorem dX3_digestMatches_12 : decode cX3_digestMatches 12 = .ok (.lstore_n 3, 1) := by decide +kernel
theorem dX3_digestMatches_13 : decode cX3_digestMatches 13 = .ok (.ldc2_w 222, 3) := by decide +kernel
theorem dX3_digestMatches_16 : decode cX3_digestMatches 16 = .ok (.lload_n 3, 1) := by decide +kernel
theorem dX3_digestMatches_17 : decode cX3_digestMatches 17 = .ok (.lmul, 1) := by decide +kernel
theorem dX3_digestMatches_18 : decode cX3_digestMatches 18 = .ok (.aload_n 0, 1) := by decide +kernel
theorem dX3_digestMatches_19 : decode cX3_digestMatches 19 = .ok (.iconst 1, 1) := by decide +kernel
theorem dX3_digestMatches_20 : decode cX3_digestMatches 20 = .ok (.invokevirtual 185, 3) := by decide +kernel
theorem dX3_digestMatches_23 : decode cX3_digestMatches 23 = .ok (.i2l, 1) := by decide +kernel
theorem dX3_digestMatches_24 : decode cX3_digestMatches 24 = .ok (.ladd, 1) := by decide +kernel
theorem dX3_digestMatches_25 : decode cX3_digestMatches 25 = .ok (.lstore_n 3, 1) := by decide +kernel
theorem dX3_digestMatches_26 : decode cX3_digestMatches 26 = .ok (.iconst 0, 1) := by decide +kernel
theorem dX3_digestMatches_27 : decode cX3_digestMatches 27 = .ok (.istore 5, 2) := by decide +kernel
theorem dX3_digestMatches_29 : decode cX3_digestMatches 29 = .ok (.iload 5, 2) := by decide +kernel
theorem dX3_digestMatches_31 : decode cX3_digestMatches 31 = .ok (.iconst 5, 1) := by decide +kernel
theorem dX3_digestMatches_32 : decode cX3_digestMatches 32 = .ok (.if_icmp .ge 26, 3) := by decide +kernel
theorem dX3_digestMatches_35 : decode cX3_digestMatches 35 = .ok (.ldc2_w 222, 3) := by decide +kernel
theorem dX3_digestMatches_38 : decode cX3_digestMatches 38 = .ok (.lload_n 3, 1) := by decide +kernel
theorem dX3_digestMatches_39 : decode cX3_digestMatches 39 = .ok (.lmul, 1) := by decide +kernel
theorem dX3_digestMatches_40 : decode cX3_digestMatches 40 = .ok (.aload_n 0, 1) := by decide +kernel
theorem dX3_digestMatches_41 : decode cX3_digestMatches 41 = .ok (.bipush 10, 2) := by decide +kernel
theorem dX3_digestMatches_43 : decode cX3_digestMatches 43 = .ok (.iload 5, 2) := by decide +kernel
theorem dX3_digestMatches_45 : decode cX3_digestMatches 45 = .ok (.iadd, 1) := by decide +kernel
theorem dX3_digestMatches_46 : decode cX3_digestMatches 46 = .ok (.invokevirtual 185, 3) := by decide +kernel
theorem dX3_digestMatches_49 : decode cX3_digestMatches 49 = .ok (.i2l, 1) := by decide +kernel
theorem dX3_digestMatches_50 : decode cX3_digestMatches 50 = .ok (.ladd, 1) := by decide +kernel
theorem dX3_digestMatches_51 : decode cX3_digestMatches 51 = .ok (.lstore_n 3, 1) := by decide +kernel
theorem dX3_digestMatches_52 : decode cX3_digestMatches 52 = .ok (.iinc 5 1, 3) := by decide +kernel
theorem dX3_digestMatches_55 : decode cX3_digestMatches 55 = .ok (.goto (-26), 3) := by decide +kernel
theorem dX3_digestMatches_58 : decode cX3_digestMatches 58 = .ok (.lload_n 3, 1) := by decide +kernel
theorem dX3_digestMatches_59 : decode cX3_digestMatches 59 = .ok (.lreturn, 1) := by decide +kernel
end
section
theorem dX4_init_0 : decode cX4_init 0 = .ok (.aload_n 0, 1) := by decide +kernel
theorem dX4_init_1 : decode cX4_init 1 = .ok (.invokespecial 1, 3) := by decide +kernel
theorem dX4_init_4 : decode cX4_init 4 = .ok (.aload_n 0, 1) := by decide +kernel
theorem dX4_init_5 : decode cX4_init 5 = .ok (.bipush 14, 2) := by decide +kernel
theorem dX4_init_7 : decode cX4_init 7 = .ok (.newarray .int, 2) := by decide +kernel
theorem dX4_init_9 : decode cX4_init 9 = .ok (.putfield 7, 3) := by decide +kernel
theorem dX4_init_12 : decode cX4_init 12 = .ok (.aload_n 0, 1) := by decide +kernel
theorem dX4_init_13 : decode cX4_init 13 = .ok (.bipush 12, 2) := by decide +kernel
theorem dX4_init_15 : decode cX4_init 15 = .ok (.newarray .int, 2) := by decide +kernel
theorem dX4_init_17 : decode cX4_init 17 = .ok (.putfield 13, 3) := by decide +kernel
theorem dX4_init_20 : decode cX4_init 20 = .ok (.aload_n 0, 1) := by decide +kernel
theorem dX4_init_21 : decode cX4_init 21 = .ok (.bipush 20, 2) := by decide +kernel
theorem dX4_init_23 : decode cX4_init 23 = .ok (.newarray .int, 2) := by decide +kernel
theorem dX4_init_25 : decode cX4_init 25 = .ok (.putfield 16, 3) := by decide +kernel
theorem dX4_init_28 : decode cX4_init 28 = .ok (.aload_n 0, 1) := by decide +kernel
theorem dX4_init_29 : decode cX4_init 29 = .ok (.bipush 12, 2) := by decide +kernel
theorem dX4_init_31 : decode cX4_init 31 = .ok (.newarray .int, 2) := by decide +kernel
theorem dX4_init_33 : decode cX4_init 33 = .ok (.putfield 19, 3) := by decide +kernel
theorem dX4_init_36 : decode cX4_init 36 = .ok (.aload_n 0, 1) := by decide +kernel
theorem dX4_init_37 : decode cX4_init 37 = .ok (.iconst 5, 1) := by decide +kernel
theorem dX4_init_38 : decode cX4_init 38 = .ok (.newarray .int, 2) := by decide +kernel
theorem dX4_init_40 : decode cX4_init 40 = .ok (.putfield 22, 3) := by decide +kernel
theorem dX4_init_43 : decode cX4_init 43 = .ok (.aload_n 0, 1) := by decide +kernel
theorem dX4_init_44 : decode cX4_init 44 = .ok (.bipush 25, 2) := by decide +kernel
theorem dX4_init_46 : decode cX4_init 46 = .ok (.newarray .int, 2) := by decide +kernel
theorem dX4_init_48 : decode cX4_init 48 = .ok (.putfield 25, 3) := by decide +kernel
theorem dX4_init_51 : decode cX4_init 51 = .ok (.aload_n 0, 1) := by decide +kernel
theorem dX4_init_52 : decode cX4_init 52 = .ok (.iconst 5, 1) := by decide +kernel
theorem dX4_init_53 : decode cX4_init 53 = .ok (.newarray .int, 2) := by decide +kernel
theorem dX4_init_55 : decode cX4_init 55 = .ok (.putfield 28, 3) := by decide +kernel
theorem dX4_init_58 : decode cX4_init 58 = .ok (.aload_n 0, 1) := by decide +kernel
theorem dX4_init_59 : decode cX4_init 59 = .ok (.iconst 5, 1) := by decide +kernel
theorem dX4_init_60 : decode cX4_init 60 = .ok (.newarray .int, 2) := by decide +kernel
theorem dX4_init_62 : decode cX4_init 62 = .ok (.putfield 31, 3) := by decide +kernel
theorem dX4_init_65 : decode cX4_init 65 = .ok (.aload_n 0, 1) := by decide +kernel
theorem dX4_init_66 : decode cX4_init 66 = .ok (.bipush 32, 2) := by decide +kernel
theorem dX4_init_68 : decode cX4_init 68 = .ok (.newarray .int, 2) := by decide +kernel
theorem dX4_init_70 : decode cX4_init 70 = .ok (.putfield 34, 3) := by decide +kernel
theorem dX4_init_73 : decode cX4_init 73 = .ok (.aload_n 0, 1) := by decide +kernel
theorem dX4_init_74 : decode cX4_init 74 = .ok (.bipush 20, 2) := by decide +kernel
theorem dX4_init_76 : decode cX4_init 76 = .ok (.newarray .int, 2) := by decide +kernel
theorem dX4_init_78 : decode cX4_init 78 = .ok (.putfield 37, 3) := by decide +kernel
theorem dX4_init_81 : decode cX4_init 81 = .ok (.aload_n 0, 1) := by decide +kernel
theorem dX4_init_82 : decode cX4_init 82 = .ok (.bipush 12, 2) := by decide +kernel
theorem dX4_init_84 : decode cX4_init 84 = .ok (.newarray .int, 2) := by decide +kernel
theorem dX4_init_86 : decode cX4_init 86 = .ok (.putfield 40, 3) := by decide +kernel
theorem dX4_init_89 : decode cX4_init 89 = .ok (.aload_n 0, 1) := by decide +kernel
theorem dX4_init_90 : decode cX4_init 90 = .ok (.bipush 32, 2) := by decide +kernel
theorem dX4_init_92 : decode cX4_init 92 = .ok (.newarray .int, 2) := by decide +kernel
theorem dX4_init_94 : decode cX4_init 94 = .ok (.putfield 43, 3) := by decide +kernel
theorem dX4_init_97 : decode cX4_init 97 = .ok (.aload_n 0, 1) := by decide +kernel
theorem dX4_init_98 : decode cX4_init 98 = .ok (.iconst (-1), 1) := by decide +kernel
theorem dX4_init_99 : decode cX4_init 99 = .ok (.putfield 46, 3) := by decide +kernel
theorem dX4_init_102 : decode cX4_init 102 = .ok (.return_, 1) := by decide +kernel
theorem dX4_in_0 : decode cX4_in 0 = .ok (.lload_n 0, 1) := by decide +kernel
theorem dX4_in_1 : decode cX4_in 1 = .ok (.lload_n 2, 1) := by decide +kernel
theorem dX4_in_2 : decode cX4_in 2 = .ok (.lcmp, 1) := by decide +kernel
theorem dX4_in_3 : decode cX4_in 3 = .ok (.ifCond .lt 14, 3) := by decide +kernel
theorem dX4_in_6 : decode cX4_in 6 = .ok (.lload_n 0, 1) := by decide +kernel
theorem dX4_in_7 : decode cX4_in 7 = .ok (.lload 4, 2) := by decide +kernel
theorem dX4_in_9 : decode cX4_in 9 = .ok (.lcmp, 1) := by decide +kernel
theorem dX4_in_10 : decode cX4_in 10 = .ok (.ifCond .gt 7, 3) := by decide +kernel
theorem dX4_in_13 : decode cX4_in 13 = .ok (.iconst 1, 1) := by decide +kernel
theorem dX4_in_14 : decode cX4_in 14 = .ok (.goto 4, 3) := by decide +kernel
theorem dX4_in_17 : decode cX4_in 17 = .ok (.iconst 0, 1) := by decide +kernel
theorem dX4_in_18 : decode cX4_in 18 = .ok (.ireturn, 1) := by decide +kernel
theorem dX4_letter_0 : decode cX4_letter 0 = .ok (.iload_n 1, 1) := by decide +kernel
theorem dX4_letter_1 : decode cX4_letter 1 = .ok (.i2l, 1) := by decide +kernel
theorem dX4_letter_2 : decode cX4_letter 2 = .ok (.lconst 1, 1) := by decide +kernel
theorem dX4_letter_3 : decode cX4_letter 3 = .ok (.ldc2_w 50, 3) := by decide +kernel
theorem dX4_letter_6 : decode cX4_letter 6 = .ok (.invokestatic 52, 3) := by decide +kernel
theorem dX4_letter_9 : decode cX4_letter 9 = .ok (.ifCond .ne 6, 3) := by decide +kernel
theorem dX4_letter_12 : decode cX4_letter 12 = .ok (.bipush (-102), 2) := by decide +kernel
theorem dX4_letter_14 : decode cX4_letter 14 = .ok (.ireturn, 1) := by decide +kernel
theorem dX4_letter_15 : decode cX4_letter 15 = .ok (.aload_n 0, 1) := by decide +kernel
theorem dX4_letter_16 : decode cX4_letter 16 = .ok (.getfield 56, 3) := by decide +kernel
theorem dX4_letter_19 : decode cX4_letter 19 = .ok (.bipush 14, 2) := by decide +kernel
theorem dX4_letter_21 : decode cX4_letter 21 = .ok (.if_icmp .ne 6, 3) := by decide +kernel
theorem dX4_letter_24 : decode cX4_letter 24 = .ok (.bipush (-104), 2) := by decide +kernel
theorem dX4_letter_26 : decode cX4_letter 26 = .ok (.ireturn, 1) := by decide +kernel
theorem dX4_letter_27 : decode cX4_letter 27 = .ok (.aload_n 0, 1) := by decide +kernel
theorem dX4_letter_28 : decode cX4_letter 28 = .ok (.getfield 7, 3) := by decide +kernel
theorem dX4_letter_31 : decode cX4_letter 31 = .ok (.aload_n 0, 1) := by decide +kernel
theorem dX4_letter_32 : decode cX4_letter 32 = .ok (.getfield 56, 3) := by decide +kernel
theorem dX4_letter_35 : decode cX4_letter 35 = .ok (.iload_n 1, 1) := by decide +kernel
theorem dX4_letter_36 : decode cX4_letter 36 = .ok (.iastore, 1) := by decide +kernel
theorem dX4_letter_37 : decode cX4_letter 37 = .ok (.aload_n 0, 1) := by decide +kernel
theorem dX4_letter_38 : decode cX4_letter 38 = .ok (.dup, 1) := by decide +kernel
theorem dX4_letter_39 : decode cX4_letter 39 = .ok (.getfield 56, 3) := by decide +kernel
theorem dX4_letter_42 : decode cX4_letter 42 = .ok (.iconst 1, 1) := by decide +kernel
theorem dX4_letter_43 : decode cX4_letter 43 = .ok (.iadd, 1) := by decide +kernel
theorem dX4_letter_44 : decode cX4_letter 44 = .ok (.putfield 56, 3) := by decide +kernel
theorem dX4_letter_47 : decode cX4_letter 47 = .ok (.aload_n 0, 1) := by decide +kernel
theorem dX4_letter_48 : decode cX4_letter 48 = .ok (.getfield 56, 3) := by decide +kernel
theorem dX4_letter_51 : decode cX4_letter 51 = .ok (.ireturn, 1) := by decide +kernel
theorem dX4_blank_0 : decode cX4_blank 0 = .ok (.aload_n 0, 1) := by decide +kernel
theorem dX4_blank_1 : decode cX4_blank 1 = .ok (.getfield 56, 3) := by decide +kernel
theorem dX4_blank_4 : decode cX4_blank 4 = .ok (.istore_n 1, 1) := by decide +kernel
theorem dX4_blank_5 : decode cX4_blank 5 = .ok (.aload_n 0, 1) := by decide +kernel
theorem dX4_blank_6 : decode cX4_blank 6 = .ok (.iconst 0, 1) := by decide +kernel
theorem dX4_blank_7 : decode cX4_blank 7 = .ok (.putfield 56, 3) := by decide +kernel
theorem dX4_blank_10 : decode cX4_blank 10 = .ok (.iload_n 1, 1) := by decide +kernel
theorem dX4_blank_11 : decode cX4_blank 11 = .ok (.ireturn, 1) := by decide +kernel
theorem dX4_faultOf_0 : decode cX4_faultOf 0 = .ok (.iconst 0, 1) := by decide +kernel
theorem dX4_faultOf_1 : decode cX4_faultOf 1 = .ok (.istore_n 1, 1) := by decide +kernel
theorem dX4_faultOf_2 : decode cX4_faultOf 2 = .ok (.iload_n 1, 1) := by decide +kernel
theorem dX4_faultOf_3 : decode cX4_faultOf 3 = .ok (.aload_n 0, 1) := by decide +kernel
theorem dX4_faultOf_4 : decode cX4_faultOf 4 = .ok (.getfield 56, 3) := by decide +kernel
theorem dX4_faultOf_7 : decode cX4_faultOf 7 = .ok (.if_icmp .ge 48, 3) := by decide +kernel
theorem dX4_faultOf_10 : decode cX4_faultOf 10 = .ok (.iload_n 1, 1) := by decide +kernel
theorem dX4_faultOf_11 : decode cX4_faultOf 11 = .ok (.bipush 12, 2) := by decide +kernel
theorem dX4_faultOf_13 : decode cX4_faultOf 13 = .ok (.if_icmp .ge 42, 3) := by decide +kernel
theorem dX4_faultOf_16 : decode cX4_faultOf 16 = .ok (.aload_n 0, 1) := by decide +kernel
theorem dX4_faultOf_17 : decode cX4_faultOf 17 = .ok (.getfield 7, 3) := by decide +kernel
theorem dX4_faultOf_20 : decode cX4_faultOf 20 = .ok (.iload_n 1, 1) := by decide +kernel
theorem dX4_faultOf_21 : decode cX4_faultOf 21 = .ok (.iaload, 1) := by decide +kernel
theorem dX4_faultOf_22 : decode cX4_faultOf 22 = .ok (.bipush 62, 2) := by decide +kernel
theorem dX4_faultOf_24 : decode cX4_faultOf 24 = .ok (.if_icmp .eq 25, 3) := by decide +kernel
theorem dX4_faultOf_27 : decode cX4_faultOf 27 = .ok (.aload_n 0, 1) := by decide +kernel
theorem dX4_faultOf_28 : decode cX4_faultOf 28 = .ok (.getfield 7, 3) := by decide +kernel
theorem dX4_faultOf_31 : decode cX4_faultOf 31 = .ok (.iload_n 1, 1) := by decide +kernel
theorem dX4_faultOf_32 : decode cX4_faultOf 32 = .ok (.iaload, 1) := by decide +kernel
theorem dX4_faultOf_33 : decode cX4_faultOf 33 = .ok (.bipush 60, 2) := by decide +kernel
theorem dX4_faultOf_35 : decode cX4_faultOf 35 = .ok (.if_icmp .eq 14, 3) := by decide +kernel
theorem dX4_faultOf_38 : decode cX4_faultOf 38 = .ok (.aload_n 0, 1) := by decide +kernel
theorem dX4_faultOf_39 : decode cX4_faultOf 39 = .ok (.getfield 7, 3) := by decide +kernel
theorem dX4_faultOf_42 : decode cX4_faultOf 42 = .ok (.iload_n 1, 1) := by decide +kernel
theorem dX4_faultOf_43 : decode cX4_faultOf 43 = .ok (.iaload, 1) := by decide +kernel
theorem dX4_faultOf_44 : decode cX4_faultOf 44 = .ok (.bipush 46, 2) := by decide +kernel
theorem dX4_faultOf_46 : decode cX4_faultOf 46 = .ok (.if_icmp .ne 9, 3) := by decide +kernel
theorem dX4_faultOf_49 : decode cX4_faultOf 49 = .ok (.iinc 1 1, 3) := by decide +kernel
theorem dX4_faultOf_52 : decode cX4_faultOf 52 = .ok (.goto (-50), 3) := by decide +kernel
theorem dX4_faultOf_55 : decode cX4_faultOf 55 = .ok (.iload_n 1, 1) := by decide +kernel
theorem dX4_faultOf_56 : decode cX4_faultOf 56 = .ok (.ireturn, 1) := by decide +kernel
theorem dX4_fault_0 : decode cX4_fault 0 = .ok (.aload_n 0, 1) := by decide +kernel
theorem dX4_fault_1 : decode cX4_fault 1 = .ok (.invokevirtual 59, 3) := by decide +kernel
theorem dX4_fault_4 : decode cX4_fault 4 = .ok (.ireturn, 1) := by decide +kernel
theorem dX4_currentMany_0 : decode cX4_currentMany 0 = .ok (.iconst 0, 1) := by decide +kernel
theorem dX4_currentMany_1 : decode cX4_currentMany 1 = .ok (.istore_n 1, 1) := by decide +kernel
theorem dX4_currentMany_2 : decode cX4_currentMany 2 = .ok (.iconst 0, 1) := by decide +kernel
theorem dX4_currentMany_3 : decode cX4_currentMany 3 = .ok (.istore_n 2, 1) := by decide +kernel
theorem dX4_currentMany_4 : decode cX4_currentMany 4 = .ok (.iload_n 2, 1) := by decide +kernel
theorem dX4_currentMany_5 : decode cX4_currentMany 5 = .ok (.bipush 12, 2) := by decide +kernel
theorem dX4_currentMany_7 : decode cX4_currentMany 7 = .ok (.if_icmp .ge 26, 3) := by decide +kernel
theorem dX4_currentMany_10 : decode cX4_currentMany 10 = .ok (.iload_n 1, 1) := by decide +kernel
theorem dX4_currentMany_11 : decode cX4_currentMany 11 = .ok (.aload_n 0, 1) := by decide +kernel
theorem dX4_currentMany_12 : decode cX4_currentMany 12 = .ok (.getfield 13, 3) := by decide +kernel
theorem dX4_currentMany_15 : decode cX4_currentMany 15 = .ok (.iload_n 2, 1) := by decide +kernel
theorem dX4_currentMany_16 : decode cX4_currentMany 16 = .ok (.iaload, 1) := by decide +kernel
theorem dX4_currentMany_17 : decode cX4_currentMany 17 = .ok (.ifCond .ne 7, 3) := by decide +kernel
theorem dX4_currentMany_20 : decode cX4_currentMany 20 = .ok (.iconst 0, 1) := by decide +kernel
theorem dX4_currentMany_21 : decode cX4_currentMany 21 = .ok (.goto 4, 3) := by decide +kernel
theorem dX4_currentMany_24 : decode cX4_currentMany 24 = .ok (.iconst 1, 1) := by decide +kernel
theorem dX4_currentMany_25 : decode cX4_currentMany 25 = .ok (.iadd, 1) := by decide +kernel
theorem dX4_currentMany_26 : decode cX4_currentMany 26 = .ok (.istore_n 1, 1) := by decide +kernel
theorem dX4_currentMany_27 : decode cX4_currentMany 27 = .ok (.iinc 2 1, 3) := by decide +kernel
theorem dX4_currentMany_30 : decode cX4_currentMany 30 = .ok (.goto (-26), 3) := by decide +kernel
theorem dX4_currentMany_33 : decode cX4_currentMany 33 = .ok (.iload_n 1, 1) := by decide +kernel
theorem dX4_currentMany_34 : decode cX4_currentMany 34 = .ok (.ireturn, 1) := by decide +kernel
theorem dX4_sea_0 : decode cX4_sea 0 = .ok (.aload_n 0, 1) := by decide +kernel
theorem dX4_sea_1 : decode cX4_sea 1 = .ok (.getfield 56, 3) := by decide +kernel
theorem dX4_sea_4 : decode cX4_sea 4 = .ok (.bipush 12, 2) := by decide +kernel
theorem dX4_sea_6 : decode cX4_sea 6 = .ok (.if_icmp .ne 12, 3) := by decide +kernel
theorem dX4_sea_9 : decode cX4_sea 9 = .ok (.aload_n 0, 1) := by decide +kernel
theorem dX4_sea_10 : decode cX4_sea 10 = .ok (.invokevirtual 59, 3) := by decide +kernel
theorem dX4_sea_13 : decode cX4_sea 13 = .ok (.bipush 12, 2) := by decide +kernel
theorem dX4_sea_15 : decode cX4_sea 15 = .ok (.if_icmp .ge 6, 3) := by decide +kernel
theorem dX4_sea_18 : decode cX4_sea 18 = .ok (.bipush (-103), 2) := by decide +kernel
theorem dX4_sea_20 : decode cX4_sea 20 = .ok (.ireturn, 1) := by decide +kernel
theorem dX4_sea_21 : decode cX4_sea 21 = .ok (.iconst 0, 1) := by decide +kernel
theorem dX4_sea_22 : decode cX4_sea 22 = .ok (.istore_n 1, 1) := by decide +kernel
theorem dX4_sea_23 : decode cX4_sea 23 = .ok (.iload_n 1, 1) := by decide +kernel
theorem dX4_sea_24 : decode cX4_sea 24 = .ok (.bipush 12, 2) := by decide +kernel
theorem dX4_sea_26 : decode cX4_sea 26 = .ok (.if_icmp .ge 46, 3) := by decide +kernel
theorem dX4_sea_29 : decode cX4_sea 29 = .ok (.aload_n 0, 1) := by decide +kernel
theorem dX4_sea_30 : decode cX4_sea 30 = .ok (.getfield 13, 3) := by decide +kernel
theorem dX4_sea_33 : decode cX4_sea 33 = .ok (.iload_n 1, 1) := by decide +kernel
theorem dX4_sea_34 : decode cX4_sea 34 = .ok (.aload_n 0, 1) := by decide +kernel
theorem dX4_sea_35 : decode cX4_sea 35 = .ok (.getfield 7, 3) := by decide +kernel
theorem dX4_sea_38 : decode cX4_sea 38 = .ok (.iload_n 1, 1) := by decide +kernel
theorem dX4_sea_39 : decode cX4_sea 39 = .ok (.iaload, 1) := by decide +kernel
theorem dX4_sea_40 : decode cX4_sea 40 = .ok (.bipush 62, 2) := by decide +kernel
theorem dX4_sea_42 : decode cX4_sea 42 = .ok (.if_icmp .ne 7, 3) := by decide +kernel
theorem dX4_sea_45 : decode cX4_sea 45 = .ok (.iconst 1, 1) := by decide +kernel
theorem dX4_sea_46 : decode cX4_sea 46 = .ok (.goto 19, 3) := by decide +kernel
theorem dX4_sea_49 : decode cX4_sea 49 = .ok (.aload_n 0, 1) := by decide +kernel
theorem dX4_sea_50 : decode cX4_sea 50 = .ok (.getfield 7, 3) := by decide +kernel
theorem dX4_sea_53 : decode cX4_sea 53 = .ok (.iload_n 1, 1) := by decide +kernel
theorem dX4_sea_54 : decode cX4_sea 54 = .ok (.iaload, 1) := by decide +kernel
theorem dX4_sea_55 : decode cX4_sea 55 = .ok (.bipush 60, 2) := by decide +kernel
theorem dX4_sea_57 : decode cX4_sea 57 = .ok (.if_icmp .ne 7, 3) := by decide +kernel
theorem dX4_sea_60 : decode cX4_sea 60 = .ok (.iconst (-1), 1) := by decide +kernel
theorem dX4_sea_61 : decode cX4_sea 61 = .ok (.goto 4, 3) := by decide +kernel
theorem dX4_sea_64 : decode cX4_sea 64 = .ok (.iconst 0, 1) := by decide +kernel
theorem dX4_sea_65 : decode cX4_sea 65 = .ok (.iastore, 1) := by decide +kernel
theorem dX4_sea_66 : decode cX4_sea 66 = .ok (.iinc 1 1, 3) := by decide +kernel
theorem dX4_sea_69 : decode cX4_sea 69 = .ok (.goto (-46), 3) := by decide +kernel
theorem dX4_sea_72 : decode cX4_sea 72 = .ok (.aload_n 0, 1) := by decide +kernel
theorem dX4_sea_73 : decode cX4_sea 73 = .ok (.iconst 1, 1) := by decide +kernel
theorem dX4_sea_74 : decode cX4_sea 74 = .ok (.putfield 63, 3) := by decide +kernel
theorem dX4_sea_77 : decode cX4_sea 77 = .ok (.aload_n 0, 1) := by decide +kernel
theorem dX4_sea_78 : decode cX4_sea 78 = .ok (.iconst 0, 1) := by decide +kernel
theorem dX4_sea_79 : decode cX4_sea 79 = .ok (.putfield 67, 3) := by decide +kernel
theorem dX4_sea_82 : decode cX4_sea 82 = .ok (.aload_n 0, 1) := by decide +kernel
theorem dX4_sea_83 : decode cX4_sea 83 = .ok (.iconst 0, 1) := by decide +kernel
theorem dX4_sea_84 : decode cX4_sea 84 = .ok (.putfield 70, 3) := by decide +kernel
theorem dX4_sea_87 : decode cX4_sea 87 = .ok (.aload_n 0, 1) := by decide +kernel
theorem dX4_sea_88 : decode cX4_sea 88 = .ok (.iconst 0, 1) := by decide +kernel
theorem dX4_sea_89 : decode cX4_sea 89 = .ok (.putfield 73, 3) := by decide +kernel
theorem dX4_sea_92 : decode cX4_sea 92 = .ok (.aload_n 0, 1) := by decide +kernel
theorem dX4_sea_93 : decode cX4_sea 93 = .ok (.iconst 0, 1) := by decide +kernel
theorem dX4_sea_94 : decode cX4_sea 94 = .ok (.putfield 76, 3) := by decide +kernel
theorem dX4_sea_97 : decode cX4_sea 97 = .ok (.aload_n 0, 1) := by decide +kernel
theorem dX4_sea_98 : decode cX4_sea 98 = .ok (.iconst 0, 1) := by decide +kernel
theorem dX4_sea_99 : decode cX4_sea 99 = .ok (.putfield 79, 3) := by decide +kernel
theorem dX4_sea_102 : decode cX4_sea 102 = .ok (.aload_n 0, 1) := by decide +kernel
theorem dX4_sea_103 : decode cX4_sea 103 = .ok (.iconst 0, 1) := by decide +kernel
theorem dX4_sea_104 : decode cX4_sea 104 = .ok (.putfield 82, 3) := by decide +kernel
theorem dX4_sea_107 : decode cX4_sea 107 = .ok (.aload_n 0, 1) := by decide +kernel
theorem dX4_sea_108 : decode cX4_sea 108 = .ok (.dup, 1) := by decide +kernel
theorem dX4_sea_109 : decode cX4_sea 109 = .ok (.getfield 85, 3) := by decide +kernel
theorem dX4_sea_112 : decode cX4_sea 112 = .ok (.iconst 1, 1) := by decide +kernel
theorem dX4_sea_113 : decode cX4_sea 113 = .ok (.iadd, 1) := by decide +kernel
theorem dX4_sea_114 : decode cX4_sea 114 = .ok (.putfield 85, 3) := by decide +kernel
theorem dX4_sea_117 : decode cX4_sea 117 = .ok (.aload_n 0, 1) := by decide +kernel
theorem dX4_sea_118 : decode cX4_sea 118 = .ok (.iconst 0, 1) := by decide +kernel
theorem dX4_sea_119 : decode cX4_sea 119 = .ok (.putfield 56, 3) := by decide +kernel
theorem dX4_sea_122 : decode cX4_sea 122 = .ok (.aload_n 0, 1) := by decide +kernel
theorem dX4_sea_123 : decode cX4_sea 123 = .ok (.invokevirtual 88, 3) := by decide +kernel
theorem dX4_sea_126 : decode cX4_sea 126 = .ok (.ireturn, 1) := by decide +kernel
theorem dX4_isIsland_0 : decode cX4_isIsland 0 = .ok (.iload_n 1, 1) := by decide +kernel
theorem dX4_isIsland_1 : decode cX4_isIsland 1 = .ok (.i2l, 1) := by decide +kernel
theorem dX4_isIsland_2 : decode cX4_isIsland 2 = .ok (.lconst 0, 1) := by decide +kernel
theorem dX4_isIsland_3 : decode cX4_isIsland 3 = .ok (.aload_n 0, 1) := by decide +kernel
theorem dX4_isIsland_4 : decode cX4_isIsland 4 = .ok (.getfield 76, 3) := by decide +kernel
theorem dX4_isIsland_7 : decode cX4_isIsland 7 = .ok (.iconst 1, 1) := by decide +kernel
theorem dX4_isIsland_8 : decode cX4_isIsland 8 = .ok (.isub, 1) := by decide +kernel
theorem dX4_isIsland_9 : decode cX4_isIsland 9 = .ok (.i2l, 1) := by decide +kernel
theorem dX4_isIsland_10 : decode cX4_isIsland 10 = .ok (.invokestatic 52, 3) := by decide +kernel
theorem dX4_isIsland_13 : decode cX4_isIsland 13 = .ok (.ireturn, 1) := by decide +kernel
theorem dX4_arePair_0 : decode cX4_arePair 0 = .ok (.aload_n 0, 1) := by decide +kernel
theorem dX4_arePair_1 : decode cX4_arePair 1 = .ok (.iload_n 1, 1) := by decide +kernel
theorem dX4_arePair_2 : decode cX4_arePair 2 = .ok (.invokevirtual 91, 3) := by decide +kernel
theorem dX4_arePair_5 : decode cX4_arePair 5 = .ok (.ifCond .eq 20, 3) := by decide +kernel
theorem dX4_arePair_8 : decode cX4_arePair 8 = .ok (.aload_n 0, 1) := by decide +kernel
theorem dX4_arePair_9 : decode cX4_arePair 9 = .ok (.iload_n 2, 1) := by decide +kernel
theorem dX4_arePair_10 : decode cX4_arePair 10 = .ok (.invokevirtual 91, 3) := by decide +kernel
theorem dX4_arePair_13 : decode cX4_arePair 13 = .ok (.ifCond .eq 12, 3) := by decide +kernel
theorem dX4_arePair_16 : decode cX4_arePair 16 = .ok (.iload_n 1, 1) := by decide +kernel
theorem dX4_arePair_17 : decode cX4_arePair 17 = .ok (.iload_n 2, 1) := by decide +kernel
theorem dX4_arePair_18 : decode cX4_arePair 18 = .ok (.if_icmp .eq 7, 3) := by decide +kernel
theorem dX4_arePair_21 : decode cX4_arePair 21 = .ok (.iconst 1, 1) := by decide +kernel
theorem dX4_arePair_22 : decode cX4_arePair 22 = .ok (.goto 4, 3) := by decide +kernel
theorem dX4_arePair_25 : decode cX4_arePair 25 = .ok (.iconst 0, 1) := by decide +kernel
theorem dX4_arePair_26 : decode cX4_arePair 26 = .ok (.ireturn, 1) := by decide +kernel
theorem dX4_whoIsAt_0 : decode cX4_whoIsAt 0 = .ok (.iconst (-1), 1) := by decide +kernel
theorem dX4_whoIsAt_1 : decode cX4_whoIsAt 1 = .ok (.istore_n 2, 1) := by decide +kernel
theorem dX4_whoIsAt_2 : decode cX4_whoIsAt 2 = .ok (.iconst 0, 1) := by decide +kernel
theorem dX4_whoIsAt_3 : decode cX4_whoIsAt 3 = .ok (.istore_n 3, 1) := by decide +kernel
theorem dX4_whoIsAt_4 : decode cX4_whoIsAt 4 = .ok (.iload_n 3, 1) := by decide +kernel
theorem dX4_whoIsAt_5 : decode cX4_whoIsAt 5 = .ok (.aload_n 0, 1) := by decide +kernel
theorem dX4_whoIsAt_6 : decode cX4_whoIsAt 6 = .ok (.getfield 76, 3) := by decide +kernel
theorem dX4_whoIsAt_9 : decode cX4_whoIsAt 9 = .ok (.if_icmp .ge 29, 3) := by decide +kernel
theorem dX4_whoIsAt_12 : decode cX4_whoIsAt 12 = .ok (.aload_n 0, 1) := by decide +kernel
theorem dX4_whoIsAt_13 : decode cX4_whoIsAt 13 = .ok (.getfield 16, 3) := by decide +kernel
theorem dX4_whoIsAt_16 : decode cX4_whoIsAt 16 = .ok (.iconst 4, 1) := by decide +kernel
theorem dX4_whoIsAt_17 : decode cX4_whoIsAt 17 = .ok (.iload_n 3, 1) := by decide +kernel
theorem dX4_whoIsAt_18 : decode cX4_whoIsAt 18 = .ok (.imul, 1) := by decide +kernel
theorem dX4_whoIsAt_19 : decode cX4_whoIsAt 19 = .ok (.iconst 2, 1) := by decide +kernel
theorem dX4_whoIsAt_20 : decode cX4_whoIsAt 20 = .ok (.iadd, 1) := by decide +kernel
theorem dX4_whoIsAt_21 : decode cX4_whoIsAt 21 = .ok (.iaload, 1) := by decide +kernel
theorem dX4_whoIsAt_22 : decode cX4_whoIsAt 22 = .ok (.iload_n 1, 1) := by decide +kernel
theorem dX4_whoIsAt_23 : decode cX4_whoIsAt 23 = .ok (.if_icmp .ne 7, 3) := by decide +kernel
theorem dX4_whoIsAt_26 : decode cX4_whoIsAt 26 = .ok (.iload_n 3, 1) := by decide +kernel
theorem dX4_whoIsAt_27 : decode cX4_whoIsAt 27 = .ok (.goto 4, 3) := by decide +kernel
theorem dX4_whoIsAt_30 : decode cX4_whoIsAt 30 = .ok (.iload_n 2, 1) := by decide +kernel
theorem dX4_whoIsAt_31 : decode cX4_whoIsAt 31 = .ok (.istore_n 2, 1) := by decide +kernel
theorem dX4_whoIsAt_32 : decode cX4_whoIsAt 32 = .ok (.iinc 3 1, 3) := by decide +kernel
theorem dX4_whoIsAt_35 : decode cX4_whoIsAt 35 = .ok (.goto (-31), 3) := by decide +kernel
theorem dX4_whoIsAt_38 : decode cX4_whoIsAt 38 = .ok (.iload_n 2, 1) := by decide +kernel
theorem dX4_whoIsAt_39 : decode cX4_whoIsAt 39 = .ok (.ireturn, 1) := by decide +kernel
theorem dX4_place_0 : decode cX4_place 0 = .ok (.aload_n 0, 1) := by decide +kernel
theorem dX4_place_1 : decode cX4_place 1 = .ok (.getfield 63, 3) := by decide +kernel
theorem dX4_place_4 : decode cX4_place 4 = .ok (.ifCond .eq 15, 3) := by decide +kernel
theorem dX4_place_7 : decode cX4_place 7 = .ok (.iload_n 1, 1) := by decide +kernel
theorem dX4_place_8 : decode cX4_place 8 = .ok (.i2l, 1) := by decide +kernel
theorem dX4_place_9 : decode cX4_place 9 = .ok (.lconst 0, 1) := by decide +kernel
theorem dX4_place_10 : decode cX4_place 10 = .ok (.ldc2_w 95, 3) := by decide +kernel
theorem dX4_place_13 : decode cX4_place 13 = .ok (.invokestatic 52, 3) := by decide +kernel
theorem dX4_place_16 : decode cX4_place 16 = .ok (.ifCond .ne 6, 3) := by decide +kernel
theorem dX4_place_19 : decode cX4_place 19 = .ok (.bipush (-101), 2) := by decide +kernel
theorem dX4_place_21 : decode cX4_place 21 = .ok (.ireturn, 1) := by decide +kernel
theorem dX4_place_22 : decode cX4_place 22 = .ok (.iload_n 2, 1) := by decide +kernel
theorem dX4_place_23 : decode cX4_place 23 = .ok (.ifCond .ne 12, 3) := by decide +kernel
theorem dX4_place_26 : decode cX4_place 26 = .ok (.aload_n 0, 1) := by decide +kernel
theorem dX4_place_27 : decode cX4_place 27 = .ok (.getfield 13, 3) := by decide +kernel
theorem dX4_place_30 : decode cX4_place 30 = .ok (.iload_n 1, 1) := by decide +kernel
theorem dX4_place_31 : decode cX4_place 31 = .ok (.iaload, 1) := by decide +kernel
theorem dX4_place_32 : decode cX4_place 32 = .ok (.goto 18, 3) := by decide +kernel
theorem dX4_place_35 : decode cX4_place 35 = .ok (.iload_n 2, 1) := by decide +kernel
theorem dX4_place_36 : decode cX4_place 36 = .ok (.iconst 1, 1) := by decide +kernel
theorem dX4_place_37 : decode cX4_place 37 = .ok (.if_icmp .ne 11, 3) := by decide +kernel
theorem dX4_place_40 : decode cX4_place 40 = .ok (.aload_n 0, 1) := by decide +kernel
theorem dX4_place_41 : decode cX4_place 41 = .ok (.iload_n 1, 1) := by decide +kernel
theorem dX4_place_42 : decode cX4_place 42 = .ok (.invokevirtual 97, 3) := by decide +kernel
theorem dX4_place_45 : decode cX4_place 45 = .ok (.goto 5, 3) := by decide +kernel
theorem dX4_place_48 : decode cX4_place 48 = .ok (.bipush (-102), 2) := by decide +kernel
theorem dX4_place_50 : decode cX4_place 50 = .ok (.ireturn, 1) := by decide +kernel
theorem dX4_wind_0 : decode cX4_wind 0 = .ok (.iload_n 1, 1) := by decide +kernel
theorem dX4_wind_1 : decode cX4_wind 1 = .ok (.i2l, 1) := by decide +kernel
theorem dX4_wind_2 : decode cX4_wind 2 = .ok (.ldc2_w 101, 3) := by decide +kernel
theorem dX4_wind_5 : decode cX4_wind 5 = .ok (.lconst 1, 1) := by decide +kernel
theorem dX4_wind_6 : decode cX4_wind 6 = .ok (.invokestatic 52, 3) := by decide +kernel
theorem dX4_wind_9 : decode cX4_wind 9 = .ok (.ifCond .ne 6, 3) := by decide +kernel
theorem dX4_wind_12 : decode cX4_wind 12 = .ok (.bipush (-102), 2) := by decide +kernel
theorem dX4_wind_14 : decode cX4_wind 14 = .ok (.ireturn, 1) := by decide +kernel
theorem dX4_wind_15 : decode cX4_wind 15 = .ok (.aload_n 0, 1) := by decide +kernel
theorem dX4_wind_16 : decode cX4_wind 16 = .ok (.getfield 63, 3) := by decide +kernel
theorem dX4_wind_19 : decode cX4_wind 19 = .ok (.ifCond .ne 6, 3) := by decide +kernel
theorem dX4_wind_22 : decode cX4_wind 22 = .ok (.bipush (-103), 2) := by decide +kernel
theorem dX4_wind_24 : decode cX4_wind 24 = .ok (.ireturn, 1) := by decide +kernel
theorem dX4_wind_25 : decode cX4_wind 25 = .ok (.aload_n 0, 1) := by decide +kernel
theorem dX4_wind_26 : decode cX4_wind 26 = .ok (.getfield 67, 3) := by decide +kernel
theorem dX4_wind_29 : decode cX4_wind 29 = .ok (.istore_n 2, 1) := by decide +kernel
theorem dX4_wind_30 : decode cX4_wind 30 = .ok (.aload_n 0, 1) := by decide +kernel
theorem dX4_wind_31 : decode cX4_wind 31 = .ok (.iload_n 1, 1) := by decide +kernel
theorem dX4_wind_32 : decode cX4_wind 32 = .ok (.putfield 67, 3) := by decide +kernel
theorem dX4_wind_35 : decode cX4_wind 35 = .ok (.iload_n 2, 1) := by decide +kernel
theorem dX4_wind_36 : decode cX4_wind 36 = .ok (.iconst 1, 1) := by decide +kernel
theorem dX4_wind_37 : decode cX4_wind 37 = .ok (.iadd, 1) := by decide +kernel
theorem dX4_wind_38 : decode cX4_wind 38 = .ok (.ireturn, 1) := by decide +kernel
theorem dX4_island_0 : decode cX4_island 0 = .ok (.iload_n 1, 1) := by decide +kernel
theorem dX4_island_1 : decode cX4_island 1 = .ok (.i2l, 1) := by decide +kernel
theorem dX4_island_2 : decode cX4_island 2 = .ok (.lconst 0, 1) := by decide +kernel
theorem dX4_island_3 : decode cX4_island 3 = .ok (.ldc2_w 103, 3) := by decide +kernel
theorem dX4_island_6 : decode cX4_island 6 = .ok (.invokestatic 52, 3) := by decide +kernel
theorem dX4_island_9 : decode cX4_island 9 = .ok (.ifCond .eq 15, 3) := by decide +kernel
theorem dX4_island_12 : decode cX4_island 12 = .ok (.iload_n 2, 1) := by decide +kernel
theorem dX4_island_13 : decode cX4_island 13 = .ok (.i2l, 1) := by decide +kernel
theorem dX4_island_14 : decode cX4_island 14 = .ok (.lconst 1, 1) := by decide +kernel
theorem dX4_island_15 : decode cX4_island 15 = .ok (.ldc2_w 105, 3) := by decide +kernel
theorem dX4_island_18 : decode cX4_island 18 = .ok (.invokestatic 52, 3) := by decide +kernel
theorem dX4_island_21 : decode cX4_island 21 = .ok (.ifCond .ne 6, 3) := by decide +kernel
theorem dX4_island_24 : decode cX4_island 24 = .ok (.bipush (-102), 2) := by decide +kernel
theorem dX4_island_26 : decode cX4_island 26 = .ok (.ireturn, 1) := by decide +kernel
theorem dX4_island_27 : decode cX4_island 27 = .ok (.aload_n 0, 1) := by decide +kernel
theorem dX4_island_28 : decode cX4_island 28 = .ok (.getfield 63, 3) := by decide +kernel
theorem dX4_island_31 : decode cX4_island 31 = .ok (.ifCond .eq 15, 3) := by decide +kernel
theorem dX4_island_34 : decode cX4_island 34 = .ok (.iload_n 3, 1) := by decide +kernel
theorem dX4_island_35 : decode cX4_island 35 = .ok (.i2l, 1) := by decide +kernel
theorem dX4_island_36 : decode cX4_island 36 = .ok (.lconst 0, 1) := by decide +kernel
theorem dX4_island_37 : decode cX4_island 37 = .ok (.ldc2_w 95, 3) := by decide +kernel
theorem dX4_island_40 : decode cX4_island 40 = .ok (.invokestatic 52, 3) := by decide +kernel
theorem dX4_island_43 : decode cX4_island 43 = .ok (.ifCond .ne 6, 3) := by decide +kernel
theorem dX4_island_46 : decode cX4_island 46 = .ok (.bipush (-101), 2) := by decide +kernel
theorem dX4_island_48 : decode cX4_island 48 = .ok (.ireturn, 1) := by decide +kernel
theorem dX4_island_49 : decode cX4_island 49 = .ok (.aload_n 0, 1) := by decide +kernel
theorem dX4_island_50 : decode cX4_island 50 = .ok (.iload_n 3, 1) := by decide +kernel
theorem dX4_island_51 : decode cX4_island 51 = .ok (.invokevirtual 97, 3) := by decide +kernel
theorem dX4_island_54 : decode cX4_island 54 = .ok (.iconst (-1), 1) := by decide +kernel
theorem dX4_island_55 : decode cX4_island 55 = .ok (.if_icmp .eq 6, 3) := by decide +kernel
theorem dX4_island_58 : decode cX4_island 58 = .ok (.bipush (-103), 2) := by decide +kernel
theorem dX4_island_60 : decode cX4_island 60 = .ok (.ireturn, 1) := by decide +kernel
theorem dX4_island_61 : decode cX4_island 61 = .ok (.aload_n 0, 1) := by decide +kernel
theorem dX4_island_62 : decode cX4_island 62 = .ok (.getfield 76, 3) := by decide +kernel
theorem dX4_island_65 : decode cX4_island 65 = .ok (.iconst 5, 1) := by decide +kernel
theorem dX4_island_66 : decode cX4_island 66 = .ok (.if_icmp .ne 6, 3) := by decide +kernel
theorem dX4_island_69 : decode cX4_island 69 = .ok (.bipush (-104), 2) := by decide +kernel
theorem dX4_island_71 : decode cX4_island 71 = .ok (.ireturn, 1) := by decide +kernel
theorem dX4_island_72 : decode cX4_island 72 = .ok (.aload_n 0, 1) := by decide +kernel
theorem dX4_island_73 : decode cX4_island 73 = .ok (.getfield 16, 3) := by decide +kernel
theorem dX4_island_76 : decode cX4_island 76 = .ok (.iconst 4, 1) := by decide +kernel
theorem dX4_island_77 : decode cX4_island 77 = .ok (.aload_n 0, 1) := by decide +kernel
theorem dX4_island_78 : decode cX4_island 78 = .ok (.getfield 76, 3) := by decide +kernel
theorem dX4_island_81 : decode cX4_island 81 = .ok (.imul, 1) := by decide +kernel
theorem dX4_island_82 : decode cX4_island 82 = .ok (.iload_n 1, 1) := by decide +kernel
theorem dX4_island_83 : decode cX4_island 83 = .ok (.iastore, 1) := by decide +kernel
theorem dX4_island_84 : decode cX4_island 84 = .ok (.aload_n 0, 1) := by decide +kernel
theorem dX4_island_85 : decode cX4_island 85 = .ok (.getfield 16, 3) := by decide +kernel
theorem dX4_island_88 : decode cX4_island 88 = .ok (.iconst 4, 1) := by decide +kernel
theorem dX4_island_89 : decode cX4_island 89 = .ok (.aload_n 0, 1) := by decide +kernel
theorem dX4_island_90 : decode cX4_island 90 = .ok (.getfield 76, 3) := by decide +kernel
theorem dX4_island_93 : decode cX4_island 93 = .ok (.imul, 1) := by decide +kernel
theorem dX4_island_94 : decode cX4_island 94 = .ok (.iconst 1, 1) := by decide +kernel
theorem dX4_island_95 : decode cX4_island 95 = .ok (.iadd, 1) := by decide +kernel
theorem dX4_island_96 : decode cX4_island 96 = .ok (.iload_n 2, 1) := by decide +kernel
theorem dX4_island_97 : decode cX4_island 97 = .ok (.iastore, 1) := by decide +kernel
theorem dX4_island_98 : decode cX4_island 98 = .ok (.aload_n 0, 1) := by decide +kernel
theorem dX4_island_99 : decode cX4_island 99 = .ok (.getfield 16, 3) := by decide +kernel
theorem dX4_island_102 : decode cX4_island 102 = .ok (.iconst 4, 1) := by decide +kernel
theorem dX4_island_103 : decode cX4_island 103 = .ok (.aload_n 0, 1) := by decide +kernel
theorem dX4_island_104 : decode cX4_island 104 = .ok (.getfield 76, 3) := by decide +kernel
theorem dX4_island_107 : decode cX4_island 107 = .ok (.imul, 1) := by decide +kernel
theorem dX4_island_108 : decode cX4_island 108 = .ok (.iconst 2, 1) := by decide +kernel
theorem dX4_island_109 : decode cX4_island 109 = .ok (.iadd, 1) := by decide +kernel
theorem dX4_island_110 : decode cX4_island 110 = .ok (.iload_n 3, 1) := by decide +kernel
theorem dX4_island_111 : decode cX4_island 111 = .ok (.iastore, 1) := by decide +kernel
theorem dX4_island_112 : decode cX4_island 112 = .ok (.aload_n 0, 1) := by decide +kernel
theorem dX4_island_113 : decode cX4_island 113 = .ok (.getfield 16, 3) := by decide +kernel
theorem dX4_island_116 : decode cX4_island 116 = .ok (.iconst 4, 1) := by decide +kernel
theorem dX4_island_117 : decode cX4_island 117 = .ok (.aload_n 0, 1) := by decide +kernel
theorem dX4_island_118 : decode cX4_island 118 = .ok (.getfield 76, 3) := by decide +kernel
theorem dX4_island_121 : decode cX4_island 121 = .ok (.imul, 1) := by decide +kernel
theorem dX4_island_122 : decode cX4_island 122 = .ok (.iconst 3, 1) := by decide +kernel
theorem dX4_island_123 : decode cX4_island 123 = .ok (.iadd, 1) := by decide +kernel
theorem dX4_island_124 : decode cX4_island 124 = .ok (.iconst 0, 1) := by decide +kernel
theorem dX4_island_125 : decode cX4_island 125 = .ok (.iastore, 1) := by decide +kernel
theorem dX4_island_126 : decode cX4_island 126 = .ok (.aload_n 0, 1) := by decide +kernel
theorem dX4_island_127 : decode cX4_island 127 = .ok (.dup, 1) := by decide +kernel
theorem dX4_island_128 : decode cX4_island 128 = .ok (.getfield 76, 3) := by decide +kernel
theorem dX4_island_131 : decode cX4_island 131 = .ok (.iconst 1, 1) := by decide +kernel
theorem dX4_island_132 : decode cX4_island 132 = .ok (.iadd, 1) := by decide +kernel
theorem dX4_island_133 : decode cX4_island 133 = .ok (.putfield 76, 3) := by decide +kernel
theorem dX4_island_136 : decode cX4_island 136 = .ok (.aload_n 0, 1) := by decide +kernel
theorem dX4_island_137 : decode cX4_island 137 = .ok (.getfield 76, 3) := by decide +kernel
theorem dX4_island_140 : decode cX4_island 140 = .ok (.iconst 1, 1) := by decide +kernel
theorem dX4_island_141 : decode cX4_island 141 = .ok (.isub, 1) := by decide +kernel
theorem dX4_island_142 : decode cX4_island 142 = .ok (.ireturn, 1) := by decide +kernel
theorem dX4_asItIs_0 : decode cX4_asItIs 0 = .ok (.aload_n 0, 1) := by decide +kernel
theorem dX4_asItIs_1 : decode cX4_asItIs 1 = .ok (.iconst 0, 1) := by decide +kernel
theorem dX4_asItIs_2 : decode cX4_asItIs 2 = .ok (.putfield 107, 3) := by decide +kernel
theorem dX4_asItIs_5 : decode cX4_asItIs 5 = .ok (.iconst 0, 1) := by decide +kernel
theorem dX4_asItIs_6 : decode cX4_asItIs 6 = .ok (.istore_n 1, 1) := by decide +kernel
theorem dX4_asItIs_7 : decode cX4_asItIs 7 = .ok (.iload_n 1, 1) := by decide +kernel
theorem dX4_asItIs_8 : decode cX4_asItIs 8 = .ok (.aload_n 0, 1) := by decide +kernel
theorem dX4_asItIs_9 : decode cX4_asItIs 9 = .ok (.getfield 76, 3) := by decide +kernel
theorem dX4_asItIs_12 : decode cX4_asItIs 12 = .ok (.if_icmp .ge 46, 3) := by decide +kernel
theorem dX4_asItIs_15 : decode cX4_asItIs 15 = .ok (.aload_n 0, 1) := by decide +kernel
theorem dX4_asItIs_16 : decode cX4_asItIs 16 = .ok (.getfield 22, 3) := by decide +kernel
theorem dX4_asItIs_19 : decode cX4_asItIs 19 = .ok (.iload_n 1, 1) := by decide +kernel
theorem dX4_asItIs_20 : decode cX4_asItIs 20 = .ok (.aload_n 0, 1) := by decide +kernel
theorem dX4_asItIs_21 : decode cX4_asItIs 21 = .ok (.getfield 16, 3) := by decide +kernel
theorem dX4_asItIs_24 : decode cX4_asItIs 24 = .ok (.iconst 4, 1) := by decide +kernel
theorem dX4_asItIs_25 : decode cX4_asItIs 25 = .ok (.iload_n 1, 1) := by decide +kernel
theorem dX4_asItIs_26 : decode cX4_asItIs 26 = .ok (.imul, 1) := by decide +kernel
theorem dX4_asItIs_27 : decode cX4_asItIs 27 = .ok (.iconst 2, 1) := by decide +kernel
theorem dX4_asItIs_28 : decode cX4_asItIs 28 = .ok (.iadd, 1) := by decide +kernel
theorem dX4_asItIs_29 : decode cX4_asItIs 29 = .ok (.iaload, 1) := by decide +kernel
theorem dX4_asItIs_30 : decode cX4_asItIs 30 = .ok (.iastore, 1) := by decide +kernel
theorem dX4_asItIs_31 : decode cX4_asItIs 31 = .ok (.aload_n 0, 1) := by decide +kernel
theorem dX4_asItIs_32 : decode cX4_asItIs 32 = .ok (.dup, 1) := by decide +kernel
theorem dX4_asItIs_33 : decode cX4_asItIs 33 = .ok (.getfield 107, 3) := by decide +kernel
theorem dX4_asItIs_36 : decode cX4_asItIs 36 = .ok (.aload_n 0, 1) := by decide +kernel
theorem dX4_asItIs_37 : decode cX4_asItIs 37 = .ok (.getfield 16, 3) := by decide +kernel
theorem dX4_asItIs_40 : decode cX4_asItIs 40 = .ok (.iconst 4, 1) := by decide +kernel
theorem dX4_asItIs_41 : decode cX4_asItIs 41 = .ok (.iload_n 1, 1) := by decide +kernel
theorem dX4_asItIs_42 : decode cX4_asItIs 42 = .ok (.imul, 1) := by decide +kernel
theorem dX4_asItIs_43 : decode cX4_asItIs 43 = .ok (.iconst 3, 1) := by decide +kernel
theorem dX4_asItIs_44 : decode cX4_asItIs 44 = .ok (.iadd, 1) := by decide +kernel
theorem dX4_asItIs_45 : decode cX4_asItIs 45 = .ok (.iaload, 1) := by decide +kernel
theorem dX4_asItIs_46 : decode cX4_asItIs 46 = .ok (.iload_n 1, 1) := by decide +kernel
theorem dX4_asItIs_47 : decode cX4_asItIs 47 = .ok (.ishl, 1) := by decide +kernel
theorem dX4_asItIs_48 : decode cX4_asItIs 48 = .ok (.ior, 1) := by decide +kernel
theorem dX4_asItIs_49 : decode cX4_asItIs 49 = .ok (.putfield 107, 3) := by decide +kernel
theorem dX4_asItIs_52 : decode cX4_asItIs 52 = .ok (.iinc 1 1, 3) := by decide +kernel
theorem dX4_asItIs_55 : decode cX4_asItIs 55 = .ok (.goto (-48), 3) := by decide +kernel
theorem dX4_asItIs_58 : decode cX4_asItIs 58 = .ok (.aload_n 0, 1) := by decide +kernel
theorem dX4_asItIs_59 : decode cX4_asItIs 59 = .ok (.aload_n 0, 1) := by decide +kernel
theorem dX4_asItIs_60 : decode cX4_asItIs 60 = .ok (.getfield 67, 3) := by decide +kernel
theorem dX4_asItIs_63 : decode cX4_asItIs 63 = .ok (.putfield 110, 3) := by decide +kernel
theorem dX4_asItIs_66 : decode cX4_asItIs 66 = .ok (.aload_n 0, 1) := by decide +kernel
theorem dX4_asItIs_67 : decode cX4_asItIs 67 = .ok (.aload_n 0, 1) := by decide +kernel
theorem dX4_asItIs_68 : decode cX4_asItIs 68 = .ok (.getfield 70, 3) := by decide +kernel
theorem dX4_asItIs_71 : decode cX4_asItIs 71 = .ok (.putfield 113, 3) := by decide +kernel
theorem dX4_asItIs_74 : decode cX4_asItIs 74 = .ok (.return_, 1) := by decide +kernel
theorem dX4_pushOf_0 : decode cX4_pushOf 0 = .ok (.aload_n 0, 1) := by decide +kernel
theorem dX4_pushOf_1 : decode cX4_pushOf 1 = .ok (.getfield 13, 3) := by decide +kernel
theorem dX4_pushOf_4 : decode cX4_pushOf 4 = .ok (.aload_n 0, 1) := by decide +kernel
theorem dX4_pushOf_5 : decode cX4_pushOf 5 = .ok (.getfield 22, 3) := by decide +kernel
theorem dX4_pushOf_8 : decode cX4_pushOf 8 = .ok (.iload_n 1, 1) := by decide +kernel
theorem dX4_pushOf_9 : decode cX4_pushOf 9 = .ok (.iaload, 1) := by decide +kernel
theorem dX4_pushOf_10 : decode cX4_pushOf 10 = .ok (.iaload, 1) := by decide +kernel
theorem dX4_pushOf_11 : decode cX4_pushOf 11 = .ok (.istore_n 2, 1) := by decide +kernel
theorem dX4_pushOf_12 : decode cX4_pushOf 12 = .ok (.aload_n 0, 1) := by decide +kernel
theorem dX4_pushOf_13 : decode cX4_pushOf 13 = .ok (.getfield 107, 3) := by decide +kernel
theorem dX4_pushOf_16 : decode cX4_pushOf 16 = .ok (.iload_n 1, 1) := by decide +kernel
theorem dX4_pushOf_17 : decode cX4_pushOf 17 = .ok (.ishr, 1) := by decide +kernel
theorem dX4_pushOf_18 : decode cX4_pushOf 18 = .ok (.iconst 1, 1) := by decide +kernel
theorem dX4_pushOf_19 : decode cX4_pushOf 19 = .ok (.iand, 1) := by decide +kernel
theorem dX4_pushOf_20 : decode cX4_pushOf 20 = .ok (.iconst 1, 1) := by decide +kernel
theorem dX4_pushOf_21 : decode cX4_pushOf 21 = .ok (.if_icmp .ne 5, 3) := by decide +kernel
theorem dX4_pushOf_24 : decode cX4_pushOf 24 = .ok (.iconst 0, 1) := by decide +kernel
theorem dX4_pushOf_25 : decode cX4_pushOf 25 = .ok (.ireturn, 1) := by decide +kernel
theorem dX4_pushOf_26 : decode cX4_pushOf 26 = .ok (.aload_n 0, 1) := by decide +kernel
theorem dX4_pushOf_27 : decode cX4_pushOf 27 = .ok (.getfield 16, 3) := by decide +kernel
theorem dX4_pushOf_30 : decode cX4_pushOf 30 = .ok (.iconst 4, 1) := by decide +kernel
theorem dX4_pushOf_31 : decode cX4_pushOf 31 = .ok (.iload_n 1, 1) := by decide +kernel
theorem dX4_pushOf_32 : decode cX4_pushOf 32 = .ok (.imul, 1) := by decide +kernel
theorem dX4_pushOf_33 : decode cX4_pushOf 33 = .ok (.iaload, 1) := by decide +kernel
theorem dX4_pushOf_34 : decode cX4_pushOf 34 = .ok (.tableswitch 57 0 3 #[30, 32, 34, 41], 30) := by decide +kernel
theorem dX4_pushOf_64 : decode cX4_pushOf 64 = .ok (.iload_n 2, 1) := by decide +kernel
theorem dX4_pushOf_65 : decode cX4_pushOf 65 = .ok (.ireturn, 1) := by decide +kernel
theorem dX4_pushOf_66 : decode cX4_pushOf 66 = .ok (.iconst 0, 1) := by decide +kernel
theorem dX4_pushOf_67 : decode cX4_pushOf 67 = .ok (.ireturn, 1) := by decide +kernel
theorem dX4_pushOf_68 : decode cX4_pushOf 68 = .ok (.iload_n 2, 1) := by decide +kernel
theorem dX4_pushOf_69 : decode cX4_pushOf 69 = .ok (.aload_n 0, 1) := by decide +kernel
theorem dX4_pushOf_70 : decode cX4_pushOf 70 = .ok (.getfield 110, 3) := by decide +kernel
theorem dX4_pushOf_73 : decode cX4_pushOf 73 = .ok (.iadd, 1) := by decide +kernel
theorem dX4_pushOf_74 : decode cX4_pushOf 74 = .ok (.ireturn, 1) := by decide +kernel
theorem dX4_pushOf_75 : decode cX4_pushOf 75 = .ok (.aload_n 0, 1) := by decide +kernel
theorem dX4_pushOf_76 : decode cX4_pushOf 76 = .ok (.getfield 113, 3) := by decide +kernel
theorem dX4_pushOf_79 : decode cX4_pushOf 79 = .ok (.iconst 2, 1) := by decide +kernel
theorem dX4_pushOf_80 : decode cX4_pushOf 80 = .ok (.irem, 1) := by decide +kernel
theorem dX4_pushOf_81 : decode cX4_pushOf 81 = .ok (.ifCond .ne 8, 3) := by decide +kernel
theorem dX4_pushOf_84 : decode cX4_pushOf 84 = .ok (.iload_n 2, 1) := by decide +kernel
theorem dX4_pushOf_85 : decode cX4_pushOf 85 = .ok (.ineg, 1) := by decide +kernel
theorem dX4_pushOf_86 : decode cX4_pushOf 86 = .ok (.goto 4, 3) := by decide +kernel
theorem dX4_pushOf_89 : decode cX4_pushOf 89 = .ok (.iload_n 2, 1) := by decide +kernel
theorem dX4_pushOf_90 : decode cX4_pushOf 90 = .ok (.ireturn, 1) := by decide +kernel
theorem dX4_pushOf_91 : decode cX4_pushOf 91 = .ok (.iload_n 2, 1) := by decide +kernel
theorem dX4_pushOf_92 : decode cX4_pushOf 92 = .ok (.iconst 2, 1) := by decide +kernel
theorem dX4_pushOf_93 : decode cX4_pushOf 93 = .ok (.aload_n 0, 1) := by decide +kernel
theorem dX4_pushOf_94 : decode cX4_pushOf 94 = .ok (.getfield 110, 3) := by decide +kernel
theorem dX4_pushOf_97 : decode cX4_pushOf 97 = .ok (.imul, 1) := by decide +kernel
theorem dX4_pushOf_98 : decode cX4_pushOf 98 = .ok (.iadd, 1) := by decide +kernel
theorem dX4_pushOf_99 : decode cX4_pushOf 99 = .ok (.ireturn, 1) := by decide +kernel
theorem dX4_areBeside_0 : decode cX4_areBeside 0 = .ok (.iload_n 0, 1) := by decide +kernel
theorem dX4_areBeside_1 : decode cX4_areBeside 1 = .ok (.iconst 1, 1) := by decide +kernel
theorem dX4_areBeside_2 : decode cX4_areBeside 2 = .ok (.iadd, 1) := by decide +kernel
theorem dX4_areBeside_3 : decode cX4_areBeside 3 = .ok (.bipush 12, 2) := by decide +kernel
theorem dX4_areBeside_5 : decode cX4_areBeside 5 = .ok (.irem, 1) := by decide +kernel
theorem dX4_areBeside_6 : decode cX4_areBeside 6 = .ok (.iload_n 1, 1) := by decide +kernel
theorem dX4_areBeside_7 : decode cX4_areBeside 7 = .ok (.if_icmp .eq 13, 3) := by decide +kernel
theorem dX4_areBeside_10 : decode cX4_areBeside 10 = .ok (.iload_n 1, 1) := by decide +kernel
theorem dX4_areBeside_11 : decode cX4_areBeside 11 = .ok (.iconst 1, 1) := by decide +kernel
theorem dX4_areBeside_12 : decode cX4_areBeside 12 = .ok (.iadd, 1) := by decide +kernel
theorem dX4_areBeside_13 : decode cX4_areBeside 13 = .ok (.bipush 12, 2) := by decide +kernel
theorem dX4_areBeside_15 : decode cX4_areBeside 15 = .ok (.irem, 1) := by decide +kernel
theorem dX4_areBeside_16 : decode cX4_areBeside 16 = .ok (.iload_n 0, 1) := by decide +kernel
theorem dX4_areBeside_17 : decode cX4_areBeside 17 = .ok (.if_icmp .ne 7, 3) := by decide +kernel
theorem dX4_areBeside_20 : decode cX4_areBeside 20 = .ok (.iconst 1, 1) := by decide +kernel
theorem dX4_areBeside_21 : decode cX4_areBeside 21 = .ok (.goto 4, 3) := by decide +kernel
theorem dX4_areBeside_24 : decode cX4_areBeside 24 = .ok (.iconst 0, 1) := by decide +kernel
theorem dX4_areBeside_25 : decode cX4_areBeside 25 = .ok (.ireturn, 1) := by decide +kernel
theorem dX4_areRoped_0 : decode cX4_areRoped 0 = .ok (.iconst 0, 1) := by decide +kernel
theorem dX4_areRoped_1 : decode cX4_areRoped 1 = .ok (.istore_n 3, 1) := by decide +kernel
theorem dX4_areRoped_2 : decode cX4_areRoped 2 = .ok (.iconst 0, 1) := by decide +kernel
theorem dX4_areRoped_3 : decode cX4_areRoped 3 = .ok (.istore 4, 2) := by decide +kernel
theorem dX4_areRoped_5 : decode cX4_areRoped 5 = .ok (.iload 4, 2) := by decide +kernel
theorem dX4_areRoped_7 : decode cX4_areRoped 7 = .ok (.aload_n 0, 1) := by decide +kernel
theorem dX4_areRoped_8 : decode cX4_areRoped 8 = .ok (.getfield 79, 3) := by decide +kernel
theorem dX4_areRoped_11 : decode cX4_areRoped 11 = .ok (.if_icmp .ge 75, 3) := by decide +kernel
theorem dX4_areRoped_14 : decode cX4_areRoped 14 = .ok (.iload_n 3, 1) := by decide +kernel
theorem dX4_areRoped_15 : decode cX4_areRoped 15 = .ok (.ifCond .ne 59, 3) := by decide +kernel
theorem dX4_areRoped_18 : decode cX4_areRoped 18 = .ok (.aload_n 0, 1) := by decide +kernel
theorem dX4_areRoped_19 : decode cX4_areRoped 19 = .ok (.getfield 19, 3) := by decide +kernel
theorem dX4_areRoped_22 : decode cX4_areRoped 22 = .ok (.iconst 2, 1) := by decide +kernel
theorem dX4_areRoped_23 : decode cX4_areRoped 23 = .ok (.iload 4, 2) := by decide +kernel
theorem dX4_areRoped_25 : decode cX4_areRoped 25 = .ok (.imul, 1) := by decide +kernel
theorem dX4_areRoped_26 : decode cX4_areRoped 26 = .ok (.iaload, 1) := by decide +kernel
theorem dX4_areRoped_27 : decode cX4_areRoped 27 = .ok (.iload_n 1, 1) := by decide +kernel
theorem dX4_areRoped_28 : decode cX4_areRoped 28 = .ok (.if_icmp .ne 18, 3) := by decide +kernel
theorem dX4_areRoped_31 : decode cX4_areRoped 31 = .ok (.aload_n 0, 1) := by decide +kernel
theorem dX4_areRoped_32 : decode cX4_areRoped 32 = .ok (.getfield 19, 3) := by decide +kernel
theorem dX4_areRoped_35 : decode cX4_areRoped 35 = .ok (.iconst 2, 1) := by decide +kernel
theorem dX4_areRoped_36 : decode cX4_areRoped 36 = .ok (.iload 4, 2) := by decide +kernel
theorem dX4_areRoped_38 : decode cX4_areRoped 38 = .ok (.imul, 1) := by decide +kernel
theorem dX4_areRoped_39 : decode cX4_areRoped 39 = .ok (.iconst 1, 1) := by decide +kernel
theorem dX4_areRoped_40 : decode cX4_areRoped 40 = .ok (.iadd, 1) := by decide +kernel
theorem dX4_areRoped_41 : decode cX4_areRoped 41 = .ok (.iaload, 1) := by decide +kernel
theorem dX4_areRoped_42 : decode cX4_areRoped 42 = .ok (.iload_n 2, 1) := by decide +kernel
theorem dX4_areRoped_43 : decode cX4_areRoped 43 = .ok (.if_icmp .eq 31, 3) := by decide +kernel
theorem dX4_areRoped_46 : decode cX4_areRoped 46 = .ok (.aload_n 0, 1) := by decide +kernel
theorem dX4_areRoped_47 : decode cX4_areRoped 47 = .ok (.getfield 19, 3) := by decide +kernel
theorem dX4_areRoped_50 : decode cX4_areRoped 50 = .ok (.iconst 2, 1) := by decide +kernel
theorem dX4_areRoped_51 : decode cX4_areRoped 51 = .ok (.iload 4, 2) := by decide +kernel
theorem dX4_areRoped_53 : decode cX4_areRoped 53 = .ok (.imul, 1) := by decide +kernel
theorem dX4_areRoped_54 : decode cX4_areRoped 54 = .ok (.iaload, 1) := by decide +kernel
theorem dX4_areRoped_55 : decode cX4_areRoped 55 = .ok (.iload_n 2, 1) := by decide +kernel
theorem dX4_areRoped_56 : decode cX4_areRoped 56 = .ok (.if_icmp .ne 22, 3) := by decide +kernel
theorem dX4_areRoped_59 : decode cX4_areRoped 59 = .ok (.aload_n 0, 1) := by decide +kernel
theorem dX4_areRoped_60 : decode cX4_areRoped 60 = .ok (.getfield 19, 3) := by decide +kernel
theorem dX4_areRoped_63 : decode cX4_areRoped 63 = .ok (.iconst 2, 1) := by decide +kernel
theorem dX4_areRoped_64 : decode cX4_areRoped 64 = .ok (.iload 4, 2) := by decide +kernel
theorem dX4_areRoped_66 : decode cX4_areRoped 66 = .ok (.imul, 1) := by decide +kernel
theorem dX4_areRoped_67 : decode cX4_areRoped 67 = .ok (.iconst 1, 1) := by decide +kernel
theorem dX4_areRoped_68 : decode cX4_areRoped 68 = .ok (.iadd, 1) := by decide +kernel
theorem dX4_areRoped_69 : decode cX4_areRoped 69 = .ok (.iaload, 1) := by decide +kernel
theorem dX4_areRoped_70 : decode cX4_areRoped 70 = .ok (.iload_n 1, 1) := by decide +kernel
theorem dX4_areRoped_71 : decode cX4_areRoped 71 = .ok (.if_icmp .ne 7, 3) := by decide +kernel
theorem dX4_areRoped_74 : decode cX4_areRoped 74 = .ok (.iconst 1, 1) := by decide +kernel
theorem dX4_areRoped_75 : decode cX4_areRoped 75 = .ok (.goto 4, 3) := by decide +kernel
theorem dX4_areRoped_78 : decode cX4_areRoped 78 = .ok (.iconst 0, 1) := by decide +kernel
theorem dX4_areRoped_79 : decode cX4_areRoped 79 = .ok (.istore_n 3, 1) := by decide +kernel
theorem dX4_areRoped_80 : decode cX4_areRoped 80 = .ok (.iinc 4 1, 3) := by decide +kernel
theorem dX4_areRoped_83 : decode cX4_areRoped 83 = .ok (.goto (-78), 3) := by decide +kernel
theorem dX4_areRoped_86 : decode cX4_areRoped 86 = .ok (.iload_n 3, 1) := by decide +kernel
theorem dX4_areRoped_87 : decode cX4_areRoped 87 = .ok (.ireturn, 1) := by decide +kernel
theorem dX4_partyBy_0 : decode cX4_partyBy 0 = .ok (.iconst 1, 1) := by decide +kernel
theorem dX4_partyBy_1 : decode cX4_partyBy 1 = .ok (.iload_n 1, 1) := by decide +kernel
theorem dX4_partyBy_2 : decode cX4_partyBy 2 = .ok (.ishl, 1) := by decide +kernel
theorem dX4_partyBy_3 : decode cX4_partyBy 3 = .ok (.istore_n 3, 1) := by decide +kernel
theorem dX4_partyBy_4 : decode cX4_partyBy 4 = .ok (.iconst 0, 1) := by decide +kernel
theorem dX4_partyBy_5 : decode cX4_partyBy 5 = .ok (.istore 4, 2) := by decide +kernel
theorem dX4_partyBy_7 : decode cX4_partyBy 7 = .ok (.iload 4, 2) := by decide +kernel
theorem dX4_partyBy_9 : decode cX4_partyBy 9 = .ok (.iconst 5, 1) := by decide +kernel
theorem dX4_partyBy_10 : decode cX4_partyBy 10 = .ok (.if_icmp .ge 80, 3) := by decide +kernel
theorem dX4_partyBy_13 : decode cX4_partyBy 13 = .ok (.iconst 0, 1) := by decide +kernel
theorem dX4_partyBy_14 : decode cX4_partyBy 14 = .ok (.istore 5, 2) := by decide +kernel
theorem dX4_partyBy_16 : decode cX4_partyBy 16 = .ok (.iload 5, 2) := by decide +kernel
theorem dX4_partyBy_18 : decode cX4_partyBy 18 = .ok (.aload_n 0, 1) := by decide +kernel
theorem dX4_partyBy_19 : decode cX4_partyBy 19 = .ok (.getfield 79, 3) := by decide +kernel
theorem dX4_partyBy_22 : decode cX4_partyBy 22 = .ok (.if_icmp .ge 62, 3) := by decide +kernel
theorem dX4_partyBy_25 : decode cX4_partyBy 25 = .ok (.iconst 1, 1) := by decide +kernel
theorem dX4_partyBy_26 : decode cX4_partyBy 26 = .ok (.aload_n 0, 1) := by decide +kernel
theorem dX4_partyBy_27 : decode cX4_partyBy 27 = .ok (.getfield 19, 3) := by decide +kernel
theorem dX4_partyBy_30 : decode cX4_partyBy 30 = .ok (.iconst 2, 1) := by decide +kernel
theorem dX4_partyBy_31 : decode cX4_partyBy 31 = .ok (.iload 5, 2) := by decide +kernel
theorem dX4_partyBy_33 : decode cX4_partyBy 33 = .ok (.imul, 1) := by decide +kernel
theorem dX4_partyBy_34 : decode cX4_partyBy 34 = .ok (.iaload, 1) := by decide +kernel
theorem dX4_partyBy_35 : decode cX4_partyBy 35 = .ok (.ishl, 1) := by decide +kernel
theorem dX4_partyBy_36 : decode cX4_partyBy 36 = .ok (.iconst 1, 1) := by decide +kernel
theorem dX4_partyBy_37 : decode cX4_partyBy 37 = .ok (.aload_n 0, 1) := by decide +kernel
theorem dX4_partyBy_38 : decode cX4_partyBy 38 = .ok (.getfield 19, 3) := by decide +kernel
theorem dX4_partyBy_41 : decode cX4_partyBy 41 = .ok (.iconst 2, 1) := by decide +kernel
theorem dX4_partyBy_42 : decode cX4_partyBy 42 = .ok (.iload 5, 2) := by decide +kernel
theorem dX4_partyBy_44 : decode cX4_partyBy 44 = .ok (.imul, 1) := by decide +kernel
theorem dX4_partyBy_45 : decode cX4_partyBy 45 = .ok (.iconst 1, 1) := by decide +kernel
theorem dX4_partyBy_46 : decode cX4_partyBy 46 = .ok (.iadd, 1) := by decide +kernel
theorem dX4_partyBy_47 : decode cX4_partyBy 47 = .ok (.iaload, 1) := by decide +kernel
theorem dX4_partyBy_48 : decode cX4_partyBy 48 = .ok (.ishl, 1) := by decide +kernel
theorem dX4_partyBy_49 : decode cX4_partyBy 49 = .ok (.ior, 1) := by decide +kernel
theorem dX4_partyBy_50 : decode cX4_partyBy 50 = .ok (.istore 6, 2) := by decide +kernel
theorem dX4_partyBy_52 : decode cX4_partyBy 52 = .ok (.iload_n 3, 1) := by decide +kernel
theorem dX4_partyBy_53 : decode cX4_partyBy 53 = .ok (.iload_n 2, 1) := by decide +kernel
theorem dX4_partyBy_54 : decode cX4_partyBy 54 = .ok (.iload 5, 2) := by decide +kernel
theorem dX4_partyBy_56 : decode cX4_partyBy 56 = .ok (.ishr, 1) := by decide +kernel
theorem dX4_partyBy_57 : decode cX4_partyBy 57 = .ok (.iconst 1, 1) := by decide +kernel
theorem dX4_partyBy_58 : decode cX4_partyBy 58 = .ok (.iand, 1) := by decide +kernel
theorem dX4_partyBy_59 : decode cX4_partyBy 59 = .ok (.iconst 1, 1) := by decide +kernel
theorem dX4_partyBy_60 : decode cX4_partyBy 60 = .ok (.if_icmp .ne 15, 3) := by decide +kernel
theorem dX4_partyBy_63 : decode cX4_partyBy 63 = .ok (.iload_n 3, 1) := by decide +kernel
theorem dX4_partyBy_64 : decode cX4_partyBy 64 = .ok (.iload 6, 2) := by decide +kernel
theorem dX4_partyBy_66 : decode cX4_partyBy 66 = .ok (.iand, 1) := by decide +kernel
theorem dX4_partyBy_67 : decode cX4_partyBy 67 = .ok (.ifCond .eq 8, 3) := by decide +kernel
theorem dX4_partyBy_70 : decode cX4_partyBy 70 = .ok (.iload 6, 2) := by decide +kernel
theorem dX4_partyBy_72 : decode cX4_partyBy 72 = .ok (.goto 4, 3) := by decide +kernel
theorem dX4_partyBy_75 : decode cX4_partyBy 75 = .ok (.iconst 0, 1) := by decide +kernel
theorem dX4_partyBy_76 : decode cX4_partyBy 76 = .ok (.ior, 1) := by decide +kernel
theorem dX4_partyBy_77 : decode cX4_partyBy 77 = .ok (.istore_n 3, 1) := by decide +kernel
theorem dX4_partyBy_78 : decode cX4_partyBy 78 = .ok (.iinc 5 1, 3) := by decide +kernel
theorem dX4_partyBy_81 : decode cX4_partyBy 81 = .ok (.goto (-65), 3) := by decide +kernel
theorem dX4_partyBy_84 : decode cX4_partyBy 84 = .ok (.iinc 4 1, 3) := by decide +kernel
theorem dX4_partyBy_87 : decode cX4_partyBy 87 = .ok (.goto (-80), 3) := by decide +kernel
theorem dX4_partyBy_90 : decode cX4_partyBy 90 = .ok (.iload_n 3, 1) := by decide +kernel
theorem dX4_partyBy_91 : decode cX4_partyBy 91 = .ok (.ireturn, 1) := by decide +kernel
theorem dX4_partyOf_0 : decode cX4_partyOf 0 = .ok (.aload_n 0, 1) := by decide +kernel
theorem dX4_partyOf_1 : decode cX4_partyOf 1 = .ok (.iload_n 1, 1) := by decide +kernel
theorem dX4_partyOf_2 : decode cX4_partyOf 2 = .ok (.bipush 63, 2) := by decide +kernel
theorem dX4_partyOf_4 : decode cX4_partyOf 4 = .ok (.invokevirtual 116, 3) := by decide +kernel
theorem dX4_partyOf_7 : decode cX4_partyOf 7 = .ok (.ireturn, 1) := by decide +kernel
theorem dX4_isFirst_0 : decode cX4_isFirst 0 = .ok (.aload_n 0, 1) := by decide +kernel
theorem dX4_isFirst_1 : decode cX4_isFirst 1 = .ok (.iload_n 1, 1) := by decide +kernel
theorem dX4_isFirst_2 : decode cX4_isFirst 2 = .ok (.invokevirtual 120, 3) := by decide +kernel
theorem dX4_isFirst_5 : decode cX4_isFirst 5 = .ok (.iconst 1, 1) := by decide +kernel
theorem dX4_isFirst_6 : decode cX4_isFirst 6 = .ok (.iload_n 1, 1) := by decide +kernel
theorem dX4_isFirst_7 : decode cX4_isFirst 7 = .ok (.ishl, 1) := by decide +kernel
theorem dX4_isFirst_8 : decode cX4_isFirst 8 = .ok (.iconst 1, 1) := by decide +kernel
theorem dX4_isFirst_9 : decode cX4_isFirst 9 = .ok (.isub, 1) := by decide +kernel
theorem dX4_isFirst_10 : decode cX4_isFirst 10 = .ok (.iand, 1) := by decide +kernel
theorem dX4_isFirst_11 : decode cX4_isFirst 11 = .ok (.ifCond .ne 7, 3) := by decide +kernel
theorem dX4_isFirst_14 : decode cX4_isFirst 14 = .ok (.iconst 1, 1) := by decide +kernel
theorem dX4_isFirst_15 : decode cX4_isFirst 15 = .ok (.goto 4, 3) := by decide +kernel
theorem dX4_isFirst_18 : decode cX4_isFirst 18 = .ok (.iconst 0, 1) := by decide +kernel
theorem dX4_isFirst_19 : decode cX4_isFirst 19 = .ok (.ireturn, 1) := by decide +kernel
theorem dX4_drifts_0 : decode cX4_drifts 0 = .ok (.iconst 0, 1) := by decide +kernel
theorem dX4_drifts_1 : decode cX4_drifts 1 = .ok (.istore_n 2, 1) := by decide +kernel
theorem dX4_drifts_2 : decode cX4_drifts 2 = .ok (.iconst 0, 1) := by decide +kernel
theorem dX4_drifts_3 : decode cX4_drifts 3 = .ok (.istore_n 3, 1) := by decide +kernel
theorem dX4_drifts_4 : decode cX4_drifts 4 = .ok (.iload_n 3, 1) := by decide +kernel
theorem dX4_drifts_5 : decode cX4_drifts 5 = .ok (.aload_n 0, 1) := by decide +kernel
theorem dX4_drifts_6 : decode cX4_drifts 6 = .ok (.getfield 76, 3) := by decide +kernel
theorem dX4_drifts_9 : decode cX4_drifts 9 = .ok (.if_icmp .ge 41, 3) := by decide +kernel
theorem dX4_drifts_12 : decode cX4_drifts 12 = .ok (.iload_n 2, 1) := by decide +kernel
theorem dX4_drifts_13 : decode cX4_drifts 13 = .ok (.iload_n 1, 1) := by decide +kernel
theorem dX4_drifts_14 : decode cX4_drifts 14 = .ok (.iload_n 3, 1) := by decide +kernel
theorem dX4_drifts_15 : decode cX4_drifts 15 = .ok (.ishr, 1) := by decide +kernel
theorem dX4_drifts_16 : decode cX4_drifts 16 = .ok (.iconst 1, 1) := by decide +kernel
theorem dX4_drifts_17 : decode cX4_drifts 17 = .ok (.iand, 1) := by decide +kernel
theorem dX4_drifts_18 : decode cX4_drifts 18 = .ok (.iconst 1, 1) := by decide +kernel
theorem dX4_drifts_19 : decode cX4_drifts 19 = .ok (.if_icmp .ne 22, 3) := by decide +kernel
theorem dX4_drifts_22 : decode cX4_drifts 22 = .ok (.aload_n 0, 1) := by decide +kernel
theorem dX4_drifts_23 : decode cX4_drifts 23 = .ok (.iload_n 3, 1) := by decide +kernel
theorem dX4_drifts_24 : decode cX4_drifts 24 = .ok (.invokevirtual 123, 3) := by decide +kernel
theorem dX4_drifts_27 : decode cX4_drifts 27 = .ok (.aload_n 0, 1) := by decide +kernel
theorem dX4_drifts_28 : decode cX4_drifts 28 = .ok (.getfield 16, 3) := by decide +kernel
theorem dX4_drifts_31 : decode cX4_drifts 31 = .ok (.iconst 4, 1) := by decide +kernel
theorem dX4_drifts_32 : decode cX4_drifts 32 = .ok (.iload_n 3, 1) := by decide +kernel
theorem dX4_drifts_33 : decode cX4_drifts 33 = .ok (.imul, 1) := by decide +kernel
theorem dX4_drifts_34 : decode cX4_drifts 34 = .ok (.iconst 1, 1) := by decide +kernel
theorem dX4_drifts_35 : decode cX4_drifts 35 = .ok (.iadd, 1) := by decide +kernel
theorem dX4_drifts_36 : decode cX4_drifts 36 = .ok (.iaload, 1) := by decide +kernel
theorem dX4_drifts_37 : decode cX4_drifts 37 = .ok (.imul, 1) := by decide +kernel
theorem dX4_drifts_38 : decode cX4_drifts 38 = .ok (.goto 4, 3) := by decide +kernel
theorem dX4_drifts_41 : decode cX4_drifts 41 = .ok (.iconst 0, 1) := by decide +kernel
theorem dX4_drifts_42 : decode cX4_drifts 42 = .ok (.iadd, 1) := by decide +kernel
theorem dX4_drifts_43 : decode cX4_drifts 43 = .ok (.istore_n 2, 1) := by decide +kernel
theorem dX4_drifts_44 : decode cX4_drifts 44 = .ok (.iinc 3 1, 3) := by decide +kernel
theorem dX4_drifts_47 : decode cX4_drifts 47 = .ok (.goto (-43), 3) := by decide +kernel
theorem dX4_drifts_50 : decode cX4_drifts 50 = .ok (.iload_n 2, 1) := by decide +kernel
theorem dX4_drifts_51 : decode cX4_drifts 51 = .ok (.ifCond .le 7, 3) := by decide +kernel
theorem dX4_drifts_54 : decode cX4_drifts 54 = .ok (.iconst 1, 1) := by decide +kernel
theorem dX4_drifts_55 : decode cX4_drifts 55 = .ok (.goto 13, 3) := by decide +kernel
theorem dX4_drifts_58 : decode cX4_drifts 58 = .ok (.iload_n 2, 1) := by decide +kernel
theorem dX4_drifts_59 : decode cX4_drifts 59 = .ok (.ifCond .ge 8, 3) := by decide +kernel
theorem dX4_drifts_62 : decode cX4_drifts 62 = .ok (.bipush 11, 2) := by decide +kernel
theorem dX4_drifts_64 : decode cX4_drifts 64 = .ok (.goto 4, 3) := by decide +kernel
theorem dX4_drifts_67 : decode cX4_drifts 67 = .ok (.iconst 0, 1) := by decide +kernel
theorem dX4_drifts_68 : decode cX4_drifts 68 = .ok (.istore_n 3, 1) := by decide +kernel
theorem dX4_drifts_69 : decode cX4_drifts 69 = .ok (.iconst 0, 1) := by decide +kernel
theorem dX4_drifts_70 : decode cX4_drifts 70 = .ok (.istore 4, 2) := by decide +kernel
theorem dX4_drifts_72 : decode cX4_drifts 72 = .ok (.iconst 0, 1) := by decide +kernel
theorem dX4_drifts_73 : decode cX4_drifts 73 = .ok (.istore 5, 2) := by decide +kernel
theorem dX4_drifts_75 : decode cX4_drifts 75 = .ok (.iload 5, 2) := by decide +kernel
theorem dX4_drifts_77 : decode cX4_drifts 77 = .ok (.aload_n 0, 1) := by decide +kernel
theorem dX4_drifts_78 : decode cX4_drifts 78 = .ok (.getfield 76, 3) := by decide +kernel
theorem dX4_drifts_81 : decode cX4_drifts 81 = .ok (.if_icmp .ge 80, 3) := by decide +kernel
theorem dX4_drifts_84 : decode cX4_drifts 84 = .ok (.iconst 0, 1) := by decide +kernel
theorem dX4_drifts_85 : decode cX4_drifts 85 = .ok (.istore 6, 2) := by decide +kernel
theorem dX4_drifts_87 : decode cX4_drifts 87 = .ok (.iload 6, 2) := by decide +kernel
theorem dX4_drifts_89 : decode cX4_drifts 89 = .ok (.aload_n 0, 1) := by decide +kernel
theorem dX4_drifts_90 : decode cX4_drifts 90 = .ok (.getfield 76, 3) := by decide +kernel
theorem dX4_drifts_93 : decode cX4_drifts 93 = .ok (.if_icmp .ge 62, 3) := by decide +kernel
theorem dX4_drifts_96 : decode cX4_drifts 96 = .ok (.iload 4, 2) := by decide +kernel
theorem dX4_drifts_98 : decode cX4_drifts 98 = .ok (.ifCond .ne 44, 3) := by decide +kernel
theorem dX4_drifts_101 : decode cX4_drifts 101 = .ok (.iload_n 1, 1) := by decide +kernel
theorem dX4_drifts_102 : decode cX4_drifts 102 = .ok (.iload 5, 2) := by decide +kernel
theorem dX4_drifts_104 : decode cX4_drifts 104 = .ok (.ishr, 1) := by decide +kernel
theorem dX4_drifts_105 : decode cX4_drifts 105 = .ok (.iconst 1, 1) := by decide +kernel
theorem dX4_drifts_106 : decode cX4_drifts 106 = .ok (.iand, 1) := by decide +kernel
theorem dX4_drifts_107 : decode cX4_drifts 107 = .ok (.iconst 1, 1) := by decide +kernel
theorem dX4_drifts_108 : decode cX4_drifts 108 = .ok (.if_icmp .ne 38, 3) := by decide +kernel
theorem dX4_drifts_111 : decode cX4_drifts 111 = .ok (.iload_n 1, 1) := by decide +kernel
theorem dX4_drifts_112 : decode cX4_drifts 112 = .ok (.iload 6, 2) := by decide +kernel
theorem dX4_drifts_114 : decode cX4_drifts 114 = .ok (.ishr, 1) := by decide +kernel
theorem dX4_drifts_115 : decode cX4_drifts 115 = .ok (.iconst 1, 1) := by decide +kernel
theorem dX4_drifts_116 : decode cX4_drifts 116 = .ok (.iand, 1) := by decide +kernel
theorem dX4_drifts_117 : decode cX4_drifts 117 = .ok (.ifCond .ne 29, 3) := by decide +kernel
theorem dX4_drifts_120 : decode cX4_drifts 120 = .ok (.aload_n 0, 1) := by decide +kernel
theorem dX4_drifts_121 : decode cX4_drifts 121 = .ok (.getfield 22, 3) := by decide +kernel
theorem dX4_drifts_124 : decode cX4_drifts 124 = .ok (.iload 5, 2) := by decide +kernel
theorem dX4_drifts_126 : decode cX4_drifts 126 = .ok (.iaload, 1) := by decide +kernel
theorem dX4_drifts_127 : decode cX4_drifts 127 = .ok (.iload_n 3, 1) := by decide +kernel
theorem dX4_drifts_128 : decode cX4_drifts 128 = .ok (.iadd, 1) := by decide +kernel
theorem dX4_drifts_129 : decode cX4_drifts 129 = .ok (.bipush 12, 2) := by decide +kernel
theorem dX4_drifts_131 : decode cX4_drifts 131 = .ok (.irem, 1) := by decide +kernel
theorem dX4_drifts_132 : decode cX4_drifts 132 = .ok (.aload_n 0, 1) := by decide +kernel
theorem dX4_drifts_133 : decode cX4_drifts 133 = .ok (.getfield 22, 3) := by decide +kernel
theorem dX4_drifts_136 : decode cX4_drifts 136 = .ok (.iload 6, 2) := by decide +kernel
theorem dX4_drifts_138 : decode cX4_drifts 138 = .ok (.iaload, 1) := by decide +kernel
theorem dX4_drifts_139 : decode cX4_drifts 139 = .ok (.if_icmp .ne 7, 3) := by decide +kernel
theorem dX4_drifts_142 : decode cX4_drifts 142 = .ok (.iconst 1, 1) := by decide +kernel
theorem dX4_drifts_143 : decode cX4_drifts 143 = .ok (.goto 4, 3) := by decide +kernel
theorem dX4_drifts_146 : decode cX4_drifts 146 = .ok (.iconst 0, 1) := by decide +kernel
theorem dX4_drifts_147 : decode cX4_drifts 147 = .ok (.istore 4, 2) := by decide +kernel
theorem dX4_drifts_149 : decode cX4_drifts 149 = .ok (.iinc 6 1, 3) := by decide +kernel
theorem dX4_drifts_152 : decode cX4_drifts 152 = .ok (.goto (-65), 3) := by decide +kernel
theorem dX4_drifts_155 : decode cX4_drifts 155 = .ok (.iinc 5 1, 3) := by decide +kernel
theorem dX4_drifts_158 : decode cX4_drifts 158 = .ok (.goto (-83), 3) := by decide +kernel
theorem dX4_drifts_161 : decode cX4_drifts 161 = .ok (.iconst 0, 1) := by decide +kernel
theorem dX4_drifts_162 : decode cX4_drifts 162 = .ok (.istore 5, 2) := by decide +kernel
theorem dX4_drifts_164 : decode cX4_drifts 164 = .ok (.iload 5, 2) := by decide +kernel
theorem dX4_drifts_166 : decode cX4_drifts 166 = .ok (.aload_n 0, 1) := by decide +kernel
theorem dX4_drifts_167 : decode cX4_drifts 167 = .ok (.getfield 76, 3) := by decide +kernel
theorem dX4_drifts_170 : decode cX4_drifts 170 = .ok (.if_icmp .ge 53, 3) := by decide +kernel
theorem dX4_drifts_173 : decode cX4_drifts 173 = .ok (.aload_n 0, 1) := by decide +kernel
theorem dX4_drifts_174 : decode cX4_drifts 174 = .ok (.getfield 22, 3) := by decide +kernel
theorem dX4_drifts_177 : decode cX4_drifts 177 = .ok (.iload 5, 2) := by decide +kernel
theorem dX4_drifts_179 : decode cX4_drifts 179 = .ok (.iload_n 1, 1) := by decide +kernel
theorem dX4_drifts_180 : decode cX4_drifts 180 = .ok (.iload 5, 2) := by decide +kernel
theorem dX4_drifts_182 : decode cX4_drifts 182 = .ok (.ishr, 1) := by decide +kernel
theorem dX4_drifts_183 : decode cX4_drifts 183 = .ok (.iconst 1, 1) := by decide +kernel
theorem dX4_drifts_184 : decode cX4_drifts 184 = .ok (.iand, 1) := by decide +kernel
theorem dX4_drifts_185 : decode cX4_drifts 185 = .ok (.iconst 1, 1) := by decide +kernel
theorem dX4_drifts_186 : decode cX4_drifts 186 = .ok (.if_icmp .ne 23, 3) := by decide +kernel
theorem dX4_drifts_189 : decode cX4_drifts 189 = .ok (.iload 4, 2) := by decide +kernel
theorem dX4_drifts_191 : decode cX4_drifts 191 = .ok (.ifCond .ne 18, 3) := by decide +kernel
theorem dX4_drifts_194 : decode cX4_drifts 194 = .ok (.aload_n 0, 1) := by decide +kernel
theorem dX4_drifts_195 : decode cX4_drifts 195 = .ok (.getfield 22, 3) := by decide +kernel
theorem dX4_drifts_198 : decode cX4_drifts 198 = .ok (.iload 5, 2) := by decide +kernel
theorem dX4_drifts_200 : decode cX4_drifts 200 = .ok (.iaload, 1) := by decide +kernel
theorem dX4_drifts_201 : decode cX4_drifts 201 = .ok (.iload_n 3, 1) := by decide +kernel
theorem dX4_drifts_202 : decode cX4_drifts 202 = .ok (.iadd, 1) := by decide +kernel
theorem dX4_drifts_203 : decode cX4_drifts 203 = .ok (.bipush 12, 2) := by decide +kernel
theorem dX4_drifts_205 : decode cX4_drifts 205 = .ok (.irem, 1) := by decide +kernel
theorem dX4_drifts_206 : decode cX4_drifts 206 = .ok (.goto 10, 3) := by decide +kernel
theorem dX4_drifts_209 : decode cX4_drifts 209 = .ok (.aload_n 0, 1) := by decide +kernel
theorem dX4_drifts_210 : decode cX4_drifts 210 = .ok (.getfield 22, 3) := by decide +kernel
theorem dX4_drifts_213 : decode cX4_drifts 213 = .ok (.iload 5, 2) := by decide +kernel
theorem dX4_drifts_215 : decode cX4_drifts 215 = .ok (.iaload, 1) := by decide +kernel
theorem dX4_drifts_216 : decode cX4_drifts 216 = .ok (.iastore, 1) := by decide +kernel
theorem dX4_drifts_217 : decode cX4_drifts 217 = .ok (.iinc 5 1, 3) := by decide +kernel
theorem dX4_drifts_220 : decode cX4_drifts 220 = .ok (.goto (-56), 3) := by decide +kernel
theorem dX4_drifts_223 : decode cX4_drifts 223 = .ok (.iload_n 3, 1) := by decide +kernel
theorem dX4_drifts_224 : decode cX4_drifts 224 = .ok (.ifCond .eq 12, 3) := by decide +kernel
theorem dX4_drifts_227 : decode cX4_drifts 227 = .ok (.iload 4, 2) := by decide +kernel
theorem dX4_drifts_229 : decode cX4_drifts 229 = .ok (.ifCond .eq 7, 3) := by decide +kernel
theorem dX4_drifts_232 : decode cX4_drifts 232 = .ok (.iconst 1, 1) := by decide +kernel
theorem dX4_drifts_233 : decode cX4_drifts 233 = .ok (.goto 4, 3) := by decide +kernel
theorem dX4_drifts_236 : decode cX4_drifts 236 = .ok (.iconst 0, 1) := by decide +kernel
theorem dX4_drifts_237 : decode cX4_drifts 237 = .ok (.ireturn, 1) := by decide +kernel
theorem dX4_passes_0 : decode cX4_passes 0 = .ok (.iconst 0, 1) := by decide +kernel
theorem dX4_passes_1 : decode cX4_passes 1 = .ok (.istore_n 1, 1) := by decide +kernel
theorem dX4_passes_2 : decode cX4_passes 2 = .ok (.iconst 0, 1) := by decide +kernel
theorem dX4_passes_3 : decode cX4_passes 3 = .ok (.istore_n 2, 1) := by decide +kernel
theorem dX4_passes_4 : decode cX4_passes 4 = .ok (.iload_n 2, 1) := by decide +kernel
theorem dX4_passes_5 : decode cX4_passes 5 = .ok (.aload_n 0, 1) := by decide +kernel
theorem dX4_passes_6 : decode cX4_passes 6 = .ok (.getfield 76, 3) := by decide +kernel
theorem dX4_passes_9 : decode cX4_passes 9 = .ok (.if_icmp .ge 33, 3) := by decide +kernel
theorem dX4_passes_12 : decode cX4_passes 12 = .ok (.iload_n 1, 1) := by decide +kernel
theorem dX4_passes_13 : decode cX4_passes 13 = .ok (.aload_n 0, 1) := by decide +kernel
theorem dX4_passes_14 : decode cX4_passes 14 = .ok (.iload_n 2, 1) := by decide +kernel
theorem dX4_passes_15 : decode cX4_passes 15 = .ok (.invokevirtual 126, 3) := by decide +kernel
theorem dX4_passes_18 : decode cX4_passes 18 = .ok (.ifCond .eq 15, 3) := by decide +kernel
theorem dX4_passes_21 : decode cX4_passes 21 = .ok (.aload_n 0, 1) := by decide +kernel
theorem dX4_passes_22 : decode cX4_passes 22 = .ok (.aload_n 0, 1) := by decide +kernel
theorem dX4_passes_23 : decode cX4_passes 23 = .ok (.iload_n 2, 1) := by decide +kernel
theorem dX4_passes_24 : decode cX4_passes 24 = .ok (.invokevirtual 120, 3) := by decide +kernel
theorem dX4_passes_27 : decode cX4_passes 27 = .ok (.invokevirtual 129, 3) := by decide +kernel
theorem dX4_passes_30 : decode cX4_passes 30 = .ok (.goto 4, 3) := by decide +kernel
theorem dX4_passes_33 : decode cX4_passes 33 = .ok (.iconst 0, 1) := by decide +kernel
theorem dX4_passes_34 : decode cX4_passes 34 = .ok (.iadd, 1) := by decide +kernel
theorem dX4_passes_35 : decode cX4_passes 35 = .ok (.istore_n 1, 1) := by decide +kernel
theorem dX4_passes_36 : decode cX4_passes 36 = .ok (.iinc 2 1, 3) := by decide +kernel
theorem dX4_passes_39 : decode cX4_passes 39 = .ok (.goto (-35), 3) := by decide +kernel
theorem dX4_passes_42 : decode cX4_passes 42 = .ok (.aload_n 0, 1) := by decide +kernel
theorem dX4_passes_43 : decode cX4_passes 43 = .ok (.dup, 1) := by decide +kernel
theorem dX4_passes_44 : decode cX4_passes 44 = .ok (.getfield 113, 3) := by decide +kernel
theorem dX4_passes_47 : decode cX4_passes 47 = .ok (.iconst 1, 1) := by decide +kernel
theorem dX4_passes_48 : decode cX4_passes 48 = .ok (.iadd, 1) := by decide +kernel
theorem dX4_passes_49 : decode cX4_passes 49 = .ok (.putfield 113, 3) := by decide +kernel
theorem dX4_passes_52 : decode cX4_passes 52 = .ok (.iload_n 1, 1) := by decide +kernel
theorem dX4_passes_53 : decode cX4_passes 53 = .ok (.ireturn, 1) := by decide +kernel
theorem dX4_besideBits_0 : decode cX4_besideBits 0 = .ok (.iconst 0, 1) := by decide +kernel
theorem dX4_besideBits_1 : decode cX4_besideBits 1 = .ok (.istore_n 2, 1) := by decide +kernel
theorem dX4_besideBits_2 : decode cX4_besideBits 2 = .ok (.iconst 0, 1) := by decide +kernel
theorem dX4_besideBits_3 : decode cX4_besideBits 3 = .ok (.istore_n 3, 1) := by decide +kernel
theorem dX4_besideBits_4 : decode cX4_besideBits 4 = .ok (.iload_n 3, 1) := by decide +kernel
theorem dX4_besideBits_5 : decode cX4_besideBits 5 = .ok (.aload_n 0, 1) := by decide +kernel
theorem dX4_besideBits_6 : decode cX4_besideBits 6 = .ok (.getfield 76, 3) := by decide +kernel
theorem dX4_besideBits_9 : decode cX4_besideBits 9 = .ok (.if_icmp .ge 45, 3) := by decide +kernel
theorem dX4_besideBits_12 : decode cX4_besideBits 12 = .ok (.iload_n 2, 1) := by decide +kernel
theorem dX4_besideBits_13 : decode cX4_besideBits 13 = .ok (.aload_n 0, 1) := by decide +kernel
theorem dX4_besideBits_14 : decode cX4_besideBits 14 = .ok (.getfield 16, 3) := by decide +kernel
theorem dX4_besideBits_17 : decode cX4_besideBits 17 = .ok (.iconst 4, 1) := by decide +kernel
theorem dX4_besideBits_18 : decode cX4_besideBits 18 = .ok (.iload_n 1, 1) := by decide +kernel
theorem dX4_besideBits_19 : decode cX4_besideBits 19 = .ok (.imul, 1) := by decide +kernel
theorem dX4_besideBits_20 : decode cX4_besideBits 20 = .ok (.iconst 2, 1) := by decide +kernel
theorem dX4_besideBits_21 : decode cX4_besideBits 21 = .ok (.iadd, 1) := by decide +kernel
theorem dX4_besideBits_22 : decode cX4_besideBits 22 = .ok (.iaload, 1) := by decide +kernel
theorem dX4_besideBits_23 : decode cX4_besideBits 23 = .ok (.aload_n 0, 1) := by decide +kernel
theorem dX4_besideBits_24 : decode cX4_besideBits 24 = .ok (.getfield 16, 3) := by decide +kernel
theorem dX4_besideBits_27 : decode cX4_besideBits 27 = .ok (.iconst 4, 1) := by decide +kernel
theorem dX4_besideBits_28 : decode cX4_besideBits 28 = .ok (.iload_n 3, 1) := by decide +kernel
theorem dX4_besideBits_29 : decode cX4_besideBits 29 = .ok (.imul, 1) := by decide +kernel
theorem dX4_besideBits_30 : decode cX4_besideBits 30 = .ok (.iconst 2, 1) := by decide +kernel
theorem dX4_besideBits_31 : decode cX4_besideBits 31 = .ok (.iadd, 1) := by decide +kernel
theorem dX4_besideBits_32 : decode cX4_besideBits 32 = .ok (.iaload, 1) := by decide +kernel
theorem dX4_besideBits_33 : decode cX4_besideBits 33 = .ok (.invokestatic 132, 3) := by decide +kernel
theorem dX4_besideBits_36 : decode cX4_besideBits 36 = .ok (.ifCond .eq 9, 3) := by decide +kernel
theorem dX4_besideBits_39 : decode cX4_besideBits 39 = .ok (.iconst 1, 1) := by decide +kernel
theorem dX4_besideBits_40 : decode cX4_besideBits 40 = .ok (.iload_n 3, 1) := by decide +kernel
theorem dX4_besideBits_41 : decode cX4_besideBits 41 = .ok (.ishl, 1) := by decide +kernel
theorem dX4_besideBits_42 : decode cX4_besideBits 42 = .ok (.goto 4, 3) := by decide +kernel
theorem dX4_besideBits_45 : decode cX4_besideBits 45 = .ok (.iconst 0, 1) := by decide +kernel
theorem dX4_besideBits_46 : decode cX4_besideBits 46 = .ok (.ior, 1) := by decide +kernel
theorem dX4_besideBits_47 : decode cX4_besideBits 47 = .ok (.istore_n 2, 1) := by decide +kernel
theorem dX4_besideBits_48 : decode cX4_besideBits 48 = .ok (.iinc 3 1, 3) := by decide +kernel
theorem dX4_besideBits_51 : decode cX4_besideBits 51 = .ok (.goto (-47), 3) := by decide +kernel
theorem dX4_besideBits_54 : decode cX4_besideBits 54 = .ok (.iload_n 2, 1) := by decide +kernel
theorem dX4_besideBits_55 : decode cX4_besideBits 55 = .ok (.ireturn, 1) := by decide +kernel
theorem dX4_ropedBits_0 : decode cX4_ropedBits 0 = .ok (.iconst 0, 1) := by decide +kernel
theorem dX4_ropedBits_1 : decode cX4_ropedBits 1 = .ok (.istore_n 2, 1) := by decide +kernel
theorem dX4_ropedBits_2 : decode cX4_ropedBits 2 = .ok (.iconst 0, 1) := by decide +kernel
theorem dX4_ropedBits_3 : decode cX4_ropedBits 3 = .ok (.istore_n 3, 1) := by decide +kernel
theorem dX4_ropedBits_4 : decode cX4_ropedBits 4 = .ok (.iload_n 3, 1) := by decide +kernel
theorem dX4_ropedBits_5 : decode cX4_ropedBits 5 = .ok (.aload_n 0, 1) := by decide +kernel
theorem dX4_ropedBits_6 : decode cX4_ropedBits 6 = .ok (.getfield 76, 3) := by decide +kernel
theorem dX4_ropedBits_9 : decode cX4_ropedBits 9 = .ok (.if_icmp .ge 28, 3) := by decide +kernel
theorem dX4_ropedBits_12 : decode cX4_ropedBits 12 = .ok (.iload_n 2, 1) := by decide +kernel
theorem dX4_ropedBits_13 : decode cX4_ropedBits 13 = .ok (.aload_n 0, 1) := by decide +kernel
theorem dX4_ropedBits_14 : decode cX4_ropedBits 14 = .ok (.iload_n 1, 1) := by decide +kernel
theorem dX4_ropedBits_15 : decode cX4_ropedBits 15 = .ok (.iload_n 3, 1) := by decide +kernel
theorem dX4_ropedBits_16 : decode cX4_ropedBits 16 = .ok (.invokevirtual 136, 3) := by decide +kernel
theorem dX4_ropedBits_19 : decode cX4_ropedBits 19 = .ok (.ifCond .eq 9, 3) := by decide +kernel
theorem dX4_ropedBits_22 : decode cX4_ropedBits 22 = .ok (.iconst 1, 1) := by decide +kernel
theorem dX4_ropedBits_23 : decode cX4_ropedBits 23 = .ok (.iload_n 3, 1) := by decide +kernel
theorem dX4_ropedBits_24 : decode cX4_ropedBits 24 = .ok (.ishl, 1) := by decide +kernel
theorem dX4_ropedBits_25 : decode cX4_ropedBits 25 = .ok (.goto 4, 3) := by decide +kernel
theorem dX4_ropedBits_28 : decode cX4_ropedBits 28 = .ok (.iconst 0, 1) := by decide +kernel
theorem dX4_ropedBits_29 : decode cX4_ropedBits 29 = .ok (.ior, 1) := by decide +kernel
theorem dX4_ropedBits_30 : decode cX4_ropedBits 30 = .ok (.istore_n 2, 1) := by decide +kernel
theorem dX4_ropedBits_31 : decode cX4_ropedBits 31 = .ok (.iinc 3 1, 3) := by decide +kernel
theorem dX4_ropedBits_34 : decode cX4_ropedBits 34 = .ok (.goto (-30), 3) := by decide +kernel
theorem dX4_ropedBits_37 : decode cX4_ropedBits 37 = .ok (.iload_n 2, 1) := by decide +kernel
theorem dX4_ropedBits_38 : decode cX4_ropedBits 38 = .ok (.ireturn, 1) := by decide +kernel
theorem dX4_tell_0 : decode cX4_tell 0 = .ok (.iload_n 2, 1) := by decide +kernel
theorem dX4_tell_1 : decode cX4_tell 1 = .ok (.tableswitch 100 0 7 #[47, 47, 47, 58, 71, 82, 88, 94], 47) := by decide +kernel
theorem dX4_tell_48 : decode cX4_tell 48 = .ok (.aload_n 0, 1) := by decide +kernel
theorem dX4_tell_49 : decode cX4_tell 49 = .ok (.getfield 16, 3) := by decide +kernel
theorem dX4_tell_52 : decode cX4_tell 52 = .ok (.iconst 4, 1) := by decide +kernel
theorem dX4_tell_53 : decode cX4_tell 53 = .ok (.iload_n 1, 1) := by decide +kernel
theorem dX4_tell_54 : decode cX4_tell 54 = .ok (.imul, 1) := by decide +kernel
theorem dX4_tell_55 : decode cX4_tell 55 = .ok (.iload_n 2, 1) := by decide +kernel
theorem dX4_tell_56 : decode cX4_tell 56 = .ok (.iadd, 1) := by decide +kernel
theorem dX4_tell_57 : decode cX4_tell 57 = .ok (.iaload, 1) := by decide +kernel
theorem dX4_tell_58 : decode cX4_tell 58 = .ok (.ireturn, 1) := by decide +kernel
theorem dX4_tell_59 : decode cX4_tell 59 = .ok (.aload_n 0, 1) := by decide +kernel
theorem dX4_tell_60 : decode cX4_tell 60 = .ok (.invokevirtual 139, 3) := by decide +kernel
theorem dX4_tell_63 : decode cX4_tell 63 = .ok (.aload_n 0, 1) := by decide +kernel
theorem dX4_tell_64 : decode cX4_tell 64 = .ok (.iload_n 1, 1) := by decide +kernel
theorem dX4_tell_65 : decode cX4_tell 65 = .ok (.invokevirtual 123, 3) := by decide +kernel
theorem dX4_tell_68 : decode cX4_tell 68 = .ok (.bipush 100, 2) := by decide +kernel
theorem dX4_tell_70 : decode cX4_tell 70 = .ok (.iadd, 1) := by decide +kernel
theorem dX4_tell_71 : decode cX4_tell 71 = .ok (.ireturn, 1) := by decide +kernel
theorem dX4_tell_72 : decode cX4_tell 72 = .ok (.aload_n 0, 1) := by decide +kernel
theorem dX4_tell_73 : decode cX4_tell 73 = .ok (.getfield 16, 3) := by decide +kernel
theorem dX4_tell_76 : decode cX4_tell 76 = .ok (.iconst 4, 1) := by decide +kernel
theorem dX4_tell_77 : decode cX4_tell 77 = .ok (.iload_n 1, 1) := by decide +kernel
theorem dX4_tell_78 : decode cX4_tell 78 = .ok (.imul, 1) := by decide +kernel
theorem dX4_tell_79 : decode cX4_tell 79 = .ok (.iconst 3, 1) := by decide +kernel
theorem dX4_tell_80 : decode cX4_tell 80 = .ok (.iadd, 1) := by decide +kernel
theorem dX4_tell_81 : decode cX4_tell 81 = .ok (.iaload, 1) := by decide +kernel
theorem dX4_tell_82 : decode cX4_tell 82 = .ok (.ireturn, 1) := by decide +kernel
theorem dX4_tell_83 : decode cX4_tell 83 = .ok (.aload_n 0, 1) := by decide +kernel
theorem dX4_tell_84 : decode cX4_tell 84 = .ok (.iload_n 1, 1) := by decide +kernel
theorem dX4_tell_85 : decode cX4_tell 85 = .ok (.invokevirtual 120, 3) := by decide +kernel
theorem dX4_tell_88 : decode cX4_tell 88 = .ok (.ireturn, 1) := by decide +kernel
theorem dX4_tell_89 : decode cX4_tell 89 = .ok (.aload_n 0, 1) := by decide +kernel
theorem dX4_tell_90 : decode cX4_tell 90 = .ok (.iload_n 1, 1) := by decide +kernel
theorem dX4_tell_91 : decode cX4_tell 91 = .ok (.invokevirtual 142, 3) := by decide +kernel
theorem dX4_tell_94 : decode cX4_tell 94 = .ok (.ireturn, 1) := by decide +kernel
theorem dX4_tell_95 : decode cX4_tell 95 = .ok (.aload_n 0, 1) := by decide +kernel
theorem dX4_tell_96 : decode cX4_tell 96 = .ok (.iload_n 1, 1) := by decide +kernel
theorem dX4_tell_97 : decode cX4_tell 97 = .ok (.invokevirtual 145, 3) := by decide +kernel
theorem dX4_tell_100 : decode cX4_tell 100 = .ok (.ireturn, 1) := by decide +kernel
theorem dX4_tell_101 : decode cX4_tell 101 = .ok (.bipush (-102), 2) := by decide +kernel
theorem dX4_tell_103 : decode cX4_tell 103 = .ok (.ireturn, 1) := by decide +kernel
theorem dX4_about_0 : decode cX4_about 0 = .ok (.aload_n 0, 1) := by decide +kernel
theorem dX4_about_1 : decode cX4_about 1 = .ok (.iload_n 1, 1) := by decide +kernel
theorem dX4_about_2 : decode cX4_about 2 = .ok (.invokevirtual 91, 3) := by decide +kernel
theorem dX4_about_5 : decode cX4_about 5 = .ok (.ifCond .eq 12, 3) := by decide +kernel
theorem dX4_about_8 : decode cX4_about 8 = .ok (.aload_n 0, 1) := by decide +kernel
theorem dX4_about_9 : decode cX4_about 9 = .ok (.iload_n 1, 1) := by decide +kernel
theorem dX4_about_10 : decode cX4_about 10 = .ok (.iload_n 2, 1) := by decide +kernel
theorem dX4_about_11 : decode cX4_about 11 = .ok (.invokevirtual 148, 3) := by decide +kernel
theorem dX4_about_14 : decode cX4_about 14 = .ok (.goto 5, 3) := by decide +kernel
theorem dX4_about_17 : decode cX4_about 17 = .ok (.bipush (-101), 2) := by decide +kernel
theorem dX4_about_19 : decode cX4_about 19 = .ok (.ireturn, 1) := by decide +kernel
theorem dX4_as_0 : decode cX4_as 0 = .ok (.aload_n 0, 1) := by decide +kernel
theorem dX4_as_1 : decode cX4_as 1 = .ok (.iload_n 1, 1) := by decide +kernel
theorem dX4_as_2 : decode cX4_as 2 = .ok (.invokevirtual 91, 3) := by decide +kernel
theorem dX4_as_5 : decode cX4_as 5 = .ok (.ifCond .ne 6, 3) := by decide +kernel
theorem dX4_as_8 : decode cX4_as 8 = .ok (.bipush (-101), 2) := by decide +kernel
theorem dX4_as_10 : decode cX4_as 10 = .ok (.ireturn, 1) := by decide +kernel
theorem dX4_as_11 : decode cX4_as 11 = .ok (.iload_n 2, 1) := by decide +kernel
theorem dX4_as_12 : decode cX4_as 12 = .ok (.i2l, 1) := by decide +kernel
theorem dX4_as_13 : decode cX4_as 13 = .ok (.lconst 0, 1) := by decide +kernel
theorem dX4_as_14 : decode cX4_as 14 = .ok (.ldc2_w 103, 3) := by decide +kernel
theorem dX4_as_17 : decode cX4_as 17 = .ok (.invokestatic 52, 3) := by decide +kernel
theorem dX4_as_20 : decode cX4_as 20 = .ok (.ifCond .ne 6, 3) := by decide +kernel
theorem dX4_as_23 : decode cX4_as 23 = .ok (.bipush (-102), 2) := by decide +kernel
theorem dX4_as_25 : decode cX4_as 25 = .ok (.ireturn, 1) := by decide +kernel
theorem dX4_as_26 : decode cX4_as 26 = .ok (.aload_n 0, 1) := by decide +kernel
theorem dX4_as_27 : decode cX4_as 27 = .ok (.getfield 16, 3) := by decide +kernel
theorem dX4_as_30 : decode cX4_as 30 = .ok (.iconst 4, 1) := by decide +kernel
theorem dX4_as_31 : decode cX4_as 31 = .ok (.iload_n 1, 1) := by decide +kernel
theorem dX4_as_32 : decode cX4_as 32 = .ok (.imul, 1) := by decide +kernel
theorem dX4_as_33 : decode cX4_as 33 = .ok (.iaload, 1) := by decide +kernel
theorem dX4_as_34 : decode cX4_as 34 = .ok (.istore_n 3, 1) := by decide +kernel
theorem dX4_as_35 : decode cX4_as 35 = .ok (.iload_n 2, 1) := by decide +kernel
theorem dX4_as_36 : decode cX4_as 36 = .ok (.ifCond .eq 18, 3) := by decide +kernel
theorem dX4_as_39 : decode cX4_as 39 = .ok (.iload_n 2, 1) := by decide +kernel
theorem dX4_as_40 : decode cX4_as 40 = .ok (.iload_n 3, 1) := by decide +kernel
theorem dX4_as_41 : decode cX4_as 41 = .ok (.if_icmp .eq 13, 3) := by decide +kernel
theorem dX4_as_44 : decode cX4_as 44 = .ok (.iload_n 2, 1) := by decide +kernel
theorem dX4_as_45 : decode cX4_as 45 = .ok (.iconst 2, 1) := by decide +kernel
theorem dX4_as_46 : decode cX4_as 46 = .ok (.if_icmp .ne 12, 3) := by decide +kernel
theorem dX4_as_49 : decode cX4_as 49 = .ok (.iload_n 3, 1) := by decide +kernel
theorem dX4_as_50 : decode cX4_as 50 = .ok (.iconst 4, 1) := by decide +kernel
theorem dX4_as_51 : decode cX4_as 51 = .ok (.if_icmp .ne 7, 3) := by decide +kernel
theorem dX4_as_54 : decode cX4_as 54 = .ok (.iconst 1, 1) := by decide +kernel
theorem dX4_as_55 : decode cX4_as 55 = .ok (.goto 4, 3) := by decide +kernel
theorem dX4_as_58 : decode cX4_as 58 = .ok (.iconst 0, 1) := by decide +kernel
theorem dX4_as_59 : decode cX4_as 59 = .ok (.istore 4, 2) := by decide +kernel
theorem dX4_as_61 : decode cX4_as 61 = .ok (.iload 4, 2) := by decide +kernel
theorem dX4_as_63 : decode cX4_as 63 = .ok (.ifCond .eq 7, 3) := by decide +kernel
theorem dX4_as_66 : decode cX4_as 66 = .ok (.iload_n 1, 1) := by decide +kernel
theorem dX4_as_67 : decode cX4_as 67 = .ok (.goto 4, 3) := by decide +kernel
theorem dX4_as_70 : decode cX4_as 70 = .ok (.iconst (-1), 1) := by decide +kernel
theorem dX4_as_71 : decode cX4_as 71 = .ok (.ireturn, 1) := by decide +kernel
theorem dX4_anchor_0 : decode cX4_anchor 0 = .ok (.aload_n 0, 1) := by decide +kernel
theorem dX4_anchor_1 : decode cX4_anchor 1 = .ok (.iload_n 1, 1) := by decide +kernel
theorem dX4_anchor_2 : decode cX4_anchor 2 = .ok (.invokevirtual 91, 3) := by decide +kernel
theorem dX4_anchor_5 : decode cX4_anchor 5 = .ok (.ifCond .ne 6, 3) := by decide +kernel
theorem dX4_anchor_8 : decode cX4_anchor 8 = .ok (.bipush (-101), 2) := by decide +kernel
theorem dX4_anchor_10 : decode cX4_anchor 10 = .ok (.ireturn, 1) := by decide +kernel
theorem dX4_anchor_11 : decode cX4_anchor 11 = .ok (.aload_n 0, 1) := by decide +kernel
theorem dX4_anchor_12 : decode cX4_anchor 12 = .ok (.getfield 16, 3) := by decide +kernel
theorem dX4_anchor_15 : decode cX4_anchor 15 = .ok (.iconst 4, 1) := by decide +kernel
theorem dX4_anchor_16 : decode cX4_anchor 16 = .ok (.iload_n 1, 1) := by decide +kernel
theorem dX4_anchor_17 : decode cX4_anchor 17 = .ok (.imul, 1) := by decide +kernel
theorem dX4_anchor_18 : decode cX4_anchor 18 = .ok (.iconst 3, 1) := by decide +kernel
theorem dX4_anchor_19 : decode cX4_anchor 19 = .ok (.iadd, 1) := by decide +kernel
theorem dX4_anchor_20 : decode cX4_anchor 20 = .ok (.iaload, 1) := by decide +kernel
theorem dX4_anchor_21 : decode cX4_anchor 21 = .ok (.istore_n 3, 1) := by decide +kernel
theorem dX4_anchor_22 : decode cX4_anchor 22 = .ok (.aload_n 0, 1) := by decide +kernel
theorem dX4_anchor_23 : decode cX4_anchor 23 = .ok (.getfield 16, 3) := by decide +kernel
theorem dX4_anchor_26 : decode cX4_anchor 26 = .ok (.iconst 4, 1) := by decide +kernel
theorem dX4_anchor_27 : decode cX4_anchor 27 = .ok (.iload_n 1, 1) := by decide +kernel
theorem dX4_anchor_28 : decode cX4_anchor 28 = .ok (.imul, 1) := by decide +kernel
theorem dX4_anchor_29 : decode cX4_anchor 29 = .ok (.iconst 3, 1) := by decide +kernel
theorem dX4_anchor_30 : decode cX4_anchor 30 = .ok (.iadd, 1) := by decide +kernel
theorem dX4_anchor_31 : decode cX4_anchor 31 = .ok (.iload_n 2, 1) := by decide +kernel
theorem dX4_anchor_32 : decode cX4_anchor 32 = .ok (.ifCond .eq 7, 3) := by decide +kernel
theorem dX4_anchor_35 : decode cX4_anchor 35 = .ok (.iconst 1, 1) := by decide +kernel
theorem dX4_anchor_36 : decode cX4_anchor 36 = .ok (.goto 4, 3) := by decide +kernel
theorem dX4_anchor_39 : decode cX4_anchor 39 = .ok (.iconst 0, 1) := by decide +kernel
theorem dX4_anchor_40 : decode cX4_anchor 40 = .ok (.iastore, 1) := by decide +kernel
theorem dX4_anchor_41 : decode cX4_anchor 41 = .ok (.iload_n 3, 1) := by decide +kernel
theorem dX4_anchor_42 : decode cX4_anchor 42 = .ok (.ireturn, 1) := by decide +kernel
theorem dX4_wed_0 : decode cX4_wed 0 = .ok (.aload_n 0, 1) := by decide +kernel
theorem dX4_wed_1 : decode cX4_wed 1 = .ok (.iload_n 1, 1) := by decide +kernel
theorem dX4_wed_2 : decode cX4_wed 2 = .ok (.iload_n 2, 1) := by decide +kernel
theorem dX4_wed_3 : decode cX4_wed 3 = .ok (.invokevirtual 151, 3) := by decide +kernel
theorem dX4_wed_6 : decode cX4_wed 6 = .ok (.ifCond .ne 6, 3) := by decide +kernel
theorem dX4_wed_9 : decode cX4_wed 9 = .ok (.bipush (-101), 2) := by decide +kernel
theorem dX4_wed_11 : decode cX4_wed 11 = .ok (.ireturn, 1) := by decide +kernel
theorem dX4_wed_12 : decode cX4_wed 12 = .ok (.aload_n 0, 1) := by decide +kernel
theorem dX4_wed_13 : decode cX4_wed 13 = .ok (.iload_n 1, 1) := by decide +kernel
theorem dX4_wed_14 : decode cX4_wed 14 = .ok (.iload_n 2, 1) := by decide +kernel
theorem dX4_wed_15 : decode cX4_wed 15 = .ok (.invokevirtual 136, 3) := by decide +kernel
theorem dX4_wed_18 : decode cX4_wed 18 = .ok (.ifCond .ne 29, 3) := by decide +kernel
theorem dX4_wed_21 : decode cX4_wed 21 = .ok (.aload_n 0, 1) := by decide +kernel
theorem dX4_wed_22 : decode cX4_wed 22 = .ok (.getfield 16, 3) := by decide +kernel
theorem dX4_wed_25 : decode cX4_wed 25 = .ok (.iconst 4, 1) := by decide +kernel
theorem dX4_wed_26 : decode cX4_wed 26 = .ok (.iload_n 1, 1) := by decide +kernel
theorem dX4_wed_27 : decode cX4_wed 27 = .ok (.imul, 1) := by decide +kernel
theorem dX4_wed_28 : decode cX4_wed 28 = .ok (.iconst 2, 1) := by decide +kernel
theorem dX4_wed_29 : decode cX4_wed 29 = .ok (.iadd, 1) := by decide +kernel
theorem dX4_wed_30 : decode cX4_wed 30 = .ok (.iaload, 1) := by decide +kernel
theorem dX4_wed_31 : decode cX4_wed 31 = .ok (.aload_n 0, 1) := by decide +kernel
theorem dX4_wed_32 : decode cX4_wed 32 = .ok (.getfield 16, 3) := by decide +kernel
theorem dX4_wed_35 : decode cX4_wed 35 = .ok (.iconst 4, 1) := by decide +kernel
theorem dX4_wed_36 : decode cX4_wed 36 = .ok (.iload_n 2, 1) := by decide +kernel
theorem dX4_wed_37 : decode cX4_wed 37 = .ok (.imul, 1) := by decide +kernel
theorem dX4_wed_38 : decode cX4_wed 38 = .ok (.iconst 2, 1) := by decide +kernel
theorem dX4_wed_39 : decode cX4_wed 39 = .ok (.iadd, 1) := by decide +kernel
theorem dX4_wed_40 : decode cX4_wed 40 = .ok (.iaload, 1) := by decide +kernel
theorem dX4_wed_41 : decode cX4_wed 41 = .ok (.invokestatic 132, 3) := by decide +kernel
theorem dX4_wed_44 : decode cX4_wed 44 = .ok (.ifCond .ne 6, 3) := by decide +kernel
theorem dX4_wed_47 : decode cX4_wed 47 = .ok (.bipush (-103), 2) := by decide +kernel
theorem dX4_wed_49 : decode cX4_wed 49 = .ok (.ireturn, 1) := by decide +kernel
theorem dX4_wed_50 : decode cX4_wed 50 = .ok (.aload_n 0, 1) := by decide +kernel
theorem dX4_wed_51 : decode cX4_wed 51 = .ok (.getfield 79, 3) := by decide +kernel
theorem dX4_wed_54 : decode cX4_wed 54 = .ok (.bipush 6, 2) := by decide +kernel
theorem dX4_wed_56 : decode cX4_wed 56 = .ok (.if_icmp .ne 6, 3) := by decide +kernel
theorem dX4_wed_59 : decode cX4_wed 59 = .ok (.bipush (-104), 2) := by decide +kernel
theorem dX4_wed_61 : decode cX4_wed 61 = .ok (.ireturn, 1) := by decide +kernel
theorem dX4_wed_62 : decode cX4_wed 62 = .ok (.aload_n 0, 1) := by decide +kernel
theorem dX4_wed_63 : decode cX4_wed 63 = .ok (.getfield 19, 3) := by decide +kernel
theorem dX4_wed_66 : decode cX4_wed 66 = .ok (.iconst 2, 1) := by decide +kernel
theorem dX4_wed_67 : decode cX4_wed 67 = .ok (.aload_n 0, 1) := by decide +kernel
theorem dX4_wed_68 : decode cX4_wed 68 = .ok (.getfield 79, 3) := by decide +kernel
theorem dX4_wed_71 : decode cX4_wed 71 = .ok (.imul, 1) := by decide +kernel
theorem dX4_wed_72 : decode cX4_wed 72 = .ok (.iload_n 1, 1) := by decide +kernel
theorem dX4_wed_73 : decode cX4_wed 73 = .ok (.iastore, 1) := by decide +kernel
theorem dX4_wed_74 : decode cX4_wed 74 = .ok (.aload_n 0, 1) := by decide +kernel
theorem dX4_wed_75 : decode cX4_wed 75 = .ok (.getfield 19, 3) := by decide +kernel
theorem dX4_wed_78 : decode cX4_wed 78 = .ok (.iconst 2, 1) := by decide +kernel
theorem dX4_wed_79 : decode cX4_wed 79 = .ok (.aload_n 0, 1) := by decide +kernel
theorem dX4_wed_80 : decode cX4_wed 80 = .ok (.getfield 79, 3) := by decide +kernel
theorem dX4_wed_83 : decode cX4_wed 83 = .ok (.imul, 1) := by decide +kernel
theorem dX4_wed_84 : decode cX4_wed 84 = .ok (.iconst 1, 1) := by decide +kernel
theorem dX4_wed_85 : decode cX4_wed 85 = .ok (.iadd, 1) := by decide +kernel
theorem dX4_wed_86 : decode cX4_wed 86 = .ok (.iload_n 2, 1) := by decide +kernel
theorem dX4_wed_87 : decode cX4_wed 87 = .ok (.iastore, 1) := by decide +kernel
theorem dX4_wed_88 : decode cX4_wed 88 = .ok (.aload_n 0, 1) := by decide +kernel
theorem dX4_wed_89 : decode cX4_wed 89 = .ok (.dup, 1) := by decide +kernel
theorem dX4_wed_90 : decode cX4_wed 90 = .ok (.getfield 79, 3) := by decide +kernel
theorem dX4_wed_93 : decode cX4_wed 93 = .ok (.iconst 1, 1) := by decide +kernel
theorem dX4_wed_94 : decode cX4_wed 94 = .ok (.iadd, 1) := by decide +kernel
theorem dX4_wed_95 : decode cX4_wed 95 = .ok (.putfield 79, 3) := by decide +kernel
theorem dX4_wed_98 : decode cX4_wed 98 = .ok (.aload_n 0, 1) := by decide +kernel
theorem dX4_wed_99 : decode cX4_wed 99 = .ok (.getfield 79, 3) := by decide +kernel
theorem dX4_wed_102 : decode cX4_wed 102 = .ok (.ireturn, 1) := by decide +kernel
theorem dX4_axe_0 : decode cX4_axe 0 = .ok (.aload_n 0, 1) := by decide +kernel
theorem dX4_axe_1 : decode cX4_axe 1 = .ok (.iload_n 1, 1) := by decide +kernel
theorem dX4_axe_2 : decode cX4_axe 2 = .ok (.iload_n 2, 1) := by decide +kernel
theorem dX4_axe_3 : decode cX4_axe 3 = .ok (.invokevirtual 151, 3) := by decide +kernel
theorem dX4_axe_6 : decode cX4_axe 6 = .ok (.ifCond .ne 6, 3) := by decide +kernel
theorem dX4_axe_9 : decode cX4_axe 9 = .ok (.bipush (-101), 2) := by decide +kernel
theorem dX4_axe_11 : decode cX4_axe 11 = .ok (.ireturn, 1) := by decide +kernel
theorem dX4_axe_12 : decode cX4_axe 12 = .ok (.aload_n 0, 1) := by decide +kernel
theorem dX4_axe_13 : decode cX4_axe 13 = .ok (.iload_n 1, 1) := by decide +kernel
theorem dX4_axe_14 : decode cX4_axe 14 = .ok (.iload_n 2, 1) := by decide +kernel
theorem dX4_axe_15 : decode cX4_axe 15 = .ok (.invokevirtual 136, 3) := by decide +kernel
theorem dX4_axe_18 : decode cX4_axe 18 = .ok (.ifCond .ne 6, 3) := by decide +kernel
theorem dX4_axe_21 : decode cX4_axe 21 = .ok (.bipush (-103), 2) := by decide +kernel
theorem dX4_axe_23 : decode cX4_axe 23 = .ok (.ireturn, 1) := by decide +kernel
theorem dX4_axe_24 : decode cX4_axe 24 = .ok (.iconst 0, 1) := by decide +kernel
theorem dX4_axe_25 : decode cX4_axe 25 = .ok (.istore_n 3, 1) := by decide +kernel
theorem dX4_axe_26 : decode cX4_axe 26 = .ok (.iconst 0, 1) := by decide +kernel
theorem dX4_axe_27 : decode cX4_axe 27 = .ok (.istore 4, 2) := by decide +kernel
theorem dX4_axe_29 : decode cX4_axe 29 = .ok (.iload 4, 2) := by decide +kernel
theorem dX4_axe_31 : decode cX4_axe 31 = .ok (.aload_n 0, 1) := by decide +kernel
theorem dX4_axe_32 : decode cX4_axe 32 = .ok (.getfield 79, 3) := by decide +kernel
theorem dX4_axe_35 : decode cX4_axe 35 = .ok (.if_icmp .ge 94, 3) := by decide +kernel
theorem dX4_axe_38 : decode cX4_axe 38 = .ok (.aload_n 0, 1) := by decide +kernel
theorem dX4_axe_39 : decode cX4_axe 39 = .ok (.getfield 19, 3) := by decide +kernel
theorem dX4_axe_42 : decode cX4_axe 42 = .ok (.iconst 2, 1) := by decide +kernel
theorem dX4_axe_43 : decode cX4_axe 43 = .ok (.iload 4, 2) := by decide +kernel
theorem dX4_axe_45 : decode cX4_axe 45 = .ok (.imul, 1) := by decide +kernel
theorem dX4_axe_46 : decode cX4_axe 46 = .ok (.iaload, 1) := by decide +kernel
theorem dX4_axe_47 : decode cX4_axe 47 = .ok (.istore 5, 2) := by decide +kernel
theorem dX4_axe_49 : decode cX4_axe 49 = .ok (.aload_n 0, 1) := by decide +kernel
theorem dX4_axe_50 : decode cX4_axe 50 = .ok (.getfield 19, 3) := by decide +kernel
theorem dX4_axe_53 : decode cX4_axe 53 = .ok (.iconst 2, 1) := by decide +kernel
theorem dX4_axe_54 : decode cX4_axe 54 = .ok (.iload 4, 2) := by decide +kernel
theorem dX4_axe_56 : decode cX4_axe 56 = .ok (.imul, 1) := by decide +kernel
theorem dX4_axe_57 : decode cX4_axe 57 = .ok (.iconst 1, 1) := by decide +kernel
theorem dX4_axe_58 : decode cX4_axe 58 = .ok (.iadd, 1) := by decide +kernel
theorem dX4_axe_59 : decode cX4_axe 59 = .ok (.iaload, 1) := by decide +kernel
theorem dX4_axe_60 : decode cX4_axe 60 = .ok (.istore 6, 2) := by decide +kernel
theorem dX4_axe_62 : decode cX4_axe 62 = .ok (.iload 5, 2) := by decide +kernel
theorem dX4_axe_64 : decode cX4_axe 64 = .ok (.iload_n 1, 1) := by decide +kernel
theorem dX4_axe_65 : decode cX4_axe 65 = .ok (.if_icmp .ne 9, 3) := by decide +kernel
theorem dX4_axe_68 : decode cX4_axe 68 = .ok (.iload 6, 2) := by decide +kernel
theorem dX4_axe_70 : decode cX4_axe 70 = .ok (.iload_n 2, 1) := by decide +kernel
theorem dX4_axe_71 : decode cX4_axe 71 = .ok (.if_icmp .eq 15, 3) := by decide +kernel
theorem dX4_axe_74 : decode cX4_axe 74 = .ok (.iload 5, 2) := by decide +kernel
theorem dX4_axe_76 : decode cX4_axe 76 = .ok (.iload_n 2, 1) := by decide +kernel
theorem dX4_axe_77 : decode cX4_axe 77 = .ok (.if_icmp .ne 13, 3) := by decide +kernel
theorem dX4_axe_80 : decode cX4_axe 80 = .ok (.iload 6, 2) := by decide +kernel
theorem dX4_axe_82 : decode cX4_axe 82 = .ok (.iload_n 1, 1) := by decide +kernel
theorem dX4_axe_83 : decode cX4_axe 83 = .ok (.if_icmp .ne 7, 3) := by decide +kernel
theorem dX4_axe_86 : decode cX4_axe 86 = .ok (.iconst 1, 1) := by decide +kernel
theorem dX4_axe_87 : decode cX4_axe 87 = .ok (.goto 4, 3) := by decide +kernel
theorem dX4_axe_90 : decode cX4_axe 90 = .ok (.iconst 0, 1) := by decide +kernel
theorem dX4_axe_91 : decode cX4_axe 91 = .ok (.istore 7, 2) := by decide +kernel
theorem dX4_axe_93 : decode cX4_axe 93 = .ok (.iload 7, 2) := by decide +kernel
theorem dX4_axe_95 : decode cX4_axe 95 = .ok (.ifCond .ne 28, 3) := by decide +kernel
theorem dX4_axe_98 : decode cX4_axe 98 = .ok (.aload_n 0, 1) := by decide +kernel
theorem dX4_axe_99 : decode cX4_axe 99 = .ok (.getfield 19, 3) := by decide +kernel
theorem dX4_axe_102 : decode cX4_axe 102 = .ok (.iconst 2, 1) := by decide +kernel
theorem dX4_axe_103 : decode cX4_axe 103 = .ok (.iload_n 3, 1) := by decide +kernel
theorem dX4_axe_104 : decode cX4_axe 104 = .ok (.imul, 1) := by decide +kernel
theorem dX4_axe_105 : decode cX4_axe 105 = .ok (.iload 5, 2) := by decide +kernel
theorem dX4_axe_107 : decode cX4_axe 107 = .ok (.iastore, 1) := by decide +kernel
theorem dX4_axe_108 : decode cX4_axe 108 = .ok (.aload_n 0, 1) := by decide +kernel
theorem dX4_axe_109 : decode cX4_axe 109 = .ok (.getfield 19, 3) := by decide +kernel
theorem dX4_axe_112 : decode cX4_axe 112 = .ok (.iconst 2, 1) := by decide +kernel
theorem dX4_axe_113 : decode cX4_axe 113 = .ok (.iload_n 3, 1) := by decide +kernel
theorem dX4_axe_114 : decode cX4_axe 114 = .ok (.imul, 1) := by decide +kernel
theorem dX4_axe_115 : decode cX4_axe 115 = .ok (.iconst 1, 1) := by decide +kernel
theorem dX4_axe_116 : decode cX4_axe 116 = .ok (.iadd, 1) := by decide +kernel
theorem dX4_axe_117 : decode cX4_axe 117 = .ok (.iload 6, 2) := by decide +kernel
theorem dX4_axe_119 : decode cX4_axe 119 = .ok (.iastore, 1) := by decide +kernel
theorem dX4_axe_120 : decode cX4_axe 120 = .ok (.iinc 3 1, 3) := by decide +kernel
theorem dX4_axe_123 : decode cX4_axe 123 = .ok (.iinc 4 1, 3) := by decide +kernel
theorem dX4_axe_126 : decode cX4_axe 126 = .ok (.goto (-97), 3) := by decide +kernel
theorem dX4_axe_129 : decode cX4_axe 129 = .ok (.aload_n 0, 1) := by decide +kernel
theorem dX4_axe_130 : decode cX4_axe 130 = .ok (.iload_n 3, 1) := by decide +kernel
theorem dX4_axe_131 : decode cX4_axe 131 = .ok (.putfield 79, 3) := by decide +kernel
theorem dX4_axe_134 : decode cX4_axe 134 = .ok (.aload_n 0, 1) := by decide +kernel
theorem dX4_axe_135 : decode cX4_axe 135 = .ok (.getfield 79, 3) := by decide +kernel
theorem dX4_axe_138 : decode cX4_axe 138 = .ok (.ireturn, 1) := by decide +kernel
theorem dX4_day_0 : decode cX4_day 0 = .ok (.aload_n 0, 1) := by decide +kernel
theorem dX4_day_1 : decode cX4_day 1 = .ok (.getfield 63, 3) := by decide +kernel
theorem dX4_day_4 : decode cX4_day 4 = .ok (.ifCond .ne 6, 3) := by decide +kernel
theorem dX4_day_7 : decode cX4_day 7 = .ok (.bipush (-103), 2) := by decide +kernel
theorem dX4_day_9 : decode cX4_day 9 = .ok (.ireturn, 1) := by decide +kernel
theorem dX4_day_10 : decode cX4_day 10 = .ok (.aload_n 0, 1) := by decide +kernel
theorem dX4_day_11 : decode cX4_day 11 = .ok (.invokevirtual 139, 3) := by decide +kernel
theorem dX4_day_14 : decode cX4_day 14 = .ok (.aload_n 0, 1) := by decide +kernel
theorem dX4_day_15 : decode cX4_day 15 = .ok (.invokevirtual 154, 3) := by decide +kernel
theorem dX4_day_18 : decode cX4_day 18 = .ok (.istore_n 1, 1) := by decide +kernel
theorem dX4_day_19 : decode cX4_day 19 = .ok (.iconst 0, 1) := by decide +kernel
theorem dX4_day_20 : decode cX4_day 20 = .ok (.istore_n 2, 1) := by decide +kernel
theorem dX4_day_21 : decode cX4_day 21 = .ok (.iload_n 2, 1) := by decide +kernel
theorem dX4_day_22 : decode cX4_day 22 = .ok (.aload_n 0, 1) := by decide +kernel
theorem dX4_day_23 : decode cX4_day 23 = .ok (.getfield 76, 3) := by decide +kernel
theorem dX4_day_26 : decode cX4_day 26 = .ok (.if_icmp .ge 25, 3) := by decide +kernel
theorem dX4_day_29 : decode cX4_day 29 = .ok (.aload_n 0, 1) := by decide +kernel
theorem dX4_day_30 : decode cX4_day 30 = .ok (.getfield 16, 3) := by decide +kernel
theorem dX4_day_33 : decode cX4_day 33 = .ok (.iconst 4, 1) := by decide +kernel
theorem dX4_day_34 : decode cX4_day 34 = .ok (.iload_n 2, 1) := by decide +kernel
theorem dX4_day_35 : decode cX4_day 35 = .ok (.imul, 1) := by decide +kernel
theorem dX4_day_36 : decode cX4_day 36 = .ok (.iconst 2, 1) := by decide +kernel
theorem dX4_day_37 : decode cX4_day 37 = .ok (.iadd, 1) := by decide +kernel
theorem dX4_day_38 : decode cX4_day 38 = .ok (.aload_n 0, 1) := by decide +kernel
theorem dX4_day_39 : decode cX4_day 39 = .ok (.getfield 22, 3) := by decide +kernel
theorem dX4_day_42 : decode cX4_day 42 = .ok (.iload_n 2, 1) := by decide +kernel
theorem dX4_day_43 : decode cX4_day 43 = .ok (.iaload, 1) := by decide +kernel
theorem dX4_day_44 : decode cX4_day 44 = .ok (.iastore, 1) := by decide +kernel
theorem dX4_day_45 : decode cX4_day 45 = .ok (.iinc 2 1, 3) := by decide +kernel
theorem dX4_day_48 : decode cX4_day 48 = .ok (.goto (-27), 3) := by decide +kernel
theorem dX4_day_51 : decode cX4_day 51 = .ok (.aload_n 0, 1) := by decide +kernel
theorem dX4_day_52 : decode cX4_day 52 = .ok (.aload_n 0, 1) := by decide +kernel
theorem dX4_day_53 : decode cX4_day 53 = .ok (.getfield 113, 3) := by decide +kernel
theorem dX4_day_56 : decode cX4_day 56 = .ok (.putfield 70, 3) := by decide +kernel
theorem dX4_day_59 : decode cX4_day 59 = .ok (.aload_n 0, 1) := by decide +kernel
theorem dX4_day_60 : decode cX4_day 60 = .ok (.dup, 1) := by decide +kernel
theorem dX4_day_61 : decode cX4_day 61 = .ok (.getfield 73, 3) := by decide +kernel
theorem dX4_day_64 : decode cX4_day 64 = .ok (.iload_n 1, 1) := by decide +kernel
theorem dX4_day_65 : decode cX4_day 65 = .ok (.iadd, 1) := by decide +kernel
theorem dX4_day_66 : decode cX4_day 66 = .ok (.putfield 73, 3) := by decide +kernel
theorem dX4_day_69 : decode cX4_day 69 = .ok (.iload_n 1, 1) := by decide +kernel
theorem dX4_day_70 : decode cX4_day 70 = .ok (.ireturn, 1) := by decide +kernel
theorem dX4_meetBy_0 : decode cX4_meetBy 0 = .ok (.aload_n 0, 1) := by decide +kernel
theorem dX4_meetBy_1 : decode cX4_meetBy 1 = .ok (.invokevirtual 139, 3) := by decide +kernel
theorem dX4_meetBy_4 : decode cX4_meetBy 4 = .ok (.aload_n 0, 1) := by decide +kernel
theorem dX4_meetBy_5 : decode cX4_meetBy 5 = .ok (.dup, 1) := by decide +kernel
theorem dX4_meetBy_6 : decode cX4_meetBy 6 = .ok (.getfield 107, 3) := by decide +kernel
theorem dX4_meetBy_9 : decode cX4_meetBy 9 = .ok (.iload_n 3, 1) := by decide +kernel
theorem dX4_meetBy_10 : decode cX4_meetBy 10 = .ok (.ior, 1) := by decide +kernel
theorem dX4_meetBy_11 : decode cX4_meetBy 11 = .ok (.putfield 107, 3) := by decide +kernel
theorem dX4_meetBy_14 : decode cX4_meetBy 14 = .ok (.iconst 0, 1) := by decide +kernel
theorem dX4_meetBy_15 : decode cX4_meetBy 15 = .ok (.istore 5, 2) := by decide +kernel
theorem dX4_meetBy_17 : decode cX4_meetBy 17 = .ok (.iload 5, 2) := by decide +kernel
theorem dX4_meetBy_19 : decode cX4_meetBy 19 = .ok (.iload 4, 2) := by decide +kernel
theorem dX4_meetBy_21 : decode cX4_meetBy 21 = .ok (.if_icmp .gt 36, 3) := by decide +kernel
theorem dX4_meetBy_24 : decode cX4_meetBy 24 = .ok (.aload_n 0, 1) := by decide +kernel
theorem dX4_meetBy_25 : decode cX4_meetBy 25 = .ok (.getfield 22, 3) := by decide +kernel
theorem dX4_meetBy_28 : decode cX4_meetBy 28 = .ok (.iload_n 1, 1) := by decide +kernel
theorem dX4_meetBy_29 : decode cX4_meetBy 29 = .ok (.iaload, 1) := by decide +kernel
theorem dX4_meetBy_30 : decode cX4_meetBy 30 = .ok (.aload_n 0, 1) := by decide +kernel
theorem dX4_meetBy_31 : decode cX4_meetBy 31 = .ok (.getfield 22, 3) := by decide +kernel
theorem dX4_meetBy_34 : decode cX4_meetBy 34 = .ok (.iload_n 2, 1) := by decide +kernel
theorem dX4_meetBy_35 : decode cX4_meetBy 35 = .ok (.iaload, 1) := by decide +kernel
theorem dX4_meetBy_36 : decode cX4_meetBy 36 = .ok (.invokestatic 132, 3) := by decide +kernel
theorem dX4_meetBy_39 : decode cX4_meetBy 39 = .ok (.ifCond .eq 6, 3) := by decide +kernel
theorem dX4_meetBy_42 : decode cX4_meetBy 42 = .ok (.iload 5, 2) := by decide +kernel
theorem dX4_meetBy_44 : decode cX4_meetBy 44 = .ok (.ireturn, 1) := by decide +kernel
theorem dX4_meetBy_45 : decode cX4_meetBy 45 = .ok (.aload_n 0, 1) := by decide +kernel
theorem dX4_meetBy_46 : decode cX4_meetBy 46 = .ok (.invokevirtual 154, 3) := by decide +kernel
theorem dX4_meetBy_49 : decode cX4_meetBy 49 = .ok (.istore 6, 2) := by decide +kernel
theorem dX4_meetBy_51 : decode cX4_meetBy 51 = .ok (.iinc 5 1, 3) := by decide +kernel
theorem dX4_meetBy_54 : decode cX4_meetBy 54 = .ok (.goto (-37), 3) := by decide +kernel
theorem dX4_meetBy_57 : decode cX4_meetBy 57 = .ok (.iconst (-1), 1) := by decide +kernel
theorem dX4_meetBy_58 : decode cX4_meetBy 58 = .ok (.ireturn, 1) := by decide +kernel
theorem dX4_meet_0 : decode cX4_meet 0 = .ok (.aload_n 0, 1) := by decide +kernel
theorem dX4_meet_1 : decode cX4_meet 1 = .ok (.iload_n 1, 1) := by decide +kernel
theorem dX4_meet_2 : decode cX4_meet 2 = .ok (.iload_n 2, 1) := by decide +kernel
theorem dX4_meet_3 : decode cX4_meet 3 = .ok (.invokevirtual 151, 3) := by decide +kernel
theorem dX4_meet_6 : decode cX4_meet 6 = .ok (.ifCond .eq 15, 3) := by decide +kernel
theorem dX4_meet_9 : decode cX4_meet 9 = .ok (.aload_n 0, 1) := by decide +kernel
theorem dX4_meet_10 : decode cX4_meet 10 = .ok (.iload_n 1, 1) := by decide +kernel
theorem dX4_meet_11 : decode cX4_meet 11 = .ok (.iload_n 2, 1) := by decide +kernel
theorem dX4_meet_12 : decode cX4_meet 12 = .ok (.iconst 0, 1) := by decide +kernel
end
section
theorem dX4_meet_13 : decode cX4_meet 13 = .ok (.bipush 60, 2) := by decide +kernel
theorem dX4_meet_15 : decode cX4_meet 15 = .ok (.invokevirtual 157, 3) := by decide +kernel
theorem dX4_meet_18 : decode cX4_meet 18 = .ok (.goto 5, 3) := by decide +kernel
theorem dX4_meet_21 : decode cX4_meet 21 = .ok (.bipush (-101), 2) := by decide +kernel
theorem dX4_meet_23 : decode cX4_meet 23 = .ok (.ireturn, 1) := by decide +kernel
theorem dX4_ones_0 : decode cX4_ones 0 = .ok (.iconst 0, 1) := by decide +kernel
theorem dX4_ones_1 : decode cX4_ones 1 = .ok (.istore_n 1, 1) := by decide +kernel
theorem dX4_ones_2 : decode cX4_ones 2 = .ok (.iconst 0, 1) := by decide +kernel
theorem dX4_ones_3 : decode cX4_ones 3 = .ok (.istore_n 2, 1) := by decide +kernel
theorem dX4_ones_4 : decode cX4_ones 4 = .ok (.iload_n 2, 1) := by decide +kernel
theorem dX4_ones_5 : decode cX4_ones 5 = .ok (.bipush 10, 2) := by decide +kernel
theorem dX4_ones_7 : decode cX4_ones 7 = .ok (.if_icmp .ge 17, 3) := by decide +kernel
theorem dX4_ones_10 : decode cX4_ones 10 = .ok (.iload_n 1, 1) := by decide +kernel
theorem dX4_ones_11 : decode cX4_ones 11 = .ok (.iload_n 0, 1) := by decide +kernel
theorem dX4_ones_12 : decode cX4_ones 12 = .ok (.iload_n 2, 1) := by decide +kernel
theorem dX4_ones_13 : decode cX4_ones 13 = .ok (.ishr, 1) := by decide +kernel
theorem dX4_ones_14 : decode cX4_ones 14 = .ok (.iconst 1, 1) := by decide +kernel
theorem dX4_ones_15 : decode cX4_ones 15 = .ok (.iand, 1) := by decide +kernel
theorem dX4_ones_16 : decode cX4_ones 16 = .ok (.iadd, 1) := by decide +kernel
theorem dX4_ones_17 : decode cX4_ones 17 = .ok (.istore_n 1, 1) := by decide +kernel
theorem dX4_ones_18 : decode cX4_ones 18 = .ok (.iinc 2 1, 3) := by decide +kernel
theorem dX4_ones_21 : decode cX4_ones 21 = .ok (.goto (-17), 3) := by decide +kernel
theorem dX4_ones_24 : decode cX4_ones 24 = .ok (.iload_n 1, 1) := by decide +kernel
theorem dX4_ones_25 : decode cX4_ones 25 = .ok (.ireturn, 1) := by decide +kernel
theorem dX4_anchorsOf_0 : decode cX4_anchorsOf 0 = .ok (.iconst (-1), 1) := by decide +kernel
theorem dX4_anchorsOf_1 : decode cX4_anchorsOf 1 = .ok (.istore 4, 2) := by decide +kernel
theorem dX4_anchorsOf_3 : decode cX4_anchorsOf 3 = .ok (.iconst 0, 1) := by decide +kernel
theorem dX4_anchorsOf_4 : decode cX4_anchorsOf 4 = .ok (.istore 5, 2) := by decide +kernel
theorem dX4_anchorsOf_6 : decode cX4_anchorsOf 6 = .ok (.iload 5, 2) := by decide +kernel
theorem dX4_anchorsOf_8 : decode cX4_anchorsOf 8 = .ok (.iconst 1, 1) := by decide +kernel
theorem dX4_anchorsOf_9 : decode cX4_anchorsOf 9 = .ok (.aload_n 0, 1) := by decide +kernel
theorem dX4_anchorsOf_10 : decode cX4_anchorsOf 10 = .ok (.getfield 76, 3) := by decide +kernel
theorem dX4_anchorsOf_13 : decode cX4_anchorsOf 13 = .ok (.ishl, 1) := by decide +kernel
theorem dX4_anchorsOf_14 : decode cX4_anchorsOf 14 = .ok (.if_icmp .ge 62, 3) := by decide +kernel
theorem dX4_anchorsOf_17 : decode cX4_anchorsOf 17 = .ok (.iload 4, 2) := by decide +kernel
theorem dX4_anchorsOf_19 : decode cX4_anchorsOf 19 = .ok (.iconst (-1), 1) := by decide +kernel
theorem dX4_anchorsOf_20 : decode cX4_anchorsOf 20 = .ok (.if_icmp .eq 16, 3) := by decide +kernel
theorem dX4_anchorsOf_23 : decode cX4_anchorsOf 23 = .ok (.iload 5, 2) := by decide +kernel
theorem dX4_anchorsOf_25 : decode cX4_anchorsOf 25 = .ok (.invokestatic 161, 3) := by decide +kernel
theorem dX4_anchorsOf_28 : decode cX4_anchorsOf 28 = .ok (.iload 4, 2) := by decide +kernel
theorem dX4_anchorsOf_30 : decode cX4_anchorsOf 30 = .ok (.invokestatic 161, 3) := by decide +kernel
theorem dX4_anchorsOf_33 : decode cX4_anchorsOf 33 = .ok (.if_icmp .ge 7, 3) := by decide +kernel
theorem dX4_anchorsOf_36 : decode cX4_anchorsOf 36 = .ok (.iconst 1, 1) := by decide +kernel
theorem dX4_anchorsOf_37 : decode cX4_anchorsOf 37 = .ok (.goto 4, 3) := by decide +kernel
theorem dX4_anchorsOf_40 : decode cX4_anchorsOf 40 = .ok (.iconst 0, 1) := by decide +kernel
theorem dX4_anchorsOf_41 : decode cX4_anchorsOf 41 = .ok (.istore 6, 2) := by decide +kernel
theorem dX4_anchorsOf_43 : decode cX4_anchorsOf 43 = .ok (.iload 6, 2) := by decide +kernel
theorem dX4_anchorsOf_45 : decode cX4_anchorsOf 45 = .ok (.ifCond .eq 21, 3) := by decide +kernel
theorem dX4_anchorsOf_48 : decode cX4_anchorsOf 48 = .ok (.aload_n 0, 1) := by decide +kernel
theorem dX4_anchorsOf_49 : decode cX4_anchorsOf 49 = .ok (.iload_n 1, 1) := by decide +kernel
theorem dX4_anchorsOf_50 : decode cX4_anchorsOf 50 = .ok (.iload_n 2, 1) := by decide +kernel
theorem dX4_anchorsOf_51 : decode cX4_anchorsOf 51 = .ok (.iload 5, 2) := by decide +kernel
theorem dX4_anchorsOf_53 : decode cX4_anchorsOf 53 = .ok (.iload_n 3, 1) := by decide +kernel
theorem dX4_anchorsOf_54 : decode cX4_anchorsOf 54 = .ok (.invokevirtual 157, 3) := by decide +kernel
theorem dX4_anchorsOf_57 : decode cX4_anchorsOf 57 = .ok (.iconst (-1), 1) := by decide +kernel
theorem dX4_anchorsOf_58 : decode cX4_anchorsOf 58 = .ok (.if_icmp .eq 8, 3) := by decide +kernel
theorem dX4_anchorsOf_61 : decode cX4_anchorsOf 61 = .ok (.iload 5, 2) := by decide +kernel
theorem dX4_anchorsOf_63 : decode cX4_anchorsOf 63 = .ok (.goto 5, 3) := by decide +kernel
theorem dX4_anchorsOf_66 : decode cX4_anchorsOf 66 = .ok (.iload 4, 2) := by decide +kernel
theorem dX4_anchorsOf_68 : decode cX4_anchorsOf 68 = .ok (.istore 4, 2) := by decide +kernel
theorem dX4_anchorsOf_70 : decode cX4_anchorsOf 70 = .ok (.iinc 5 1, 3) := by decide +kernel
theorem dX4_anchorsOf_73 : decode cX4_anchorsOf 73 = .ok (.goto (-67), 3) := by decide +kernel
theorem dX4_anchorsOf_76 : decode cX4_anchorsOf 76 = .ok (.iload 4, 2) := by decide +kernel
theorem dX4_anchorsOf_78 : decode cX4_anchorsOf 78 = .ok (.ireturn, 1) := by decide +kernel
theorem dX4_anchors_0 : decode cX4_anchors 0 = .ok (.aload_n 0, 1) := by decide +kernel
theorem dX4_anchors_1 : decode cX4_anchors 1 = .ok (.iload_n 1, 1) := by decide +kernel
theorem dX4_anchors_2 : decode cX4_anchors 2 = .ok (.iload_n 2, 1) := by decide +kernel
theorem dX4_anchors_3 : decode cX4_anchors 3 = .ok (.invokevirtual 151, 3) := by decide +kernel
theorem dX4_anchors_6 : decode cX4_anchors 6 = .ok (.ifCond .ne 6, 3) := by decide +kernel
theorem dX4_anchors_9 : decode cX4_anchors 9 = .ok (.bipush (-101), 2) := by decide +kernel
theorem dX4_anchors_11 : decode cX4_anchors 11 = .ok (.ireturn, 1) := by decide +kernel
theorem dX4_anchors_12 : decode cX4_anchors 12 = .ok (.iload_n 3, 1) := by decide +kernel
theorem dX4_anchors_13 : decode cX4_anchors 13 = .ok (.i2l, 1) := by decide +kernel
theorem dX4_anchors_14 : decode cX4_anchors 14 = .ok (.lconst 0, 1) := by decide +kernel
theorem dX4_anchors_15 : decode cX4_anchors 15 = .ok (.ldc2_w 164, 3) := by decide +kernel
theorem dX4_anchors_18 : decode cX4_anchors 18 = .ok (.invokestatic 52, 3) := by decide +kernel
theorem dX4_anchors_21 : decode cX4_anchors 21 = .ok (.ifCond .eq 14, 3) := by decide +kernel
theorem dX4_anchors_24 : decode cX4_anchors 24 = .ok (.iload 4, 2) := by decide +kernel
theorem dX4_anchors_26 : decode cX4_anchors 26 = .ok (.i2l, 1) := by decide +kernel
theorem dX4_anchors_27 : decode cX4_anchors 27 = .ok (.lconst 0, 1) := by decide +kernel
theorem dX4_anchors_28 : decode cX4_anchors 28 = .ok (.lconst 1, 1) := by decide +kernel
theorem dX4_anchors_29 : decode cX4_anchors 29 = .ok (.invokestatic 52, 3) := by decide +kernel
theorem dX4_anchors_32 : decode cX4_anchors 32 = .ok (.ifCond .ne 6, 3) := by decide +kernel
theorem dX4_anchors_35 : decode cX4_anchors 35 = .ok (.bipush (-102), 2) := by decide +kernel
theorem dX4_anchors_37 : decode cX4_anchors 37 = .ok (.ireturn, 1) := by decide +kernel
theorem dX4_anchors_38 : decode cX4_anchors 38 = .ok (.aload_n 0, 1) := by decide +kernel
theorem dX4_anchors_39 : decode cX4_anchors 39 = .ok (.getfield 166, 3) := by decide +kernel
theorem dX4_anchors_42 : decode cX4_anchors 42 = .ok (.bipush 30, 2) := by decide +kernel
theorem dX4_anchors_44 : decode cX4_anchors 44 = .ok (.if_icmp .ne 6, 3) := by decide +kernel
theorem dX4_anchors_47 : decode cX4_anchors 47 = .ok (.bipush (-103), 2) := by decide +kernel
theorem dX4_anchors_49 : decode cX4_anchors 49 = .ok (.ireturn, 1) := by decide +kernel
theorem dX4_anchors_50 : decode cX4_anchors 50 = .ok (.aload_n 0, 1) := by decide +kernel
theorem dX4_anchors_51 : decode cX4_anchors 51 = .ok (.dup, 1) := by decide +kernel
theorem dX4_anchors_52 : decode cX4_anchors 52 = .ok (.getfield 166, 3) := by decide +kernel
theorem dX4_anchors_55 : decode cX4_anchors 55 = .ok (.iconst 1, 1) := by decide +kernel
theorem dX4_anchors_56 : decode cX4_anchors 56 = .ok (.iadd, 1) := by decide +kernel
theorem dX4_anchors_57 : decode cX4_anchors 57 = .ok (.putfield 166, 3) := by decide +kernel
theorem dX4_anchors_60 : decode cX4_anchors 60 = .ok (.aload_n 0, 1) := by decide +kernel
theorem dX4_anchors_61 : decode cX4_anchors 61 = .ok (.iload_n 1, 1) := by decide +kernel
theorem dX4_anchors_62 : decode cX4_anchors 62 = .ok (.iload_n 2, 1) := by decide +kernel
theorem dX4_anchors_63 : decode cX4_anchors 63 = .ok (.iload_n 3, 1) := by decide +kernel
theorem dX4_anchors_64 : decode cX4_anchors 64 = .ok (.invokevirtual 169, 3) := by decide +kernel
theorem dX4_anchors_67 : decode cX4_anchors 67 = .ok (.istore 5, 2) := by decide +kernel
theorem dX4_anchors_69 : decode cX4_anchors 69 = .ok (.iload 5, 2) := by decide +kernel
theorem dX4_anchors_71 : decode cX4_anchors 71 = .ok (.iconst (-1), 1) := by decide +kernel
theorem dX4_anchors_72 : decode cX4_anchors 72 = .ok (.if_icmp .eq 9, 3) := by decide +kernel
theorem dX4_anchors_75 : decode cX4_anchors 75 = .ok (.iload 4, 2) := by decide +kernel
theorem dX4_anchors_77 : decode cX4_anchors 77 = .ok (.iconst 1, 1) := by decide +kernel
theorem dX4_anchors_78 : decode cX4_anchors 78 = .ok (.if_icmp .ne 8, 3) := by decide +kernel
theorem dX4_anchors_81 : decode cX4_anchors 81 = .ok (.iload 5, 2) := by decide +kernel
theorem dX4_anchors_83 : decode cX4_anchors 83 = .ok (.goto 8, 3) := by decide +kernel
theorem dX4_anchors_86 : decode cX4_anchors 86 = .ok (.iload 5, 2) := by decide +kernel
theorem dX4_anchors_88 : decode cX4_anchors 88 = .ok (.invokestatic 161, 3) := by decide +kernel
theorem dX4_anchors_91 : decode cX4_anchors 91 = .ok (.ireturn, 1) := by decide +kernel
theorem dX4_likes_0 : decode cX4_likes 0 = .ok (.iload_n 2, 1) := by decide +kernel
theorem dX4_likes_1 : decode cX4_likes 1 = .ok (.iconst (-1), 1) := by decide +kernel
theorem dX4_likes_2 : decode cX4_likes 2 = .ok (.if_icmp .eq 54, 3) := by decide +kernel
theorem dX4_likes_5 : decode cX4_likes 5 = .ok (.aload_n 0, 1) := by decide +kernel
theorem dX4_likes_6 : decode cX4_likes 6 = .ok (.getfield 16, 3) := by decide +kernel
theorem dX4_likes_9 : decode cX4_likes 9 = .ok (.iconst 4, 1) := by decide +kernel
theorem dX4_likes_10 : decode cX4_likes 10 = .ok (.iload_n 1, 1) := by decide +kernel
theorem dX4_likes_11 : decode cX4_likes 11 = .ok (.imul, 1) := by decide +kernel
theorem dX4_likes_12 : decode cX4_likes 12 = .ok (.iconst 1, 1) := by decide +kernel
theorem dX4_likes_13 : decode cX4_likes 13 = .ok (.iadd, 1) := by decide +kernel
theorem dX4_likes_14 : decode cX4_likes 14 = .ok (.iaload, 1) := by decide +kernel
theorem dX4_likes_15 : decode cX4_likes 15 = .ok (.aload_n 0, 1) := by decide +kernel
theorem dX4_likes_16 : decode cX4_likes 16 = .ok (.getfield 16, 3) := by decide +kernel
theorem dX4_likes_19 : decode cX4_likes 19 = .ok (.iconst 4, 1) := by decide +kernel
theorem dX4_likes_20 : decode cX4_likes 20 = .ok (.iload_n 2, 1) := by decide +kernel
theorem dX4_likes_21 : decode cX4_likes 21 = .ok (.imul, 1) := by decide +kernel
theorem dX4_likes_22 : decode cX4_likes 22 = .ok (.iconst 1, 1) := by decide +kernel
theorem dX4_likes_23 : decode cX4_likes 23 = .ok (.iadd, 1) := by decide +kernel
theorem dX4_likes_24 : decode cX4_likes 24 = .ok (.iaload, 1) := by decide +kernel
theorem dX4_likes_25 : decode cX4_likes 25 = .ok (.if_icmp .gt 31, 3) := by decide +kernel
theorem dX4_likes_28 : decode cX4_likes 28 = .ok (.aload_n 0, 1) := by decide +kernel
theorem dX4_likes_29 : decode cX4_likes 29 = .ok (.getfield 16, 3) := by decide +kernel
theorem dX4_likes_32 : decode cX4_likes 32 = .ok (.iconst 4, 1) := by decide +kernel
theorem dX4_likes_33 : decode cX4_likes 33 = .ok (.iload_n 1, 1) := by decide +kernel
theorem dX4_likes_34 : decode cX4_likes 34 = .ok (.imul, 1) := by decide +kernel
theorem dX4_likes_35 : decode cX4_likes 35 = .ok (.iconst 1, 1) := by decide +kernel
theorem dX4_likes_36 : decode cX4_likes 36 = .ok (.iadd, 1) := by decide +kernel
theorem dX4_likes_37 : decode cX4_likes 37 = .ok (.iaload, 1) := by decide +kernel
theorem dX4_likes_38 : decode cX4_likes 38 = .ok (.aload_n 0, 1) := by decide +kernel
theorem dX4_likes_39 : decode cX4_likes 39 = .ok (.getfield 16, 3) := by decide +kernel
theorem dX4_likes_42 : decode cX4_likes 42 = .ok (.iconst 4, 1) := by decide +kernel
theorem dX4_likes_43 : decode cX4_likes 43 = .ok (.iload_n 2, 1) := by decide +kernel
theorem dX4_likes_44 : decode cX4_likes 44 = .ok (.imul, 1) := by decide +kernel
theorem dX4_likes_45 : decode cX4_likes 45 = .ok (.iconst 1, 1) := by decide +kernel
theorem dX4_likes_46 : decode cX4_likes 46 = .ok (.iadd, 1) := by decide +kernel
theorem dX4_likes_47 : decode cX4_likes 47 = .ok (.iaload, 1) := by decide +kernel
theorem dX4_likes_48 : decode cX4_likes 48 = .ok (.if_icmp .ne 12, 3) := by decide +kernel
theorem dX4_likes_51 : decode cX4_likes 51 = .ok (.iload_n 1, 1) := by decide +kernel
theorem dX4_likes_52 : decode cX4_likes 52 = .ok (.iload_n 2, 1) := by decide +kernel
theorem dX4_likes_53 : decode cX4_likes 53 = .ok (.if_icmp .ge 7, 3) := by decide +kernel
theorem dX4_likes_56 : decode cX4_likes 56 = .ok (.iconst 1, 1) := by decide +kernel
theorem dX4_likes_57 : decode cX4_likes 57 = .ok (.goto 4, 3) := by decide +kernel
theorem dX4_likes_60 : decode cX4_likes 60 = .ok (.iconst 0, 1) := by decide +kernel
theorem dX4_likes_61 : decode cX4_likes 61 = .ok (.ireturn, 1) := by decide +kernel
theorem dX4_isMatch_0 : decode cX4_isMatch 0 = .ok (.iload_n 1, 1) := by decide +kernel
theorem dX4_isMatch_1 : decode cX4_isMatch 1 = .ok (.istore_n 2, 1) := by decide +kernel
theorem dX4_isMatch_2 : decode cX4_isMatch 2 = .ok (.aload_n 0, 1) := by decide +kernel
theorem dX4_isMatch_3 : decode cX4_isMatch 3 = .ok (.getfield 76, 3) := by decide +kernel
theorem dX4_isMatch_6 : decode cX4_isMatch 6 = .ok (.iconst 1, 1) := by decide +kernel
theorem dX4_isMatch_7 : decode cX4_isMatch 7 = .ok (.isub, 1) := by decide +kernel
theorem dX4_isMatch_8 : decode cX4_isMatch 8 = .ok (.istore_n 3, 1) := by decide +kernel
theorem dX4_isMatch_9 : decode cX4_isMatch 9 = .ok (.iload_n 3, 1) := by decide +kernel
theorem dX4_isMatch_10 : decode cX4_isMatch 10 = .ok (.ifCond .lt 34, 3) := by decide +kernel
theorem dX4_isMatch_13 : decode cX4_isMatch 13 = .ok (.aload_n 0, 1) := by decide +kernel
theorem dX4_isMatch_14 : decode cX4_isMatch 14 = .ok (.getfield 28, 3) := by decide +kernel
theorem dX4_isMatch_17 : decode cX4_isMatch 17 = .ok (.iload_n 3, 1) := by decide +kernel
theorem dX4_isMatch_18 : decode cX4_isMatch 18 = .ok (.iload_n 2, 1) := by decide +kernel
theorem dX4_isMatch_19 : decode cX4_isMatch 19 = .ok (.aload_n 0, 1) := by decide +kernel
theorem dX4_isMatch_20 : decode cX4_isMatch 20 = .ok (.getfield 76, 3) := by decide +kernel
theorem dX4_isMatch_23 : decode cX4_isMatch 23 = .ok (.iconst 1, 1) := by decide +kernel
theorem dX4_isMatch_24 : decode cX4_isMatch 24 = .ok (.iadd, 1) := by decide +kernel
theorem dX4_isMatch_25 : decode cX4_isMatch 25 = .ok (.irem, 1) := by decide +kernel
theorem dX4_isMatch_26 : decode cX4_isMatch 26 = .ok (.iconst 1, 1) := by decide +kernel
theorem dX4_isMatch_27 : decode cX4_isMatch 27 = .ok (.isub, 1) := by decide +kernel
theorem dX4_isMatch_28 : decode cX4_isMatch 28 = .ok (.iastore, 1) := by decide +kernel
theorem dX4_isMatch_29 : decode cX4_isMatch 29 = .ok (.iload_n 2, 1) := by decide +kernel
theorem dX4_isMatch_30 : decode cX4_isMatch 30 = .ok (.aload_n 0, 1) := by decide +kernel
theorem dX4_isMatch_31 : decode cX4_isMatch 31 = .ok (.getfield 76, 3) := by decide +kernel
theorem dX4_isMatch_34 : decode cX4_isMatch 34 = .ok (.iconst 1, 1) := by decide +kernel
theorem dX4_isMatch_35 : decode cX4_isMatch 35 = .ok (.iadd, 1) := by decide +kernel
theorem dX4_isMatch_36 : decode cX4_isMatch 36 = .ok (.idiv, 1) := by decide +kernel
theorem dX4_isMatch_37 : decode cX4_isMatch 37 = .ok (.istore_n 2, 1) := by decide +kernel
theorem dX4_isMatch_38 : decode cX4_isMatch 38 = .ok (.iinc 3 (-1), 3) := by decide +kernel
theorem dX4_isMatch_41 : decode cX4_isMatch 41 = .ok (.goto (-32), 3) := by decide +kernel
theorem dX4_isMatch_44 : decode cX4_isMatch 44 = .ok (.iconst 1, 1) := by decide +kernel
theorem dX4_isMatch_45 : decode cX4_isMatch 45 = .ok (.istore_n 3, 1) := by decide +kernel
theorem dX4_isMatch_46 : decode cX4_isMatch 46 = .ok (.iconst 0, 1) := by decide +kernel
theorem dX4_isMatch_47 : decode cX4_isMatch 47 = .ok (.istore 4, 2) := by decide +kernel
theorem dX4_isMatch_49 : decode cX4_isMatch 49 = .ok (.iload 4, 2) := by decide +kernel
theorem dX4_isMatch_51 : decode cX4_isMatch 51 = .ok (.aload_n 0, 1) := by decide +kernel
theorem dX4_isMatch_52 : decode cX4_isMatch 52 = .ok (.getfield 76, 3) := by decide +kernel
theorem dX4_isMatch_55 : decode cX4_isMatch 55 = .ok (.if_icmp .ge 80, 3) := by decide +kernel
theorem dX4_isMatch_58 : decode cX4_isMatch 58 = .ok (.iload_n 3, 1) := by decide +kernel
theorem dX4_isMatch_59 : decode cX4_isMatch 59 = .ok (.ifCond .eq 76, 3) := by decide +kernel
theorem dX4_isMatch_62 : decode cX4_isMatch 62 = .ok (.aload_n 0, 1) := by decide +kernel
theorem dX4_isMatch_63 : decode cX4_isMatch 63 = .ok (.getfield 28, 3) := by decide +kernel
theorem dX4_isMatch_66 : decode cX4_isMatch 66 = .ok (.iload 4, 2) := by decide +kernel
theorem dX4_isMatch_68 : decode cX4_isMatch 68 = .ok (.iaload, 1) := by decide +kernel
theorem dX4_isMatch_69 : decode cX4_isMatch 69 = .ok (.iconst (-1), 1) := by decide +kernel
theorem dX4_isMatch_70 : decode cX4_isMatch 70 = .ok (.if_icmp .eq 53, 3) := by decide +kernel
theorem dX4_isMatch_73 : decode cX4_isMatch 73 = .ok (.aload_n 0, 1) := by decide +kernel
theorem dX4_isMatch_74 : decode cX4_isMatch 74 = .ok (.getfield 28, 3) := by decide +kernel
theorem dX4_isMatch_77 : decode cX4_isMatch 77 = .ok (.iload 4, 2) := by decide +kernel
theorem dX4_isMatch_79 : decode cX4_isMatch 79 = .ok (.iaload, 1) := by decide +kernel
theorem dX4_isMatch_80 : decode cX4_isMatch 80 = .ok (.iload 4, 2) := by decide +kernel
theorem dX4_isMatch_82 : decode cX4_isMatch 82 = .ok (.if_icmp .eq 45, 3) := by decide +kernel
theorem dX4_isMatch_85 : decode cX4_isMatch 85 = .ok (.aload_n 0, 1) := by decide +kernel
theorem dX4_isMatch_86 : decode cX4_isMatch 86 = .ok (.getfield 28, 3) := by decide +kernel
theorem dX4_isMatch_89 : decode cX4_isMatch 89 = .ok (.aload_n 0, 1) := by decide +kernel
theorem dX4_isMatch_90 : decode cX4_isMatch 90 = .ok (.getfield 28, 3) := by decide +kernel
theorem dX4_isMatch_93 : decode cX4_isMatch 93 = .ok (.iload 4, 2) := by decide +kernel
theorem dX4_isMatch_95 : decode cX4_isMatch 95 = .ok (.iaload, 1) := by decide +kernel
theorem dX4_isMatch_96 : decode cX4_isMatch 96 = .ok (.iaload, 1) := by decide +kernel
theorem dX4_isMatch_97 : decode cX4_isMatch 97 = .ok (.iload 4, 2) := by decide +kernel
theorem dX4_isMatch_99 : decode cX4_isMatch 99 = .ok (.if_icmp .ne 28, 3) := by decide +kernel
theorem dX4_isMatch_102 : decode cX4_isMatch 102 = .ok (.aload_n 0, 1) := by decide +kernel
theorem dX4_isMatch_103 : decode cX4_isMatch 103 = .ok (.getfield 25, 3) := by decide +kernel
theorem dX4_isMatch_106 : decode cX4_isMatch 106 = .ok (.iconst 5, 1) := by decide +kernel
theorem dX4_isMatch_107 : decode cX4_isMatch 107 = .ok (.iload 4, 2) := by decide +kernel
theorem dX4_isMatch_109 : decode cX4_isMatch 109 = .ok (.imul, 1) := by decide +kernel
theorem dX4_isMatch_110 : decode cX4_isMatch 110 = .ok (.aload_n 0, 1) := by decide +kernel
theorem dX4_isMatch_111 : decode cX4_isMatch 111 = .ok (.getfield 28, 3) := by decide +kernel
theorem dX4_isMatch_114 : decode cX4_isMatch 114 = .ok (.iload 4, 2) := by decide +kernel
theorem dX4_isMatch_116 : decode cX4_isMatch 116 = .ok (.iaload, 1) := by decide +kernel
theorem dX4_isMatch_117 : decode cX4_isMatch 117 = .ok (.iadd, 1) := by decide +kernel
theorem dX4_isMatch_118 : decode cX4_isMatch 118 = .ok (.iaload, 1) := by decide +kernel
theorem dX4_isMatch_119 : decode cX4_isMatch 119 = .ok (.iconst 1, 1) := by decide +kernel
theorem dX4_isMatch_120 : decode cX4_isMatch 120 = .ok (.if_icmp .ne 7, 3) := by decide +kernel
theorem dX4_isMatch_123 : decode cX4_isMatch 123 = .ok (.iconst 1, 1) := by decide +kernel
theorem dX4_isMatch_124 : decode cX4_isMatch 124 = .ok (.goto 4, 3) := by decide +kernel
theorem dX4_isMatch_127 : decode cX4_isMatch 127 = .ok (.iconst 0, 1) := by decide +kernel
theorem dX4_isMatch_128 : decode cX4_isMatch 128 = .ok (.istore_n 3, 1) := by decide +kernel
theorem dX4_isMatch_129 : decode cX4_isMatch 129 = .ok (.iinc 4 1, 3) := by decide +kernel
theorem dX4_isMatch_132 : decode cX4_isMatch 132 = .ok (.goto (-83), 3) := by decide +kernel
theorem dX4_isMatch_135 : decode cX4_isMatch 135 = .ok (.iload_n 3, 1) := by decide +kernel
theorem dX4_isMatch_136 : decode cX4_isMatch 136 = .ok (.ireturn, 1) := by decide +kernel
theorem dX4_isStable_0 : decode cX4_isStable 0 = .ok (.iconst 1, 1) := by decide +kernel
theorem dX4_isStable_1 : decode cX4_isStable 1 = .ok (.istore_n 1, 1) := by decide +kernel
theorem dX4_isStable_2 : decode cX4_isStable 2 = .ok (.iconst 0, 1) := by decide +kernel
theorem dX4_isStable_3 : decode cX4_isStable 3 = .ok (.istore_n 2, 1) := by decide +kernel
theorem dX4_isStable_4 : decode cX4_isStable 4 = .ok (.iload_n 2, 1) := by decide +kernel
theorem dX4_isStable_5 : decode cX4_isStable 5 = .ok (.bipush 25, 2) := by decide +kernel
theorem dX4_isStable_7 : decode cX4_isStable 7 = .ok (.if_icmp .ge 94, 3) := by decide +kernel
theorem dX4_isStable_10 : decode cX4_isStable 10 = .ok (.iload_n 2, 1) := by decide +kernel
theorem dX4_isStable_11 : decode cX4_isStable 11 = .ok (.iconst 5, 1) := by decide +kernel
theorem dX4_isStable_12 : decode cX4_isStable 12 = .ok (.idiv, 1) := by decide +kernel
theorem dX4_isStable_13 : decode cX4_isStable 13 = .ok (.istore_n 3, 1) := by decide +kernel
theorem dX4_isStable_14 : decode cX4_isStable 14 = .ok (.iload_n 2, 1) := by decide +kernel
theorem dX4_isStable_15 : decode cX4_isStable 15 = .ok (.iconst 5, 1) := by decide +kernel
theorem dX4_isStable_16 : decode cX4_isStable 16 = .ok (.irem, 1) := by decide +kernel
theorem dX4_isStable_17 : decode cX4_isStable 17 = .ok (.istore 4, 2) := by decide +kernel
theorem dX4_isStable_19 : decode cX4_isStable 19 = .ok (.iload_n 3, 1) := by decide +kernel
theorem dX4_isStable_20 : decode cX4_isStable 20 = .ok (.iload 4, 2) := by decide +kernel
theorem dX4_isStable_22 : decode cX4_isStable 22 = .ok (.if_icmp .ge 73, 3) := by decide +kernel
theorem dX4_isStable_25 : decode cX4_isStable 25 = .ok (.iload 4, 2) := by decide +kernel
theorem dX4_isStable_27 : decode cX4_isStable 27 = .ok (.aload_n 0, 1) := by decide +kernel
theorem dX4_isStable_28 : decode cX4_isStable 28 = .ok (.getfield 76, 3) := by decide +kernel
theorem dX4_isStable_31 : decode cX4_isStable 31 = .ok (.if_icmp .ge 64, 3) := by decide +kernel
theorem dX4_isStable_34 : decode cX4_isStable 34 = .ok (.aload_n 0, 1) := by decide +kernel
theorem dX4_isStable_35 : decode cX4_isStable 35 = .ok (.getfield 25, 3) := by decide +kernel
theorem dX4_isStable_38 : decode cX4_isStable 38 = .ok (.iload_n 2, 1) := by decide +kernel
theorem dX4_isStable_39 : decode cX4_isStable 39 = .ok (.iaload, 1) := by decide +kernel
theorem dX4_isStable_40 : decode cX4_isStable 40 = .ok (.iconst 1, 1) := by decide +kernel
theorem dX4_isStable_41 : decode cX4_isStable 41 = .ok (.if_icmp .ne 54, 3) := by decide +kernel
theorem dX4_isStable_44 : decode cX4_isStable 44 = .ok (.aload_n 0, 1) := by decide +kernel
theorem dX4_isStable_45 : decode cX4_isStable 45 = .ok (.getfield 28, 3) := by decide +kernel
theorem dX4_isStable_48 : decode cX4_isStable 48 = .ok (.iload_n 3, 1) := by decide +kernel
theorem dX4_isStable_49 : decode cX4_isStable 49 = .ok (.iaload, 1) := by decide +kernel
theorem dX4_isStable_50 : decode cX4_isStable 50 = .ok (.iload 4, 2) := by decide +kernel
theorem dX4_isStable_52 : decode cX4_isStable 52 = .ok (.if_icmp .eq 43, 3) := by decide +kernel
theorem dX4_isStable_55 : decode cX4_isStable 55 = .ok (.iload_n 1, 1) := by decide +kernel
theorem dX4_isStable_56 : decode cX4_isStable 56 = .ok (.ifCond .eq 37, 3) := by decide +kernel
theorem dX4_isStable_59 : decode cX4_isStable 59 = .ok (.aload_n 0, 1) := by decide +kernel
theorem dX4_isStable_60 : decode cX4_isStable 60 = .ok (.iload 4, 2) := by decide +kernel
theorem dX4_isStable_62 : decode cX4_isStable 62 = .ok (.aload_n 0, 1) := by decide +kernel
theorem dX4_isStable_63 : decode cX4_isStable 63 = .ok (.getfield 28, 3) := by decide +kernel
theorem dX4_isStable_66 : decode cX4_isStable 66 = .ok (.iload_n 3, 1) := by decide +kernel
theorem dX4_isStable_67 : decode cX4_isStable 67 = .ok (.iaload, 1) := by decide +kernel
theorem dX4_isStable_68 : decode cX4_isStable 68 = .ok (.invokevirtual 173, 3) := by decide +kernel
theorem dX4_isStable_71 : decode cX4_isStable 71 = .ok (.ifCond .eq 18, 3) := by decide +kernel
theorem dX4_isStable_74 : decode cX4_isStable 74 = .ok (.aload_n 0, 1) := by decide +kernel
theorem dX4_isStable_75 : decode cX4_isStable 75 = .ok (.iload_n 3, 1) := by decide +kernel
theorem dX4_isStable_76 : decode cX4_isStable 76 = .ok (.aload_n 0, 1) := by decide +kernel
theorem dX4_isStable_77 : decode cX4_isStable 77 = .ok (.getfield 28, 3) := by decide +kernel
theorem dX4_isStable_80 : decode cX4_isStable 80 = .ok (.iload 4, 2) := by decide +kernel
theorem dX4_isStable_82 : decode cX4_isStable 82 = .ok (.iaload, 1) := by decide +kernel
theorem dX4_isStable_83 : decode cX4_isStable 83 = .ok (.invokevirtual 173, 3) := by decide +kernel
theorem dX4_isStable_86 : decode cX4_isStable 86 = .ok (.ifCond .ne 7, 3) := by decide +kernel
theorem dX4_isStable_89 : decode cX4_isStable 89 = .ok (.iconst 1, 1) := by decide +kernel
theorem dX4_isStable_90 : decode cX4_isStable 90 = .ok (.goto 4, 3) := by decide +kernel
theorem dX4_isStable_93 : decode cX4_isStable 93 = .ok (.iconst 0, 1) := by decide +kernel
theorem dX4_isStable_94 : decode cX4_isStable 94 = .ok (.istore_n 1, 1) := by decide +kernel
theorem dX4_isStable_95 : decode cX4_isStable 95 = .ok (.iinc 2 1, 3) := by decide +kernel
theorem dX4_isStable_98 : decode cX4_isStable 98 = .ok (.goto (-94), 3) := by decide +kernel
theorem dX4_isStable_101 : decode cX4_isStable 101 = .ok (.iload_n 1, 1) := by decide +kernel
theorem dX4_isStable_102 : decode cX4_isStable 102 = .ok (.ireturn, 1) := by decide +kernel
theorem dX4_layStable_0 : decode cX4_layStable 0 = .ok (.iconst 0, 1) := by decide +kernel
theorem dX4_layStable_1 : decode cX4_layStable 1 = .ok (.istore_n 1, 1) := by decide +kernel
theorem dX4_layStable_2 : decode cX4_layStable 2 = .ok (.iload_n 1, 1) := by decide +kernel
theorem dX4_layStable_3 : decode cX4_layStable 3 = .ok (.bipush 25, 2) := by decide +kernel
theorem dX4_layStable_5 : decode cX4_layStable 5 = .ok (.if_icmp .ge 50, 3) := by decide +kernel
theorem dX4_layStable_8 : decode cX4_layStable 8 = .ok (.iload_n 1, 1) := by decide +kernel
theorem dX4_layStable_9 : decode cX4_layStable 9 = .ok (.iconst 5, 1) := by decide +kernel
theorem dX4_layStable_10 : decode cX4_layStable 10 = .ok (.idiv, 1) := by decide +kernel
theorem dX4_layStable_11 : decode cX4_layStable 11 = .ok (.istore_n 2, 1) := by decide +kernel
theorem dX4_layStable_12 : decode cX4_layStable 12 = .ok (.iload_n 1, 1) := by decide +kernel
theorem dX4_layStable_13 : decode cX4_layStable 13 = .ok (.iconst 5, 1) := by decide +kernel
theorem dX4_layStable_14 : decode cX4_layStable 14 = .ok (.irem, 1) := by decide +kernel
theorem dX4_layStable_15 : decode cX4_layStable 15 = .ok (.istore_n 3, 1) := by decide +kernel
theorem dX4_layStable_16 : decode cX4_layStable 16 = .ok (.aload_n 0, 1) := by decide +kernel
theorem dX4_layStable_17 : decode cX4_layStable 17 = .ok (.getfield 25, 3) := by decide +kernel
theorem dX4_layStable_20 : decode cX4_layStable 20 = .ok (.iload_n 1, 1) := by decide +kernel
theorem dX4_layStable_21 : decode cX4_layStable 21 = .ok (.aload_n 0, 1) := by decide +kernel
theorem dX4_layStable_22 : decode cX4_layStable 22 = .ok (.iload_n 2, 1) := by decide +kernel
theorem dX4_layStable_23 : decode cX4_layStable 23 = .ok (.iload_n 3, 1) := by decide +kernel
theorem dX4_layStable_24 : decode cX4_layStable 24 = .ok (.invokevirtual 151, 3) := by decide +kernel
theorem dX4_layStable_27 : decode cX4_layStable 27 = .ok (.ifCond .eq 20, 3) := by decide +kernel
theorem dX4_layStable_30 : decode cX4_layStable 30 = .ok (.aload_n 0, 1) := by decide +kernel
theorem dX4_layStable_31 : decode cX4_layStable 31 = .ok (.iload_n 2, 1) := by decide +kernel
theorem dX4_layStable_32 : decode cX4_layStable 32 = .ok (.iload_n 3, 1) := by decide +kernel
theorem dX4_layStable_33 : decode cX4_layStable 33 = .ok (.iconst 0, 1) := by decide +kernel
theorem dX4_layStable_34 : decode cX4_layStable 34 = .ok (.bipush 30, 2) := by decide +kernel
theorem dX4_layStable_36 : decode cX4_layStable 36 = .ok (.invokevirtual 157, 3) := by decide +kernel
theorem dX4_layStable_39 : decode cX4_layStable 39 = .ok (.iconst (-1), 1) := by decide +kernel
theorem dX4_layStable_40 : decode cX4_layStable 40 = .ok (.if_icmp .eq 7, 3) := by decide +kernel
theorem dX4_layStable_43 : decode cX4_layStable 43 = .ok (.iconst 1, 1) := by decide +kernel
theorem dX4_layStable_44 : decode cX4_layStable 44 = .ok (.goto 4, 3) := by decide +kernel
theorem dX4_layStable_47 : decode cX4_layStable 47 = .ok (.iconst 0, 1) := by decide +kernel
theorem dX4_layStable_48 : decode cX4_layStable 48 = .ok (.iastore, 1) := by decide +kernel
theorem dX4_layStable_49 : decode cX4_layStable 49 = .ok (.iinc 1 1, 3) := by decide +kernel
theorem dX4_layStable_52 : decode cX4_layStable 52 = .ok (.goto (-50), 3) := by decide +kernel
theorem dX4_layStable_55 : decode cX4_layStable 55 = .ok (.iconst 1, 1) := by decide +kernel
theorem dX4_layStable_56 : decode cX4_layStable 56 = .ok (.istore_n 1, 1) := by decide +kernel
theorem dX4_layStable_57 : decode cX4_layStable 57 = .ok (.iconst 0, 1) := by decide +kernel
theorem dX4_layStable_58 : decode cX4_layStable 58 = .ok (.istore_n 2, 1) := by decide +kernel
theorem dX4_layStable_59 : decode cX4_layStable 59 = .ok (.iload_n 2, 1) := by decide +kernel
theorem dX4_layStable_60 : decode cX4_layStable 60 = .ok (.aload_n 0, 1) := by decide +kernel
theorem dX4_layStable_61 : decode cX4_layStable 61 = .ok (.getfield 76, 3) := by decide +kernel
theorem dX4_layStable_64 : decode cX4_layStable 64 = .ok (.if_icmp .ge 18, 3) := by decide +kernel
theorem dX4_layStable_67 : decode cX4_layStable 67 = .ok (.iload_n 1, 1) := by decide +kernel
theorem dX4_layStable_68 : decode cX4_layStable 68 = .ok (.aload_n 0, 1) := by decide +kernel
theorem dX4_layStable_69 : decode cX4_layStable 69 = .ok (.getfield 76, 3) := by decide +kernel
theorem dX4_layStable_72 : decode cX4_layStable 72 = .ok (.iconst 1, 1) := by decide +kernel
theorem dX4_layStable_73 : decode cX4_layStable 73 = .ok (.iadd, 1) := by decide +kernel
theorem dX4_layStable_74 : decode cX4_layStable 74 = .ok (.imul, 1) := by decide +kernel
theorem dX4_layStable_75 : decode cX4_layStable 75 = .ok (.istore_n 1, 1) := by decide +kernel
theorem dX4_layStable_76 : decode cX4_layStable 76 = .ok (.iinc 2 1, 3) := by decide +kernel
theorem dX4_layStable_79 : decode cX4_layStable 79 = .ok (.goto (-20), 3) := by decide +kernel
theorem dX4_layStable_82 : decode cX4_layStable 82 = .ok (.aload_n 0, 1) := by decide +kernel
theorem dX4_layStable_83 : decode cX4_layStable 83 = .ok (.iconst 0, 1) := by decide +kernel
theorem dX4_layStable_84 : decode cX4_layStable 84 = .ok (.putfield 176, 3) := by decide +kernel
theorem dX4_layStable_87 : decode cX4_layStable 87 = .ok (.aload_n 0, 1) := by decide +kernel
theorem dX4_layStable_88 : decode cX4_layStable 88 = .ok (.iconst (-1), 1) := by decide +kernel
theorem dX4_layStable_89 : decode cX4_layStable 89 = .ok (.putfield 179, 3) := by decide +kernel
theorem dX4_layStable_92 : decode cX4_layStable 92 = .ok (.iconst 0, 1) := by decide +kernel
theorem dX4_layStable_93 : decode cX4_layStable 93 = .ok (.istore_n 2, 1) := by decide +kernel
theorem dX4_layStable_94 : decode cX4_layStable 94 = .ok (.iload_n 2, 1) := by decide +kernel
theorem dX4_layStable_95 : decode cX4_layStable 95 = .ok (.iload_n 1, 1) := by decide +kernel
theorem dX4_layStable_96 : decode cX4_layStable 96 = .ok (.if_icmp .ge 98, 3) := by decide +kernel
theorem dX4_layStable_99 : decode cX4_layStable 99 = .ok (.aload_n 0, 1) := by decide +kernel
theorem dX4_layStable_100 : decode cX4_layStable 100 = .ok (.iload_n 2, 1) := by decide +kernel
theorem dX4_layStable_101 : decode cX4_layStable 101 = .ok (.invokevirtual 182, 3) := by decide +kernel
theorem dX4_layStable_104 : decode cX4_layStable 104 = .ok (.ifCond .eq 84, 3) := by decide +kernel
theorem dX4_layStable_107 : decode cX4_layStable 107 = .ok (.aload_n 0, 1) := by decide +kernel
theorem dX4_layStable_108 : decode cX4_layStable 108 = .ok (.invokevirtual 185, 3) := by decide +kernel
theorem dX4_layStable_111 : decode cX4_layStable 111 = .ok (.ifCond .eq 77, 3) := by decide +kernel
theorem dX4_layStable_114 : decode cX4_layStable 114 = .ok (.aload_n 0, 1) := by decide +kernel
theorem dX4_layStable_115 : decode cX4_layStable 115 = .ok (.dup, 1) := by decide +kernel
theorem dX4_layStable_116 : decode cX4_layStable 116 = .ok (.getfield 176, 3) := by decide +kernel
theorem dX4_layStable_119 : decode cX4_layStable 119 = .ok (.iconst 1, 1) := by decide +kernel
theorem dX4_layStable_120 : decode cX4_layStable 120 = .ok (.iadd, 1) := by decide +kernel
theorem dX4_layStable_121 : decode cX4_layStable 121 = .ok (.putfield 176, 3) := by decide +kernel
theorem dX4_layStable_124 : decode cX4_layStable 124 = .ok (.iconst 0, 1) := by decide +kernel
theorem dX4_layStable_125 : decode cX4_layStable 125 = .ok (.istore_n 3, 1) := by decide +kernel
theorem dX4_layStable_126 : decode cX4_layStable 126 = .ok (.iconst 0, 1) := by decide +kernel
theorem dX4_layStable_127 : decode cX4_layStable 127 = .ok (.istore 4, 2) := by decide +kernel
theorem dX4_layStable_129 : decode cX4_layStable 129 = .ok (.iload 4, 2) := by decide +kernel
theorem dX4_layStable_131 : decode cX4_layStable 131 = .ok (.aload_n 0, 1) := by decide +kernel
theorem dX4_layStable_132 : decode cX4_layStable 132 = .ok (.getfield 76, 3) := by decide +kernel
theorem dX4_layStable_135 : decode cX4_layStable 135 = .ok (.if_icmp .ge 29, 3) := by decide +kernel
theorem dX4_layStable_138 : decode cX4_layStable 138 = .ok (.iload_n 3, 1) := by decide +kernel
theorem dX4_layStable_139 : decode cX4_layStable 139 = .ok (.aload_n 0, 1) := by decide +kernel
theorem dX4_layStable_140 : decode cX4_layStable 140 = .ok (.getfield 28, 3) := by decide +kernel
theorem dX4_layStable_143 : decode cX4_layStable 143 = .ok (.iload 4, 2) := by decide +kernel
theorem dX4_layStable_145 : decode cX4_layStable 145 = .ok (.iaload, 1) := by decide +kernel
theorem dX4_layStable_146 : decode cX4_layStable 146 = .ok (.iload 4, 2) := by decide +kernel
theorem dX4_layStable_148 : decode cX4_layStable 148 = .ok (.if_icmp .le 7, 3) := by decide +kernel
theorem dX4_layStable_151 : decode cX4_layStable 151 = .ok (.iconst 1, 1) := by decide +kernel
theorem dX4_layStable_152 : decode cX4_layStable 152 = .ok (.goto 4, 3) := by decide +kernel
theorem dX4_layStable_155 : decode cX4_layStable 155 = .ok (.iconst 0, 1) := by decide +kernel
theorem dX4_layStable_156 : decode cX4_layStable 156 = .ok (.iadd, 1) := by decide +kernel
theorem dX4_layStable_157 : decode cX4_layStable 157 = .ok (.istore_n 3, 1) := by decide +kernel
theorem dX4_layStable_158 : decode cX4_layStable 158 = .ok (.iinc 4 1, 3) := by decide +kernel
theorem dX4_layStable_161 : decode cX4_layStable 161 = .ok (.goto (-32), 3) := by decide +kernel
theorem dX4_layStable_164 : decode cX4_layStable 164 = .ok (.iload_n 3, 1) := by decide +kernel
theorem dX4_layStable_165 : decode cX4_layStable 165 = .ok (.aload_n 0, 1) := by decide +kernel
theorem dX4_layStable_166 : decode cX4_layStable 166 = .ok (.getfield 179, 3) := by decide +kernel
theorem dX4_layStable_169 : decode cX4_layStable 169 = .ok (.if_icmp .le 19, 3) := by decide +kernel
theorem dX4_layStable_172 : decode cX4_layStable 172 = .ok (.aload_n 0, 1) := by decide +kernel
theorem dX4_layStable_173 : decode cX4_layStable 173 = .ok (.iload_n 3, 1) := by decide +kernel
theorem dX4_layStable_174 : decode cX4_layStable 174 = .ok (.putfield 179, 3) := by decide +kernel
theorem dX4_layStable_177 : decode cX4_layStable 177 = .ok (.aload_n 0, 1) := by decide +kernel
theorem dX4_layStable_178 : decode cX4_layStable 178 = .ok (.getfield 28, 3) := by decide +kernel
theorem dX4_layStable_181 : decode cX4_layStable 181 = .ok (.aload_n 0, 1) := by decide +kernel
theorem dX4_layStable_182 : decode cX4_layStable 182 = .ok (.getfield 31, 3) := by decide +kernel
theorem dX4_layStable_185 : decode cX4_layStable 185 = .ok (.invokestatic 189, 3) := by decide +kernel
theorem dX4_layStable_188 : decode cX4_layStable 188 = .ok (.iinc 2 1, 3) := by decide +kernel
theorem dX4_layStable_191 : decode cX4_layStable 191 = .ok (.goto (-97), 3) := by decide +kernel
theorem dX4_layStable_194 : decode cX4_layStable 194 = .ok (.return_, 1) := by decide +kernel
theorem dX4_tellStable_0 : decode cX4_tellStable 0 = .ok (.iload_n 1, 1) := by decide +kernel
theorem dX4_tellStable_1 : decode cX4_tellStable 1 = .ok (.ifCond .ne 10, 3) := by decide +kernel
theorem dX4_tellStable_4 : decode cX4_tellStable 4 = .ok (.aload_n 0, 1) := by decide +kernel
theorem dX4_tellStable_5 : decode cX4_tellStable 5 = .ok (.getfield 176, 3) := by decide +kernel
theorem dX4_tellStable_8 : decode cX4_tellStable 8 = .ok (.goto 59, 3) := by decide +kernel
theorem dX4_tellStable_11 : decode cX4_tellStable 11 = .ok (.iload_n 1, 1) := by decide +kernel
theorem dX4_tellStable_12 : decode cX4_tellStable 12 = .ok (.iconst 1, 1) := by decide +kernel
theorem dX4_tellStable_13 : decode cX4_tellStable 13 = .ok (.if_icmp .ne 22, 3) := by decide +kernel
theorem dX4_tellStable_16 : decode cX4_tellStable 16 = .ok (.aload_n 0, 1) := by decide +kernel
theorem dX4_tellStable_17 : decode cX4_tellStable 17 = .ok (.getfield 179, 3) := by decide +kernel
theorem dX4_tellStable_20 : decode cX4_tellStable 20 = .ok (.iconst (-1), 1) := by decide +kernel
theorem dX4_tellStable_21 : decode cX4_tellStable 21 = .ok (.if_icmp .ne 7, 3) := by decide +kernel
theorem dX4_tellStable_24 : decode cX4_tellStable 24 = .ok (.iconst 0, 1) := by decide +kernel
theorem dX4_tellStable_25 : decode cX4_tellStable 25 = .ok (.goto 42, 3) := by decide +kernel
theorem dX4_tellStable_28 : decode cX4_tellStable 28 = .ok (.aload_n 0, 1) := by decide +kernel
theorem dX4_tellStable_29 : decode cX4_tellStable 29 = .ok (.getfield 179, 3) := by decide +kernel
theorem dX4_tellStable_32 : decode cX4_tellStable 32 = .ok (.goto 35, 3) := by decide +kernel
theorem dX4_tellStable_35 : decode cX4_tellStable 35 = .ok (.iload_n 1, 1) := by decide +kernel
theorem dX4_tellStable_36 : decode cX4_tellStable 36 = .ok (.bipush 10, 2) := by decide +kernel
theorem dX4_tellStable_38 : decode cX4_tellStable 38 = .ok (.isub, 1) := by decide +kernel
theorem dX4_tellStable_39 : decode cX4_tellStable 39 = .ok (.aload_n 0, 1) := by decide +kernel
theorem dX4_tellStable_40 : decode cX4_tellStable 40 = .ok (.getfield 76, 3) := by decide +kernel
theorem dX4_tellStable_43 : decode cX4_tellStable 43 = .ok (.if_icmp .ge 23, 3) := by decide +kernel
theorem dX4_tellStable_46 : decode cX4_tellStable 46 = .ok (.aload_n 0, 1) := by decide +kernel
theorem dX4_tellStable_47 : decode cX4_tellStable 47 = .ok (.getfield 179, 3) := by decide +kernel
theorem dX4_tellStable_50 : decode cX4_tellStable 50 = .ok (.iconst (-1), 1) := by decide +kernel
theorem dX4_tellStable_51 : decode cX4_tellStable 51 = .ok (.if_icmp .eq 15, 3) := by decide +kernel
theorem dX4_tellStable_54 : decode cX4_tellStable 54 = .ok (.aload_n 0, 1) := by decide +kernel
theorem dX4_tellStable_55 : decode cX4_tellStable 55 = .ok (.getfield 31, 3) := by decide +kernel
theorem dX4_tellStable_58 : decode cX4_tellStable 58 = .ok (.iload_n 1, 1) := by decide +kernel
theorem dX4_tellStable_59 : decode cX4_tellStable 59 = .ok (.bipush 10, 2) := by decide +kernel
theorem dX4_tellStable_61 : decode cX4_tellStable 61 = .ok (.isub, 1) := by decide +kernel
theorem dX4_tellStable_62 : decode cX4_tellStable 62 = .ok (.iaload, 1) := by decide +kernel
theorem dX4_tellStable_63 : decode cX4_tellStable 63 = .ok (.goto 4, 3) := by decide +kernel
theorem dX4_tellStable_66 : decode cX4_tellStable 66 = .ok (.iconst (-1), 1) := by decide +kernel
theorem dX4_tellStable_67 : decode cX4_tellStable 67 = .ok (.ireturn, 1) := by decide +kernel
theorem dX4_stable_0 : decode cX4_stable 0 = .ok (.iload_n 1, 1) := by decide +kernel
theorem dX4_stable_1 : decode cX4_stable 1 = .ok (.i2l, 1) := by decide +kernel
theorem dX4_stable_2 : decode cX4_stable 2 = .ok (.lconst 0, 1) := by decide +kernel
theorem dX4_stable_3 : decode cX4_stable 3 = .ok (.lconst 1, 1) := by decide +kernel
theorem dX4_stable_4 : decode cX4_stable 4 = .ok (.invokestatic 52, 3) := by decide +kernel
theorem dX4_stable_7 : decode cX4_stable 7 = .ok (.ifCond .ne 20, 3) := by decide +kernel
theorem dX4_stable_10 : decode cX4_stable 10 = .ok (.iload_n 1, 1) := by decide +kernel
theorem dX4_stable_11 : decode cX4_stable 11 = .ok (.i2l, 1) := by decide +kernel
theorem dX4_stable_12 : decode cX4_stable 12 = .ok (.ldc2_w 193, 3) := by decide +kernel
theorem dX4_stable_15 : decode cX4_stable 15 = .ok (.ldc2_w 195, 3) := by decide +kernel
theorem dX4_stable_18 : decode cX4_stable 18 = .ok (.invokestatic 52, 3) := by decide +kernel
theorem dX4_stable_21 : decode cX4_stable 21 = .ok (.ifCond .ne 6, 3) := by decide +kernel
theorem dX4_stable_24 : decode cX4_stable 24 = .ok (.bipush (-102), 2) := by decide +kernel
theorem dX4_stable_26 : decode cX4_stable 26 = .ok (.ireturn, 1) := by decide +kernel
theorem dX4_stable_27 : decode cX4_stable 27 = .ok (.aload_n 0, 1) := by decide +kernel
theorem dX4_stable_28 : decode cX4_stable 28 = .ok (.getfield 63, 3) := by decide +kernel
theorem dX4_stable_31 : decode cX4_stable 31 = .ok (.ifCond .ne 6, 3) := by decide +kernel
theorem dX4_stable_34 : decode cX4_stable 34 = .ok (.bipush (-103), 2) := by decide +kernel
theorem dX4_stable_36 : decode cX4_stable 36 = .ok (.ireturn, 1) := by decide +kernel
theorem dX4_stable_37 : decode cX4_stable 37 = .ok (.aload_n 0, 1) := by decide +kernel
theorem dX4_stable_38 : decode cX4_stable 38 = .ok (.invokevirtual 197, 3) := by decide +kernel
theorem dX4_stable_41 : decode cX4_stable 41 = .ok (.aload_n 0, 1) := by decide +kernel
theorem dX4_stable_42 : decode cX4_stable 42 = .ok (.iload_n 1, 1) := by decide +kernel
theorem dX4_stable_43 : decode cX4_stable 43 = .ok (.invokevirtual 200, 3) := by decide +kernel
theorem dX4_stable_46 : decode cX4_stable 46 = .ok (.ireturn, 1) := by decide +kernel
theorem dX4_parting_0 : decode cX4_parting 0 = .ok (.aload_n 0, 1) := by decide +kernel
theorem dX4_parting_1 : decode cX4_parting 1 = .ok (.iload_n 1, 1) := by decide +kernel
theorem dX4_parting_2 : decode cX4_parting 2 = .ok (.iload_n 2, 1) := by decide +kernel
theorem dX4_parting_3 : decode cX4_parting 3 = .ok (.invokevirtual 151, 3) := by decide +kernel
theorem dX4_parting_6 : decode cX4_parting 6 = .ok (.ifCond .ne 6, 3) := by decide +kernel
theorem dX4_parting_9 : decode cX4_parting 9 = .ok (.bipush (-101), 2) := by decide +kernel
theorem dX4_parting_11 : decode cX4_parting 11 = .ok (.ireturn, 1) := by decide +kernel
theorem dX4_parting_12 : decode cX4_parting 12 = .ok (.aload_n 0, 1) := by decide +kernel
theorem dX4_parting_13 : decode cX4_parting 13 = .ok (.iload_n 1, 1) := by decide +kernel
theorem dX4_parting_14 : decode cX4_parting 14 = .ok (.invokevirtual 120, 3) := by decide +kernel
theorem dX4_parting_17 : decode cX4_parting 17 = .ok (.iload_n 2, 1) := by decide +kernel
theorem dX4_parting_18 : decode cX4_parting 18 = .ok (.ishr, 1) := by decide +kernel
theorem dX4_parting_19 : decode cX4_parting 19 = .ok (.iconst 1, 1) := by decide +kernel
theorem dX4_parting_20 : decode cX4_parting 20 = .ok (.iand, 1) := by decide +kernel
theorem dX4_parting_21 : decode cX4_parting 21 = .ok (.ifCond .ne 6, 3) := by decide +kernel
theorem dX4_parting_24 : decode cX4_parting 24 = .ok (.bipush (-103), 2) := by decide +kernel
theorem dX4_parting_26 : decode cX4_parting 26 = .ok (.ireturn, 1) := by decide +kernel
theorem dX4_parting_27 : decode cX4_parting 27 = .ok (.bipush 6, 2) := by decide +kernel
theorem dX4_parting_29 : decode cX4_parting 29 = .ok (.istore_n 3, 1) := by decide +kernel
theorem dX4_parting_30 : decode cX4_parting 30 = .ok (.iconst 0, 1) := by decide +kernel
theorem dX4_parting_31 : decode cX4_parting 31 = .ok (.istore 4, 2) := by decide +kernel
theorem dX4_parting_33 : decode cX4_parting 33 = .ok (.iload 4, 2) := by decide +kernel
theorem dX4_parting_35 : decode cX4_parting 35 = .ok (.iconst 1, 1) := by decide +kernel
theorem dX4_parting_36 : decode cX4_parting 36 = .ok (.aload_n 0, 1) := by decide +kernel
theorem dX4_parting_37 : decode cX4_parting 37 = .ok (.getfield 79, 3) := by decide +kernel
theorem dX4_parting_40 : decode cX4_parting 40 = .ok (.ishl, 1) := by decide +kernel
theorem dX4_parting_41 : decode cX4_parting 41 = .ok (.if_icmp .ge 56, 3) := by decide +kernel
theorem dX4_parting_44 : decode cX4_parting 44 = .ok (.aload_n 0, 1) := by decide +kernel
theorem dX4_parting_45 : decode cX4_parting 45 = .ok (.iload_n 1, 1) := by decide +kernel
theorem dX4_parting_46 : decode cX4_parting 46 = .ok (.iload 4, 2) := by decide +kernel
theorem dX4_parting_48 : decode cX4_parting 48 = .ok (.iconst (-1), 1) := by decide +kernel
theorem dX4_parting_49 : decode cX4_parting 49 = .ok (.ixor, 1) := by decide +kernel
theorem dX4_parting_50 : decode cX4_parting 50 = .ok (.invokevirtual 116, 3) := by decide +kernel
theorem dX4_parting_53 : decode cX4_parting 53 = .ok (.iload_n 2, 1) := by decide +kernel
theorem dX4_parting_54 : decode cX4_parting 54 = .ok (.ishr, 1) := by decide +kernel
theorem dX4_parting_55 : decode cX4_parting 55 = .ok (.iconst 1, 1) := by decide +kernel
theorem dX4_parting_56 : decode cX4_parting 56 = .ok (.iand, 1) := by decide +kernel
theorem dX4_parting_57 : decode cX4_parting 57 = .ok (.ifCond .ne 7, 3) := by decide +kernel
theorem dX4_parting_60 : decode cX4_parting 60 = .ok (.iconst 1, 1) := by decide +kernel
theorem dX4_parting_61 : decode cX4_parting 61 = .ok (.goto 4, 3) := by decide +kernel
theorem dX4_parting_64 : decode cX4_parting 64 = .ok (.iconst 0, 1) := by decide +kernel
theorem dX4_parting_65 : decode cX4_parting 65 = .ok (.istore 5, 2) := by decide +kernel
theorem dX4_parting_67 : decode cX4_parting 67 = .ok (.iload 5, 2) := by decide +kernel
theorem dX4_parting_69 : decode cX4_parting 69 = .ok (.ifCond .eq 20, 3) := by decide +kernel
theorem dX4_parting_72 : decode cX4_parting 72 = .ok (.iload 4, 2) := by decide +kernel
theorem dX4_parting_74 : decode cX4_parting 74 = .ok (.invokestatic 161, 3) := by decide +kernel
theorem dX4_parting_77 : decode cX4_parting 77 = .ok (.iload_n 3, 1) := by decide +kernel
theorem dX4_parting_78 : decode cX4_parting 78 = .ok (.if_icmp .ge 11, 3) := by decide +kernel
theorem dX4_parting_81 : decode cX4_parting 81 = .ok (.iload 4, 2) := by decide +kernel
theorem dX4_parting_83 : decode cX4_parting 83 = .ok (.invokestatic 161, 3) := by decide +kernel
theorem dX4_parting_86 : decode cX4_parting 86 = .ok (.goto 4, 3) := by decide +kernel
theorem dX4_parting_89 : decode cX4_parting 89 = .ok (.iload_n 3, 1) := by decide +kernel
theorem dX4_parting_90 : decode cX4_parting 90 = .ok (.istore_n 3, 1) := by decide +kernel
theorem dX4_parting_91 : decode cX4_parting 91 = .ok (.iinc 4 1, 3) := by decide +kernel
theorem dX4_parting_94 : decode cX4_parting 94 = .ok (.goto (-61), 3) := by decide +kernel
theorem dX4_parting_97 : decode cX4_parting 97 = .ok (.iload_n 3, 1) := by decide +kernel
theorem dX4_parting_98 : decode cX4_parting 98 = .ok (.ireturn, 1) := by decide +kernel
theorem dX4_shell_0 : decode cX4_shell 0 = .ok (.aload_n 0, 1) := by decide +kernel
theorem dX4_shell_1 : decode cX4_shell 1 = .ok (.iload_n 1, 1) := by decide +kernel
theorem dX4_shell_2 : decode cX4_shell 2 = .ok (.iload_n 2, 1) := by decide +kernel
theorem dX4_shell_3 : decode cX4_shell 3 = .ok (.invokevirtual 151, 3) := by decide +kernel
theorem dX4_shell_6 : decode cX4_shell 6 = .ok (.ifCond .ne 6, 3) := by decide +kernel
theorem dX4_shell_9 : decode cX4_shell 9 = .ok (.bipush (-101), 2) := by decide +kernel
theorem dX4_shell_11 : decode cX4_shell 11 = .ok (.ireturn, 1) := by decide +kernel
theorem dX4_shell_12 : decode cX4_shell 12 = .ok (.iload_n 3, 1) := by decide +kernel
theorem dX4_shell_13 : decode cX4_shell 13 = .ok (.i2l, 1) := by decide +kernel
theorem dX4_shell_14 : decode cX4_shell 14 = .ok (.lconst 0, 1) := by decide +kernel
theorem dX4_shell_15 : decode cX4_shell 15 = .ok (.ldc2_w 203, 3) := by decide +kernel
theorem dX4_shell_18 : decode cX4_shell 18 = .ok (.invokestatic 52, 3) := by decide +kernel
theorem dX4_shell_21 : decode cX4_shell 21 = .ok (.ifCond .ne 6, 3) := by decide +kernel
theorem dX4_shell_24 : decode cX4_shell 24 = .ok (.bipush (-102), 2) := by decide +kernel
theorem dX4_shell_26 : decode cX4_shell 26 = .ok (.ireturn, 1) := by decide +kernel
theorem dX4_shell_27 : decode cX4_shell 27 = .ok (.aload_n 0, 1) := by decide +kernel
theorem dX4_shell_28 : decode cX4_shell 28 = .ok (.getfield 82, 3) := by decide +kernel
theorem dX4_shell_31 : decode cX4_shell 31 = .ok (.bipush 8, 2) := by decide +kernel
theorem dX4_shell_33 : decode cX4_shell 33 = .ok (.if_icmp .ne 6, 3) := by decide +kernel
theorem dX4_shell_36 : decode cX4_shell 36 = .ok (.bipush (-104), 2) := by decide +kernel
theorem dX4_shell_38 : decode cX4_shell 38 = .ok (.ireturn, 1) := by decide +kernel
theorem dX4_shell_39 : decode cX4_shell 39 = .ok (.aload_n 0, 1) := by decide +kernel
theorem dX4_shell_40 : decode cX4_shell 40 = .ok (.getfield 34, 3) := by decide +kernel
theorem dX4_shell_43 : decode cX4_shell 43 = .ok (.iconst 4, 1) := by decide +kernel
theorem dX4_shell_44 : decode cX4_shell 44 = .ok (.aload_n 0, 1) := by decide +kernel
theorem dX4_shell_45 : decode cX4_shell 45 = .ok (.getfield 82, 3) := by decide +kernel
theorem dX4_shell_48 : decode cX4_shell 48 = .ok (.imul, 1) := by decide +kernel
theorem dX4_shell_49 : decode cX4_shell 49 = .ok (.iload_n 1, 1) := by decide +kernel
theorem dX4_shell_50 : decode cX4_shell 50 = .ok (.iastore, 1) := by decide +kernel
theorem dX4_shell_51 : decode cX4_shell 51 = .ok (.aload_n 0, 1) := by decide +kernel
theorem dX4_shell_52 : decode cX4_shell 52 = .ok (.getfield 34, 3) := by decide +kernel
theorem dX4_shell_55 : decode cX4_shell 55 = .ok (.iconst 4, 1) := by decide +kernel
theorem dX4_shell_56 : decode cX4_shell 56 = .ok (.aload_n 0, 1) := by decide +kernel
theorem dX4_shell_57 : decode cX4_shell 57 = .ok (.getfield 82, 3) := by decide +kernel
theorem dX4_shell_60 : decode cX4_shell 60 = .ok (.imul, 1) := by decide +kernel
theorem dX4_shell_61 : decode cX4_shell 61 = .ok (.iconst 1, 1) := by decide +kernel
theorem dX4_shell_62 : decode cX4_shell 62 = .ok (.iadd, 1) := by decide +kernel
theorem dX4_shell_63 : decode cX4_shell 63 = .ok (.iload_n 2, 1) := by decide +kernel
theorem dX4_shell_64 : decode cX4_shell 64 = .ok (.iastore, 1) := by decide +kernel
theorem dX4_shell_65 : decode cX4_shell 65 = .ok (.aload_n 0, 1) := by decide +kernel
theorem dX4_shell_66 : decode cX4_shell 66 = .ok (.getfield 34, 3) := by decide +kernel
theorem dX4_shell_69 : decode cX4_shell 69 = .ok (.iconst 4, 1) := by decide +kernel
theorem dX4_shell_70 : decode cX4_shell 70 = .ok (.aload_n 0, 1) := by decide +kernel
theorem dX4_shell_71 : decode cX4_shell 71 = .ok (.getfield 82, 3) := by decide +kernel
theorem dX4_shell_74 : decode cX4_shell 74 = .ok (.imul, 1) := by decide +kernel
theorem dX4_shell_75 : decode cX4_shell 75 = .ok (.iconst 2, 1) := by decide +kernel
theorem dX4_shell_76 : decode cX4_shell 76 = .ok (.iadd, 1) := by decide +kernel
theorem dX4_shell_77 : decode cX4_shell 77 = .ok (.iload_n 3, 1) := by decide +kernel
theorem dX4_shell_78 : decode cX4_shell 78 = .ok (.iastore, 1) := by decide +kernel
theorem dX4_shell_79 : decode cX4_shell 79 = .ok (.aload_n 0, 1) := by decide +kernel
theorem dX4_shell_80 : decode cX4_shell 80 = .ok (.getfield 34, 3) := by decide +kernel
theorem dX4_shell_83 : decode cX4_shell 83 = .ok (.iconst 4, 1) := by decide +kernel
theorem dX4_shell_84 : decode cX4_shell 84 = .ok (.aload_n 0, 1) := by decide +kernel
theorem dX4_shell_85 : decode cX4_shell 85 = .ok (.getfield 82, 3) := by decide +kernel
theorem dX4_shell_88 : decode cX4_shell 88 = .ok (.imul, 1) := by decide +kernel
theorem dX4_shell_89 : decode cX4_shell 89 = .ok (.iconst 3, 1) := by decide +kernel
theorem dX4_shell_90 : decode cX4_shell 90 = .ok (.iadd, 1) := by decide +kernel
theorem dX4_shell_91 : decode cX4_shell 91 = .ok (.iload 4, 2) := by decide +kernel
theorem dX4_shell_93 : decode cX4_shell 93 = .ok (.ifCond .eq 7, 3) := by decide +kernel
theorem dX4_shell_96 : decode cX4_shell 96 = .ok (.iconst 1, 1) := by decide +kernel
theorem dX4_shell_97 : decode cX4_shell 97 = .ok (.goto 4, 3) := by decide +kernel
theorem dX4_shell_100 : decode cX4_shell 100 = .ok (.iconst 0, 1) := by decide +kernel
theorem dX4_shell_101 : decode cX4_shell 101 = .ok (.iastore, 1) := by decide +kernel
theorem dX4_shell_102 : decode cX4_shell 102 = .ok (.aload_n 0, 1) := by decide +kernel
theorem dX4_shell_103 : decode cX4_shell 103 = .ok (.dup, 1) := by decide +kernel
theorem dX4_shell_104 : decode cX4_shell 104 = .ok (.getfield 82, 3) := by decide +kernel
theorem dX4_shell_107 : decode cX4_shell 107 = .ok (.iconst 1, 1) := by decide +kernel
theorem dX4_shell_108 : decode cX4_shell 108 = .ok (.iadd, 1) := by decide +kernel
theorem dX4_shell_109 : decode cX4_shell 109 = .ok (.putfield 82, 3) := by decide +kernel
theorem dX4_shell_112 : decode cX4_shell 112 = .ok (.aload_n 0, 1) := by decide +kernel
theorem dX4_shell_113 : decode cX4_shell 113 = .ok (.getfield 82, 3) := by decide +kernel
theorem dX4_shell_116 : decode cX4_shell 116 = .ok (.ireturn, 1) := by decide +kernel
theorem dX4_forget_0 : decode cX4_forget 0 = .ok (.aload_n 0, 1) := by decide +kernel
theorem dX4_forget_1 : decode cX4_forget 1 = .ok (.getfield 82, 3) := by decide +kernel
theorem dX4_forget_4 : decode cX4_forget 4 = .ok (.istore_n 1, 1) := by decide +kernel
theorem dX4_forget_5 : decode cX4_forget 5 = .ok (.aload_n 0, 1) := by decide +kernel
theorem dX4_forget_6 : decode cX4_forget 6 = .ok (.iconst 0, 1) := by decide +kernel
theorem dX4_forget_7 : decode cX4_forget 7 = .ok (.putfield 82, 3) := by decide +kernel
theorem dX4_forget_10 : decode cX4_forget 10 = .ok (.iload_n 1, 1) := by decide +kernel
theorem dX4_forget_11 : decode cX4_forget 11 = .ok (.ireturn, 1) := by decide +kernel
theorem dX4_isSo_0 : decode cX4_isSo 0 = .ok (.aload_n 0, 1) := by decide +kernel
theorem dX4_isSo_1 : decode cX4_isSo 1 = .ok (.invokevirtual 139, 3) := by decide +kernel
theorem dX4_isSo_4 : decode cX4_isSo 4 = .ok (.aload_n 0, 1) := by decide +kernel
theorem dX4_isSo_5 : decode cX4_isSo 5 = .ok (.getfield 22, 3) := by decide +kernel
theorem dX4_isSo_8 : decode cX4_isSo 8 = .ok (.iload_n 1, 1) := by decide +kernel
theorem dX4_isSo_9 : decode cX4_isSo 9 = .ok (.iload_n 2, 1) := by decide +kernel
theorem dX4_isSo_10 : decode cX4_isSo 10 = .ok (.iastore, 1) := by decide +kernel
theorem dX4_isSo_11 : decode cX4_isSo 11 = .ok (.aload_n 0, 1) := by decide +kernel
theorem dX4_isSo_12 : decode cX4_isSo 12 = .ok (.iload_n 3, 1) := by decide +kernel
theorem dX4_isSo_13 : decode cX4_isSo 13 = .ok (.putfield 110, 3) := by decide +kernel
theorem dX4_isSo_16 : decode cX4_isSo 16 = .ok (.iconst 1, 1) := by decide +kernel
theorem dX4_isSo_17 : decode cX4_isSo 17 = .ok (.istore 4, 2) := by decide +kernel
theorem dX4_isSo_19 : decode cX4_isSo 19 = .ok (.iconst 0, 1) := by decide +kernel
theorem dX4_isSo_20 : decode cX4_isSo 20 = .ok (.istore 5, 2) := by decide +kernel
theorem dX4_isSo_22 : decode cX4_isSo 22 = .ok (.iload 5, 2) := by decide +kernel
theorem dX4_isSo_24 : decode cX4_isSo 24 = .ok (.bipush 21, 2) := by decide +kernel
theorem dX4_isSo_26 : decode cX4_isSo 26 = .ok (.if_icmp .ge 121, 3) := by decide +kernel
theorem dX4_isSo_29 : decode cX4_isSo 29 = .ok (.iconst 0, 1) := by decide +kernel
theorem dX4_isSo_30 : decode cX4_isSo 30 = .ok (.istore 6, 2) := by decide +kernel
theorem dX4_isSo_32 : decode cX4_isSo 32 = .ok (.iload 6, 2) := by decide +kernel
theorem dX4_isSo_34 : decode cX4_isSo 34 = .ok (.aload_n 0, 1) := by decide +kernel
theorem dX4_isSo_35 : decode cX4_isSo 35 = .ok (.getfield 82, 3) := by decide +kernel
theorem dX4_isSo_38 : decode cX4_isSo 38 = .ok (.if_icmp .ge 97, 3) := by decide +kernel
theorem dX4_isSo_41 : decode cX4_isSo 41 = .ok (.aload_n 0, 1) := by decide +kernel
theorem dX4_isSo_42 : decode cX4_isSo 42 = .ok (.getfield 34, 3) := by decide +kernel
theorem dX4_isSo_45 : decode cX4_isSo 45 = .ok (.iconst 4, 1) := by decide +kernel
theorem dX4_isSo_46 : decode cX4_isSo 46 = .ok (.iload 6, 2) := by decide +kernel
theorem dX4_isSo_48 : decode cX4_isSo 48 = .ok (.imul, 1) := by decide +kernel
theorem dX4_isSo_49 : decode cX4_isSo 49 = .ok (.iconst 2, 1) := by decide +kernel
theorem dX4_isSo_50 : decode cX4_isSo 50 = .ok (.iadd, 1) := by decide +kernel
theorem dX4_isSo_51 : decode cX4_isSo 51 = .ok (.iaload, 1) := by decide +kernel
theorem dX4_isSo_52 : decode cX4_isSo 52 = .ok (.iload 5, 2) := by decide +kernel
theorem dX4_isSo_54 : decode cX4_isSo 54 = .ok (.if_icmp .ne 75, 3) := by decide +kernel
theorem dX4_isSo_57 : decode cX4_isSo 57 = .ok (.aload_n 0, 1) := by decide +kernel
theorem dX4_isSo_58 : decode cX4_isSo 58 = .ok (.getfield 22, 3) := by decide +kernel
theorem dX4_isSo_61 : decode cX4_isSo 61 = .ok (.aload_n 0, 1) := by decide +kernel
theorem dX4_isSo_62 : decode cX4_isSo 62 = .ok (.getfield 34, 3) := by decide +kernel
theorem dX4_isSo_65 : decode cX4_isSo 65 = .ok (.iconst 4, 1) := by decide +kernel
theorem dX4_isSo_66 : decode cX4_isSo 66 = .ok (.iload 6, 2) := by decide +kernel
theorem dX4_isSo_68 : decode cX4_isSo 68 = .ok (.imul, 1) := by decide +kernel
theorem dX4_isSo_69 : decode cX4_isSo 69 = .ok (.iaload, 1) := by decide +kernel
theorem dX4_isSo_70 : decode cX4_isSo 70 = .ok (.iaload, 1) := by decide +kernel
theorem dX4_isSo_71 : decode cX4_isSo 71 = .ok (.aload_n 0, 1) := by decide +kernel
theorem dX4_isSo_72 : decode cX4_isSo 72 = .ok (.getfield 22, 3) := by decide +kernel
theorem dX4_isSo_75 : decode cX4_isSo 75 = .ok (.aload_n 0, 1) := by decide +kernel
theorem dX4_isSo_76 : decode cX4_isSo 76 = .ok (.getfield 34, 3) := by decide +kernel
theorem dX4_isSo_79 : decode cX4_isSo 79 = .ok (.iconst 4, 1) := by decide +kernel
theorem dX4_isSo_80 : decode cX4_isSo 80 = .ok (.iload 6, 2) := by decide +kernel
theorem dX4_isSo_82 : decode cX4_isSo 82 = .ok (.imul, 1) := by decide +kernel
theorem dX4_isSo_83 : decode cX4_isSo 83 = .ok (.iconst 1, 1) := by decide +kernel
theorem dX4_isSo_84 : decode cX4_isSo 84 = .ok (.iadd, 1) := by decide +kernel
theorem dX4_isSo_85 : decode cX4_isSo 85 = .ok (.iaload, 1) := by decide +kernel
theorem dX4_isSo_86 : decode cX4_isSo 86 = .ok (.iaload, 1) := by decide +kernel
theorem dX4_isSo_87 : decode cX4_isSo 87 = .ok (.invokestatic 132, 3) := by decide +kernel
theorem dX4_isSo_90 : decode cX4_isSo 90 = .ok (.istore 7, 2) := by decide +kernel
theorem dX4_isSo_92 : decode cX4_isSo 92 = .ok (.iload 4, 2) := by decide +kernel
theorem dX4_isSo_94 : decode cX4_isSo 94 = .ok (.ifCond .eq 32, 3) := by decide +kernel
theorem dX4_isSo_97 : decode cX4_isSo 97 = .ok (.iload 7, 2) := by decide +kernel
theorem dX4_isSo_99 : decode cX4_isSo 99 = .ok (.aload_n 0, 1) := by decide +kernel
theorem dX4_isSo_100 : decode cX4_isSo 100 = .ok (.getfield 34, 3) := by decide +kernel
theorem dX4_isSo_103 : decode cX4_isSo 103 = .ok (.iconst 4, 1) := by decide +kernel
theorem dX4_isSo_104 : decode cX4_isSo 104 = .ok (.iload 6, 2) := by decide +kernel
theorem dX4_isSo_106 : decode cX4_isSo 106 = .ok (.imul, 1) := by decide +kernel
theorem dX4_isSo_107 : decode cX4_isSo 107 = .ok (.iconst 3, 1) := by decide +kernel
theorem dX4_isSo_108 : decode cX4_isSo 108 = .ok (.iadd, 1) := by decide +kernel
theorem dX4_isSo_109 : decode cX4_isSo 109 = .ok (.iaload, 1) := by decide +kernel
theorem dX4_isSo_110 : decode cX4_isSo 110 = .ok (.iconst 1, 1) := by decide +kernel
theorem dX4_isSo_111 : decode cX4_isSo 111 = .ok (.if_icmp .ne 7, 3) := by decide +kernel
theorem dX4_isSo_114 : decode cX4_isSo 114 = .ok (.iconst 1, 1) := by decide +kernel
theorem dX4_isSo_115 : decode cX4_isSo 115 = .ok (.goto 4, 3) := by decide +kernel
theorem dX4_isSo_118 : decode cX4_isSo 118 = .ok (.iconst 0, 1) := by decide +kernel
theorem dX4_isSo_119 : decode cX4_isSo 119 = .ok (.if_icmp .ne 7, 3) := by decide +kernel
theorem dX4_isSo_122 : decode cX4_isSo 122 = .ok (.iconst 1, 1) := by decide +kernel
theorem dX4_isSo_123 : decode cX4_isSo 123 = .ok (.goto 4, 3) := by decide +kernel
theorem dX4_isSo_126 : decode cX4_isSo 126 = .ok (.iconst 0, 1) := by decide +kernel
theorem dX4_isSo_127 : decode cX4_isSo 127 = .ok (.istore 4, 2) := by decide +kernel
theorem dX4_isSo_129 : decode cX4_isSo 129 = .ok (.iinc 6 1, 3) := by decide +kernel
theorem dX4_isSo_132 : decode cX4_isSo 132 = .ok (.goto (-100), 3) := by decide +kernel
theorem dX4_isSo_135 : decode cX4_isSo 135 = .ok (.aload_n 0, 1) := by decide +kernel
theorem dX4_isSo_136 : decode cX4_isSo 136 = .ok (.invokevirtual 154, 3) := by decide +kernel
theorem dX4_isSo_139 : decode cX4_isSo 139 = .ok (.istore 6, 2) := by decide +kernel
theorem dX4_isSo_141 : decode cX4_isSo 141 = .ok (.iinc 5 1, 3) := by decide +kernel
theorem dX4_isSo_144 : decode cX4_isSo 144 = .ok (.goto (-122), 3) := by decide +kernel
theorem dX4_isSo_147 : decode cX4_isSo 147 = .ok (.iload 4, 2) := by decide +kernel
theorem dX4_isSo_149 : decode cX4_isSo 149 = .ok (.ireturn, 1) := by decide +kernel
theorem dX4_guessOf_0 : decode cX4_guessOf 0 = .ok (.iconst 0, 1) := by decide +kernel
theorem dX4_guessOf_1 : decode cX4_guessOf 1 = .ok (.istore_n 3, 1) := by decide +kernel
theorem dX4_guessOf_2 : decode cX4_guessOf 2 = .ok (.iconst (-1), 1) := by decide +kernel
theorem dX4_guessOf_3 : decode cX4_guessOf 3 = .ok (.istore 4, 2) := by decide +kernel
theorem dX4_guessOf_5 : decode cX4_guessOf 5 = .ok (.bipush 35, 2) := by decide +kernel
theorem dX4_guessOf_7 : decode cX4_guessOf 7 = .ok (.istore 5, 2) := by decide +kernel
theorem dX4_guessOf_9 : decode cX4_guessOf 9 = .ok (.iload 5, 2) := by decide +kernel
theorem dX4_guessOf_11 : decode cX4_guessOf 11 = .ok (.ifCond .lt 56, 3) := by decide +kernel
theorem dX4_guessOf_14 : decode cX4_guessOf 14 = .ok (.aload_n 0, 1) := by decide +kernel
theorem dX4_guessOf_15 : decode cX4_guessOf 15 = .ok (.iload 5, 2) := by decide +kernel
theorem dX4_guessOf_17 : decode cX4_guessOf 17 = .ok (.iconst 3, 1) := by decide +kernel
theorem dX4_guessOf_18 : decode cX4_guessOf 18 = .ok (.idiv, 1) := by decide +kernel
theorem dX4_guessOf_19 : decode cX4_guessOf 19 = .ok (.invokevirtual 97, 3) := by decide +kernel
theorem dX4_guessOf_22 : decode cX4_guessOf 22 = .ok (.istore 6, 2) := by decide +kernel
theorem dX4_guessOf_24 : decode cX4_guessOf 24 = .ok (.iload 6, 2) := by decide +kernel
theorem dX4_guessOf_26 : decode cX4_guessOf 26 = .ok (.iconst (-1), 1) := by decide +kernel
theorem dX4_guessOf_27 : decode cX4_guessOf 27 = .ok (.if_icmp .eq 9, 3) := by decide +kernel
theorem dX4_guessOf_30 : decode cX4_guessOf 30 = .ok (.iload 6, 2) := by decide +kernel
theorem dX4_guessOf_32 : decode cX4_guessOf 32 = .ok (.iload_n 1, 1) := by decide +kernel
theorem dX4_guessOf_33 : decode cX4_guessOf 33 = .ok (.if_icmp .ne 28, 3) := by decide +kernel
theorem dX4_guessOf_36 : decode cX4_guessOf 36 = .ok (.aload_n 0, 1) := by decide +kernel
theorem dX4_guessOf_37 : decode cX4_guessOf 37 = .ok (.iload_n 1, 1) := by decide +kernel
theorem dX4_guessOf_38 : decode cX4_guessOf 38 = .ok (.iload 5, 2) := by decide +kernel
theorem dX4_guessOf_40 : decode cX4_guessOf 40 = .ok (.iconst 3, 1) := by decide +kernel
theorem dX4_guessOf_41 : decode cX4_guessOf 41 = .ok (.idiv, 1) := by decide +kernel
theorem dX4_guessOf_42 : decode cX4_guessOf 42 = .ok (.iload 5, 2) := by decide +kernel
theorem dX4_guessOf_44 : decode cX4_guessOf 44 = .ok (.iconst 3, 1) := by decide +kernel
theorem dX4_guessOf_45 : decode cX4_guessOf 45 = .ok (.irem, 1) := by decide +kernel
theorem dX4_guessOf_46 : decode cX4_guessOf 46 = .ok (.iconst 1, 1) := by decide +kernel
theorem dX4_guessOf_47 : decode cX4_guessOf 47 = .ok (.isub, 1) := by decide +kernel
theorem dX4_guessOf_48 : decode cX4_guessOf 48 = .ok (.invokevirtual 205, 3) := by decide +kernel
theorem dX4_guessOf_51 : decode cX4_guessOf 51 = .ok (.ifCond .eq 10, 3) := by decide +kernel
theorem dX4_guessOf_54 : decode cX4_guessOf 54 = .ok (.iinc 3 1, 3) := by decide +kernel
theorem dX4_guessOf_57 : decode cX4_guessOf 57 = .ok (.iload 5, 2) := by decide +kernel
theorem dX4_guessOf_59 : decode cX4_guessOf 59 = .ok (.istore 4, 2) := by decide +kernel
theorem dX4_guessOf_61 : decode cX4_guessOf 61 = .ok (.iinc 5 (-1), 3) := by decide +kernel
theorem dX4_guessOf_64 : decode cX4_guessOf 64 = .ok (.goto (-55), 3) := by decide +kernel
theorem dX4_guessOf_67 : decode cX4_guessOf 67 = .ok (.iload_n 2, 1) := by decide +kernel
theorem dX4_guessOf_68 : decode cX4_guessOf 68 = .ok (.ifCond .ne 7, 3) := by decide +kernel
theorem dX4_guessOf_71 : decode cX4_guessOf 71 = .ok (.iload_n 3, 1) := by decide +kernel
theorem dX4_guessOf_72 : decode cX4_guessOf 72 = .ok (.goto 5, 3) := by decide +kernel
theorem dX4_guessOf_75 : decode cX4_guessOf 75 = .ok (.iload 4, 2) := by decide +kernel
theorem dX4_guessOf_77 : decode cX4_guessOf 77 = .ok (.ireturn, 1) := by decide +kernel
theorem dX4_guess_0 : decode cX4_guess 0 = .ok (.aload_n 0, 1) := by decide +kernel
theorem dX4_guess_1 : decode cX4_guess 1 = .ok (.iload_n 1, 1) := by decide +kernel
theorem dX4_guess_2 : decode cX4_guess 2 = .ok (.invokevirtual 91, 3) := by decide +kernel
theorem dX4_guess_5 : decode cX4_guess 5 = .ok (.ifCond .ne 6, 3) := by decide +kernel
theorem dX4_guess_8 : decode cX4_guess 8 = .ok (.bipush (-101), 2) := by decide +kernel
theorem dX4_guess_10 : decode cX4_guess 10 = .ok (.ireturn, 1) := by decide +kernel
theorem dX4_guess_11 : decode cX4_guess 11 = .ok (.iload_n 2, 1) := by decide +kernel
theorem dX4_guess_12 : decode cX4_guess 12 = .ok (.i2l, 1) := by decide +kernel
theorem dX4_guess_13 : decode cX4_guess 13 = .ok (.lconst 0, 1) := by decide +kernel
theorem dX4_guess_14 : decode cX4_guess 14 = .ok (.lconst 1, 1) := by decide +kernel
theorem dX4_guess_15 : decode cX4_guess 15 = .ok (.invokestatic 52, 3) := by decide +kernel
theorem dX4_guess_18 : decode cX4_guess 18 = .ok (.ifCond .eq 12, 3) := by decide +kernel
theorem dX4_guess_21 : decode cX4_guess 21 = .ok (.aload_n 0, 1) := by decide +kernel
theorem dX4_guess_22 : decode cX4_guess 22 = .ok (.iload_n 1, 1) := by decide +kernel
theorem dX4_guess_23 : decode cX4_guess 23 = .ok (.iload_n 2, 1) := by decide +kernel
theorem dX4_guess_24 : decode cX4_guess 24 = .ok (.invokevirtual 209, 3) := by decide +kernel
theorem dX4_guess_27 : decode cX4_guess 27 = .ok (.goto 5, 3) := by decide +kernel
theorem dX4_guess_30 : decode cX4_guess 30 = .ok (.bipush (-102), 2) := by decide +kernel
theorem dX4_guess_32 : decode cX4_guess 32 = .ok (.ireturn, 1) := by decide +kernel
theorem dX4_draw_0 : decode cX4_draw 0 = .ok (.aload_n 0, 1) := by decide +kernel
theorem dX4_draw_1 : decode cX4_draw 1 = .ok (.ldc2_w 212, 3) := by decide +kernel
theorem dX4_draw_4 : decode cX4_draw 4 = .ok (.aload_n 0, 1) := by decide +kernel
theorem dX4_draw_5 : decode cX4_draw 5 = .ok (.getfield 214, 3) := by decide +kernel
theorem dX4_draw_8 : decode cX4_draw 8 = .ok (.i2l, 1) := by decide +kernel
theorem dX4_draw_9 : decode cX4_draw 9 = .ok (.lmul, 1) := by decide +kernel
theorem dX4_draw_10 : decode cX4_draw 10 = .ok (.ldc2_w 217, 3) := by decide +kernel
theorem dX4_draw_13 : decode cX4_draw 13 = .ok (.ladd, 1) := by decide +kernel
theorem dX4_draw_14 : decode cX4_draw 14 = .ok (.ldc2_w 219, 3) := by decide +kernel
theorem dX4_draw_17 : decode cX4_draw 17 = .ok (.land, 1) := by decide +kernel
theorem dX4_draw_18 : decode cX4_draw 18 = .ok (.l2i, 1) := by decide +kernel
theorem dX4_draw_19 : decode cX4_draw 19 = .ok (.putfield 214, 3) := by decide +kernel
theorem dX4_draw_22 : decode cX4_draw 22 = .ok (.aload_n 0, 1) := by decide +kernel
theorem dX4_draw_23 : decode cX4_draw 23 = .ok (.getfield 214, 3) := by decide +kernel
theorem dX4_draw_26 : decode cX4_draw 26 = .ok (.ldc 221, 2) := by decide +kernel
theorem dX4_draw_28 : decode cX4_draw 28 = .ok (.idiv, 1) := by decide +kernel
theorem dX4_draw_29 : decode cX4_draw 29 = .ok (.iload_n 1, 1) := by decide +kernel
theorem dX4_draw_30 : decode cX4_draw 30 = .ok (.irem, 1) := by decide +kernel
theorem dX4_draw_31 : decode cX4_draw 31 = .ok (.ireturn, 1) := by decide +kernel
theorem dX4_seasons_0 : decode cX4_seasons 0 = .ok (.iload_n 1, 1) := by decide +kernel
theorem dX4_seasons_1 : decode cX4_seasons 1 = .ok (.i2l, 1) := by decide +kernel
theorem dX4_seasons_2 : decode cX4_seasons 2 = .ok (.lconst 1, 1) := by decide +kernel
theorem dX4_seasons_3 : decode cX4_seasons 3 = .ok (.ldc2_w 222, 3) := by decide +kernel
theorem dX4_seasons_6 : decode cX4_seasons 6 = .ok (.invokestatic 52, 3) := by decide +kernel
theorem dX4_seasons_9 : decode cX4_seasons 9 = .ok (.ifCond .eq 19, 3) := by decide +kernel
theorem dX4_seasons_12 : decode cX4_seasons 12 = .ok (.iload_n 2, 1) := by decide +kernel
theorem dX4_seasons_13 : decode cX4_seasons 13 = .ok (.ifCond .lt 15, 3) := by decide +kernel
theorem dX4_seasons_16 : decode cX4_seasons 16 = .ok (.iload_n 3, 1) := by decide +kernel
theorem dX4_seasons_17 : decode cX4_seasons 17 = .ok (.i2l, 1) := by decide +kernel
theorem dX4_seasons_18 : decode cX4_seasons 18 = .ok (.lconst 0, 1) := by decide +kernel
theorem dX4_seasons_19 : decode cX4_seasons 19 = .ok (.ldc2_w 224, 3) := by decide +kernel
theorem dX4_seasons_22 : decode cX4_seasons 22 = .ok (.invokestatic 52, 3) := by decide +kernel
theorem dX4_seasons_25 : decode cX4_seasons 25 = .ok (.ifCond .ne 6, 3) := by decide +kernel
theorem dX4_seasons_28 : decode cX4_seasons 28 = .ok (.bipush (-102), 2) := by decide +kernel
theorem dX4_seasons_30 : decode cX4_seasons 30 = .ok (.ireturn, 1) := by decide +kernel
theorem dX4_seasons_31 : decode cX4_seasons 31 = .ok (.aload_n 0, 1) := by decide +kernel
theorem dX4_seasons_32 : decode cX4_seasons 32 = .ok (.getfield 63, 3) := by decide +kernel
theorem dX4_seasons_35 : decode cX4_seasons 35 = .ok (.ifCond .ne 6, 3) := by decide +kernel
theorem dX4_seasons_38 : decode cX4_seasons 38 = .ok (.bipush (-103), 2) := by decide +kernel
theorem dX4_seasons_40 : decode cX4_seasons 40 = .ok (.ireturn, 1) := by decide +kernel
theorem dX4_seasons_41 : decode cX4_seasons 41 = .ok (.aload_n 0, 1) := by decide +kernel
theorem dX4_seasons_42 : decode cX4_seasons 42 = .ok (.invokevirtual 139, 3) := by decide +kernel
theorem dX4_seasons_45 : decode cX4_seasons 45 = .ok (.aload_n 0, 1) := by decide +kernel
theorem dX4_seasons_46 : decode cX4_seasons 46 = .ok (.iload_n 2, 1) := by decide +kernel
theorem dX4_seasons_47 : decode cX4_seasons 47 = .ok (.putfield 214, 3) := by decide +kernel
theorem dX4_seasons_50 : decode cX4_seasons 50 = .ok (.iconst 0, 1) := by decide +kernel
theorem dX4_seasons_51 : decode cX4_seasons 51 = .ok (.istore 4, 2) := by decide +kernel
theorem dX4_seasons_53 : decode cX4_seasons 53 = .ok (.iconst 0, 1) := by decide +kernel
theorem dX4_seasons_54 : decode cX4_seasons 54 = .ok (.istore 5, 2) := by decide +kernel
theorem dX4_seasons_56 : decode cX4_seasons 56 = .ok (.iload 5, 2) := by decide +kernel
theorem dX4_seasons_58 : decode cX4_seasons 58 = .ok (.iload_n 1, 1) := by decide +kernel
theorem dX4_seasons_59 : decode cX4_seasons 59 = .ok (.if_icmp .ge 29, 3) := by decide +kernel
theorem dX4_seasons_62 : decode cX4_seasons 62 = .ok (.aload_n 0, 1) := by decide +kernel
theorem dX4_seasons_63 : decode cX4_seasons 63 = .ok (.aload_n 0, 1) := by decide +kernel
theorem dX4_seasons_64 : decode cX4_seasons 64 = .ok (.iconst 3, 1) := by decide +kernel
theorem dX4_seasons_65 : decode cX4_seasons 65 = .ok (.invokevirtual 226, 3) := by decide +kernel
theorem dX4_seasons_68 : decode cX4_seasons 68 = .ok (.iconst 1, 1) := by decide +kernel
theorem dX4_seasons_69 : decode cX4_seasons 69 = .ok (.isub, 1) := by decide +kernel
theorem dX4_seasons_70 : decode cX4_seasons 70 = .ok (.putfield 110, 3) := by decide +kernel
theorem dX4_seasons_73 : decode cX4_seasons 73 = .ok (.iload 4, 2) := by decide +kernel
theorem dX4_seasons_75 : decode cX4_seasons 75 = .ok (.aload_n 0, 1) := by decide +kernel
theorem dX4_seasons_76 : decode cX4_seasons 76 = .ok (.invokevirtual 154, 3) := by decide +kernel
theorem dX4_seasons_79 : decode cX4_seasons 79 = .ok (.iadd, 1) := by decide +kernel
theorem dX4_seasons_80 : decode cX4_seasons 80 = .ok (.istore 4, 2) := by decide +kernel
theorem dX4_seasons_82 : decode cX4_seasons 82 = .ok (.iinc 5 1, 3) := by decide +kernel
theorem dX4_seasons_85 : decode cX4_seasons 85 = .ok (.goto (-29), 3) := by decide +kernel
theorem dX4_seasons_88 : decode cX4_seasons 88 = .ok (.iconst 0, 1) := by decide +kernel
theorem dX4_seasons_89 : decode cX4_seasons 89 = .ok (.istore 5, 2) := by decide +kernel
theorem dX4_seasons_91 : decode cX4_seasons 91 = .ok (.iconst 0, 1) := by decide +kernel
theorem dX4_seasons_92 : decode cX4_seasons 92 = .ok (.istore 6, 2) := by decide +kernel
theorem dX4_seasons_94 : decode cX4_seasons 94 = .ok (.iload 6, 2) := by decide +kernel
theorem dX4_seasons_96 : decode cX4_seasons 96 = .ok (.aload_n 0, 1) := by decide +kernel
theorem dX4_seasons_97 : decode cX4_seasons 97 = .ok (.getfield 76, 3) := by decide +kernel
theorem dX4_seasons_100 : decode cX4_seasons 100 = .ok (.if_icmp .ge 60, 3) := by decide +kernel
theorem dX4_seasons_103 : decode cX4_seasons 103 = .ok (.iload 6, 2) := by decide +kernel
theorem dX4_seasons_105 : decode cX4_seasons 105 = .ok (.iconst 1, 1) := by decide +kernel
theorem dX4_seasons_106 : decode cX4_seasons 106 = .ok (.iadd, 1) := by decide +kernel
theorem dX4_seasons_107 : decode cX4_seasons 107 = .ok (.istore 7, 2) := by decide +kernel
theorem dX4_seasons_109 : decode cX4_seasons 109 = .ok (.iload 7, 2) := by decide +kernel
theorem dX4_seasons_111 : decode cX4_seasons 111 = .ok (.aload_n 0, 1) := by decide +kernel
theorem dX4_seasons_112 : decode cX4_seasons 112 = .ok (.getfield 76, 3) := by decide +kernel
theorem dX4_seasons_115 : decode cX4_seasons 115 = .ok (.if_icmp .ge 39, 3) := by decide +kernel
theorem dX4_seasons_118 : decode cX4_seasons 118 = .ok (.iload 5, 2) := by decide +kernel
theorem dX4_seasons_120 : decode cX4_seasons 120 = .ok (.aload_n 0, 1) := by decide +kernel
theorem dX4_seasons_121 : decode cX4_seasons 121 = .ok (.getfield 22, 3) := by decide +kernel
theorem dX4_seasons_124 : decode cX4_seasons 124 = .ok (.iload 6, 2) := by decide +kernel
theorem dX4_seasons_126 : decode cX4_seasons 126 = .ok (.iaload, 1) := by decide +kernel
theorem dX4_seasons_127 : decode cX4_seasons 127 = .ok (.aload_n 0, 1) := by decide +kernel
theorem dX4_seasons_128 : decode cX4_seasons 128 = .ok (.getfield 22, 3) := by decide +kernel
theorem dX4_seasons_131 : decode cX4_seasons 131 = .ok (.iload 7, 2) := by decide +kernel
theorem dX4_seasons_133 : decode cX4_seasons 133 = .ok (.iaload, 1) := by decide +kernel
theorem dX4_seasons_134 : decode cX4_seasons 134 = .ok (.invokestatic 132, 3) := by decide +kernel
theorem dX4_seasons_137 : decode cX4_seasons 137 = .ok (.ifCond .eq 7, 3) := by decide +kernel
theorem dX4_seasons_140 : decode cX4_seasons 140 = .ok (.iconst 1, 1) := by decide +kernel
theorem dX4_seasons_141 : decode cX4_seasons 141 = .ok (.goto 4, 3) := by decide +kernel
theorem dX4_seasons_144 : decode cX4_seasons 144 = .ok (.iconst 0, 1) := by decide +kernel
theorem dX4_seasons_145 : decode cX4_seasons 145 = .ok (.iadd, 1) := by decide +kernel
theorem dX4_seasons_146 : decode cX4_seasons 146 = .ok (.istore 5, 2) := by decide +kernel
theorem dX4_seasons_148 : decode cX4_seasons 148 = .ok (.iinc 7 1, 3) := by decide +kernel
theorem dX4_seasons_151 : decode cX4_seasons 151 = .ok (.goto (-42), 3) := by decide +kernel
theorem dX4_seasons_154 : decode cX4_seasons 154 = .ok (.iinc 6 1, 3) := by decide +kernel
theorem dX4_seasons_157 : decode cX4_seasons 157 = .ok (.goto (-63), 3) := by decide +kernel
theorem dX4_seasons_160 : decode cX4_seasons 160 = .ok (.iload_n 3, 1) := by decide +kernel
theorem dX4_seasons_161 : decode cX4_seasons 161 = .ok (.ifCond .ne 8, 3) := by decide +kernel
theorem dX4_seasons_164 : decode cX4_seasons 164 = .ok (.iload 4, 2) := by decide +kernel
theorem dX4_seasons_166 : decode cX4_seasons 166 = .ok (.goto 17, 3) := by decide +kernel
theorem dX4_seasons_169 : decode cX4_seasons 169 = .ok (.iload_n 3, 1) := by decide +kernel
theorem dX4_seasons_170 : decode cX4_seasons 170 = .ok (.iconst 1, 1) := by decide +kernel
theorem dX4_seasons_171 : decode cX4_seasons 171 = .ok (.if_icmp .ne 8, 3) := by decide +kernel
theorem dX4_seasons_174 : decode cX4_seasons 174 = .ok (.iload 5, 2) := by decide +kernel
theorem dX4_seasons_176 : decode cX4_seasons 176 = .ok (.goto 7, 3) := by decide +kernel
theorem dX4_seasons_179 : decode cX4_seasons 179 = .ok (.aload_n 0, 1) := by decide +kernel
theorem dX4_seasons_180 : decode cX4_seasons 180 = .ok (.getfield 214, 3) := by decide +kernel
theorem dX4_seasons_183 : decode cX4_seasons 183 = .ok (.ireturn, 1) := by decide +kernel
theorem dX4_copy_0 : decode cX4_copy 0 = .ok (.iconst 0, 1) := by decide +kernel
theorem dX4_copy_1 : decode cX4_copy 1 = .ok (.istore_n 2, 1) := by decide +kernel
theorem dX4_copy_2 : decode cX4_copy 2 = .ok (.iload_n 2, 1) := by decide +kernel
theorem dX4_copy_3 : decode cX4_copy 3 = .ok (.aload_n 0, 1) := by decide +kernel
theorem dX4_copy_4 : decode cX4_copy 4 = .ok (.arraylength, 1) := by decide +kernel
theorem dX4_copy_5 : decode cX4_copy 5 = .ok (.if_icmp .ge 15, 3) := by decide +kernel
theorem dX4_copy_8 : decode cX4_copy 8 = .ok (.aload_n 1, 1) := by decide +kernel
theorem dX4_copy_9 : decode cX4_copy 9 = .ok (.iload_n 2, 1) := by decide +kernel
theorem dX4_copy_10 : decode cX4_copy 10 = .ok (.aload_n 0, 1) := by decide +kernel
theorem dX4_copy_11 : decode cX4_copy 11 = .ok (.iload_n 2, 1) := by decide +kernel
theorem dX4_copy_12 : decode cX4_copy 12 = .ok (.iaload, 1) := by decide +kernel
theorem dX4_copy_13 : decode cX4_copy 13 = .ok (.iastore, 1) := by decide +kernel
theorem dX4_copy_14 : decode cX4_copy 14 = .ok (.iinc 2 1, 3) := by decide +kernel
theorem dX4_copy_17 : decode cX4_copy 17 = .ok (.goto (-15), 3) := by decide +kernel
theorem dX4_copy_20 : decode cX4_copy 20 = .ok (.return_, 1) := by decide +kernel
theorem dX4_image_0 : decode cX4_image 0 = .ok (.aload_n 0, 1) := by decide +kernel
theorem dX4_image_1 : decode cX4_image 1 = .ok (.getfield 63, 3) := by decide +kernel
theorem dX4_image_4 : decode cX4_image 4 = .ok (.ifCond .ne 6, 3) := by decide +kernel
theorem dX4_image_7 : decode cX4_image 7 = .ok (.bipush (-103), 2) := by decide +kernel
theorem dX4_image_9 : decode cX4_image 9 = .ok (.ireturn, 1) := by decide +kernel
theorem dX4_image_10 : decode cX4_image 10 = .ok (.aload_n 0, 1) := by decide +kernel
theorem dX4_image_11 : decode cX4_image 11 = .ok (.getfield 16, 3) := by decide +kernel
theorem dX4_image_14 : decode cX4_image 14 = .ok (.aload_n 0, 1) := by decide +kernel
theorem dX4_image_15 : decode cX4_image 15 = .ok (.getfield 37, 3) := by decide +kernel
theorem dX4_image_18 : decode cX4_image 18 = .ok (.invokestatic 189, 3) := by decide +kernel
theorem dX4_image_21 : decode cX4_image 21 = .ok (.aload_n 0, 1) := by decide +kernel
theorem dX4_image_22 : decode cX4_image 22 = .ok (.getfield 19, 3) := by decide +kernel
theorem dX4_image_25 : decode cX4_image 25 = .ok (.aload_n 0, 1) := by decide +kernel
theorem dX4_image_26 : decode cX4_image 26 = .ok (.getfield 40, 3) := by decide +kernel
theorem dX4_image_29 : decode cX4_image 29 = .ok (.invokestatic 189, 3) := by decide +kernel
theorem dX4_image_32 : decode cX4_image 32 = .ok (.aload_n 0, 1) := by decide +kernel
theorem dX4_image_33 : decode cX4_image 33 = .ok (.getfield 34, 3) := by decide +kernel
theorem dX4_image_36 : decode cX4_image 36 = .ok (.aload_n 0, 1) := by decide +kernel
theorem dX4_image_37 : decode cX4_image 37 = .ok (.getfield 43, 3) := by decide +kernel
theorem dX4_image_40 : decode cX4_image 40 = .ok (.invokestatic 189, 3) := by decide +kernel
theorem dX4_image_43 : decode cX4_image 43 = .ok (.aload_n 0, 1) := by decide +kernel
theorem dX4_image_44 : decode cX4_image 44 = .ok (.aload_n 0, 1) := by decide +kernel
theorem dX4_image_45 : decode cX4_image 45 = .ok (.getfield 76, 3) := by decide +kernel
theorem dX4_image_48 : decode cX4_image 48 = .ok (.putfield 229, 3) := by decide +kernel
theorem dX4_image_51 : decode cX4_image 51 = .ok (.aload_n 0, 1) := by decide +kernel
theorem dX4_image_52 : decode cX4_image 52 = .ok (.aload_n 0, 1) := by decide +kernel
theorem dX4_image_53 : decode cX4_image 53 = .ok (.getfield 79, 3) := by decide +kernel
theorem dX4_image_56 : decode cX4_image 56 = .ok (.putfield 232, 3) := by decide +kernel
theorem dX4_image_59 : decode cX4_image 59 = .ok (.aload_n 0, 1) := by decide +kernel
theorem dX4_image_60 : decode cX4_image 60 = .ok (.aload_n 0, 1) := by decide +kernel
theorem dX4_image_61 : decode cX4_image 61 = .ok (.getfield 67, 3) := by decide +kernel
theorem dX4_image_64 : decode cX4_image 64 = .ok (.putfield 235, 3) := by decide +kernel
theorem dX4_image_67 : decode cX4_image 67 = .ok (.aload_n 0, 1) := by decide +kernel
theorem dX4_image_68 : decode cX4_image 68 = .ok (.aload_n 0, 1) := by decide +kernel
theorem dX4_image_69 : decode cX4_image 69 = .ok (.getfield 70, 3) := by decide +kernel
theorem dX4_image_72 : decode cX4_image 72 = .ok (.putfield 238, 3) := by decide +kernel
theorem dX4_image_75 : decode cX4_image 75 = .ok (.aload_n 0, 1) := by decide +kernel
theorem dX4_image_76 : decode cX4_image 76 = .ok (.aload_n 0, 1) := by decide +kernel
theorem dX4_image_77 : decode cX4_image 77 = .ok (.getfield 73, 3) := by decide +kernel
theorem dX4_image_80 : decode cX4_image 80 = .ok (.putfield 241, 3) := by decide +kernel
theorem dX4_image_83 : decode cX4_image 83 = .ok (.aload_n 0, 1) := by decide +kernel
theorem dX4_image_84 : decode cX4_image 84 = .ok (.aload_n 0, 1) := by decide +kernel
theorem dX4_image_85 : decode cX4_image 85 = .ok (.getfield 82, 3) := by decide +kernel
theorem dX4_image_88 : decode cX4_image 88 = .ok (.putfield 244, 3) := by decide +kernel
theorem dX4_image_91 : decode cX4_image 91 = .ok (.aload_n 0, 1) := by decide +kernel
theorem dX4_image_92 : decode cX4_image 92 = .ok (.aload_n 0, 1) := by decide +kernel
theorem dX4_image_93 : decode cX4_image 93 = .ok (.getfield 85, 3) := by decide +kernel
theorem dX4_image_96 : decode cX4_image 96 = .ok (.putfield 46, 3) := by decide +kernel
theorem dX4_image_99 : decode cX4_image 99 = .ok (.aload_n 0, 1) := by decide +kernel
theorem dX4_image_100 : decode cX4_image 100 = .ok (.getfield 70, 3) := by decide +kernel
theorem dX4_image_103 : decode cX4_image 103 = .ok (.ireturn, 1) := by decide +kernel
theorem dX4_restore_0 : decode cX4_restore 0 = .ok (.aload_n 0, 1) := by decide +kernel
theorem dX4_restore_1 : decode cX4_restore 1 = .ok (.getfield 46, 3) := by decide +kernel
theorem dX4_restore_4 : decode cX4_restore 4 = .ok (.aload_n 0, 1) := by decide +kernel
theorem dX4_restore_5 : decode cX4_restore 5 = .ok (.getfield 85, 3) := by decide +kernel
theorem dX4_restore_8 : decode cX4_restore 8 = .ok (.if_icmp .eq 6, 3) := by decide +kernel
theorem dX4_restore_11 : decode cX4_restore 11 = .ok (.bipush (-103), 2) := by decide +kernel
theorem dX4_restore_13 : decode cX4_restore 13 = .ok (.ireturn, 1) := by decide +kernel
theorem dX4_restore_14 : decode cX4_restore 14 = .ok (.aload_n 0, 1) := by decide +kernel
theorem dX4_restore_15 : decode cX4_restore 15 = .ok (.getfield 37, 3) := by decide +kernel
theorem dX4_restore_18 : decode cX4_restore 18 = .ok (.aload_n 0, 1) := by decide +kernel
theorem dX4_restore_19 : decode cX4_restore 19 = .ok (.getfield 16, 3) := by decide +kernel
theorem dX4_restore_22 : decode cX4_restore 22 = .ok (.invokestatic 189, 3) := by decide +kernel
theorem dX4_restore_25 : decode cX4_restore 25 = .ok (.aload_n 0, 1) := by decide +kernel
theorem dX4_restore_26 : decode cX4_restore 26 = .ok (.getfield 40, 3) := by decide +kernel
theorem dX4_restore_29 : decode cX4_restore 29 = .ok (.aload_n 0, 1) := by decide +kernel
theorem dX4_restore_30 : decode cX4_restore 30 = .ok (.getfield 19, 3) := by decide +kernel
theorem dX4_restore_33 : decode cX4_restore 33 = .ok (.invokestatic 189, 3) := by decide +kernel
theorem dX4_restore_36 : decode cX4_restore 36 = .ok (.aload_n 0, 1) := by decide +kernel
theorem dX4_restore_37 : decode cX4_restore 37 = .ok (.getfield 43, 3) := by decide +kernel
theorem dX4_restore_40 : decode cX4_restore 40 = .ok (.aload_n 0, 1) := by decide +kernel
theorem dX4_restore_41 : decode cX4_restore 41 = .ok (.getfield 34, 3) := by decide +kernel
theorem dX4_restore_44 : decode cX4_restore 44 = .ok (.invokestatic 189, 3) := by decide +kernel
theorem dX4_restore_47 : decode cX4_restore 47 = .ok (.aload_n 0, 1) := by decide +kernel
theorem dX4_restore_48 : decode cX4_restore 48 = .ok (.aload_n 0, 1) := by decide +kernel
theorem dX4_restore_49 : decode cX4_restore 49 = .ok (.getfield 229, 3) := by decide +kernel
theorem dX4_restore_52 : decode cX4_restore 52 = .ok (.putfield 76, 3) := by decide +kernel
theorem dX4_restore_55 : decode cX4_restore 55 = .ok (.aload_n 0, 1) := by decide +kernel
theorem dX4_restore_56 : decode cX4_restore 56 = .ok (.aload_n 0, 1) := by decide +kernel
theorem dX4_restore_57 : decode cX4_restore 57 = .ok (.getfield 232, 3) := by decide +kernel
theorem dX4_restore_60 : decode cX4_restore 60 = .ok (.putfield 79, 3) := by decide +kernel
theorem dX4_restore_63 : decode cX4_restore 63 = .ok (.aload_n 0, 1) := by decide +kernel
theorem dX4_restore_64 : decode cX4_restore 64 = .ok (.aload_n 0, 1) := by decide +kernel
theorem dX4_restore_65 : decode cX4_restore 65 = .ok (.getfield 235, 3) := by decide +kernel
theorem dX4_restore_68 : decode cX4_restore 68 = .ok (.putfield 67, 3) := by decide +kernel
theorem dX4_restore_71 : decode cX4_restore 71 = .ok (.aload_n 0, 1) := by decide +kernel
theorem dX4_restore_72 : decode cX4_restore 72 = .ok (.aload_n 0, 1) := by decide +kernel
theorem dX4_restore_73 : decode cX4_restore 73 = .ok (.getfield 238, 3) := by decide +kernel
theorem dX4_restore_76 : decode cX4_restore 76 = .ok (.putfield 70, 3) := by decide +kernel
theorem dX4_restore_79 : decode cX4_restore 79 = .ok (.aload_n 0, 1) := by decide +kernel
theorem dX4_restore_80 : decode cX4_restore 80 = .ok (.aload_n 0, 1) := by decide +kernel
theorem dX4_restore_81 : decode cX4_restore 81 = .ok (.getfield 241, 3) := by decide +kernel
theorem dX4_restore_84 : decode cX4_restore 84 = .ok (.putfield 73, 3) := by decide +kernel
theorem dX4_restore_87 : decode cX4_restore 87 = .ok (.aload_n 0, 1) := by decide +kernel
theorem dX4_restore_88 : decode cX4_restore 88 = .ok (.aload_n 0, 1) := by decide +kernel
theorem dX4_restore_89 : decode cX4_restore 89 = .ok (.getfield 244, 3) := by decide +kernel
theorem dX4_restore_92 : decode cX4_restore 92 = .ok (.putfield 82, 3) := by decide +kernel
theorem dX4_restore_95 : decode cX4_restore 95 = .ok (.aload_n 0, 1) := by decide +kernel
theorem dX4_restore_96 : decode cX4_restore 96 = .ok (.getfield 70, 3) := by decide +kernel
theorem dX4_restore_99 : decode cX4_restore 99 = .ok (.ireturn, 1) := by decide +kernel
theorem dX4_partyMany_0 : decode cX4_partyMany 0 = .ok (.iconst 0, 1) := by decide +kernel
theorem dX4_partyMany_1 : decode cX4_partyMany 1 = .ok (.istore_n 1, 1) := by decide +kernel
theorem dX4_partyMany_2 : decode cX4_partyMany 2 = .ok (.iconst 0, 1) := by decide +kernel
theorem dX4_partyMany_3 : decode cX4_partyMany 3 = .ok (.istore_n 2, 1) := by decide +kernel
theorem dX4_partyMany_4 : decode cX4_partyMany 4 = .ok (.iload_n 2, 1) := by decide +kernel
theorem dX4_partyMany_5 : decode cX4_partyMany 5 = .ok (.aload_n 0, 1) := by decide +kernel
theorem dX4_partyMany_6 : decode cX4_partyMany 6 = .ok (.getfield 76, 3) := by decide +kernel
theorem dX4_partyMany_9 : decode cX4_partyMany 9 = .ok (.if_icmp .ge 25, 3) := by decide +kernel
theorem dX4_partyMany_12 : decode cX4_partyMany 12 = .ok (.iload_n 1, 1) := by decide +kernel
theorem dX4_partyMany_13 : decode cX4_partyMany 13 = .ok (.aload_n 0, 1) := by decide +kernel
theorem dX4_partyMany_14 : decode cX4_partyMany 14 = .ok (.iload_n 2, 1) := by decide +kernel
theorem dX4_partyMany_15 : decode cX4_partyMany 15 = .ok (.invokevirtual 126, 3) := by decide +kernel
theorem dX4_partyMany_18 : decode cX4_partyMany 18 = .ok (.ifCond .eq 7, 3) := by decide +kernel
theorem dX4_partyMany_21 : decode cX4_partyMany 21 = .ok (.iconst 1, 1) := by decide +kernel
theorem dX4_partyMany_22 : decode cX4_partyMany 22 = .ok (.goto 4, 3) := by decide +kernel
theorem dX4_partyMany_25 : decode cX4_partyMany 25 = .ok (.iconst 0, 1) := by decide +kernel
theorem dX4_partyMany_26 : decode cX4_partyMany 26 = .ok (.iadd, 1) := by decide +kernel
theorem dX4_partyMany_27 : decode cX4_partyMany 27 = .ok (.istore_n 1, 1) := by decide +kernel
theorem dX4_partyMany_28 : decode cX4_partyMany 28 = .ok (.iinc 2 1, 3) := by decide +kernel
theorem dX4_partyMany_31 : decode cX4_partyMany 31 = .ok (.goto (-27), 3) := by decide +kernel
theorem dX4_partyMany_34 : decode cX4_partyMany 34 = .ok (.iload_n 1, 1) := by decide +kernel
theorem dX4_partyMany_35 : decode cX4_partyMany 35 = .ok (.ireturn, 1) := by decide +kernel
theorem dX4_countOf_0 : decode cX4_countOf 0 = .ok (.iload_n 1, 1) := by decide +kernel
theorem dX4_countOf_1 : decode cX4_countOf 1 = .ok (.tableswitch 134 0 11 #[63, 77, 82, 87, 92, 97, 102, 107, 114, 119, 124, 129], 63) := by decide +kernel
theorem dX4_countOf_64 : decode cX4_countOf 64 = .ok (.aload_n 0, 1) := by decide +kernel
theorem dX4_countOf_65 : decode cX4_countOf 65 = .ok (.getfield 63, 3) := by decide +kernel
theorem dX4_countOf_68 : decode cX4_countOf 68 = .ok (.ifCond .eq 8, 3) := by decide +kernel
theorem dX4_countOf_71 : decode cX4_countOf 71 = .ok (.bipush 12, 2) := by decide +kernel
theorem dX4_countOf_73 : decode cX4_countOf 73 = .ok (.goto 4, 3) := by decide +kernel
theorem dX4_countOf_76 : decode cX4_countOf 76 = .ok (.iconst 0, 1) := by decide +kernel
theorem dX4_countOf_77 : decode cX4_countOf 77 = .ok (.ireturn, 1) := by decide +kernel
theorem dX4_countOf_78 : decode cX4_countOf 78 = .ok (.aload_n 0, 1) := by decide +kernel
theorem dX4_countOf_79 : decode cX4_countOf 79 = .ok (.invokevirtual 88, 3) := by decide +kernel
theorem dX4_countOf_82 : decode cX4_countOf 82 = .ok (.ireturn, 1) := by decide +kernel
theorem dX4_countOf_83 : decode cX4_countOf 83 = .ok (.aload_n 0, 1) := by decide +kernel
theorem dX4_countOf_84 : decode cX4_countOf 84 = .ok (.getfield 76, 3) := by decide +kernel
theorem dX4_countOf_87 : decode cX4_countOf 87 = .ok (.ireturn, 1) := by decide +kernel
theorem dX4_countOf_88 : decode cX4_countOf 88 = .ok (.aload_n 0, 1) := by decide +kernel
theorem dX4_countOf_89 : decode cX4_countOf 89 = .ok (.getfield 79, 3) := by decide +kernel
theorem dX4_countOf_92 : decode cX4_countOf 92 = .ok (.ireturn, 1) := by decide +kernel
theorem dX4_countOf_93 : decode cX4_countOf 93 = .ok (.aload_n 0, 1) := by decide +kernel
theorem dX4_countOf_94 : decode cX4_countOf 94 = .ok (.invokevirtual 247, 3) := by decide +kernel
theorem dX4_countOf_97 : decode cX4_countOf 97 = .ok (.ireturn, 1) := by decide +kernel
theorem dX4_countOf_98 : decode cX4_countOf 98 = .ok (.aload_n 0, 1) := by decide +kernel
theorem dX4_countOf_99 : decode cX4_countOf 99 = .ok (.getfield 70, 3) := by decide +kernel
theorem dX4_countOf_102 : decode cX4_countOf 102 = .ok (.ireturn, 1) := by decide +kernel
theorem dX4_countOf_103 : decode cX4_countOf 103 = .ok (.aload_n 0, 1) := by decide +kernel
theorem dX4_countOf_104 : decode cX4_countOf 104 = .ok (.getfield 73, 3) := by decide +kernel
theorem dX4_countOf_107 : decode cX4_countOf 107 = .ok (.ireturn, 1) := by decide +kernel
theorem dX4_countOf_108 : decode cX4_countOf 108 = .ok (.aload_n 0, 1) := by decide +kernel
theorem dX4_countOf_109 : decode cX4_countOf 109 = .ok (.getfield 67, 3) := by decide +kernel
theorem dX4_countOf_112 : decode cX4_countOf 112 = .ok (.iconst 1, 1) := by decide +kernel
theorem dX4_countOf_113 : decode cX4_countOf 113 = .ok (.iadd, 1) := by decide +kernel
theorem dX4_countOf_114 : decode cX4_countOf 114 = .ok (.ireturn, 1) := by decide +kernel
theorem dX4_countOf_115 : decode cX4_countOf 115 = .ok (.aload_n 0, 1) := by decide +kernel
theorem dX4_countOf_116 : decode cX4_countOf 116 = .ok (.getfield 82, 3) := by decide +kernel
theorem dX4_countOf_119 : decode cX4_countOf 119 = .ok (.ireturn, 1) := by decide +kernel
theorem dX4_countOf_120 : decode cX4_countOf 120 = .ok (.aload_n 0, 1) := by decide +kernel
theorem dX4_countOf_121 : decode cX4_countOf 121 = .ok (.getfield 56, 3) := by decide +kernel
theorem dX4_countOf_124 : decode cX4_countOf 124 = .ok (.ireturn, 1) := by decide +kernel
theorem dX4_countOf_125 : decode cX4_countOf 125 = .ok (.aload_n 0, 1) := by decide +kernel
theorem dX4_countOf_126 : decode cX4_countOf 126 = .ok (.getfield 85, 3) := by decide +kernel
theorem dX4_countOf_129 : decode cX4_countOf 129 = .ok (.ireturn, 1) := by decide +kernel
theorem dX4_countOf_130 : decode cX4_countOf 130 = .ok (.aload_n 0, 1) := by decide +kernel
theorem dX4_countOf_131 : decode cX4_countOf 131 = .ok (.getfield 166, 3) := by decide +kernel
theorem dX4_countOf_134 : decode cX4_countOf 134 = .ok (.ireturn, 1) := by decide +kernel
theorem dX4_countOf_135 : decode cX4_countOf 135 = .ok (.bipush (-102), 2) := by decide +kernel
theorem dX4_countOf_137 : decode cX4_countOf 137 = .ok (.ireturn, 1) := by decide +kernel
theorem dX4_count_0 : decode cX4_count 0 = .ok (.aload_n 0, 1) := by decide +kernel
theorem dX4_count_1 : decode cX4_count 1 = .ok (.iload_n 1, 1) := by decide +kernel
theorem dX4_count_2 : decode cX4_count 2 = .ok (.invokevirtual 250, 3) := by decide +kernel
theorem dX4_count_5 : decode cX4_count 5 = .ok (.ireturn, 1) := by decide +kernel
theorem dX4_say_0 : decode cX4_say 0 = .ok (.aload_n 0, 1) := by decide +kernel
theorem dX4_say_1 : decode cX4_say 1 = .ok (.ldc2_w 253, 3) := by decide +kernel
theorem dX4_say_4 : decode cX4_say 4 = .ok (.aload_n 0, 1) := by decide +kernel
theorem dX4_say_5 : decode cX4_say 5 = .ok (.getfield 255, 3) := by decide +kernel
theorem dX4_say_8 : decode cX4_say 8 = .ok (.lmul, 1) := by decide +kernel
theorem dX4_say_9 : decode cX4_say 9 = .ok (.lload_n 1, 1) := by decide +kernel
theorem dX4_say_10 : decode cX4_say 10 = .ok (.ladd, 1) := by decide +kernel
theorem dX4_say_11 : decode cX4_say 11 = .ok (.putfield 255, 3) := by decide +kernel
theorem dX4_say_14 : decode cX4_say 14 = .ok (.return_, 1) := by decide +kernel
theorem dX4_sayIsland_0 : decode cX4_sayIsland 0 = .ok (.iconst 0, 1) := by decide +kernel
theorem dX4_sayIsland_1 : decode cX4_sayIsland 1 = .ok (.istore_n 2, 1) := by decide +kernel
theorem dX4_sayIsland_2 : decode cX4_sayIsland 2 = .ok (.iload_n 2, 1) := by decide +kernel
theorem dX4_sayIsland_3 : decode cX4_sayIsland 3 = .ok (.bipush 8, 2) := by decide +kernel
theorem dX4_sayIsland_5 : decode cX4_sayIsland 5 = .ok (.if_icmp .ge 20, 3) := by decide +kernel
theorem dX4_sayIsland_8 : decode cX4_sayIsland 8 = .ok (.aload_n 0, 1) := by decide +kernel
theorem dX4_sayIsland_9 : decode cX4_sayIsland 9 = .ok (.aload_n 0, 1) := by decide +kernel
theorem dX4_sayIsland_10 : decode cX4_sayIsland 10 = .ok (.iload_n 1, 1) := by decide +kernel
theorem dX4_sayIsland_11 : decode cX4_sayIsland 11 = .ok (.iload_n 2, 1) := by decide +kernel
theorem dX4_sayIsland_12 : decode cX4_sayIsland 12 = .ok (.invokevirtual 148, 3) := by decide +kernel
theorem dX4_sayIsland_15 : decode cX4_sayIsland 15 = .ok (.i2l, 1) := by decide +kernel
theorem dX4_sayIsland_16 : decode cX4_sayIsland 16 = .ok (.invokevirtual 259, 3) := by decide +kernel
theorem dX4_sayIsland_19 : decode cX4_sayIsland 19 = .ok (.iinc 2 1, 3) := by decide +kernel
theorem dX4_sayIsland_22 : decode cX4_sayIsland 22 = .ok (.goto (-20), 3) := by decide +kernel
theorem dX4_sayIsland_25 : decode cX4_sayIsland 25 = .ok (.iconst 0, 1) := by decide +kernel
theorem dX4_sayIsland_26 : decode cX4_sayIsland 26 = .ok (.istore_n 2, 1) := by decide +kernel
theorem dX4_sayIsland_27 : decode cX4_sayIsland 27 = .ok (.iload_n 2, 1) := by decide +kernel
theorem dX4_sayIsland_28 : decode cX4_sayIsland 28 = .ok (.aload_n 0, 1) := by decide +kernel
theorem dX4_sayIsland_29 : decode cX4_sayIsland 29 = .ok (.getfield 76, 3) := by decide +kernel
theorem dX4_sayIsland_32 : decode cX4_sayIsland 32 = .ok (.if_icmp .ge 28, 3) := by decide +kernel
theorem dX4_sayIsland_35 : decode cX4_sayIsland 35 = .ok (.iload_n 2, 1) := by decide +kernel
theorem dX4_sayIsland_36 : decode cX4_sayIsland 36 = .ok (.iload_n 1, 1) := by decide +kernel
theorem dX4_sayIsland_37 : decode cX4_sayIsland 37 = .ok (.if_icmp .eq 17, 3) := by decide +kernel
theorem dX4_sayIsland_40 : decode cX4_sayIsland 40 = .ok (.aload_n 0, 1) := by decide +kernel
theorem dX4_sayIsland_41 : decode cX4_sayIsland 41 = .ok (.aload_n 0, 1) := by decide +kernel
theorem dX4_sayIsland_42 : decode cX4_sayIsland 42 = .ok (.iload_n 1, 1) := by decide +kernel
theorem dX4_sayIsland_43 : decode cX4_sayIsland 43 = .ok (.iload_n 2, 1) := by decide +kernel
theorem dX4_sayIsland_44 : decode cX4_sayIsland 44 = .ok (.iconst 0, 1) := by decide +kernel
theorem dX4_sayIsland_45 : decode cX4_sayIsland 45 = .ok (.bipush 60, 2) := by decide +kernel
theorem dX4_sayIsland_47 : decode cX4_sayIsland 47 = .ok (.invokevirtual 157, 3) := by decide +kernel
theorem dX4_sayIsland_50 : decode cX4_sayIsland 50 = .ok (.i2l, 1) := by decide +kernel
theorem dX4_sayIsland_51 : decode cX4_sayIsland 51 = .ok (.invokevirtual 259, 3) := by decide +kernel
theorem dX4_sayIsland_54 : decode cX4_sayIsland 54 = .ok (.iinc 2 1, 3) := by decide +kernel
theorem dX4_sayIsland_57 : decode cX4_sayIsland 57 = .ok (.goto (-30), 3) := by decide +kernel
theorem dX4_sayIsland_60 : decode cX4_sayIsland 60 = .ok (.return_, 1) := by decide +kernel
theorem dX4_digest_0 : decode cX4_digest 0 = .ok (.aload_n 0, 1) := by decide +kernel
theorem dX4_digest_1 : decode cX4_digest 1 = .ok (.ldc2_w 263, 3) := by decide +kernel
theorem dX4_digest_4 : decode cX4_digest 4 = .ok (.putfield 255, 3) := by decide +kernel
theorem dX4_digest_7 : decode cX4_digest 7 = .ok (.iconst 0, 1) := by decide +kernel
theorem dX4_digest_8 : decode cX4_digest 8 = .ok (.istore_n 1, 1) := by decide +kernel
theorem dX4_digest_9 : decode cX4_digest 9 = .ok (.iload_n 1, 1) := by decide +kernel
theorem dX4_digest_10 : decode cX4_digest 10 = .ok (.bipush 12, 2) := by decide +kernel
theorem dX4_digest_12 : decode cX4_digest 12 = .ok (.if_icmp .ge 37, 3) := by decide +kernel
theorem dX4_digest_15 : decode cX4_digest 15 = .ok (.aload_n 0, 1) := by decide +kernel
theorem dX4_digest_16 : decode cX4_digest 16 = .ok (.getfield 63, 3) := by decide +kernel
theorem dX4_digest_19 : decode cX4_digest 19 = .ok (.ifCond .eq 30, 3) := by decide +kernel
theorem dX4_digest_22 : decode cX4_digest 22 = .ok (.aload_n 0, 1) := by decide +kernel
theorem dX4_digest_23 : decode cX4_digest 23 = .ok (.aload_n 0, 1) := by decide +kernel
theorem dX4_digest_24 : decode cX4_digest 24 = .ok (.getfield 13, 3) := by decide +kernel
theorem dX4_digest_27 : decode cX4_digest 27 = .ok (.iload_n 1, 1) := by decide +kernel
theorem dX4_digest_28 : decode cX4_digest 28 = .ok (.iaload, 1) := by decide +kernel
theorem dX4_digest_29 : decode cX4_digest 29 = .ok (.i2l, 1) := by decide +kernel
theorem dX4_digest_30 : decode cX4_digest 30 = .ok (.invokevirtual 259, 3) := by decide +kernel
theorem dX4_digest_33 : decode cX4_digest 33 = .ok (.aload_n 0, 1) := by decide +kernel
theorem dX4_digest_34 : decode cX4_digest 34 = .ok (.aload_n 0, 1) := by decide +kernel
theorem dX4_digest_35 : decode cX4_digest 35 = .ok (.iload_n 1, 1) := by decide +kernel
theorem dX4_digest_36 : decode cX4_digest 36 = .ok (.invokevirtual 97, 3) := by decide +kernel
theorem dX4_digest_39 : decode cX4_digest 39 = .ok (.i2l, 1) := by decide +kernel
theorem dX4_digest_40 : decode cX4_digest 40 = .ok (.invokevirtual 259, 3) := by decide +kernel
theorem dX4_digest_43 : decode cX4_digest 43 = .ok (.iinc 1 1, 3) := by decide +kernel
theorem dX4_digest_46 : decode cX4_digest 46 = .ok (.goto (-37), 3) := by decide +kernel
theorem dX4_digest_49 : decode cX4_digest 49 = .ok (.iconst 0, 1) := by decide +kernel
theorem dX4_digest_50 : decode cX4_digest 50 = .ok (.istore_n 1, 1) := by decide +kernel
theorem dX4_digest_51 : decode cX4_digest 51 = .ok (.iload_n 1, 1) := by decide +kernel
theorem dX4_digest_52 : decode cX4_digest 52 = .ok (.aload_n 0, 1) := by decide +kernel
theorem dX4_digest_53 : decode cX4_digest 53 = .ok (.getfield 76, 3) := by decide +kernel
theorem dX4_digest_56 : decode cX4_digest 56 = .ok (.if_icmp .ge 14, 3) := by decide +kernel
theorem dX4_digest_59 : decode cX4_digest 59 = .ok (.aload_n 0, 1) := by decide +kernel
theorem dX4_digest_60 : decode cX4_digest 60 = .ok (.iload_n 1, 1) := by decide +kernel
theorem dX4_digest_61 : decode cX4_digest 61 = .ok (.invokevirtual 265, 3) := by decide +kernel
theorem dX4_digest_64 : decode cX4_digest 64 = .ok (.iinc 1 1, 3) := by decide +kernel
theorem dX4_digest_67 : decode cX4_digest 67 = .ok (.goto (-16), 3) := by decide +kernel
theorem dX4_digest_70 : decode cX4_digest 70 = .ok (.aload_n 0, 1) := by decide +kernel
theorem dX4_digest_71 : decode cX4_digest 71 = .ok (.getfield 63, 3) := by decide +kernel
theorem dX4_digest_74 : decode cX4_digest 74 = .ok (.ifCond .eq 42, 3) := by decide +kernel
theorem dX4_digest_77 : decode cX4_digest 77 = .ok (.aload_n 0, 1) := by decide +kernel
theorem dX4_digest_78 : decode cX4_digest 78 = .ok (.invokevirtual 197, 3) := by decide +kernel
theorem dX4_digest_81 : decode cX4_digest 81 = .ok (.iconst 0, 1) := by decide +kernel
theorem dX4_digest_82 : decode cX4_digest 82 = .ok (.istore_n 1, 1) := by decide +kernel
theorem dX4_digest_83 : decode cX4_digest 83 = .ok (.iload_n 1, 1) := by decide +kernel
theorem dX4_digest_84 : decode cX4_digest 84 = .ok (.bipush 15, 2) := by decide +kernel
theorem dX4_digest_86 : decode cX4_digest 86 = .ok (.if_icmp .ge 30, 3) := by decide +kernel
theorem dX4_digest_89 : decode cX4_digest 89 = .ok (.iload_n 1, 1) := by decide +kernel
theorem dX4_digest_90 : decode cX4_digest 90 = .ok (.iconst 2, 1) := by decide +kernel
theorem dX4_digest_91 : decode cX4_digest 91 = .ok (.if_icmp .lt 9, 3) := by decide +kernel
theorem dX4_digest_94 : decode cX4_digest 94 = .ok (.iload_n 1, 1) := by decide +kernel
theorem dX4_digest_95 : decode cX4_digest 95 = .ok (.bipush 9, 2) := by decide +kernel
theorem dX4_digest_97 : decode cX4_digest 97 = .ok (.if_icmp .le 13, 3) := by decide +kernel
theorem dX4_digest_100 : decode cX4_digest 100 = .ok (.aload_n 0, 1) := by decide +kernel
theorem dX4_digest_101 : decode cX4_digest 101 = .ok (.aload_n 0, 1) := by decide +kernel
theorem dX4_digest_102 : decode cX4_digest 102 = .ok (.iload_n 1, 1) := by decide +kernel
theorem dX4_digest_103 : decode cX4_digest 103 = .ok (.invokevirtual 200, 3) := by decide +kernel
theorem dX4_digest_106 : decode cX4_digest 106 = .ok (.i2l, 1) := by decide +kernel
theorem dX4_digest_107 : decode cX4_digest 107 = .ok (.invokevirtual 259, 3) := by decide +kernel
theorem dX4_digest_110 : decode cX4_digest 110 = .ok (.iinc 1 1, 3) := by decide +kernel
theorem dX4_digest_113 : decode cX4_digest 113 = .ok (.goto (-30), 3) := by decide +kernel
theorem dX4_digest_116 : decode cX4_digest 116 = .ok (.iconst 0, 1) := by decide +kernel
theorem dX4_digest_117 : decode cX4_digest 117 = .ok (.istore_n 1, 1) := by decide +kernel
theorem dX4_digest_118 : decode cX4_digest 118 = .ok (.iload_n 1, 1) := by decide +kernel
theorem dX4_digest_119 : decode cX4_digest 119 = .ok (.aload_n 0, 1) := by decide +kernel
theorem dX4_digest_120 : decode cX4_digest 120 = .ok (.getfield 56, 3) := by decide +kernel
theorem dX4_digest_123 : decode cX4_digest 123 = .ok (.if_icmp .ge 20, 3) := by decide +kernel
theorem dX4_digest_126 : decode cX4_digest 126 = .ok (.aload_n 0, 1) := by decide +kernel
theorem dX4_digest_127 : decode cX4_digest 127 = .ok (.aload_n 0, 1) := by decide +kernel
theorem dX4_digest_128 : decode cX4_digest 128 = .ok (.getfield 7, 3) := by decide +kernel
theorem dX4_digest_131 : decode cX4_digest 131 = .ok (.iload_n 1, 1) := by decide +kernel
theorem dX4_digest_132 : decode cX4_digest 132 = .ok (.iaload, 1) := by decide +kernel
theorem dX4_digest_133 : decode cX4_digest 133 = .ok (.i2l, 1) := by decide +kernel
theorem dX4_digest_134 : decode cX4_digest 134 = .ok (.invokevirtual 259, 3) := by decide +kernel
theorem dX4_digest_137 : decode cX4_digest 137 = .ok (.iinc 1 1, 3) := by decide +kernel
theorem dX4_digest_140 : decode cX4_digest 140 = .ok (.goto (-22), 3) := by decide +kernel
theorem dX4_digest_143 : decode cX4_digest 143 = .ok (.iconst 0, 1) := by decide +kernel
theorem dX4_digest_144 : decode cX4_digest 144 = .ok (.istore_n 1, 1) := by decide +kernel
theorem dX4_digest_145 : decode cX4_digest 145 = .ok (.iload_n 1, 1) := by decide +kernel
theorem dX4_digest_146 : decode cX4_digest 146 = .ok (.bipush 12, 2) := by decide +kernel
theorem dX4_digest_148 : decode cX4_digest 148 = .ok (.if_icmp .ge 19, 3) := by decide +kernel
theorem dX4_digest_151 : decode cX4_digest 151 = .ok (.aload_n 0, 1) := by decide +kernel
theorem dX4_digest_152 : decode cX4_digest 152 = .ok (.aload_n 0, 1) := by decide +kernel
theorem dX4_digest_153 : decode cX4_digest 153 = .ok (.iload_n 1, 1) := by decide +kernel
theorem dX4_digest_154 : decode cX4_digest 154 = .ok (.invokevirtual 250, 3) := by decide +kernel
theorem dX4_digest_157 : decode cX4_digest 157 = .ok (.i2l, 1) := by decide +kernel
theorem dX4_digest_158 : decode cX4_digest 158 = .ok (.invokevirtual 259, 3) := by decide +kernel
theorem dX4_digest_161 : decode cX4_digest 161 = .ok (.iinc 1 1, 3) := by decide +kernel
theorem dX4_digest_164 : decode cX4_digest 164 = .ok (.goto (-19), 3) := by decide +kernel
theorem dX4_digest_167 : decode cX4_digest 167 = .ok (.aload_n 0, 1) := by decide +kernel
theorem dX4_digest_168 : decode cX4_digest 168 = .ok (.getfield 255, 3) := by decide +kernel
theorem dX4_digest_171 : decode cX4_digest 171 = .ok (.lreturn, 1) := by decide +kernel
end
section
theorem dL_law_0 : decode cL_law 0 = .ok (.new 7, 3) := by decide +kernel
theorem dL_law_3 : decode cL_law 3 = .ok (.dup, 1) := by decide +kernel
theorem dL_law_4 : decode cL_law 4 = .ok (.invokespecial 9, 3) := by decide +kernel
theorem dL_law_7 : decode cL_law 7 = .ok (.astore_n 1, 1) := by decide +kernel
theorem dL_law_8 : decode cL_law 8 = .ok (.new 10, 3) := by decide +kernel
theorem dL_law_11 : decode cL_law 11 = .ok (.dup, 1) := by decide +kernel
theorem dL_law_12 : decode cL_law 12 = .ok (.invokespecial 12, 3) := by decide +kernel
theorem dL_law_15 : decode cL_law 15 = .ok (.astore_n 2, 1) := by decide +kernel
theorem dL_law_16 : decode cL_law 16 = .ok (.iconst 0, 1) := by decide +kernel
theorem dL_law_17 : decode cL_law 17 = .ok (.istore_n 3, 1) := by decide +kernel
theorem dL_law_18 : decode cL_law 18 = .ok (.iload_n 3, 1) := by decide +kernel
theorem dL_law_19 : decode cL_law 19 = .ok (.aload_n 0, 1) := by decide +kernel
theorem dL_law_20 : decode cL_law 20 = .ok (.arraylength, 1) := by decide +kernel
theorem dL_law_21 : decode cL_law 21 = .ok (.iconst 5, 1) := by decide +kernel
theorem dL_law_22 : decode cL_law 22 = .ok (.isub, 1) := by decide +kernel
theorem dL_law_23 : decode cL_law 23 = .ok (.if_icmp .gt 849, 3) := by decide +kernel
theorem dL_law_26 : decode cL_law 26 = .ok (.aload_n 0, 1) := by decide +kernel
theorem dL_law_27 : decode cL_law 27 = .ok (.iload_n 3, 1) := by decide +kernel
theorem dL_law_28 : decode cL_law 28 = .ok (.iaload, 1) := by decide +kernel
theorem dL_law_29 : decode cL_law 29 = .ok (.bipush 31, 2) := by decide +kernel
theorem dL_law_31 : decode cL_law 31 = .ok (.iand, 1) := by decide +kernel
theorem dL_law_32 : decode cL_law 32 = .ok (.tableswitch 834 0 24 #[116, 139, 152, 165, 178, 211, 234, 277, 310, 343, 392, 425, 458, 471, 504, 557, 580, 613, 682, 695, 728, 771, 784, 797, 820], 116) := by decide +kernel
theorem dL_law_148 : decode cL_law 148 = .ok (.aload_n 1, 1) := by decide +kernel
theorem dL_law_149 : decode cL_law 149 = .ok (.aload_n 0, 1) := by decide +kernel
theorem dL_law_150 : decode cL_law 150 = .ok (.iload_n 3, 1) := by decide +kernel
theorem dL_law_151 : decode cL_law 151 = .ok (.iconst 1, 1) := by decide +kernel
theorem dL_law_152 : decode cL_law 152 = .ok (.iadd, 1) := by decide +kernel
theorem dL_law_153 : decode cL_law 153 = .ok (.iaload, 1) := by decide +kernel
theorem dL_law_154 : decode cL_law 154 = .ok (.invokevirtual 13, 3) := by decide +kernel
theorem dL_law_157 : decode cL_law 157 = .ok (.aload_n 2, 1) := by decide +kernel
theorem dL_law_158 : decode cL_law 158 = .ok (.aload_n 0, 1) := by decide +kernel
theorem dL_law_159 : decode cL_law 159 = .ok (.iload_n 3, 1) := by decide +kernel
theorem dL_law_160 : decode cL_law 160 = .ok (.iconst 1, 1) := by decide +kernel
theorem dL_law_161 : decode cL_law 161 = .ok (.iadd, 1) := by decide +kernel
theorem dL_law_162 : decode cL_law 162 = .ok (.iaload, 1) := by decide +kernel
theorem dL_law_163 : decode cL_law 163 = .ok (.invokevirtual 17, 3) := by decide +kernel
theorem dL_law_166 : decode cL_law 166 = .ok (.if_icmp .eq 700, 3) := by decide +kernel
theorem dL_law_169 : decode cL_law 169 = .ok (.iconst 0, 1) := by decide +kernel
theorem dL_law_170 : decode cL_law 170 = .ok (.ireturn, 1) := by decide +kernel
theorem dL_law_171 : decode cL_law 171 = .ok (.aload_n 1, 1) := by decide +kernel
theorem dL_law_172 : decode cL_law 172 = .ok (.invokevirtual 18, 3) := by decide +kernel
theorem dL_law_175 : decode cL_law 175 = .ok (.aload_n 2, 1) := by decide +kernel
theorem dL_law_176 : decode cL_law 176 = .ok (.invokevirtual 22, 3) := by decide +kernel
theorem dL_law_179 : decode cL_law 179 = .ok (.if_icmp .eq 687, 3) := by decide +kernel
theorem dL_law_182 : decode cL_law 182 = .ok (.iconst 0, 1) := by decide +kernel
theorem dL_law_183 : decode cL_law 183 = .ok (.ireturn, 1) := by decide +kernel
theorem dL_law_184 : decode cL_law 184 = .ok (.aload_n 1, 1) := by decide +kernel
theorem dL_law_185 : decode cL_law 185 = .ok (.invokevirtual 23, 3) := by decide +kernel
theorem dL_law_188 : decode cL_law 188 = .ok (.aload_n 2, 1) := by decide +kernel
theorem dL_law_189 : decode cL_law 189 = .ok (.invokevirtual 26, 3) := by decide +kernel
theorem dL_law_192 : decode cL_law 192 = .ok (.if_icmp .eq 674, 3) := by decide +kernel
theorem dL_law_195 : decode cL_law 195 = .ok (.iconst 0, 1) := by decide +kernel
theorem dL_law_196 : decode cL_law 196 = .ok (.ireturn, 1) := by decide +kernel
theorem dL_law_197 : decode cL_law 197 = .ok (.aload_n 1, 1) := by decide +kernel
theorem dL_law_198 : decode cL_law 198 = .ok (.invokevirtual 27, 3) := by decide +kernel
theorem dL_law_201 : decode cL_law 201 = .ok (.aload_n 2, 1) := by decide +kernel
theorem dL_law_202 : decode cL_law 202 = .ok (.invokevirtual 30, 3) := by decide +kernel
theorem dL_law_205 : decode cL_law 205 = .ok (.if_icmp .eq 661, 3) := by decide +kernel
theorem dL_law_208 : decode cL_law 208 = .ok (.iconst 0, 1) := by decide +kernel
theorem dL_law_209 : decode cL_law 209 = .ok (.ireturn, 1) := by decide +kernel
theorem dL_law_210 : decode cL_law 210 = .ok (.aload_n 1, 1) := by decide +kernel
theorem dL_law_211 : decode cL_law 211 = .ok (.aload_n 0, 1) := by decide +kernel
theorem dL_law_212 : decode cL_law 212 = .ok (.iload_n 3, 1) := by decide +kernel
theorem dL_law_213 : decode cL_law 213 = .ok (.iconst 1, 1) := by decide +kernel
theorem dL_law_214 : decode cL_law 214 = .ok (.iadd, 1) := by decide +kernel
theorem dL_law_215 : decode cL_law 215 = .ok (.iaload, 1) := by decide +kernel
theorem dL_law_216 : decode cL_law 216 = .ok (.aload_n 0, 1) := by decide +kernel
theorem dL_law_217 : decode cL_law 217 = .ok (.iload_n 3, 1) := by decide +kernel
theorem dL_law_218 : decode cL_law 218 = .ok (.iconst 2, 1) := by decide +kernel
theorem dL_law_219 : decode cL_law 219 = .ok (.iadd, 1) := by decide +kernel
theorem dL_law_220 : decode cL_law 220 = .ok (.iaload, 1) := by decide +kernel
theorem dL_law_221 : decode cL_law 221 = .ok (.invokevirtual 31, 3) := by decide +kernel
theorem dL_law_224 : decode cL_law 224 = .ok (.aload_n 2, 1) := by decide +kernel
theorem dL_law_225 : decode cL_law 225 = .ok (.aload_n 0, 1) := by decide +kernel
theorem dL_law_226 : decode cL_law 226 = .ok (.iload_n 3, 1) := by decide +kernel
theorem dL_law_227 : decode cL_law 227 = .ok (.iconst 1, 1) := by decide +kernel
theorem dL_law_228 : decode cL_law 228 = .ok (.iadd, 1) := by decide +kernel
theorem dL_law_229 : decode cL_law 229 = .ok (.iaload, 1) := by decide +kernel
theorem dL_law_230 : decode cL_law 230 = .ok (.aload_n 0, 1) := by decide +kernel
theorem dL_law_231 : decode cL_law 231 = .ok (.iload_n 3, 1) := by decide +kernel
theorem dL_law_232 : decode cL_law 232 = .ok (.iconst 2, 1) := by decide +kernel
theorem dL_law_233 : decode cL_law 233 = .ok (.iadd, 1) := by decide +kernel
theorem dL_law_234 : decode cL_law 234 = .ok (.iaload, 1) := by decide +kernel
theorem dL_law_235 : decode cL_law 235 = .ok (.invokevirtual 35, 3) := by decide +kernel
theorem dL_law_238 : decode cL_law 238 = .ok (.if_icmp .eq 628, 3) := by decide +kernel
theorem dL_law_241 : decode cL_law 241 = .ok (.iconst 0, 1) := by decide +kernel
theorem dL_law_242 : decode cL_law 242 = .ok (.ireturn, 1) := by decide +kernel
theorem dL_law_243 : decode cL_law 243 = .ok (.aload_n 1, 1) := by decide +kernel
theorem dL_law_244 : decode cL_law 244 = .ok (.aload_n 0, 1) := by decide +kernel
theorem dL_law_245 : decode cL_law 245 = .ok (.iload_n 3, 1) := by decide +kernel
theorem dL_law_246 : decode cL_law 246 = .ok (.iconst 1, 1) := by decide +kernel
theorem dL_law_247 : decode cL_law 247 = .ok (.iadd, 1) := by decide +kernel
theorem dL_law_248 : decode cL_law 248 = .ok (.iaload, 1) := by decide +kernel
theorem dL_law_249 : decode cL_law 249 = .ok (.invokevirtual 36, 3) := by decide +kernel
theorem dL_law_252 : decode cL_law 252 = .ok (.aload_n 2, 1) := by decide +kernel
theorem dL_law_253 : decode cL_law 253 = .ok (.aload_n 0, 1) := by decide +kernel
theorem dL_law_254 : decode cL_law 254 = .ok (.iload_n 3, 1) := by decide +kernel
theorem dL_law_255 : decode cL_law 255 = .ok (.iconst 1, 1) := by decide +kernel
theorem dL_law_256 : decode cL_law 256 = .ok (.iadd, 1) := by decide +kernel
theorem dL_law_257 : decode cL_law 257 = .ok (.iaload, 1) := by decide +kernel
theorem dL_law_258 : decode cL_law 258 = .ok (.invokevirtual 39, 3) := by decide +kernel
theorem dL_law_261 : decode cL_law 261 = .ok (.if_icmp .eq 605, 3) := by decide +kernel
theorem dL_law_264 : decode cL_law 264 = .ok (.iconst 0, 1) := by decide +kernel
theorem dL_law_265 : decode cL_law 265 = .ok (.ireturn, 1) := by decide +kernel
theorem dL_law_266 : decode cL_law 266 = .ok (.aload_n 1, 1) := by decide +kernel
theorem dL_law_267 : decode cL_law 267 = .ok (.aload_n 0, 1) := by decide +kernel
theorem dL_law_268 : decode cL_law 268 = .ok (.iload_n 3, 1) := by decide +kernel
theorem dL_law_269 : decode cL_law 269 = .ok (.iconst 1, 1) := by decide +kernel
theorem dL_law_270 : decode cL_law 270 = .ok (.iadd, 1) := by decide +kernel
theorem dL_law_271 : decode cL_law 271 = .ok (.iaload, 1) := by decide +kernel
theorem dL_law_272 : decode cL_law 272 = .ok (.aload_n 0, 1) := by decide +kernel
theorem dL_law_273 : decode cL_law 273 = .ok (.iload_n 3, 1) := by decide +kernel
theorem dL_law_274 : decode cL_law 274 = .ok (.iconst 2, 1) := by decide +kernel
theorem dL_law_275 : decode cL_law 275 = .ok (.iadd, 1) := by decide +kernel
theorem dL_law_276 : decode cL_law 276 = .ok (.iaload, 1) := by decide +kernel
theorem dL_law_277 : decode cL_law 277 = .ok (.aload_n 0, 1) := by decide +kernel
theorem dL_law_278 : decode cL_law 278 = .ok (.iload_n 3, 1) := by decide +kernel
theorem dL_law_279 : decode cL_law 279 = .ok (.iconst 3, 1) := by decide +kernel
theorem dL_law_280 : decode cL_law 280 = .ok (.iadd, 1) := by decide +kernel
theorem dL_law_281 : decode cL_law 281 = .ok (.iaload, 1) := by decide +kernel
theorem dL_law_282 : decode cL_law 282 = .ok (.invokevirtual 40, 3) := by decide +kernel
theorem dL_law_285 : decode cL_law 285 = .ok (.aload_n 2, 1) := by decide +kernel
theorem dL_law_286 : decode cL_law 286 = .ok (.aload_n 0, 1) := by decide +kernel
theorem dL_law_287 : decode cL_law 287 = .ok (.iload_n 3, 1) := by decide +kernel
theorem dL_law_288 : decode cL_law 288 = .ok (.iconst 1, 1) := by decide +kernel
theorem dL_law_289 : decode cL_law 289 = .ok (.iadd, 1) := by decide +kernel
theorem dL_law_290 : decode cL_law 290 = .ok (.iaload, 1) := by decide +kernel
theorem dL_law_291 : decode cL_law 291 = .ok (.aload_n 0, 1) := by decide +kernel
theorem dL_law_292 : decode cL_law 292 = .ok (.iload_n 3, 1) := by decide +kernel
theorem dL_law_293 : decode cL_law 293 = .ok (.iconst 2, 1) := by decide +kernel
theorem dL_law_294 : decode cL_law 294 = .ok (.iadd, 1) := by decide +kernel
theorem dL_law_295 : decode cL_law 295 = .ok (.iaload, 1) := by decide +kernel
theorem dL_law_296 : decode cL_law 296 = .ok (.aload_n 0, 1) := by decide +kernel
theorem dL_law_297 : decode cL_law 297 = .ok (.iload_n 3, 1) := by decide +kernel
theorem dL_law_298 : decode cL_law 298 = .ok (.iconst 3, 1) := by decide +kernel
theorem dL_law_299 : decode cL_law 299 = .ok (.iadd, 1) := by decide +kernel
theorem dL_law_300 : decode cL_law 300 = .ok (.iaload, 1) := by decide +kernel
theorem dL_law_301 : decode cL_law 301 = .ok (.invokevirtual 44, 3) := by decide +kernel
theorem dL_law_304 : decode cL_law 304 = .ok (.if_icmp .eq 562, 3) := by decide +kernel
theorem dL_law_307 : decode cL_law 307 = .ok (.iconst 0, 1) := by decide +kernel
theorem dL_law_308 : decode cL_law 308 = .ok (.ireturn, 1) := by decide +kernel
theorem dL_law_309 : decode cL_law 309 = .ok (.aload_n 1, 1) := by decide +kernel
theorem dL_law_310 : decode cL_law 310 = .ok (.aload_n 0, 1) := by decide +kernel
theorem dL_law_311 : decode cL_law 311 = .ok (.iload_n 3, 1) := by decide +kernel
theorem dL_law_312 : decode cL_law 312 = .ok (.iconst 1, 1) := by decide +kernel
theorem dL_law_313 : decode cL_law 313 = .ok (.iadd, 1) := by decide +kernel
theorem dL_law_314 : decode cL_law 314 = .ok (.iaload, 1) := by decide +kernel
theorem dL_law_315 : decode cL_law 315 = .ok (.aload_n 0, 1) := by decide +kernel
theorem dL_law_316 : decode cL_law 316 = .ok (.iload_n 3, 1) := by decide +kernel
theorem dL_law_317 : decode cL_law 317 = .ok (.iconst 2, 1) := by decide +kernel
theorem dL_law_318 : decode cL_law 318 = .ok (.iadd, 1) := by decide +kernel
theorem dL_law_319 : decode cL_law 319 = .ok (.iaload, 1) := by decide +kernel
theorem dL_law_320 : decode cL_law 320 = .ok (.invokevirtual 45, 3) := by decide +kernel
theorem dL_law_323 : decode cL_law 323 = .ok (.aload_n 2, 1) := by decide +kernel
theorem dL_law_324 : decode cL_law 324 = .ok (.aload_n 0, 1) := by decide +kernel
theorem dL_law_325 : decode cL_law 325 = .ok (.iload_n 3, 1) := by decide +kernel
theorem dL_law_326 : decode cL_law 326 = .ok (.iconst 1, 1) := by decide +kernel
theorem dL_law_327 : decode cL_law 327 = .ok (.iadd, 1) := by decide +kernel
theorem dL_law_328 : decode cL_law 328 = .ok (.iaload, 1) := by decide +kernel
theorem dL_law_329 : decode cL_law 329 = .ok (.aload_n 0, 1) := by decide +kernel
theorem dL_law_330 : decode cL_law 330 = .ok (.iload_n 3, 1) := by decide +kernel
theorem dL_law_331 : decode cL_law 331 = .ok (.iconst 2, 1) := by decide +kernel
theorem dL_law_332 : decode cL_law 332 = .ok (.iadd, 1) := by decide +kernel
theorem dL_law_333 : decode cL_law 333 = .ok (.iaload, 1) := by decide +kernel
theorem dL_law_334 : decode cL_law 334 = .ok (.invokevirtual 48, 3) := by decide +kernel
theorem dL_law_337 : decode cL_law 337 = .ok (.if_icmp .eq 529, 3) := by decide +kernel
theorem dL_law_340 : decode cL_law 340 = .ok (.iconst 0, 1) := by decide +kernel
theorem dL_law_341 : decode cL_law 341 = .ok (.ireturn, 1) := by decide +kernel
theorem dL_law_342 : decode cL_law 342 = .ok (.aload_n 1, 1) := by decide +kernel
theorem dL_law_343 : decode cL_law 343 = .ok (.aload_n 0, 1) := by decide +kernel
theorem dL_law_344 : decode cL_law 344 = .ok (.iload_n 3, 1) := by decide +kernel
theorem dL_law_345 : decode cL_law 345 = .ok (.iconst 1, 1) := by decide +kernel
theorem dL_law_346 : decode cL_law 346 = .ok (.iadd, 1) := by decide +kernel
theorem dL_law_347 : decode cL_law 347 = .ok (.iaload, 1) := by decide +kernel
theorem dL_law_348 : decode cL_law 348 = .ok (.aload_n 0, 1) := by decide +kernel
theorem dL_law_349 : decode cL_law 349 = .ok (.iload_n 3, 1) := by decide +kernel
theorem dL_law_350 : decode cL_law 350 = .ok (.iconst 2, 1) := by decide +kernel
theorem dL_law_351 : decode cL_law 351 = .ok (.iadd, 1) := by decide +kernel
theorem dL_law_352 : decode cL_law 352 = .ok (.iaload, 1) := by decide +kernel
theorem dL_law_353 : decode cL_law 353 = .ok (.invokevirtual 49, 3) := by decide +kernel
theorem dL_law_356 : decode cL_law 356 = .ok (.aload_n 2, 1) := by decide +kernel
theorem dL_law_357 : decode cL_law 357 = .ok (.aload_n 0, 1) := by decide +kernel
theorem dL_law_358 : decode cL_law 358 = .ok (.iload_n 3, 1) := by decide +kernel
theorem dL_law_359 : decode cL_law 359 = .ok (.iconst 1, 1) := by decide +kernel
theorem dL_law_360 : decode cL_law 360 = .ok (.iadd, 1) := by decide +kernel
theorem dL_law_361 : decode cL_law 361 = .ok (.iaload, 1) := by decide +kernel
theorem dL_law_362 : decode cL_law 362 = .ok (.aload_n 0, 1) := by decide +kernel
theorem dL_law_363 : decode cL_law 363 = .ok (.iload_n 3, 1) := by decide +kernel
theorem dL_law_364 : decode cL_law 364 = .ok (.iconst 2, 1) := by decide +kernel
theorem dL_law_365 : decode cL_law 365 = .ok (.iadd, 1) := by decide +kernel
theorem dL_law_366 : decode cL_law 366 = .ok (.iaload, 1) := by decide +kernel
theorem dL_law_367 : decode cL_law 367 = .ok (.invokevirtual 52, 3) := by decide +kernel
theorem dL_law_370 : decode cL_law 370 = .ok (.if_icmp .eq 496, 3) := by decide +kernel
theorem dL_law_373 : decode cL_law 373 = .ok (.iconst 0, 1) := by decide +kernel
theorem dL_law_374 : decode cL_law 374 = .ok (.ireturn, 1) := by decide +kernel
theorem dL_law_375 : decode cL_law 375 = .ok (.aload_n 1, 1) := by decide +kernel
theorem dL_law_376 : decode cL_law 376 = .ok (.aload_n 0, 1) := by decide +kernel
theorem dL_law_377 : decode cL_law 377 = .ok (.iload_n 3, 1) := by decide +kernel
theorem dL_law_378 : decode cL_law 378 = .ok (.iconst 1, 1) := by decide +kernel
theorem dL_law_379 : decode cL_law 379 = .ok (.iadd, 1) := by decide +kernel
theorem dL_law_380 : decode cL_law 380 = .ok (.iaload, 1) := by decide +kernel
theorem dL_law_381 : decode cL_law 381 = .ok (.aload_n 0, 1) := by decide +kernel
theorem dL_law_382 : decode cL_law 382 = .ok (.iload_n 3, 1) := by decide +kernel
theorem dL_law_383 : decode cL_law 383 = .ok (.iconst 2, 1) := by decide +kernel
theorem dL_law_384 : decode cL_law 384 = .ok (.iadd, 1) := by decide +kernel
theorem dL_law_385 : decode cL_law 385 = .ok (.iaload, 1) := by decide +kernel
theorem dL_law_386 : decode cL_law 386 = .ok (.ifCond .eq 7, 3) := by decide +kernel
theorem dL_law_389 : decode cL_law 389 = .ok (.iconst 1, 1) := by decide +kernel
theorem dL_law_390 : decode cL_law 390 = .ok (.goto 4, 3) := by decide +kernel
theorem dL_law_393 : decode cL_law 393 = .ok (.iconst 0, 1) := by decide +kernel
theorem dL_law_394 : decode cL_law 394 = .ok (.invokevirtual 53, 3) := by decide +kernel
theorem dL_law_397 : decode cL_law 397 = .ok (.aload_n 2, 1) := by decide +kernel
theorem dL_law_398 : decode cL_law 398 = .ok (.aload_n 0, 1) := by decide +kernel
theorem dL_law_399 : decode cL_law 399 = .ok (.iload_n 3, 1) := by decide +kernel
theorem dL_law_400 : decode cL_law 400 = .ok (.iconst 1, 1) := by decide +kernel
theorem dL_law_401 : decode cL_law 401 = .ok (.iadd, 1) := by decide +kernel
theorem dL_law_402 : decode cL_law 402 = .ok (.iaload, 1) := by decide +kernel
theorem dL_law_403 : decode cL_law 403 = .ok (.aload_n 0, 1) := by decide +kernel
theorem dL_law_404 : decode cL_law 404 = .ok (.iload_n 3, 1) := by decide +kernel
theorem dL_law_405 : decode cL_law 405 = .ok (.iconst 2, 1) := by decide +kernel
theorem dL_law_406 : decode cL_law 406 = .ok (.iadd, 1) := by decide +kernel
theorem dL_law_407 : decode cL_law 407 = .ok (.iaload, 1) := by decide +kernel
theorem dL_law_408 : decode cL_law 408 = .ok (.ifCond .eq 7, 3) := by decide +kernel
theorem dL_law_411 : decode cL_law 411 = .ok (.iconst 1, 1) := by decide +kernel
theorem dL_law_412 : decode cL_law 412 = .ok (.goto 4, 3) := by decide +kernel
theorem dL_law_415 : decode cL_law 415 = .ok (.iconst 0, 1) := by decide +kernel
theorem dL_law_416 : decode cL_law 416 = .ok (.invokevirtual 57, 3) := by decide +kernel
theorem dL_law_419 : decode cL_law 419 = .ok (.if_icmp .eq 447, 3) := by decide +kernel
theorem dL_law_422 : decode cL_law 422 = .ok (.iconst 0, 1) := by decide +kernel
theorem dL_law_423 : decode cL_law 423 = .ok (.ireturn, 1) := by decide +kernel
theorem dL_law_424 : decode cL_law 424 = .ok (.aload_n 1, 1) := by decide +kernel
theorem dL_law_425 : decode cL_law 425 = .ok (.aload_n 0, 1) := by decide +kernel
theorem dL_law_426 : decode cL_law 426 = .ok (.iload_n 3, 1) := by decide +kernel
theorem dL_law_427 : decode cL_law 427 = .ok (.iconst 1, 1) := by decide +kernel
theorem dL_law_428 : decode cL_law 428 = .ok (.iadd, 1) := by decide +kernel
theorem dL_law_429 : decode cL_law 429 = .ok (.iaload, 1) := by decide +kernel
theorem dL_law_430 : decode cL_law 430 = .ok (.aload_n 0, 1) := by decide +kernel
theorem dL_law_431 : decode cL_law 431 = .ok (.iload_n 3, 1) := by decide +kernel
theorem dL_law_432 : decode cL_law 432 = .ok (.iconst 2, 1) := by decide +kernel
theorem dL_law_433 : decode cL_law 433 = .ok (.iadd, 1) := by decide +kernel
theorem dL_law_434 : decode cL_law 434 = .ok (.iaload, 1) := by decide +kernel
theorem dL_law_435 : decode cL_law 435 = .ok (.invokevirtual 58, 3) := by decide +kernel
theorem dL_law_438 : decode cL_law 438 = .ok (.aload_n 2, 1) := by decide +kernel
theorem dL_law_439 : decode cL_law 439 = .ok (.aload_n 0, 1) := by decide +kernel
theorem dL_law_440 : decode cL_law 440 = .ok (.iload_n 3, 1) := by decide +kernel
theorem dL_law_441 : decode cL_law 441 = .ok (.iconst 1, 1) := by decide +kernel
theorem dL_law_442 : decode cL_law 442 = .ok (.iadd, 1) := by decide +kernel
theorem dL_law_443 : decode cL_law 443 = .ok (.iaload, 1) := by decide +kernel
theorem dL_law_444 : decode cL_law 444 = .ok (.aload_n 0, 1) := by decide +kernel
theorem dL_law_445 : decode cL_law 445 = .ok (.iload_n 3, 1) := by decide +kernel
theorem dL_law_446 : decode cL_law 446 = .ok (.iconst 2, 1) := by decide +kernel
theorem dL_law_447 : decode cL_law 447 = .ok (.iadd, 1) := by decide +kernel
theorem dL_law_448 : decode cL_law 448 = .ok (.iaload, 1) := by decide +kernel
theorem dL_law_449 : decode cL_law 449 = .ok (.invokevirtual 61, 3) := by decide +kernel
theorem dL_law_452 : decode cL_law 452 = .ok (.if_icmp .eq 414, 3) := by decide +kernel
theorem dL_law_455 : decode cL_law 455 = .ok (.iconst 0, 1) := by decide +kernel
theorem dL_law_456 : decode cL_law 456 = .ok (.ireturn, 1) := by decide +kernel
theorem dL_law_457 : decode cL_law 457 = .ok (.aload_n 1, 1) := by decide +kernel
theorem dL_law_458 : decode cL_law 458 = .ok (.aload_n 0, 1) := by decide +kernel
theorem dL_law_459 : decode cL_law 459 = .ok (.iload_n 3, 1) := by decide +kernel
theorem dL_law_460 : decode cL_law 460 = .ok (.iconst 1, 1) := by decide +kernel
theorem dL_law_461 : decode cL_law 461 = .ok (.iadd, 1) := by decide +kernel
theorem dL_law_462 : decode cL_law 462 = .ok (.iaload, 1) := by decide +kernel
theorem dL_law_463 : decode cL_law 463 = .ok (.aload_n 0, 1) := by decide +kernel
theorem dL_law_464 : decode cL_law 464 = .ok (.iload_n 3, 1) := by decide +kernel
theorem dL_law_465 : decode cL_law 465 = .ok (.iconst 2, 1) := by decide +kernel
theorem dL_law_466 : decode cL_law 466 = .ok (.iadd, 1) := by decide +kernel
theorem dL_law_467 : decode cL_law 467 = .ok (.iaload, 1) := by decide +kernel
theorem dL_law_468 : decode cL_law 468 = .ok (.invokevirtual 62, 3) := by decide +kernel
theorem dL_law_471 : decode cL_law 471 = .ok (.aload_n 2, 1) := by decide +kernel
theorem dL_law_472 : decode cL_law 472 = .ok (.aload_n 0, 1) := by decide +kernel
theorem dL_law_473 : decode cL_law 473 = .ok (.iload_n 3, 1) := by decide +kernel
theorem dL_law_474 : decode cL_law 474 = .ok (.iconst 1, 1) := by decide +kernel
theorem dL_law_475 : decode cL_law 475 = .ok (.iadd, 1) := by decide +kernel
theorem dL_law_476 : decode cL_law 476 = .ok (.iaload, 1) := by decide +kernel
theorem dL_law_477 : decode cL_law 477 = .ok (.aload_n 0, 1) := by decide +kernel
theorem dL_law_478 : decode cL_law 478 = .ok (.iload_n 3, 1) := by decide +kernel
theorem dL_law_479 : decode cL_law 479 = .ok (.iconst 2, 1) := by decide +kernel
theorem dL_law_480 : decode cL_law 480 = .ok (.iadd, 1) := by decide +kernel
theorem dL_law_481 : decode cL_law 481 = .ok (.iaload, 1) := by decide +kernel
theorem dL_law_482 : decode cL_law 482 = .ok (.invokevirtual 65, 3) := by decide +kernel
theorem dL_law_485 : decode cL_law 485 = .ok (.if_icmp .eq 381, 3) := by decide +kernel
theorem dL_law_488 : decode cL_law 488 = .ok (.iconst 0, 1) := by decide +kernel
theorem dL_law_489 : decode cL_law 489 = .ok (.ireturn, 1) := by decide +kernel
theorem dL_law_490 : decode cL_law 490 = .ok (.aload_n 1, 1) := by decide +kernel
theorem dL_law_491 : decode cL_law 491 = .ok (.invokevirtual 66, 3) := by decide +kernel
theorem dL_law_494 : decode cL_law 494 = .ok (.aload_n 2, 1) := by decide +kernel
theorem dL_law_495 : decode cL_law 495 = .ok (.invokevirtual 69, 3) := by decide +kernel
theorem dL_law_498 : decode cL_law 498 = .ok (.if_icmp .eq 368, 3) := by decide +kernel
theorem dL_law_501 : decode cL_law 501 = .ok (.iconst 0, 1) := by decide +kernel
theorem dL_law_502 : decode cL_law 502 = .ok (.ireturn, 1) := by decide +kernel
theorem dL_law_503 : decode cL_law 503 = .ok (.aload_n 1, 1) := by decide +kernel
theorem dL_law_504 : decode cL_law 504 = .ok (.aload_n 0, 1) := by decide +kernel
theorem dL_law_505 : decode cL_law 505 = .ok (.iload_n 3, 1) := by decide +kernel
theorem dL_law_506 : decode cL_law 506 = .ok (.iconst 1, 1) := by decide +kernel
theorem dL_law_507 : decode cL_law 507 = .ok (.iadd, 1) := by decide +kernel
theorem dL_law_508 : decode cL_law 508 = .ok (.iaload, 1) := by decide +kernel
theorem dL_law_509 : decode cL_law 509 = .ok (.aload_n 0, 1) := by decide +kernel
theorem dL_law_510 : decode cL_law 510 = .ok (.iload_n 3, 1) := by decide +kernel
theorem dL_law_511 : decode cL_law 511 = .ok (.iconst 2, 1) := by decide +kernel
theorem dL_law_512 : decode cL_law 512 = .ok (.iadd, 1) := by decide +kernel
theorem dL_law_513 : decode cL_law 513 = .ok (.iaload, 1) := by decide +kernel
theorem dL_law_514 : decode cL_law 514 = .ok (.invokevirtual 70, 3) := by decide +kernel
theorem dL_law_517 : decode cL_law 517 = .ok (.aload_n 2, 1) := by decide +kernel
theorem dL_law_518 : decode cL_law 518 = .ok (.aload_n 0, 1) := by decide +kernel
theorem dL_law_519 : decode cL_law 519 = .ok (.iload_n 3, 1) := by decide +kernel
theorem dL_law_520 : decode cL_law 520 = .ok (.iconst 1, 1) := by decide +kernel
theorem dL_law_521 : decode cL_law 521 = .ok (.iadd, 1) := by decide +kernel
theorem dL_law_522 : decode cL_law 522 = .ok (.iaload, 1) := by decide +kernel
theorem dL_law_523 : decode cL_law 523 = .ok (.aload_n 0, 1) := by decide +kernel
theorem dL_law_524 : decode cL_law 524 = .ok (.iload_n 3, 1) := by decide +kernel
theorem dL_law_525 : decode cL_law 525 = .ok (.iconst 2, 1) := by decide +kernel
theorem dL_law_526 : decode cL_law 526 = .ok (.iadd, 1) := by decide +kernel
theorem dL_law_527 : decode cL_law 527 = .ok (.iaload, 1) := by decide +kernel
theorem dL_law_528 : decode cL_law 528 = .ok (.invokevirtual 73, 3) := by decide +kernel
theorem dL_law_531 : decode cL_law 531 = .ok (.if_icmp .eq 335, 3) := by decide +kernel
theorem dL_law_534 : decode cL_law 534 = .ok (.iconst 0, 1) := by decide +kernel
theorem dL_law_535 : decode cL_law 535 = .ok (.ireturn, 1) := by decide +kernel
theorem dL_law_536 : decode cL_law 536 = .ok (.aload_n 1, 1) := by decide +kernel
theorem dL_law_537 : decode cL_law 537 = .ok (.aload_n 0, 1) := by decide +kernel
theorem dL_law_538 : decode cL_law 538 = .ok (.iload_n 3, 1) := by decide +kernel
theorem dL_law_539 : decode cL_law 539 = .ok (.iconst 1, 1) := by decide +kernel
theorem dL_law_540 : decode cL_law 540 = .ok (.iadd, 1) := by decide +kernel
theorem dL_law_541 : decode cL_law 541 = .ok (.iaload, 1) := by decide +kernel
theorem dL_law_542 : decode cL_law 542 = .ok (.aload_n 0, 1) := by decide +kernel
theorem dL_law_543 : decode cL_law 543 = .ok (.iload_n 3, 1) := by decide +kernel
theorem dL_law_544 : decode cL_law 544 = .ok (.iconst 2, 1) := by decide +kernel
theorem dL_law_545 : decode cL_law 545 = .ok (.iadd, 1) := by decide +kernel
theorem dL_law_546 : decode cL_law 546 = .ok (.iaload, 1) := by decide +kernel
theorem dL_law_547 : decode cL_law 547 = .ok (.aload_n 0, 1) := by decide +kernel
theorem dL_law_548 : decode cL_law 548 = .ok (.iload_n 3, 1) := by decide +kernel
theorem dL_law_549 : decode cL_law 549 = .ok (.iconst 3, 1) := by decide +kernel
theorem dL_law_550 : decode cL_law 550 = .ok (.iadd, 1) := by decide +kernel
theorem dL_law_551 : decode cL_law 551 = .ok (.iaload, 1) := by decide +kernel
theorem dL_law_552 : decode cL_law 552 = .ok (.aload_n 0, 1) := by decide +kernel
theorem dL_law_553 : decode cL_law 553 = .ok (.iload_n 3, 1) := by decide +kernel
theorem dL_law_554 : decode cL_law 554 = .ok (.iconst 4, 1) := by decide +kernel
theorem dL_law_555 : decode cL_law 555 = .ok (.iadd, 1) := by decide +kernel
theorem dL_law_556 : decode cL_law 556 = .ok (.iaload, 1) := by decide +kernel
theorem dL_law_557 : decode cL_law 557 = .ok (.invokevirtual 74, 3) := by decide +kernel
theorem dL_law_560 : decode cL_law 560 = .ok (.aload_n 2, 1) := by decide +kernel
theorem dL_law_561 : decode cL_law 561 = .ok (.aload_n 0, 1) := by decide +kernel
theorem dL_law_562 : decode cL_law 562 = .ok (.iload_n 3, 1) := by decide +kernel
theorem dL_law_563 : decode cL_law 563 = .ok (.iconst 1, 1) := by decide +kernel
theorem dL_law_564 : decode cL_law 564 = .ok (.iadd, 1) := by decide +kernel
theorem dL_law_565 : decode cL_law 565 = .ok (.iaload, 1) := by decide +kernel
theorem dL_law_566 : decode cL_law 566 = .ok (.aload_n 0, 1) := by decide +kernel
theorem dL_law_567 : decode cL_law 567 = .ok (.iload_n 3, 1) := by decide +kernel
theorem dL_law_568 : decode cL_law 568 = .ok (.iconst 2, 1) := by decide +kernel
theorem dL_law_569 : decode cL_law 569 = .ok (.iadd, 1) := by decide +kernel
theorem dL_law_570 : decode cL_law 570 = .ok (.iaload, 1) := by decide +kernel
theorem dL_law_571 : decode cL_law 571 = .ok (.aload_n 0, 1) := by decide +kernel
theorem dL_law_572 : decode cL_law 572 = .ok (.iload_n 3, 1) := by decide +kernel
theorem dL_law_573 : decode cL_law 573 = .ok (.iconst 3, 1) := by decide +kernel
theorem dL_law_574 : decode cL_law 574 = .ok (.iadd, 1) := by decide +kernel
theorem dL_law_575 : decode cL_law 575 = .ok (.iaload, 1) := by decide +kernel
theorem dL_law_576 : decode cL_law 576 = .ok (.aload_n 0, 1) := by decide +kernel
theorem dL_law_577 : decode cL_law 577 = .ok (.iload_n 3, 1) := by decide +kernel
theorem dL_law_578 : decode cL_law 578 = .ok (.iconst 4, 1) := by decide +kernel
theorem dL_law_579 : decode cL_law 579 = .ok (.iadd, 1) := by decide +kernel
theorem dL_law_580 : decode cL_law 580 = .ok (.iaload, 1) := by decide +kernel
theorem dL_law_581 : decode cL_law 581 = .ok (.invokevirtual 78, 3) := by decide +kernel
theorem dL_law_584 : decode cL_law 584 = .ok (.if_icmp .eq 282, 3) := by decide +kernel
theorem dL_law_587 : decode cL_law 587 = .ok (.iconst 0, 1) := by decide +kernel
theorem dL_law_588 : decode cL_law 588 = .ok (.ireturn, 1) := by decide +kernel
theorem dL_law_589 : decode cL_law 589 = .ok (.aload_n 1, 1) := by decide +kernel
theorem dL_law_590 : decode cL_law 590 = .ok (.aload_n 0, 1) := by decide +kernel
theorem dL_law_591 : decode cL_law 591 = .ok (.iload_n 3, 1) := by decide +kernel
theorem dL_law_592 : decode cL_law 592 = .ok (.iconst 1, 1) := by decide +kernel
theorem dL_law_593 : decode cL_law 593 = .ok (.iadd, 1) := by decide +kernel
theorem dL_law_594 : decode cL_law 594 = .ok (.iaload, 1) := by decide +kernel
theorem dL_law_595 : decode cL_law 595 = .ok (.invokevirtual 79, 3) := by decide +kernel
theorem dL_law_598 : decode cL_law 598 = .ok (.aload_n 2, 1) := by decide +kernel
theorem dL_law_599 : decode cL_law 599 = .ok (.aload_n 0, 1) := by decide +kernel
theorem dL_law_600 : decode cL_law 600 = .ok (.iload_n 3, 1) := by decide +kernel
theorem dL_law_601 : decode cL_law 601 = .ok (.iconst 1, 1) := by decide +kernel
theorem dL_law_602 : decode cL_law 602 = .ok (.iadd, 1) := by decide +kernel
theorem dL_law_603 : decode cL_law 603 = .ok (.iaload, 1) := by decide +kernel
theorem dL_law_604 : decode cL_law 604 = .ok (.invokevirtual 82, 3) := by decide +kernel
theorem dL_law_607 : decode cL_law 607 = .ok (.if_icmp .eq 259, 3) := by decide +kernel
theorem dL_law_610 : decode cL_law 610 = .ok (.iconst 0, 1) := by decide +kernel
theorem dL_law_611 : decode cL_law 611 = .ok (.ireturn, 1) := by decide +kernel
theorem dL_law_612 : decode cL_law 612 = .ok (.aload_n 1, 1) := by decide +kernel
theorem dL_law_613 : decode cL_law 613 = .ok (.aload_n 0, 1) := by decide +kernel
theorem dL_law_614 : decode cL_law 614 = .ok (.iload_n 3, 1) := by decide +kernel
theorem dL_law_615 : decode cL_law 615 = .ok (.iconst 1, 1) := by decide +kernel
theorem dL_law_616 : decode cL_law 616 = .ok (.iadd, 1) := by decide +kernel
theorem dL_law_617 : decode cL_law 617 = .ok (.iaload, 1) := by decide +kernel
theorem dL_law_618 : decode cL_law 618 = .ok (.aload_n 0, 1) := by decide +kernel
theorem dL_law_619 : decode cL_law 619 = .ok (.iload_n 3, 1) := by decide +kernel
theorem dL_law_620 : decode cL_law 620 = .ok (.iconst 2, 1) := by decide +kernel
theorem dL_law_621 : decode cL_law 621 = .ok (.iadd, 1) := by decide +kernel
theorem dL_law_622 : decode cL_law 622 = .ok (.iaload, 1) := by decide +kernel
theorem dL_law_623 : decode cL_law 623 = .ok (.invokevirtual 83, 3) := by decide +kernel
theorem dL_law_626 : decode cL_law 626 = .ok (.aload_n 2, 1) := by decide +kernel
theorem dL_law_627 : decode cL_law 627 = .ok (.aload_n 0, 1) := by decide +kernel
theorem dL_law_628 : decode cL_law 628 = .ok (.iload_n 3, 1) := by decide +kernel
theorem dL_law_629 : decode cL_law 629 = .ok (.iconst 1, 1) := by decide +kernel
theorem dL_law_630 : decode cL_law 630 = .ok (.iadd, 1) := by decide +kernel
theorem dL_law_631 : decode cL_law 631 = .ok (.iaload, 1) := by decide +kernel
theorem dL_law_632 : decode cL_law 632 = .ok (.aload_n 0, 1) := by decide +kernel
theorem dL_law_633 : decode cL_law 633 = .ok (.iload_n 3, 1) := by decide +kernel
theorem dL_law_634 : decode cL_law 634 = .ok (.iconst 2, 1) := by decide +kernel
theorem dL_law_635 : decode cL_law 635 = .ok (.iadd, 1) := by decide +kernel
theorem dL_law_636 : decode cL_law 636 = .ok (.iaload, 1) := by decide +kernel
theorem dL_law_637 : decode cL_law 637 = .ok (.invokevirtual 86, 3) := by decide +kernel
theorem dL_law_640 : decode cL_law 640 = .ok (.if_icmp .eq 226, 3) := by decide +kernel
theorem dL_law_643 : decode cL_law 643 = .ok (.iconst 0, 1) := by decide +kernel
theorem dL_law_644 : decode cL_law 644 = .ok (.ireturn, 1) := by decide +kernel
theorem dL_law_645 : decode cL_law 645 = .ok (.aload_n 1, 1) := by decide +kernel
theorem dL_law_646 : decode cL_law 646 = .ok (.aload_n 0, 1) := by decide +kernel
theorem dL_law_647 : decode cL_law 647 = .ok (.iload_n 3, 1) := by decide +kernel
theorem dL_law_648 : decode cL_law 648 = .ok (.iconst 1, 1) := by decide +kernel
theorem dL_law_649 : decode cL_law 649 = .ok (.iadd, 1) := by decide +kernel
theorem dL_law_650 : decode cL_law 650 = .ok (.iaload, 1) := by decide +kernel
theorem dL_law_651 : decode cL_law 651 = .ok (.aload_n 0, 1) := by decide +kernel
theorem dL_law_652 : decode cL_law 652 = .ok (.iload_n 3, 1) := by decide +kernel
theorem dL_law_653 : decode cL_law 653 = .ok (.iconst 2, 1) := by decide +kernel
theorem dL_law_654 : decode cL_law 654 = .ok (.iadd, 1) := by decide +kernel
theorem dL_law_655 : decode cL_law 655 = .ok (.iaload, 1) := by decide +kernel
theorem dL_law_656 : decode cL_law 656 = .ok (.aload_n 0, 1) := by decide +kernel
theorem dL_law_657 : decode cL_law 657 = .ok (.iload_n 3, 1) := by decide +kernel
theorem dL_law_658 : decode cL_law 658 = .ok (.iconst 3, 1) := by decide +kernel
theorem dL_law_659 : decode cL_law 659 = .ok (.iadd, 1) := by decide +kernel
theorem dL_law_660 : decode cL_law 660 = .ok (.iaload, 1) := by decide +kernel
theorem dL_law_661 : decode cL_law 661 = .ok (.aload_n 0, 1) := by decide +kernel
theorem dL_law_662 : decode cL_law 662 = .ok (.iload_n 3, 1) := by decide +kernel
theorem dL_law_663 : decode cL_law 663 = .ok (.iconst 4, 1) := by decide +kernel
theorem dL_law_664 : decode cL_law 664 = .ok (.iadd, 1) := by decide +kernel
theorem dL_law_665 : decode cL_law 665 = .ok (.iaload, 1) := by decide +kernel
theorem dL_law_666 : decode cL_law 666 = .ok (.ifCond .eq 7, 3) := by decide +kernel
theorem dL_law_669 : decode cL_law 669 = .ok (.iconst 1, 1) := by decide +kernel
theorem dL_law_670 : decode cL_law 670 = .ok (.goto 4, 3) := by decide +kernel
theorem dL_law_673 : decode cL_law 673 = .ok (.iconst 0, 1) := by decide +kernel
theorem dL_law_674 : decode cL_law 674 = .ok (.invokevirtual 87, 3) := by decide +kernel
theorem dL_law_677 : decode cL_law 677 = .ok (.aload_n 2, 1) := by decide +kernel
theorem dL_law_678 : decode cL_law 678 = .ok (.aload_n 0, 1) := by decide +kernel
theorem dL_law_679 : decode cL_law 679 = .ok (.iload_n 3, 1) := by decide +kernel
theorem dL_law_680 : decode cL_law 680 = .ok (.iconst 1, 1) := by decide +kernel
theorem dL_law_681 : decode cL_law 681 = .ok (.iadd, 1) := by decide +kernel
theorem dL_law_682 : decode cL_law 682 = .ok (.iaload, 1) := by decide +kernel
theorem dL_law_683 : decode cL_law 683 = .ok (.aload_n 0, 1) := by decide +kernel
theorem dL_law_684 : decode cL_law 684 = .ok (.iload_n 3, 1) := by decide +kernel
theorem dL_law_685 : decode cL_law 685 = .ok (.iconst 2, 1) := by decide +kernel
theorem dL_law_686 : decode cL_law 686 = .ok (.iadd, 1) := by decide +kernel
theorem dL_law_687 : decode cL_law 687 = .ok (.iaload, 1) := by decide +kernel
theorem dL_law_688 : decode cL_law 688 = .ok (.aload_n 0, 1) := by decide +kernel
theorem dL_law_689 : decode cL_law 689 = .ok (.iload_n 3, 1) := by decide +kernel
theorem dL_law_690 : decode cL_law 690 = .ok (.iconst 3, 1) := by decide +kernel
theorem dL_law_691 : decode cL_law 691 = .ok (.iadd, 1) := by decide +kernel
theorem dL_law_692 : decode cL_law 692 = .ok (.iaload, 1) := by decide +kernel
theorem dL_law_693 : decode cL_law 693 = .ok (.aload_n 0, 1) := by decide +kernel
theorem dL_law_694 : decode cL_law 694 = .ok (.iload_n 3, 1) := by decide +kernel
theorem dL_law_695 : decode cL_law 695 = .ok (.iconst 4, 1) := by decide +kernel
theorem dL_law_696 : decode cL_law 696 = .ok (.iadd, 1) := by decide +kernel
theorem dL_law_697 : decode cL_law 697 = .ok (.iaload, 1) := by decide +kernel
theorem dL_law_698 : decode cL_law 698 = .ok (.ifCond .eq 7, 3) := by decide +kernel
theorem dL_law_701 : decode cL_law 701 = .ok (.iconst 1, 1) := by decide +kernel
theorem dL_law_702 : decode cL_law 702 = .ok (.goto 4, 3) := by decide +kernel
theorem dL_law_705 : decode cL_law 705 = .ok (.iconst 0, 1) := by decide +kernel
theorem dL_law_706 : decode cL_law 706 = .ok (.invokevirtual 91, 3) := by decide +kernel
theorem dL_law_709 : decode cL_law 709 = .ok (.if_icmp .eq 157, 3) := by decide +kernel
theorem dL_law_712 : decode cL_law 712 = .ok (.iconst 0, 1) := by decide +kernel
theorem dL_law_713 : decode cL_law 713 = .ok (.ireturn, 1) := by decide +kernel
theorem dL_law_714 : decode cL_law 714 = .ok (.aload_n 1, 1) := by decide +kernel
theorem dL_law_715 : decode cL_law 715 = .ok (.invokevirtual 92, 3) := by decide +kernel
theorem dL_law_718 : decode cL_law 718 = .ok (.aload_n 2, 1) := by decide +kernel
theorem dL_law_719 : decode cL_law 719 = .ok (.invokevirtual 95, 3) := by decide +kernel
theorem dL_law_722 : decode cL_law 722 = .ok (.if_icmp .eq 144, 3) := by decide +kernel
theorem dL_law_725 : decode cL_law 725 = .ok (.iconst 0, 1) := by decide +kernel
theorem dL_law_726 : decode cL_law 726 = .ok (.ireturn, 1) := by decide +kernel
theorem dL_law_727 : decode cL_law 727 = .ok (.aload_n 1, 1) := by decide +kernel
theorem dL_law_728 : decode cL_law 728 = .ok (.aload_n 0, 1) := by decide +kernel
theorem dL_law_729 : decode cL_law 729 = .ok (.iload_n 3, 1) := by decide +kernel
theorem dL_law_730 : decode cL_law 730 = .ok (.iconst 1, 1) := by decide +kernel
theorem dL_law_731 : decode cL_law 731 = .ok (.iadd, 1) := by decide +kernel
theorem dL_law_732 : decode cL_law 732 = .ok (.iaload, 1) := by decide +kernel
theorem dL_law_733 : decode cL_law 733 = .ok (.aload_n 0, 1) := by decide +kernel
theorem dL_law_734 : decode cL_law 734 = .ok (.iload_n 3, 1) := by decide +kernel
theorem dL_law_735 : decode cL_law 735 = .ok (.iconst 2, 1) := by decide +kernel
theorem dL_law_736 : decode cL_law 736 = .ok (.iadd, 1) := by decide +kernel
theorem dL_law_737 : decode cL_law 737 = .ok (.iaload, 1) := by decide +kernel
theorem dL_law_738 : decode cL_law 738 = .ok (.invokevirtual 96, 3) := by decide +kernel
theorem dL_law_741 : decode cL_law 741 = .ok (.aload_n 2, 1) := by decide +kernel
theorem dL_law_742 : decode cL_law 742 = .ok (.aload_n 0, 1) := by decide +kernel
theorem dL_law_743 : decode cL_law 743 = .ok (.iload_n 3, 1) := by decide +kernel
theorem dL_law_744 : decode cL_law 744 = .ok (.iconst 1, 1) := by decide +kernel
theorem dL_law_745 : decode cL_law 745 = .ok (.iadd, 1) := by decide +kernel
theorem dL_law_746 : decode cL_law 746 = .ok (.iaload, 1) := by decide +kernel
theorem dL_law_747 : decode cL_law 747 = .ok (.aload_n 0, 1) := by decide +kernel
theorem dL_law_748 : decode cL_law 748 = .ok (.iload_n 3, 1) := by decide +kernel
theorem dL_law_749 : decode cL_law 749 = .ok (.iconst 2, 1) := by decide +kernel
theorem dL_law_750 : decode cL_law 750 = .ok (.iadd, 1) := by decide +kernel
theorem dL_law_751 : decode cL_law 751 = .ok (.iaload, 1) := by decide +kernel
theorem dL_law_752 : decode cL_law 752 = .ok (.invokevirtual 99, 3) := by decide +kernel
theorem dL_law_755 : decode cL_law 755 = .ok (.if_icmp .eq 111, 3) := by decide +kernel
theorem dL_law_758 : decode cL_law 758 = .ok (.iconst 0, 1) := by decide +kernel
theorem dL_law_759 : decode cL_law 759 = .ok (.ireturn, 1) := by decide +kernel
theorem dL_law_760 : decode cL_law 760 = .ok (.aload_n 1, 1) := by decide +kernel
theorem dL_law_761 : decode cL_law 761 = .ok (.aload_n 0, 1) := by decide +kernel
theorem dL_law_762 : decode cL_law 762 = .ok (.iload_n 3, 1) := by decide +kernel
theorem dL_law_763 : decode cL_law 763 = .ok (.iconst 1, 1) := by decide +kernel
theorem dL_law_764 : decode cL_law 764 = .ok (.iadd, 1) := by decide +kernel
theorem dL_law_765 : decode cL_law 765 = .ok (.iaload, 1) := by decide +kernel
theorem dL_law_766 : decode cL_law 766 = .ok (.aload_n 0, 1) := by decide +kernel
theorem dL_law_767 : decode cL_law 767 = .ok (.iload_n 3, 1) := by decide +kernel
theorem dL_law_768 : decode cL_law 768 = .ok (.iconst 2, 1) := by decide +kernel
theorem dL_law_769 : decode cL_law 769 = .ok (.iadd, 1) := by decide +kernel
theorem dL_law_770 : decode cL_law 770 = .ok (.iaload, 1) := by decide +kernel
theorem dL_law_771 : decode cL_law 771 = .ok (.aload_n 0, 1) := by decide +kernel
theorem dL_law_772 : decode cL_law 772 = .ok (.iload_n 3, 1) := by decide +kernel
theorem dL_law_773 : decode cL_law 773 = .ok (.iconst 3, 1) := by decide +kernel
theorem dL_law_774 : decode cL_law 774 = .ok (.iadd, 1) := by decide +kernel
theorem dL_law_775 : decode cL_law 775 = .ok (.iaload, 1) := by decide +kernel
theorem dL_law_776 : decode cL_law 776 = .ok (.invokevirtual 100, 3) := by decide +kernel
theorem dL_law_779 : decode cL_law 779 = .ok (.aload_n 2, 1) := by decide +kernel
theorem dL_law_780 : decode cL_law 780 = .ok (.aload_n 0, 1) := by decide +kernel
theorem dL_law_781 : decode cL_law 781 = .ok (.iload_n 3, 1) := by decide +kernel
theorem dL_law_782 : decode cL_law 782 = .ok (.iconst 1, 1) := by decide +kernel
theorem dL_law_783 : decode cL_law 783 = .ok (.iadd, 1) := by decide +kernel
theorem dL_law_784 : decode cL_law 784 = .ok (.iaload, 1) := by decide +kernel
theorem dL_law_785 : decode cL_law 785 = .ok (.aload_n 0, 1) := by decide +kernel
theorem dL_law_786 : decode cL_law 786 = .ok (.iload_n 3, 1) := by decide +kernel
theorem dL_law_787 : decode cL_law 787 = .ok (.iconst 2, 1) := by decide +kernel
theorem dL_law_788 : decode cL_law 788 = .ok (.iadd, 1) := by decide +kernel
theorem dL_law_789 : decode cL_law 789 = .ok (.iaload, 1) := by decide +kernel
theorem dL_law_790 : decode cL_law 790 = .ok (.aload_n 0, 1) := by decide +kernel
theorem dL_law_791 : decode cL_law 791 = .ok (.iload_n 3, 1) := by decide +kernel
theorem dL_law_792 : decode cL_law 792 = .ok (.iconst 3, 1) := by decide +kernel
theorem dL_law_793 : decode cL_law 793 = .ok (.iadd, 1) := by decide +kernel
theorem dL_law_794 : decode cL_law 794 = .ok (.iaload, 1) := by decide +kernel
theorem dL_law_795 : decode cL_law 795 = .ok (.invokevirtual 103, 3) := by decide +kernel
theorem dL_law_798 : decode cL_law 798 = .ok (.if_icmp .eq 68, 3) := by decide +kernel
theorem dL_law_801 : decode cL_law 801 = .ok (.iconst 0, 1) := by decide +kernel
theorem dL_law_802 : decode cL_law 802 = .ok (.ireturn, 1) := by decide +kernel
theorem dL_law_803 : decode cL_law 803 = .ok (.aload_n 1, 1) := by decide +kernel
theorem dL_law_804 : decode cL_law 804 = .ok (.invokevirtual 104, 3) := by decide +kernel
theorem dL_law_807 : decode cL_law 807 = .ok (.aload_n 2, 1) := by decide +kernel
theorem dL_law_808 : decode cL_law 808 = .ok (.invokevirtual 107, 3) := by decide +kernel
theorem dL_law_811 : decode cL_law 811 = .ok (.if_icmp .eq 55, 3) := by decide +kernel
theorem dL_law_814 : decode cL_law 814 = .ok (.iconst 0, 1) := by decide +kernel
theorem dL_law_815 : decode cL_law 815 = .ok (.ireturn, 1) := by decide +kernel
theorem dL_law_816 : decode cL_law 816 = .ok (.aload_n 1, 1) := by decide +kernel
theorem dL_law_817 : decode cL_law 817 = .ok (.invokevirtual 108, 3) := by decide +kernel
theorem dL_law_820 : decode cL_law 820 = .ok (.aload_n 2, 1) := by decide +kernel
theorem dL_law_821 : decode cL_law 821 = .ok (.invokevirtual 111, 3) := by decide +kernel
theorem dL_law_824 : decode cL_law 824 = .ok (.if_icmp .eq 42, 3) := by decide +kernel
theorem dL_law_827 : decode cL_law 827 = .ok (.iconst 0, 1) := by decide +kernel
theorem dL_law_828 : decode cL_law 828 = .ok (.ireturn, 1) := by decide +kernel
theorem dL_law_829 : decode cL_law 829 = .ok (.aload_n 1, 1) := by decide +kernel
theorem dL_law_830 : decode cL_law 830 = .ok (.aload_n 0, 1) := by decide +kernel
theorem dL_law_831 : decode cL_law 831 = .ok (.iload_n 3, 1) := by decide +kernel
theorem dL_law_832 : decode cL_law 832 = .ok (.iconst 1, 1) := by decide +kernel
theorem dL_law_833 : decode cL_law 833 = .ok (.iadd, 1) := by decide +kernel
theorem dL_law_834 : decode cL_law 834 = .ok (.iaload, 1) := by decide +kernel
theorem dL_law_835 : decode cL_law 835 = .ok (.invokevirtual 112, 3) := by decide +kernel
theorem dL_law_838 : decode cL_law 838 = .ok (.aload_n 2, 1) := by decide +kernel
theorem dL_law_839 : decode cL_law 839 = .ok (.aload_n 0, 1) := by decide +kernel
theorem dL_law_840 : decode cL_law 840 = .ok (.iload_n 3, 1) := by decide +kernel
theorem dL_law_841 : decode cL_law 841 = .ok (.iconst 1, 1) := by decide +kernel
theorem dL_law_842 : decode cL_law 842 = .ok (.iadd, 1) := by decide +kernel
theorem dL_law_843 : decode cL_law 843 = .ok (.iaload, 1) := by decide +kernel
theorem dL_law_844 : decode cL_law 844 = .ok (.invokevirtual 115, 3) := by decide +kernel
theorem dL_law_847 : decode cL_law 847 = .ok (.if_icmp .eq 19, 3) := by decide +kernel
theorem dL_law_850 : decode cL_law 850 = .ok (.iconst 0, 1) := by decide +kernel
theorem dL_law_851 : decode cL_law 851 = .ok (.ireturn, 1) := by decide +kernel
theorem dL_law_852 : decode cL_law 852 = .ok (.aload_n 1, 1) := by decide +kernel
theorem dL_law_853 : decode cL_law 853 = .ok (.invokevirtual 116, 3) := by decide +kernel
theorem dL_law_856 : decode cL_law 856 = .ok (.aload_n 2, 1) := by decide +kernel
theorem dL_law_857 : decode cL_law 857 = .ok (.invokevirtual 120, 3) := by decide +kernel
theorem dL_law_860 : decode cL_law 860 = .ok (.lcmp, 1) := by decide +kernel
theorem dL_law_861 : decode cL_law 861 = .ok (.ifCond .eq 5, 3) := by decide +kernel
theorem dL_law_864 : decode cL_law 864 = .ok (.iconst 0, 1) := by decide +kernel
theorem dL_law_865 : decode cL_law 865 = .ok (.ireturn, 1) := by decide +kernel
theorem dL_law_866 : decode cL_law 866 = .ok (.iinc 3 5, 3) := by decide +kernel
theorem dL_law_869 : decode cL_law 869 = .ok (.goto (-851), 3) := by decide +kernel
theorem dL_law_872 : decode cL_law 872 = .ok (.iconst 1, 1) := by decide +kernel
theorem dL_law_873 : decode cL_law 873 = .ok (.ireturn, 1) := by decide +kernel
end
section
def zzR : Nat → String := fun o => match o with
  | 0 => RX0
  | 1 => RX1
  | 2 => RX2
  | 3 => RX3
  | 4 => RX4
  | 5 => RL
  | 6 => RJ6
  | 7 => RJ7
  | _ => RJ9
def zzML0 : List (MethodName × ByteArray × Nat × Option FieldType × Nat × Nat × Bool) := [(yX3_letter, cX3_letter, 2, (some .int), 3, 1, false), (yX3_blank, cX3_blank, 2, (some .int), 3, 0, false), (yX3_fault, cX3_fault, 3, (some .int), 3, 0, false), (yX3_isSign, cX3_isSign, 1, (some .boolean), 3, 1, true), (yX3_sea, cX3_sea, 2, (some .int), 3, 0, false), (yX2_clear, cX2_clear, 1, none, 2, 0, false), (yX3_currentOf, cX3_currentOf, 1, (some .int), 3, 1, true), (yX2_currents, cX2_currents, 3, (some .int), 2, 0, false), (yX3_place, cX3_place, 3, (some .int), 3, 2, false), (yX3_isPlace, cX3_isPlace, 2, (some .boolean), 3, 1, false), (yX2_islandAt, cX2_islandAt, 3, (some .int), 2, 1, false), (yX3_wind, cX3_wind, 3, (some .int), 3, 1, false), (yX3_island, cX3_island, 4, (some .int), 3, 3, false), (yX3_isKind, cX3_isKind, 1, (some .boolean), 3, 1, true), (yX2_add, cX2_add, 5, (some .int), 2, 3, false), (yX3_about, cX3_about, 3, (some .int), 3, 2, false), (yX3_isIsland, cX3_isIsland, 2, (some .boolean), 3, 1, false), (yX2_pushOf, cX2_pushOf, 4, (some .int), 2, 1, false), (yX2_isAnchored, cX2_isAnchored, 2, (some .boolean), 2, 1, false), (yX2_neighbours, cX2_neighbours, 4, (some .int), 2, 1, false)]
def zzML1 : List (MethodName × ByteArray × Nat × Option FieldType × Nat × Nat × Bool) := [(yX2_areBeside, cX2_areBeside, 3, (some .boolean), 2, 2, false), (yX2_stepped, cX2_stepped, 3, (some .int), 2, 2, true), (yX3_as, cX3_as, 5, (some .int), 3, 2, false), (yX3_anchor, cX3_anchor, 4, (some .int), 3, 2, false), (yX3_wed, cX3_wed, 3, (some .int), 3, 2, false), (yX3_areTwo, cX3_areTwo, 3, (some .boolean), 3, 2, false), (yX2_areRoped, cX2_areRoped, 3, (some .boolean), 2, 2, false), (yX2_tie, cX2_tie, 3, none, 2, 2, false), (yX2_findParties, cX2_findParties, 2, none, 2, 0, false), (yX2_tiedTo, cX2_tiedTo, 5, (some .int), 2, 1, false), (yX3_axe, cX3_axe, 3, (some .int), 3, 2, false), (yX2_cut, cX2_cut, 3, none, 2, 2, false), (yX3_day, cX3_day, 1, (some .int), 3, 0, false), (yX2_drift, cX2_drift, 3, (some .int), 2, 0, false), (yX2_leads, cX2_leads, 2, (some .boolean), 2, 1, false), (yX2_moves, cX2_moves, 4, (some .boolean), 2, 1, false), (yX2_stepOf, cX2_stepOf, 4, (some .int), 2, 1, false), (yJ6_compare_7cf53, cJ6_compare_7cf53, 2, (some .int), 6, 2, true), (yX2_isBarred, cX2_isBarred, 6, (some .boolean), 2, 2, false), (yX3_meet, cX3_meet, 3, (some .int), 3, 2, false)]
def zzML2 : List (MethodName × ByteArray × Nat × Option FieldType × Nat × Nat × Bool) := [(yX3_firstMeeting, cX3_firstMeeting, 6, (some .int), 3, 4, false), (yX2_copy, cX2_copy, 2, none, 2, 1, false), (yX3_anchors, cX3_anchors, 6, (some .int), 3, 4, false), (yX3_fewestAnchors, cX3_fewestAnchors, 7, (some .int), 3, 3, false), (yJ6_bitCount_0f7a4, cJ6_bitCount_0f7a4, 1, (some .int), 6, 1, true), (yX3_stable, cX3_stable, 3, (some .int), 3, 1, false), (yX3_meetAll, cX3_meetAll, 3, none, 3, 1, false), (yJ7_fill_53178, cJ7_fill_53178, 4, none, 7, 2, true), (yX2_noteMeetings, cX2_noteMeetings, 5, none, 2, 2, false), (yX0_solve, cX0_solve, 6, none, 0, 2, false), (yX0_goThrough, cX0_goThrough, 4, none, 0, 2, false), (yX0_weigh, cX0_weigh, 2, none, 0, 1, false), (yX0_isStable, cX0_isStable, 4, (some .boolean), 0, 0, false), (yX0_likesBetter, cX0_likesBetter, 3, (some .boolean), 0, 2, false), (yX3_matchesTell, cX3_matchesTell, 3, (some .int), 3, 1, false), (yX3_parting, cX3_parting, 3, (some .int), 3, 2, false), (yX2_fewestCuts, cX2_fewestCuts, 6, (some .int), 2, 2, false), (yX2_ropesOutOf, cX2_ropesOutOf, 4, (some .int), 2, 1, false), (yX3_shell, cX3_shell, 5, (some .int), 3, 4, false), (yX1_add, cX1_add, 5, (some .int), 1, 4, false)]
def zzML3 : List (MethodName × ByteArray × Nat × Option FieldType × Nat × Nat × Bool) := [(yX3_forget, cX3_forget, 2, (some .int), 3, 0, false), (yX3_guess, cX3_guess, 8, (some .int), 3, 2, false), (yX3_shellsWouldHold, cX3_shellsWouldHold, 6, (some .boolean), 3, 3, false), (yX1_lastDay, cX1_lastDay, 3, (some .int), 1, 0, false), (yX1_holdOn, cX1_holdOn, 4, (some .boolean), 1, 2, false), (yX3_seasons, cX3_seasons, 7, (some .int), 3, 3, false), (yX3_nextSeed, cX3_nextSeed, 1, (some .int), 3, 1, true), (yX2_pairsBeside, cX2_pairsBeside, 3, (some .int), 2, 0, false), (yX3_image, cX3_image, 1, (some .int), 3, 0, false), (yX1_copy, cX1_copy, 3, none, 1, 1, false), (yX3_restore, cX3_restore, 1, (some .int), 3, 0, false), (yX3_count, cX3_count, 2, (some .int), 3, 1, false), (yX2_parties, cX2_parties, 3, (some .int), 2, 0, false), (yX3_digest, cX3_digest, 4, (some .long), 3, 0, false), (yX3_digestIslands, cX3_digestIslands, 7, (some .long), 3, 1, false), (yX3_digestMatches, cX3_digestMatches, 6, (some .long), 3, 1, false), (yX4_letter, cX4_letter, 2, (some .int), 4, 1, false), (yX4_in, cX4_in, 6, (some .boolean), 4, 3, true), (yX4_blank, cX4_blank, 2, (some .int), 4, 0, false), (yX4_fault, cX4_fault, 1, (some .int), 4, 0, false)]
def zzML4 : List (MethodName × ByteArray × Nat × Option FieldType × Nat × Nat × Bool) := [(yX4_faultOf, cX4_faultOf, 2, (some .int), 4, 0, false), (yX4_sea, cX4_sea, 2, (some .int), 4, 0, false), (yX4_currentMany, cX4_currentMany, 3, (some .int), 4, 0, false), (yX4_place, cX4_place, 3, (some .int), 4, 2, false), (yX4_whoIsAt, cX4_whoIsAt, 4, (some .int), 4, 1, false), (yX4_wind, cX4_wind, 3, (some .int), 4, 1, false), (yX4_island, cX4_island, 4, (some .int), 4, 3, false), (yX4_about, cX4_about, 3, (some .int), 4, 2, false), (yX4_isIsland, cX4_isIsland, 2, (some .boolean), 4, 1, false), (yX4_tell, cX4_tell, 3, (some .int), 4, 2, false), (yX4_asItIs, cX4_asItIs, 2, none, 4, 0, false), (yX4_pushOf, cX4_pushOf, 3, (some .int), 4, 1, false), (yX4_partyOf, cX4_partyOf, 2, (some .int), 4, 1, false), (yX4_partyBy, cX4_partyBy, 7, (some .int), 4, 2, false), (yX4_besideBits, cX4_besideBits, 4, (some .int), 4, 1, false), (yX4_areBeside, cX4_areBeside, 2, (some .boolean), 4, 2, true), (yX4_ropedBits, cX4_ropedBits, 4, (some .int), 4, 1, false), (yX4_areRoped, cX4_areRoped, 5, (some .boolean), 4, 2, false), (yX4_as, cX4_as, 5, (some .int), 4, 2, false), (yX4_anchor, cX4_anchor, 4, (some .int), 4, 2, false)]
def zzML5 : List (MethodName × ByteArray × Nat × Option FieldType × Nat × Nat × Bool) := [(yX4_wed, cX4_wed, 3, (some .int), 4, 2, false), (yX4_arePair, cX4_arePair, 3, (some .boolean), 4, 2, false), (yX4_axe, cX4_axe, 8, (some .int), 4, 2, false), (yX4_day, cX4_day, 3, (some .int), 4, 0, false), (yX4_passes, cX4_passes, 3, (some .int), 4, 0, false), (yX4_isFirst, cX4_isFirst, 2, (some .boolean), 4, 1, false), (yX4_drifts, cX4_drifts, 7, (some .int), 4, 1, false), (yX4_meet, cX4_meet, 3, (some .int), 4, 2, false), (yX4_meetBy, cX4_meetBy, 7, (some .int), 4, 4, false), (yX4_anchors, cX4_anchors, 6, (some .int), 4, 4, false), (yX4_anchorsOf, cX4_anchorsOf, 7, (some .int), 4, 3, false), (yX4_ones, cX4_ones, 3, (some .int), 4, 1, true), (yX4_stable, cX4_stable, 2, (some .int), 4, 1, false), (yX4_layStable, cX4_layStable, 5, none, 4, 0, false), (yX4_isMatch, cX4_isMatch, 5, (some .boolean), 4, 1, false), (yX4_isStable, cX4_isStable, 5, (some .boolean), 4, 0, false), (yX4_likes, cX4_likes, 3, (some .boolean), 4, 2, false), (yX4_copy, cX4_copy, 3, none, 4, 2, true), (yX4_tellStable, cX4_tellStable, 2, (some .int), 4, 1, false), (yX4_parting, cX4_parting, 6, (some .int), 4, 2, false)]
def zzML6 : List (MethodName × ByteArray × Nat × Option FieldType × Nat × Nat × Bool) := [(yX4_shell, cX4_shell, 5, (some .int), 4, 4, false), (yX4_forget, cX4_forget, 2, (some .int), 4, 0, false), (yX4_guess, cX4_guess, 3, (some .int), 4, 2, false), (yX4_guessOf, cX4_guessOf, 7, (some .int), 4, 2, false), (yX4_isSo, cX4_isSo, 8, (some .boolean), 4, 3, false), (yX4_seasons, cX4_seasons, 8, (some .int), 4, 3, false), (yX4_draw, cX4_draw, 2, (some .int), 4, 1, false), (yX4_image, cX4_image, 1, (some .int), 4, 0, false), (yX4_restore, cX4_restore, 1, (some .int), 4, 0, false), (yX4_count, cX4_count, 2, (some .int), 4, 1, false), (yX4_countOf, cX4_countOf, 2, (some .int), 4, 1, false), (yX4_partyMany, cX4_partyMany, 3, (some .int), 4, 0, false), (yX4_digest, cX4_digest, 2, (some .long), 4, 0, false), (yX4_say, cX4_say, 3, none, 4, 1, false), (yX4_sayIsland, cX4_sayIsland, 3, none, 4, 1, false)]
def zzML : List (MethodName × ByteArray × Nat × Option FieldType × Nat × Nat × Bool) := zzML0 ++ (zzML1 ++ (zzML2 ++ (zzML3 ++ (zzML4 ++ (zzML5 ++ (zzML6))))))
def zzNM : Nat := 135
def zzm (k : Nat) : MethodName × ByteArray × Nat × Option FieldType × Nat × Nat × Bool := zzML.getD k (yX3_letter, cX3_letter, 0, none, 0, 0, false)
def zzy (k : Nat) : MethodName := (zzm k).1
def zzc (k : Nat) : ByteArray := (zzm k).2.1
def zzl (k : Nat) : Nat := (zzm k).2.2.1
def zzr (k : Nat) : Option FieldType := (zzm k).2.2.2.1
def zzo (k : Nat) : Nat := (zzm k).2.2.2.2.1
def zzn (k : Nat) : Nat := (zzm k).2.2.2.2.2.1
def zzs (k : Nat) : Bool := (zzm k).2.2.2.2.2.2
def zzfT : List ((Nat × Nat) × (Nat × Nat × Bool)) := [((2, 9), (2, 0, false)), ((3, 80), (2, 0, true)), ((2, 15), (2, 1, false)), ((3, 115), (2, 1, true)), ((2, 18), (2, 2, false)), ((0, 37), (2, 2, true)), ((3, 118), (2, 2, true)), ((2, 21), (2, 3, false)), ((3, 121), (2, 3, true)), ((2, 24), (2, 4, false)), ((3, 136), (2, 4, true)), ((2, 27), (2, 5, false)), ((3, 130), (2, 5, true)), ((2, 30), (2, 6, false)), ((0, 34), (2, 6, true)), ((3, 105), (2, 6, true)), ((2, 34), (2, 7, false)), ((3, 152), (2, 7, true)), ((2, 37), (2, 8, false)), ((3, 139), (2, 8, true)), ((2, 40), (2, 9, false)), ((3, 99), (2, 9, true)), ((2, 43), (2, 10, false)), ((3, 211), (2, 10, true)), ((2, 46), (2, 11, false)), ((3, 217), (2, 11, true)), ((1, 9), (1, 0, false)), ((1, 15), (1, 1, false)), ((1, 18), (1, 2, false)), ((1, 21), (1, 3, false)), ((1, 25), (1, 4, false)), ((3, 87), (1, 4, true)), ((0, 9), (0, 0, false)), ((0, 15), (0, 1, false)), ((0, 18), (0, 2, false)), ((0, 21), (0, 3, false)), ((3, 258), (0, 3, true)), ((0, 24), (0, 4, false)), ((0, 28), (0, 5, false)), ((3, 249), (0, 5, true)), ((0, 31), (0, 6, false)), ((3, 252), (0, 6, true)), ((3, 9), (3, 0, false)), ((3, 13), (3, 1, false)), ((3, 17), (3, 2, false)), ((3, 21), (3, 3, false)), ((3, 24), (3, 4, false)), ((3, 27), (3, 5, false)), ((3, 33), (3, 6, false)), ((3, 37), (3, 7, false)), ((3, 40), (3, 8, false)), ((3, 46), (3, 9, false)), ((3, 50), (3, 10, false)), ((3, 53), (3, 11, false)), ((3, 59), (3, 12, false)), ((4, 7), (4, 0, false)), ((4, 56), (4, 1, false)), ((4, 63), (4, 2, false)), ((4, 67), (4, 3, false)), ((4, 70), (4, 4, false)), ((4, 73), (4, 5, false)), ((4, 85), (4, 6, false)), ((4, 13), (4, 7, false)), ((4, 76), (4, 8, false)), ((4, 79), (4, 9, false)), ((4, 16), (4, 10, false)), ((4, 19), (4, 11, false)), ((4, 22), (4, 12, false)), ((4, 107), (4, 13, false)), ((4, 110), (4, 14, false)), ((4, 113), (4, 15, false)), ((4, 166), (4, 16, false)), ((4, 25), (4, 17, false)), ((4, 28), (4, 18, false)), ((4, 31), (4, 19, false)), ((4, 176), (4, 20, false)), ((4, 179), (4, 21, false)), ((4, 82), (4, 22, false)), ((4, 34), (4, 23, false)), ((4, 214), (4, 24, false)), ((4, 46), (4, 25, false)), ((4, 229), (4, 26, false)), ((4, 232), (4, 27, false)), ((4, 235), (4, 28, false)), ((4, 238), (4, 29, false)), ((4, 241), (4, 30, false)), ((4, 244), (4, 31, false)), ((4, 37), (4, 32, false)), ((4, 40), (4, 33, false)), ((4, 43), (4, 34, false)), ((4, 255), (4, 35, false))]
def zzf (o idx : Nat) : Option (Nat × Nat × Bool) := zzfT.lookup (o, idx)
def zzmT : List ((Nat × Nat) × (Nat × Nat)) := [((5, 13), (0, 0)), ((5, 18), (0, 1)), ((5, 23), (0, 2)), ((3, 69), (2, 3)), ((5, 27), (0, 4)), ((3, 73), (0, 2)), ((3, 77), (1, 5)), ((3, 83), (2, 6)), ((3, 90), (1, 7)), ((5, 31), (0, 8)), ((3, 93), (0, 9)), ((3, 96), (1, 10)), ((5, 36), (0, 11)), ((5, 40), (0, 12)), ((3, 102), (2, 13)), ((3, 108), (1, 14)), ((5, 45), (0, 15)), ((3, 112), (0, 16)), ((3, 124), (1, 17)), ((3, 127), (1, 18)), ((3, 133), (1, 19)), ((2, 65), (0, 20)), ((2, 61), (2, 21)), ((5, 49), (0, 22)), ((5, 53), (0, 23)), ((5, 58), (0, 24)), ((3, 142), (0, 25)), ((3, 146), (1, 26)), ((3, 149), (1, 20)), ((3, 155), (1, 27)), ((2, 78), (0, 28)), ((2, 81), (0, 29)), ((5, 62), (0, 30)), ((3, 159), (1, 31)), ((5, 66), (0, 32)), ((3, 162), (1, 33)), ((2, 84), (0, 34)), ((2, 96), (0, 35)), ((2, 99), (0, 36)), ((2, 105), (0, 17)), ((2, 108), (2, 37)), ((2, 102), (0, 38)), ((5, 70), (0, 39)), ((3, 165), (0, 40)), ((3, 198), (1, 41)), ((5, 74), (0, 42)), ((3, 169), (0, 43)), ((3, 172), (2, 44)), ((5, 79), (0, 45)), ((3, 177), (0, 46)), ((3, 240), (2, 47)), ((3, 246), (1, 48)), ((3, 181), (1, 49)), ((0, 38), (2, 47)), ((0, 44), (0, 50)), ((0, 48), (0, 51)), ((0, 52), (0, 52)), ((0, 62), (0, 53)), ((3, 185), (0, 54)), ((5, 83), (0, 55)), ((3, 188), (1, 56)), ((2, 88), (0, 57)), ((2, 73), (2, 44)), ((5, 87), (0, 58)), ((3, 191), (1, 59)), ((5, 92), (0, 60)), ((5, 96), (0, 61)), ((3, 194), (0, 62)), ((3, 261), (1, 63)), ((3, 264), (1, 64)), ((1, 35), (1, 20)), ((5, 100), (0, 65)), ((3, 202), (2, 66)), ((3, 205), (1, 67)), ((2, 69), (0, 19)), ((5, 104), (0, 68)), ((3, 208), (1, 69)), ((5, 108), (0, 70)), ((5, 112), (0, 71)), ((3, 214), (1, 72)), ((5, 116), (0, 73)), ((3, 224), (0, 74)), ((3, 268), (0, 15)), ((3, 228), (0, 75)), ((3, 231), (0, 71)), ((5, 17), (0, 76)), ((4, 52), (2, 77)), ((5, 22), (0, 78)), ((5, 26), (0, 79)), ((4, 59), (0, 80)), ((5, 30), (0, 81)), ((4, 88), (0, 82)), ((5, 35), (0, 83)), ((4, 97), (0, 84)), ((5, 39), (0, 85)), ((5, 44), (0, 86)), ((5, 48), (0, 87)), ((4, 91), (0, 88)), ((4, 148), (0, 89)), ((4, 139), (0, 90)), ((4, 123), (0, 91)), ((4, 120), (0, 92)), ((4, 116), (0, 93)), ((4, 142), (0, 94)), ((4, 132), (2, 95)), ((4, 145), (0, 96)), ((4, 136), (0, 97)), ((5, 52), (0, 98)), ((5, 57), (0, 99)), ((5, 61), (0, 100)), ((4, 151), (0, 101)), ((5, 65), (0, 102)), ((5, 69), (0, 103)), ((4, 154), (0, 104)), ((4, 126), (0, 105)), ((4, 129), (0, 106)), ((5, 73), (0, 107)), ((4, 157), (0, 108)), ((5, 78), (0, 109)), ((4, 169), (0, 110)), ((4, 161), (2, 111)), ((5, 82), (0, 112)), ((4, 197), (0, 113)), ((4, 182), (0, 114)), ((4, 185), (0, 115)), ((4, 173), (0, 116)), ((4, 189), (2, 117)), ((4, 200), (0, 118)), ((5, 86), (0, 119)), ((5, 91), (0, 120)), ((5, 95), (0, 121)), ((5, 99), (0, 122)), ((4, 209), (0, 123)), ((4, 205), (0, 124)), ((5, 103), (0, 125)), ((4, 226), (0, 126)), ((5, 107), (0, 127)), ((5, 111), (0, 128)), ((5, 115), (0, 129)), ((4, 250), (0, 130)), ((4, 247), (0, 131)), ((5, 120), (0, 132)), ((4, 259), (0, 133)), ((4, 265), (0, 134))]
def zzmt (o idx : Nat) : Option (Nat × Nat) := zzmT.lookup (o, idx)
def zzac (o idx : Nat) : Bool := [(2, 49), (0, 56)].contains (o, idx)
def zzmn (o idx : Nat) : Bool := [(3, 63), (2, 91)].contains (o, idx)
def zzmx (o idx : Nat) : Bool := [(3, 255), (1, 29)].contains (o, idx)
def zzkiT : List ((Nat × Nat) × Int32) := [((6, 265), 1431655765), ((6, 266), 858993459), ((6, 267), 252645135), ((4, 221), 65536)]
def zzki (o idx : Nat) : Option Int32 := zzkiT.lookup (o, idx)
def zzklT : List ((Nat × Nat) × Int64) := [((3, 234), 1103515245), ((3, 236), 12345), ((3, 238), 2147483647), ((3, 220), 857), ((3, 222), 31), ((4, 50), 126), ((4, 95), 11), ((4, 101), -1), ((4, 103), 4), ((4, 105), 9), ((4, 164), 30), ((4, 193), 10), ((4, 195), 14), ((4, 203), 20), ((4, 222), 60), ((4, 224), 2), ((4, 212), 1103515245), ((4, 217), 12345), ((4, 219), 2147483647), ((4, 263), 857), ((4, 253), 31)]
def zzkl (o idx : Nat) : Option Int64 := zzklT.lookup (o, idx)
theorem zf_2_9 : zzf 2 9 = some (2, 0, false) := by decide +kernel
theorem zf_3_80 : zzf 3 80 = some (2, 0, true) := by decide +kernel
theorem zf_2_15 : zzf 2 15 = some (2, 1, false) := by decide +kernel
theorem zf_3_115 : zzf 3 115 = some (2, 1, true) := by decide +kernel
theorem zf_2_18 : zzf 2 18 = some (2, 2, false) := by decide +kernel
theorem zf_0_37 : zzf 0 37 = some (2, 2, true) := by decide +kernel
theorem zf_3_118 : zzf 3 118 = some (2, 2, true) := by decide +kernel
theorem zf_2_21 : zzf 2 21 = some (2, 3, false) := by decide +kernel
theorem zf_3_121 : zzf 3 121 = some (2, 3, true) := by decide +kernel
theorem zf_2_24 : zzf 2 24 = some (2, 4, false) := by decide +kernel
theorem zf_3_136 : zzf 3 136 = some (2, 4, true) := by decide +kernel
theorem zf_2_27 : zzf 2 27 = some (2, 5, false) := by decide +kernel
theorem zf_3_130 : zzf 3 130 = some (2, 5, true) := by decide +kernel
theorem zf_2_30 : zzf 2 30 = some (2, 6, false) := by decide +kernel
theorem zf_0_34 : zzf 0 34 = some (2, 6, true) := by decide +kernel
theorem zf_3_105 : zzf 3 105 = some (2, 6, true) := by decide +kernel
theorem zf_2_34 : zzf 2 34 = some (2, 7, false) := by decide +kernel
theorem zf_3_152 : zzf 3 152 = some (2, 7, true) := by decide +kernel
theorem zf_2_37 : zzf 2 37 = some (2, 8, false) := by decide +kernel
theorem zf_3_139 : zzf 3 139 = some (2, 8, true) := by decide +kernel
theorem zf_2_40 : zzf 2 40 = some (2, 9, false) := by decide +kernel
theorem zf_3_99 : zzf 3 99 = some (2, 9, true) := by decide +kernel
theorem zf_2_43 : zzf 2 43 = some (2, 10, false) := by decide +kernel
theorem zf_3_211 : zzf 3 211 = some (2, 10, true) := by decide +kernel
theorem zf_2_46 : zzf 2 46 = some (2, 11, false) := by decide +kernel
theorem zf_3_217 : zzf 3 217 = some (2, 11, true) := by decide +kernel
theorem zf_1_9 : zzf 1 9 = some (1, 0, false) := by decide +kernel
theorem zf_1_15 : zzf 1 15 = some (1, 1, false) := by decide +kernel
theorem zf_1_18 : zzf 1 18 = some (1, 2, false) := by decide +kernel
theorem zf_1_21 : zzf 1 21 = some (1, 3, false) := by decide +kernel
theorem zf_1_25 : zzf 1 25 = some (1, 4, false) := by decide +kernel
theorem zf_3_87 : zzf 3 87 = some (1, 4, true) := by decide +kernel
theorem zf_0_9 : zzf 0 9 = some (0, 0, false) := by decide +kernel
theorem zf_0_15 : zzf 0 15 = some (0, 1, false) := by decide +kernel
theorem zf_0_18 : zzf 0 18 = some (0, 2, false) := by decide +kernel
theorem zf_0_21 : zzf 0 21 = some (0, 3, false) := by decide +kernel
theorem zf_3_258 : zzf 3 258 = some (0, 3, true) := by decide +kernel
theorem zf_0_24 : zzf 0 24 = some (0, 4, false) := by decide +kernel
theorem zf_0_28 : zzf 0 28 = some (0, 5, false) := by decide +kernel
theorem zf_3_249 : zzf 3 249 = some (0, 5, true) := by decide +kernel
theorem zf_0_31 : zzf 0 31 = some (0, 6, false) := by decide +kernel
theorem zf_3_252 : zzf 3 252 = some (0, 6, true) := by decide +kernel
theorem zf_3_9 : zzf 3 9 = some (3, 0, false) := by decide +kernel
theorem zf_3_13 : zzf 3 13 = some (3, 1, false) := by decide +kernel
theorem zf_3_17 : zzf 3 17 = some (3, 2, false) := by decide +kernel
theorem zf_3_21 : zzf 3 21 = some (3, 3, false) := by decide +kernel
theorem zf_3_24 : zzf 3 24 = some (3, 4, false) := by decide +kernel
theorem zf_3_27 : zzf 3 27 = some (3, 5, false) := by decide +kernel
theorem zf_3_33 : zzf 3 33 = some (3, 6, false) := by decide +kernel
theorem zf_3_37 : zzf 3 37 = some (3, 7, false) := by decide +kernel
theorem zf_3_40 : zzf 3 40 = some (3, 8, false) := by decide +kernel
theorem zf_3_46 : zzf 3 46 = some (3, 9, false) := by decide +kernel
theorem zf_3_50 : zzf 3 50 = some (3, 10, false) := by decide +kernel
theorem zf_3_53 : zzf 3 53 = some (3, 11, false) := by decide +kernel
theorem zf_3_59 : zzf 3 59 = some (3, 12, false) := by decide +kernel
theorem zf_4_7 : zzf 4 7 = some (4, 0, false) := by decide +kernel
theorem zf_4_56 : zzf 4 56 = some (4, 1, false) := by decide +kernel
theorem zf_4_63 : zzf 4 63 = some (4, 2, false) := by decide +kernel
theorem zf_4_67 : zzf 4 67 = some (4, 3, false) := by decide +kernel
theorem zf_4_70 : zzf 4 70 = some (4, 4, false) := by decide +kernel
theorem zf_4_73 : zzf 4 73 = some (4, 5, false) := by decide +kernel
theorem zf_4_85 : zzf 4 85 = some (4, 6, false) := by decide +kernel
theorem zf_4_13 : zzf 4 13 = some (4, 7, false) := by decide +kernel
theorem zf_4_76 : zzf 4 76 = some (4, 8, false) := by decide +kernel
theorem zf_4_79 : zzf 4 79 = some (4, 9, false) := by decide +kernel
theorem zf_4_16 : zzf 4 16 = some (4, 10, false) := by decide +kernel
theorem zf_4_19 : zzf 4 19 = some (4, 11, false) := by decide +kernel
theorem zf_4_22 : zzf 4 22 = some (4, 12, false) := by decide +kernel
theorem zf_4_107 : zzf 4 107 = some (4, 13, false) := by decide +kernel
theorem zf_4_110 : zzf 4 110 = some (4, 14, false) := by decide +kernel
theorem zf_4_113 : zzf 4 113 = some (4, 15, false) := by decide +kernel
theorem zf_4_166 : zzf 4 166 = some (4, 16, false) := by decide +kernel
theorem zf_4_25 : zzf 4 25 = some (4, 17, false) := by decide +kernel
theorem zf_4_28 : zzf 4 28 = some (4, 18, false) := by decide +kernel
theorem zf_4_31 : zzf 4 31 = some (4, 19, false) := by decide +kernel
theorem zf_4_176 : zzf 4 176 = some (4, 20, false) := by decide +kernel
theorem zf_4_179 : zzf 4 179 = some (4, 21, false) := by decide +kernel
theorem zf_4_82 : zzf 4 82 = some (4, 22, false) := by decide +kernel
theorem zf_4_34 : zzf 4 34 = some (4, 23, false) := by decide +kernel
theorem zf_4_214 : zzf 4 214 = some (4, 24, false) := by decide +kernel
theorem zf_4_46 : zzf 4 46 = some (4, 25, false) := by decide +kernel
theorem zf_4_229 : zzf 4 229 = some (4, 26, false) := by decide +kernel
theorem zf_4_232 : zzf 4 232 = some (4, 27, false) := by decide +kernel
theorem zf_4_235 : zzf 4 235 = some (4, 28, false) := by decide +kernel
theorem zf_4_238 : zzf 4 238 = some (4, 29, false) := by decide +kernel
theorem zf_4_241 : zzf 4 241 = some (4, 30, false) := by decide +kernel
theorem zf_4_244 : zzf 4 244 = some (4, 31, false) := by decide +kernel
theorem zf_4_37 : zzf 4 37 = some (4, 32, false) := by decide +kernel
theorem zf_4_40 : zzf 4 40 = some (4, 33, false) := by decide +kernel
theorem zf_4_43 : zzf 4 43 = some (4, 34, false) := by decide +kernel
theorem zf_4_255 : zzf 4 255 = some (4, 35, false) := by decide +kernel
theorem zm_5_13 : zzmt 5 13 = some (0, 0) := by decide +kernel
theorem zm_5_18 : zzmt 5 18 = some (0, 1) := by decide +kernel
theorem zm_5_23 : zzmt 5 23 = some (0, 2) := by decide +kernel
theorem zm_3_69 : zzmt 3 69 = some (2, 3) := by decide +kernel
theorem zm_5_27 : zzmt 5 27 = some (0, 4) := by decide +kernel
theorem zm_3_73 : zzmt 3 73 = some (0, 2) := by decide +kernel
theorem zm_3_77 : zzmt 3 77 = some (1, 5) := by decide +kernel
theorem zm_3_83 : zzmt 3 83 = some (2, 6) := by decide +kernel
theorem zm_3_90 : zzmt 3 90 = some (1, 7) := by decide +kernel
theorem zm_5_31 : zzmt 5 31 = some (0, 8) := by decide +kernel
theorem zm_3_93 : zzmt 3 93 = some (0, 9) := by decide +kernel
theorem zm_3_96 : zzmt 3 96 = some (1, 10) := by decide +kernel
theorem zm_5_36 : zzmt 5 36 = some (0, 11) := by decide +kernel
theorem zm_5_40 : zzmt 5 40 = some (0, 12) := by decide +kernel
theorem zm_3_102 : zzmt 3 102 = some (2, 13) := by decide +kernel
theorem zm_3_108 : zzmt 3 108 = some (1, 14) := by decide +kernel
theorem zm_5_45 : zzmt 5 45 = some (0, 15) := by decide +kernel
theorem zm_3_112 : zzmt 3 112 = some (0, 16) := by decide +kernel
theorem zm_3_124 : zzmt 3 124 = some (1, 17) := by decide +kernel
theorem zm_3_127 : zzmt 3 127 = some (1, 18) := by decide +kernel
theorem zm_3_133 : zzmt 3 133 = some (1, 19) := by decide +kernel
theorem zm_2_65 : zzmt 2 65 = some (0, 20) := by decide +kernel
theorem zm_2_61 : zzmt 2 61 = some (2, 21) := by decide +kernel
theorem zm_5_49 : zzmt 5 49 = some (0, 22) := by decide +kernel
theorem zm_5_53 : zzmt 5 53 = some (0, 23) := by decide +kernel
theorem zm_5_58 : zzmt 5 58 = some (0, 24) := by decide +kernel
theorem zm_3_142 : zzmt 3 142 = some (0, 25) := by decide +kernel
theorem zm_3_146 : zzmt 3 146 = some (1, 26) := by decide +kernel
theorem zm_3_149 : zzmt 3 149 = some (1, 20) := by decide +kernel
theorem zm_3_155 : zzmt 3 155 = some (1, 27) := by decide +kernel
theorem zm_2_78 : zzmt 2 78 = some (0, 28) := by decide +kernel
theorem zm_2_81 : zzmt 2 81 = some (0, 29) := by decide +kernel
theorem zm_5_62 : zzmt 5 62 = some (0, 30) := by decide +kernel
theorem zm_3_159 : zzmt 3 159 = some (1, 31) := by decide +kernel
theorem zm_5_66 : zzmt 5 66 = some (0, 32) := by decide +kernel
theorem zm_3_162 : zzmt 3 162 = some (1, 33) := by decide +kernel
theorem zm_2_84 : zzmt 2 84 = some (0, 34) := by decide +kernel
theorem zm_2_96 : zzmt 2 96 = some (0, 35) := by decide +kernel
theorem zm_2_99 : zzmt 2 99 = some (0, 36) := by decide +kernel
theorem zm_2_105 : zzmt 2 105 = some (0, 17) := by decide +kernel
theorem zm_2_108 : zzmt 2 108 = some (2, 37) := by decide +kernel
theorem zm_2_102 : zzmt 2 102 = some (0, 38) := by decide +kernel
theorem zm_5_70 : zzmt 5 70 = some (0, 39) := by decide +kernel
theorem zm_3_165 : zzmt 3 165 = some (0, 40) := by decide +kernel
theorem zm_3_198 : zzmt 3 198 = some (1, 41) := by decide +kernel
theorem zm_5_74 : zzmt 5 74 = some (0, 42) := by decide +kernel
theorem zm_3_169 : zzmt 3 169 = some (0, 43) := by decide +kernel
theorem zm_3_172 : zzmt 3 172 = some (2, 44) := by decide +kernel
theorem zm_5_79 : zzmt 5 79 = some (0, 45) := by decide +kernel
theorem zm_3_177 : zzmt 3 177 = some (0, 46) := by decide +kernel
theorem zm_3_240 : zzmt 3 240 = some (2, 47) := by decide +kernel
theorem zm_3_246 : zzmt 3 246 = some (1, 48) := by decide +kernel
theorem zm_3_181 : zzmt 3 181 = some (1, 49) := by decide +kernel
theorem zm_0_38 : zzmt 0 38 = some (2, 47) := by decide +kernel
theorem zm_0_44 : zzmt 0 44 = some (0, 50) := by decide +kernel
theorem zm_0_48 : zzmt 0 48 = some (0, 51) := by decide +kernel
theorem zm_0_52 : zzmt 0 52 = some (0, 52) := by decide +kernel
theorem zm_0_62 : zzmt 0 62 = some (0, 53) := by decide +kernel
theorem zm_3_185 : zzmt 3 185 = some (0, 54) := by decide +kernel
theorem zm_5_83 : zzmt 5 83 = some (0, 55) := by decide +kernel
theorem zm_3_188 : zzmt 3 188 = some (1, 56) := by decide +kernel
theorem zm_2_88 : zzmt 2 88 = some (0, 57) := by decide +kernel
theorem zm_2_73 : zzmt 2 73 = some (2, 44) := by decide +kernel
theorem zm_5_87 : zzmt 5 87 = some (0, 58) := by decide +kernel
theorem zm_3_191 : zzmt 3 191 = some (1, 59) := by decide +kernel
theorem zm_5_92 : zzmt 5 92 = some (0, 60) := by decide +kernel
theorem zm_5_96 : zzmt 5 96 = some (0, 61) := by decide +kernel
theorem zm_3_194 : zzmt 3 194 = some (0, 62) := by decide +kernel
theorem zm_3_261 : zzmt 3 261 = some (1, 63) := by decide +kernel
theorem zm_3_264 : zzmt 3 264 = some (1, 64) := by decide +kernel
theorem zm_1_35 : zzmt 1 35 = some (1, 20) := by decide +kernel
theorem zm_5_100 : zzmt 5 100 = some (0, 65) := by decide +kernel
theorem zm_3_202 : zzmt 3 202 = some (2, 66) := by decide +kernel
theorem zm_3_205 : zzmt 3 205 = some (1, 67) := by decide +kernel
theorem zm_2_69 : zzmt 2 69 = some (0, 19) := by decide +kernel
theorem zm_5_104 : zzmt 5 104 = some (0, 68) := by decide +kernel
theorem zm_3_208 : zzmt 3 208 = some (1, 69) := by decide +kernel
theorem zm_5_108 : zzmt 5 108 = some (0, 70) := by decide +kernel
theorem zm_5_112 : zzmt 5 112 = some (0, 71) := by decide +kernel
theorem zm_3_214 : zzmt 3 214 = some (1, 72) := by decide +kernel
theorem zm_5_116 : zzmt 5 116 = some (0, 73) := by decide +kernel
theorem zm_3_224 : zzmt 3 224 = some (0, 74) := by decide +kernel
theorem zm_3_268 : zzmt 3 268 = some (0, 15) := by decide +kernel
theorem zm_3_228 : zzmt 3 228 = some (0, 75) := by decide +kernel
theorem zm_3_231 : zzmt 3 231 = some (0, 71) := by decide +kernel
theorem zm_5_17 : zzmt 5 17 = some (0, 76) := by decide +kernel
theorem zm_4_52 : zzmt 4 52 = some (2, 77) := by decide +kernel
theorem zm_5_22 : zzmt 5 22 = some (0, 78) := by decide +kernel
theorem zm_5_26 : zzmt 5 26 = some (0, 79) := by decide +kernel
theorem zm_4_59 : zzmt 4 59 = some (0, 80) := by decide +kernel
theorem zm_5_30 : zzmt 5 30 = some (0, 81) := by decide +kernel
theorem zm_4_88 : zzmt 4 88 = some (0, 82) := by decide +kernel
theorem zm_5_35 : zzmt 5 35 = some (0, 83) := by decide +kernel
theorem zm_4_97 : zzmt 4 97 = some (0, 84) := by decide +kernel
theorem zm_5_39 : zzmt 5 39 = some (0, 85) := by decide +kernel
theorem zm_5_44 : zzmt 5 44 = some (0, 86) := by decide +kernel
theorem zm_5_48 : zzmt 5 48 = some (0, 87) := by decide +kernel
theorem zm_4_91 : zzmt 4 91 = some (0, 88) := by decide +kernel
theorem zm_4_148 : zzmt 4 148 = some (0, 89) := by decide +kernel
theorem zm_4_139 : zzmt 4 139 = some (0, 90) := by decide +kernel
theorem zm_4_123 : zzmt 4 123 = some (0, 91) := by decide +kernel
theorem zm_4_120 : zzmt 4 120 = some (0, 92) := by decide +kernel
theorem zm_4_116 : zzmt 4 116 = some (0, 93) := by decide +kernel
theorem zm_4_142 : zzmt 4 142 = some (0, 94) := by decide +kernel
theorem zm_4_132 : zzmt 4 132 = some (2, 95) := by decide +kernel
theorem zm_4_145 : zzmt 4 145 = some (0, 96) := by decide +kernel
theorem zm_4_136 : zzmt 4 136 = some (0, 97) := by decide +kernel
theorem zm_5_52 : zzmt 5 52 = some (0, 98) := by decide +kernel
theorem zm_5_57 : zzmt 5 57 = some (0, 99) := by decide +kernel
theorem zm_5_61 : zzmt 5 61 = some (0, 100) := by decide +kernel
theorem zm_4_151 : zzmt 4 151 = some (0, 101) := by decide +kernel
theorem zm_5_65 : zzmt 5 65 = some (0, 102) := by decide +kernel
theorem zm_5_69 : zzmt 5 69 = some (0, 103) := by decide +kernel
theorem zm_4_154 : zzmt 4 154 = some (0, 104) := by decide +kernel
theorem zm_4_126 : zzmt 4 126 = some (0, 105) := by decide +kernel
theorem zm_4_129 : zzmt 4 129 = some (0, 106) := by decide +kernel
theorem zm_5_73 : zzmt 5 73 = some (0, 107) := by decide +kernel
theorem zm_4_157 : zzmt 4 157 = some (0, 108) := by decide +kernel
theorem zm_5_78 : zzmt 5 78 = some (0, 109) := by decide +kernel
theorem zm_4_169 : zzmt 4 169 = some (0, 110) := by decide +kernel
theorem zm_4_161 : zzmt 4 161 = some (2, 111) := by decide +kernel
theorem zm_5_82 : zzmt 5 82 = some (0, 112) := by decide +kernel
theorem zm_4_197 : zzmt 4 197 = some (0, 113) := by decide +kernel
theorem zm_4_182 : zzmt 4 182 = some (0, 114) := by decide +kernel
theorem zm_4_185 : zzmt 4 185 = some (0, 115) := by decide +kernel
theorem zm_4_173 : zzmt 4 173 = some (0, 116) := by decide +kernel
theorem zm_4_189 : zzmt 4 189 = some (2, 117) := by decide +kernel
theorem zm_4_200 : zzmt 4 200 = some (0, 118) := by decide +kernel
theorem zm_5_86 : zzmt 5 86 = some (0, 119) := by decide +kernel
theorem zm_5_91 : zzmt 5 91 = some (0, 120) := by decide +kernel
theorem zm_5_95 : zzmt 5 95 = some (0, 121) := by decide +kernel
theorem zm_5_99 : zzmt 5 99 = some (0, 122) := by decide +kernel
theorem zm_4_209 : zzmt 4 209 = some (0, 123) := by decide +kernel
theorem zm_4_205 : zzmt 4 205 = some (0, 124) := by decide +kernel
theorem zm_5_103 : zzmt 5 103 = some (0, 125) := by decide +kernel
theorem zm_4_226 : zzmt 4 226 = some (0, 126) := by decide +kernel
theorem zm_5_107 : zzmt 5 107 = some (0, 127) := by decide +kernel
theorem zm_5_111 : zzmt 5 111 = some (0, 128) := by decide +kernel
theorem zm_5_115 : zzmt 5 115 = some (0, 129) := by decide +kernel
theorem zm_4_250 : zzmt 4 250 = some (0, 130) := by decide +kernel
theorem zm_4_247 : zzmt 4 247 = some (0, 131) := by decide +kernel
theorem zm_5_120 : zzmt 5 120 = some (0, 132) := by decide +kernel
theorem zm_4_259 : zzmt 4 259 = some (0, 133) := by decide +kernel
theorem zm_4_265 : zzmt 4 265 = some (0, 134) := by decide +kernel
theorem zk_6_265 : zzki 6 265 = some 1431655765 := by decide +kernel
theorem zk_6_266 : zzki 6 266 = some 858993459 := by decide +kernel
theorem zk_6_267 : zzki 6 267 = some 252645135 := by decide +kernel
theorem zk_4_221 : zzki 4 221 = some 65536 := by decide +kernel
theorem zk_3_234 : zzkl 3 234 = some (1103515245) := by decide +kernel
theorem zk_3_236 : zzkl 3 236 = some (12345) := by decide +kernel
theorem zk_3_238 : zzkl 3 238 = some (2147483647) := by decide +kernel
theorem zk_3_220 : zzkl 3 220 = some (857) := by decide +kernel
theorem zk_3_222 : zzkl 3 222 = some (31) := by decide +kernel
theorem zk_4_50 : zzkl 4 50 = some (126) := by decide +kernel
theorem zk_4_95 : zzkl 4 95 = some (11) := by decide +kernel
theorem zk_4_101 : zzkl 4 101 = some (-1) := by decide +kernel
theorem zk_4_103 : zzkl 4 103 = some (4) := by decide +kernel
theorem zk_4_105 : zzkl 4 105 = some (9) := by decide +kernel
theorem zk_4_164 : zzkl 4 164 = some (30) := by decide +kernel
theorem zk_4_193 : zzkl 4 193 = some (10) := by decide +kernel
theorem zk_4_195 : zzkl 4 195 = some (14) := by decide +kernel
theorem zk_4_203 : zzkl 4 203 = some (20) := by decide +kernel
theorem zk_4_222 : zzkl 4 222 = some (60) := by decide +kernel
theorem zk_4_224 : zzkl 4 224 = some (2) := by decide +kernel
theorem zk_4_212 : zzkl 4 212 = some (1103515245) := by decide +kernel
theorem zk_4_217 : zzkl 4 217 = some (12345) := by decide +kernel
theorem zk_4_219 : zzkl 4 219 = some (2147483647) := by decide +kernel
theorem zk_4_263 : zzkl 4 263 = some (857) := by decide +kernel
theorem zk_4_253 : zzkl 4 253 = some (31) := by decide +kernel
theorem zn_3_63 : zzmn 3 63 = true := by decide +kernel
theorem zn_2_91 : zzmn 2 91 = true := by decide +kernel
theorem zx_3_255 : zzmx 3 255 = true := by decide +kernel
theorem zx_1_29 : zzmx 1 29 = true := by decide +kernel
theorem za_2_49 : zzac 2 49 = true := by decide +kernel
theorem za_0_56 : zzac 0 56 = true := by decide +kernel
theorem zc_X3_letter : zzm 0 = (yX3_letter, cX3_letter, 2, (some .int), 3, 1, false) := rfl
theorem zc_X3_blank : zzm 1 = (yX3_blank, cX3_blank, 2, (some .int), 3, 0, false) := rfl
theorem zc_X3_fault : zzm 2 = (yX3_fault, cX3_fault, 3, (some .int), 3, 0, false) := rfl
theorem zc_X3_isSign : zzm 3 = (yX3_isSign, cX3_isSign, 1, (some .boolean), 3, 1, true) := rfl
theorem zc_X3_sea : zzm 4 = (yX3_sea, cX3_sea, 2, (some .int), 3, 0, false) := rfl
theorem zc_X2_clear : zzm 5 = (yX2_clear, cX2_clear, 1, none, 2, 0, false) := rfl
theorem zc_X3_currentOf : zzm 6 = (yX3_currentOf, cX3_currentOf, 1, (some .int), 3, 1, true) := rfl
theorem zc_X2_currents : zzm 7 = (yX2_currents, cX2_currents, 3, (some .int), 2, 0, false) := rfl
theorem zc_X3_place : zzm 8 = (yX3_place, cX3_place, 3, (some .int), 3, 2, false) := rfl
theorem zc_X3_isPlace : zzm 9 = (yX3_isPlace, cX3_isPlace, 2, (some .boolean), 3, 1, false) := rfl
theorem zc_X2_islandAt : zzm 10 = (yX2_islandAt, cX2_islandAt, 3, (some .int), 2, 1, false) := rfl
theorem zc_X3_wind : zzm 11 = (yX3_wind, cX3_wind, 3, (some .int), 3, 1, false) := rfl
theorem zc_X3_island : zzm 12 = (yX3_island, cX3_island, 4, (some .int), 3, 3, false) := rfl
theorem zc_X3_isKind : zzm 13 = (yX3_isKind, cX3_isKind, 1, (some .boolean), 3, 1, true) := rfl
theorem zc_X2_add : zzm 14 = (yX2_add, cX2_add, 5, (some .int), 2, 3, false) := rfl
theorem zc_X3_about : zzm 15 = (yX3_about, cX3_about, 3, (some .int), 3, 2, false) := rfl
theorem zc_X3_isIsland : zzm 16 = (yX3_isIsland, cX3_isIsland, 2, (some .boolean), 3, 1, false) := rfl
theorem zc_X2_pushOf : zzm 17 = (yX2_pushOf, cX2_pushOf, 4, (some .int), 2, 1, false) := rfl
theorem zc_X2_isAnchored : zzm 18 = (yX2_isAnchored, cX2_isAnchored, 2, (some .boolean), 2, 1, false) := rfl
theorem zc_X2_neighbours : zzm 19 = (yX2_neighbours, cX2_neighbours, 4, (some .int), 2, 1, false) := rfl
theorem zc_X2_areBeside : zzm 20 = (yX2_areBeside, cX2_areBeside, 3, (some .boolean), 2, 2, false) := rfl
theorem zc_X2_stepped : zzm 21 = (yX2_stepped, cX2_stepped, 3, (some .int), 2, 2, true) := rfl
theorem zc_X3_as : zzm 22 = (yX3_as, cX3_as, 5, (some .int), 3, 2, false) := rfl
theorem zc_X3_anchor : zzm 23 = (yX3_anchor, cX3_anchor, 4, (some .int), 3, 2, false) := rfl
theorem zc_X3_wed : zzm 24 = (yX3_wed, cX3_wed, 3, (some .int), 3, 2, false) := rfl
theorem zc_X3_areTwo : zzm 25 = (yX3_areTwo, cX3_areTwo, 3, (some .boolean), 3, 2, false) := rfl
theorem zc_X2_areRoped : zzm 26 = (yX2_areRoped, cX2_areRoped, 3, (some .boolean), 2, 2, false) := rfl
theorem zc_X2_tie : zzm 27 = (yX2_tie, cX2_tie, 3, none, 2, 2, false) := rfl
theorem zc_X2_findParties : zzm 28 = (yX2_findParties, cX2_findParties, 2, none, 2, 0, false) := rfl
theorem zc_X2_tiedTo : zzm 29 = (yX2_tiedTo, cX2_tiedTo, 5, (some .int), 2, 1, false) := rfl
theorem zc_X3_axe : zzm 30 = (yX3_axe, cX3_axe, 3, (some .int), 3, 2, false) := rfl
theorem zc_X2_cut : zzm 31 = (yX2_cut, cX2_cut, 3, none, 2, 2, false) := rfl
theorem zc_X3_day : zzm 32 = (yX3_day, cX3_day, 1, (some .int), 3, 0, false) := rfl
theorem zc_X2_drift : zzm 33 = (yX2_drift, cX2_drift, 3, (some .int), 2, 0, false) := rfl
theorem zc_X2_leads : zzm 34 = (yX2_leads, cX2_leads, 2, (some .boolean), 2, 1, false) := rfl
theorem zc_X2_moves : zzm 35 = (yX2_moves, cX2_moves, 4, (some .boolean), 2, 1, false) := rfl
theorem zc_X2_stepOf : zzm 36 = (yX2_stepOf, cX2_stepOf, 4, (some .int), 2, 1, false) := rfl
theorem zc_J6_compare_7cf53 : zzm 37 = (yJ6_compare_7cf53, cJ6_compare_7cf53, 2, (some .int), 6, 2, true) := rfl
theorem zc_X2_isBarred : zzm 38 = (yX2_isBarred, cX2_isBarred, 6, (some .boolean), 2, 2, false) := rfl
theorem zc_X3_meet : zzm 39 = (yX3_meet, cX3_meet, 3, (some .int), 3, 2, false) := rfl
theorem zc_X3_firstMeeting : zzm 40 = (yX3_firstMeeting, cX3_firstMeeting, 6, (some .int), 3, 4, false) := rfl
theorem zc_X2_copy : zzm 41 = (yX2_copy, cX2_copy, 2, none, 2, 1, false) := rfl
theorem zc_X3_anchors : zzm 42 = (yX3_anchors, cX3_anchors, 6, (some .int), 3, 4, false) := rfl
theorem zc_X3_fewestAnchors : zzm 43 = (yX3_fewestAnchors, cX3_fewestAnchors, 7, (some .int), 3, 3, false) := rfl
theorem zc_J6_bitCount_0f7a4 : zzm 44 = (yJ6_bitCount_0f7a4, cJ6_bitCount_0f7a4, 1, (some .int), 6, 1, true) := rfl
theorem zc_X3_stable : zzm 45 = (yX3_stable, cX3_stable, 3, (some .int), 3, 1, false) := rfl
theorem zc_X3_meetAll : zzm 46 = (yX3_meetAll, cX3_meetAll, 3, none, 3, 1, false) := rfl
theorem zc_J7_fill_53178 : zzm 47 = (yJ7_fill_53178, cJ7_fill_53178, 4, none, 7, 2, true) := rfl
theorem zc_X2_noteMeetings : zzm 48 = (yX2_noteMeetings, cX2_noteMeetings, 5, none, 2, 2, false) := rfl
theorem zc_X0_solve : zzm 49 = (yX0_solve, cX0_solve, 6, none, 0, 2, false) := rfl
theorem zc_X0_goThrough : zzm 50 = (yX0_goThrough, cX0_goThrough, 4, none, 0, 2, false) := rfl
theorem zc_X0_weigh : zzm 51 = (yX0_weigh, cX0_weigh, 2, none, 0, 1, false) := rfl
theorem zc_X0_isStable : zzm 52 = (yX0_isStable, cX0_isStable, 4, (some .boolean), 0, 0, false) := rfl
theorem zc_X0_likesBetter : zzm 53 = (yX0_likesBetter, cX0_likesBetter, 3, (some .boolean), 0, 2, false) := rfl
theorem zc_X3_matchesTell : zzm 54 = (yX3_matchesTell, cX3_matchesTell, 3, (some .int), 3, 1, false) := rfl
theorem zc_X3_parting : zzm 55 = (yX3_parting, cX3_parting, 3, (some .int), 3, 2, false) := rfl
theorem zc_X2_fewestCuts : zzm 56 = (yX2_fewestCuts, cX2_fewestCuts, 6, (some .int), 2, 2, false) := rfl
theorem zc_X2_ropesOutOf : zzm 57 = (yX2_ropesOutOf, cX2_ropesOutOf, 4, (some .int), 2, 1, false) := rfl
theorem zc_X3_shell : zzm 58 = (yX3_shell, cX3_shell, 5, (some .int), 3, 4, false) := rfl
theorem zc_X1_add : zzm 59 = (yX1_add, cX1_add, 5, (some .int), 1, 4, false) := rfl
theorem zc_X3_forget : zzm 60 = (yX3_forget, cX3_forget, 2, (some .int), 3, 0, false) := rfl
theorem zc_X3_guess : zzm 61 = (yX3_guess, cX3_guess, 8, (some .int), 3, 2, false) := rfl
theorem zc_X3_shellsWouldHold : zzm 62 = (yX3_shellsWouldHold, cX3_shellsWouldHold, 6, (some .boolean), 3, 3, false) := rfl
theorem zc_X1_lastDay : zzm 63 = (yX1_lastDay, cX1_lastDay, 3, (some .int), 1, 0, false) := rfl
theorem zc_X1_holdOn : zzm 64 = (yX1_holdOn, cX1_holdOn, 4, (some .boolean), 1, 2, false) := rfl
theorem zc_X3_seasons : zzm 65 = (yX3_seasons, cX3_seasons, 7, (some .int), 3, 3, false) := rfl
theorem zc_X3_nextSeed : zzm 66 = (yX3_nextSeed, cX3_nextSeed, 1, (some .int), 3, 1, true) := rfl
theorem zc_X2_pairsBeside : zzm 67 = (yX2_pairsBeside, cX2_pairsBeside, 3, (some .int), 2, 0, false) := rfl
theorem zc_X3_image : zzm 68 = (yX3_image, cX3_image, 1, (some .int), 3, 0, false) := rfl
theorem zc_X1_copy : zzm 69 = (yX1_copy, cX1_copy, 3, none, 1, 1, false) := rfl
theorem zc_X3_restore : zzm 70 = (yX3_restore, cX3_restore, 1, (some .int), 3, 0, false) := rfl
theorem zc_X3_count : zzm 71 = (yX3_count, cX3_count, 2, (some .int), 3, 1, false) := rfl
theorem zc_X2_parties : zzm 72 = (yX2_parties, cX2_parties, 3, (some .int), 2, 0, false) := rfl
theorem zc_X3_digest : zzm 73 = (yX3_digest, cX3_digest, 4, (some .long), 3, 0, false) := rfl
theorem zc_X3_digestIslands : zzm 74 = (yX3_digestIslands, cX3_digestIslands, 7, (some .long), 3, 1, false) := rfl
theorem zc_X3_digestMatches : zzm 75 = (yX3_digestMatches, cX3_digestMatches, 6, (some .long), 3, 1, false) := rfl
theorem zc_X4_letter : zzm 76 = (yX4_letter, cX4_letter, 2, (some .int), 4, 1, false) := rfl
theorem zc_X4_in : zzm 77 = (yX4_in, cX4_in, 6, (some .boolean), 4, 3, true) := rfl
theorem zc_X4_blank : zzm 78 = (yX4_blank, cX4_blank, 2, (some .int), 4, 0, false) := rfl
theorem zc_X4_fault : zzm 79 = (yX4_fault, cX4_fault, 1, (some .int), 4, 0, false) := rfl
theorem zc_X4_faultOf : zzm 80 = (yX4_faultOf, cX4_faultOf, 2, (some .int), 4, 0, false) := rfl
theorem zc_X4_sea : zzm 81 = (yX4_sea, cX4_sea, 2, (some .int), 4, 0, false) := rfl
theorem zc_X4_currentMany : zzm 82 = (yX4_currentMany, cX4_currentMany, 3, (some .int), 4, 0, false) := rfl
theorem zc_X4_place : zzm 83 = (yX4_place, cX4_place, 3, (some .int), 4, 2, false) := rfl
theorem zc_X4_whoIsAt : zzm 84 = (yX4_whoIsAt, cX4_whoIsAt, 4, (some .int), 4, 1, false) := rfl
theorem zc_X4_wind : zzm 85 = (yX4_wind, cX4_wind, 3, (some .int), 4, 1, false) := rfl
theorem zc_X4_island : zzm 86 = (yX4_island, cX4_island, 4, (some .int), 4, 3, false) := rfl
theorem zc_X4_about : zzm 87 = (yX4_about, cX4_about, 3, (some .int), 4, 2, false) := rfl
theorem zc_X4_isIsland : zzm 88 = (yX4_isIsland, cX4_isIsland, 2, (some .boolean), 4, 1, false) := rfl
theorem zc_X4_tell : zzm 89 = (yX4_tell, cX4_tell, 3, (some .int), 4, 2, false) := rfl
theorem zc_X4_asItIs : zzm 90 = (yX4_asItIs, cX4_asItIs, 2, none, 4, 0, false) := rfl
theorem zc_X4_pushOf : zzm 91 = (yX4_pushOf, cX4_pushOf, 3, (some .int), 4, 1, false) := rfl
theorem zc_X4_partyOf : zzm 92 = (yX4_partyOf, cX4_partyOf, 2, (some .int), 4, 1, false) := rfl
theorem zc_X4_partyBy : zzm 93 = (yX4_partyBy, cX4_partyBy, 7, (some .int), 4, 2, false) := rfl
theorem zc_X4_besideBits : zzm 94 = (yX4_besideBits, cX4_besideBits, 4, (some .int), 4, 1, false) := rfl
theorem zc_X4_areBeside : zzm 95 = (yX4_areBeside, cX4_areBeside, 2, (some .boolean), 4, 2, true) := rfl
theorem zc_X4_ropedBits : zzm 96 = (yX4_ropedBits, cX4_ropedBits, 4, (some .int), 4, 1, false) := rfl
theorem zc_X4_areRoped : zzm 97 = (yX4_areRoped, cX4_areRoped, 5, (some .boolean), 4, 2, false) := rfl
theorem zc_X4_as : zzm 98 = (yX4_as, cX4_as, 5, (some .int), 4, 2, false) := rfl
theorem zc_X4_anchor : zzm 99 = (yX4_anchor, cX4_anchor, 4, (some .int), 4, 2, false) := rfl
theorem zc_X4_wed : zzm 100 = (yX4_wed, cX4_wed, 3, (some .int), 4, 2, false) := rfl
theorem zc_X4_arePair : zzm 101 = (yX4_arePair, cX4_arePair, 3, (some .boolean), 4, 2, false) := rfl
theorem zc_X4_axe : zzm 102 = (yX4_axe, cX4_axe, 8, (some .int), 4, 2, false) := rfl
theorem zc_X4_day : zzm 103 = (yX4_day, cX4_day, 3, (some .int), 4, 0, false) := rfl
theorem zc_X4_passes : zzm 104 = (yX4_passes, cX4_passes, 3, (some .int), 4, 0, false) := rfl
theorem zc_X4_isFirst : zzm 105 = (yX4_isFirst, cX4_isFirst, 2, (some .boolean), 4, 1, false) := rfl
theorem zc_X4_drifts : zzm 106 = (yX4_drifts, cX4_drifts, 7, (some .int), 4, 1, false) := rfl
theorem zc_X4_meet : zzm 107 = (yX4_meet, cX4_meet, 3, (some .int), 4, 2, false) := rfl
theorem zc_X4_meetBy : zzm 108 = (yX4_meetBy, cX4_meetBy, 7, (some .int), 4, 4, false) := rfl
theorem zc_X4_anchors : zzm 109 = (yX4_anchors, cX4_anchors, 6, (some .int), 4, 4, false) := rfl
theorem zc_X4_anchorsOf : zzm 110 = (yX4_anchorsOf, cX4_anchorsOf, 7, (some .int), 4, 3, false) := rfl
theorem zc_X4_ones : zzm 111 = (yX4_ones, cX4_ones, 3, (some .int), 4, 1, true) := rfl
theorem zc_X4_stable : zzm 112 = (yX4_stable, cX4_stable, 2, (some .int), 4, 1, false) := rfl
theorem zc_X4_layStable : zzm 113 = (yX4_layStable, cX4_layStable, 5, none, 4, 0, false) := rfl
theorem zc_X4_isMatch : zzm 114 = (yX4_isMatch, cX4_isMatch, 5, (some .boolean), 4, 1, false) := rfl
theorem zc_X4_isStable : zzm 115 = (yX4_isStable, cX4_isStable, 5, (some .boolean), 4, 0, false) := rfl
theorem zc_X4_likes : zzm 116 = (yX4_likes, cX4_likes, 3, (some .boolean), 4, 2, false) := rfl
theorem zc_X4_copy : zzm 117 = (yX4_copy, cX4_copy, 3, none, 4, 2, true) := rfl
theorem zc_X4_tellStable : zzm 118 = (yX4_tellStable, cX4_tellStable, 2, (some .int), 4, 1, false) := rfl
theorem zc_X4_parting : zzm 119 = (yX4_parting, cX4_parting, 6, (some .int), 4, 2, false) := rfl
theorem zc_X4_shell : zzm 120 = (yX4_shell, cX4_shell, 5, (some .int), 4, 4, false) := rfl
theorem zc_X4_forget : zzm 121 = (yX4_forget, cX4_forget, 2, (some .int), 4, 0, false) := rfl
theorem zc_X4_guess : zzm 122 = (yX4_guess, cX4_guess, 3, (some .int), 4, 2, false) := rfl
theorem zc_X4_guessOf : zzm 123 = (yX4_guessOf, cX4_guessOf, 7, (some .int), 4, 2, false) := rfl
theorem zc_X4_isSo : zzm 124 = (yX4_isSo, cX4_isSo, 8, (some .boolean), 4, 3, false) := rfl
theorem zc_X4_seasons : zzm 125 = (yX4_seasons, cX4_seasons, 8, (some .int), 4, 3, false) := rfl
theorem zc_X4_draw : zzm 126 = (yX4_draw, cX4_draw, 2, (some .int), 4, 1, false) := rfl
theorem zc_X4_image : zzm 127 = (yX4_image, cX4_image, 1, (some .int), 4, 0, false) := rfl
theorem zc_X4_restore : zzm 128 = (yX4_restore, cX4_restore, 1, (some .int), 4, 0, false) := rfl
theorem zc_X4_count : zzm 129 = (yX4_count, cX4_count, 2, (some .int), 4, 1, false) := rfl
theorem zc_X4_countOf : zzm 130 = (yX4_countOf, cX4_countOf, 2, (some .int), 4, 1, false) := rfl
theorem zc_X4_partyMany : zzm 131 = (yX4_partyMany, cX4_partyMany, 3, (some .int), 4, 0, false) := rfl
theorem zc_X4_digest : zzm 132 = (yX4_digest, cX4_digest, 2, (some .long), 4, 0, false) := rfl
theorem zc_X4_say : zzm 133 = (yX4_say, cX4_say, 3, none, 4, 1, false) := rfl
theorem zc_X4_sayIsland : zzm 134 = (yX4_sayIsland, cX4_sayIsland, 3, none, 4, 1, false) := rfl
end
section
/-! the words that every method of the system has: those of the tables that stay; the nest words apart -/
def zzT0 : List Cond := lw_tbl.filter goodWord
def zzisN : Cond → Bool
  | .fieldLinkNest _ _ _ _ _ _ => true
  | .methodLinkNest _ _ _ _ => true
  | _ => false
def zzN0 : List Cond := lw_tbl.filter zzisN
def zzws (k : Nat) : List Cond := .code (zzy k) (zzc k) (zzl k) (zzr k) :: zzT0
def zzNN (ci : Nat) : Nat := match ci with
  | 0 => 7
  | 1 => 5
  | 2 => 12
  | 3 => 13
  | _ => 36
def zzty (ci sl : Nat) : FieldType := match ci with
  | 0 => tyX0 sl
  | 1 => tyX1 sl
  | 2 => tyX2 sl
  | 3 => tyX3 sl
  | _ => tyX4 sl
def zzTT (ci : Nat) : u_T := match ci with
  | 0 => TX0
  | 1 => TX1
  | 2 => TX2
  | 3 => TX3
  | _ => TX4
def zzin (w : Cond) : Bool := decide (w ∈ lw_tbl) && goodWord w
def zzinN (w : Cond) : Bool := decide (w ∈ lw_tbl) && zzisN w
theorem zzin_mem {w : Cond} (h : zzin w = true) : w ∈ zzT0 := by
  simp only [zzin, Bool.and_eq_true, decide_eq_true_eq] at h
  exact List.mem_filter.mpr h
theorem zzinN_mem {w : Cond} (h : zzinN w = true) : w ∈ zzN0 := by
  simp only [zzinN, Bool.and_eq_true, decide_eq_true_eq] at h
  exact List.mem_filter.mpr h
theorem zzat_mem {w : Cond} (p : Nat) (h : lw_tbl[p]? = some w ∧ goodWord w = true) : w ∈ zzT0 := List.mem_filter.mpr ⟨List.mem_of_getElem? h.1, h.2⟩
theorem zzatN_mem {w : Cond} (p : Nat) (h : lw_tbl[p]? = some w ∧ zzisN w = true) : w ∈ zzN0 := List.mem_filter.mpr ⟨List.mem_of_getElem? h.1, h.2⟩
theorem zz_lookup {α β : Type} [BEq α] [LawfulBEq α] {k : α} {v : β} : ∀ {l : List (α × β)}, l.lookup k = some v → (k, v) ∈ l
  | [], h => by simp at h
  | (a, b) :: t, h => by
    rw [List.lookup_cons] at h
    cases e : k == a with
    | true =>
      rw [e] at h
      cases h
      have : k = a := eq_of_beq e
      subst this
      exact List.mem_cons_self
    | false =>
      rw [e] at h
      exact List.mem_cons_of_mem _ (zz_lookup h)
def zzchkF (e : (Nat × Nat) × (Nat × Nat × Bool)) : Bool :=
  decide (e.2.1 < 5) && decide (e.2.2.1 < zzNN e.2.1) && (if e.2.2.2 = true then zzinN (.fieldLinkNest (zzR e.1.1) e.1.2 (zzTT e.2.1 e.2.2.1).1 (zzTT e.2.1 e.2.2.1).2.1 (zzTT e.2.1 e.2.2.1).2.2.1 "IslandsWed") else zzin (.fieldLink (zzR e.1.1) e.1.2 (zzTT e.2.1 e.2.2.1).1 (zzTT e.2.1 e.2.2.1).2.1 (zzTT e.2.1 e.2.2.1).2.2.1))
set_option maxRecDepth 100000 in
theorem zzfT_ok : zzfT.all zzchkF = true := by decide +kernel
def zzPC (e : MethodName × ByteArray × Nat × Option FieldType × Nat × Nat × Bool) : Prop :=
  .code e.1 e.2.1 e.2.2.1 e.2.2.2.1 ∈ zzT0 ∧ .initialized e.1.cls ∈ zzT0 ∧ plainName e.1.cls = true ∧ e.1.cls = zzR e.2.2.2.2.1 ∧ (e.1.cls ≠ "java/lang/invoke/MethodHandle" ∧ e.1.cls ≠ "java/lang/invoke/VarHandle" ∧ (parseMethodDescriptor e.1.desc).map (fun d => d.parameters.length) = some e.2.2.2.2.2.1) ∧ e.2.2.1 ≤ 40 ∧
  ((e.2.2.2.2.2.2 = true → .static e.1 ∈ zzT0) ∧ (e.2.2.2.2.2.2 = false → .instanceMethod e.1 ∈ zzT0 ∧ .selects (zzR e.2.2.2.2.1) e.1 e.1 ∈ zzT0 ∧ e.2.2.2.2.1 < 5))
def zzokC (k : Nat) : Prop := zzPC (zzm k)
theorem zzokC_of {k : Nat} {e : MethodName × ByteArray × Nat × Option FieldType × Nat × Nat × Bool} (h : zzm k = e) : zzokC k = zzPC e := by rw [← h]; rfl
def zzPM (o idx kd k : Nat) (e : MethodName × ByteArray × Nat × Option FieldType × Nat × Nat × Bool) : Prop :=
  k < zzNM ∧ ((kd = 0 ∧ .methodLink (zzR o) idx e.1 ∈ zzT0 ∧ e.2.2.2.2.2.2 = false) ∨ (kd = 1 ∧ .methodLinkNest (zzR o) idx e.1 "IslandsWed" ∈ zzN0 ∧ e.2.2.2.2.2.2 = false) ∨ (kd = 2 ∧ .methodLink (zzR o) idx e.1 ∈ zzT0 ∧ e.2.2.2.2.2.2 = true))
def zzokM (q : (Nat × Nat) × (Nat × Nat)) : Prop := zzPM q.1.1 q.1.2 q.2.1 q.2.2 (zzm q.2.2)
theorem zzokM_of {o idx kd k : Nat} {e : MethodName × ByteArray × Nat × Option FieldType × Nat × Nat × Bool} (h : zzm k = e) : zzokM ((o, idx), (kd, k)) = zzPM o idx kd k e := by rw [← h]; rfl
theorem zwC_0 : zzokC 0 := by
  rw [zzokC_of zc_X3_letter]
  exact ⟨zzat_mem 247 (by decide +kernel), zzat_mem 74 (by decide +kernel), by decide +kernel, by decide +kernel, by decide +kernel, by decide, ⟨fun h => absurd h (by decide), fun _ => ⟨zzat_mem 245 (by decide +kernel), zzat_mem 246 (by decide +kernel), by decide⟩⟩⟩
theorem zwC_1 : zzokC 1 := by
  rw [zzokC_of zc_X3_blank]
  exact ⟨zzat_mem 251 (by decide +kernel), zzat_mem 74 (by decide +kernel), by decide +kernel, by decide +kernel, by decide +kernel, by decide, ⟨fun h => absurd h (by decide), fun _ => ⟨zzat_mem 249 (by decide +kernel), zzat_mem 250 (by decide +kernel), by decide⟩⟩⟩
theorem zwC_2 : zzokC 2 := by
  rw [zzokC_of zc_X3_fault]
  exact ⟨zzat_mem 255 (by decide +kernel), zzat_mem 74 (by decide +kernel), by decide +kernel, by decide +kernel, by decide +kernel, by decide, ⟨fun h => absurd h (by decide), fun _ => ⟨zzat_mem 253 (by decide +kernel), zzat_mem 254 (by decide +kernel), by decide⟩⟩⟩
theorem zwC_3 : zzokC 3 := by
  rw [zzokC_of zc_X3_isSign]
  exact ⟨zzat_mem 261 (by decide +kernel), zzat_mem 74 (by decide +kernel), by decide +kernel, by decide +kernel, by decide +kernel, by decide, ⟨fun _ => zzat_mem 260 (by decide +kernel), fun h => absurd h (by decide)⟩⟩
theorem zwC_4 : zzokC 4 := by
  rw [zzokC_of zc_X3_sea]
  exact ⟨zzat_mem 265 (by decide +kernel), zzat_mem 74 (by decide +kernel), by decide +kernel, by decide +kernel, by decide +kernel, by decide, ⟨fun h => absurd h (by decide), fun _ => ⟨zzat_mem 263 (by decide +kernel), zzat_mem 264 (by decide +kernel), by decide⟩⟩⟩
theorem zwC_5 : zzokC 5 := by
  rw [zzokC_of zc_X2_clear]
  exact ⟨zzat_mem 270 (by decide +kernel), zzat_mem 75 (by decide +kernel), by decide +kernel, by decide +kernel, by decide +kernel, by decide, ⟨fun h => absurd h (by decide), fun _ => ⟨zzat_mem 269 (by decide +kernel), zzat_mem 0 (by decide +kernel), by decide⟩⟩⟩
theorem zwC_6 : zzokC 6 := by
  rw [zzokC_of zc_X3_currentOf]
  exact ⟨zzat_mem 273 (by decide +kernel), zzat_mem 74 (by decide +kernel), by decide +kernel, by decide +kernel, by decide +kernel, by decide, ⟨fun _ => zzat_mem 272 (by decide +kernel), fun h => absurd h (by decide)⟩⟩
theorem zwC_7 : zzokC 7 := by
  rw [zzokC_of zc_X2_currents]
  exact ⟨zzat_mem 277 (by decide +kernel), zzat_mem 75 (by decide +kernel), by decide +kernel, by decide +kernel, by decide +kernel, by decide, ⟨fun h => absurd h (by decide), fun _ => ⟨zzat_mem 276 (by decide +kernel), zzat_mem 1 (by decide +kernel), by decide⟩⟩⟩
theorem zwC_8 : zzokC 8 := by
  rw [zzokC_of zc_X3_place]
  exact ⟨zzat_mem 281 (by decide +kernel), zzat_mem 74 (by decide +kernel), by decide +kernel, by decide +kernel, by decide +kernel, by decide, ⟨fun h => absurd h (by decide), fun _ => ⟨zzat_mem 279 (by decide +kernel), zzat_mem 280 (by decide +kernel), by decide⟩⟩⟩
theorem zwC_9 : zzokC 9 := by
  rw [zzokC_of zc_X3_isPlace]
  exact ⟨zzat_mem 285 (by decide +kernel), zzat_mem 74 (by decide +kernel), by decide +kernel, by decide +kernel, by decide +kernel, by decide, ⟨fun h => absurd h (by decide), fun _ => ⟨zzat_mem 284 (by decide +kernel), zzat_mem 2 (by decide +kernel), by decide⟩⟩⟩
theorem zwC_10 : zzokC 10 := by
  rw [zzokC_of zc_X2_islandAt]
  exact ⟨zzat_mem 289 (by decide +kernel), zzat_mem 75 (by decide +kernel), by decide +kernel, by decide +kernel, by decide +kernel, by decide, ⟨fun h => absurd h (by decide), fun _ => ⟨zzat_mem 288 (by decide +kernel), zzat_mem 3 (by decide +kernel), by decide⟩⟩⟩
theorem zwC_11 : zzokC 11 := by
  rw [zzokC_of zc_X3_wind]
  exact ⟨zzat_mem 293 (by decide +kernel), zzat_mem 74 (by decide +kernel), by decide +kernel, by decide +kernel, by decide +kernel, by decide, ⟨fun h => absurd h (by decide), fun _ => ⟨zzat_mem 291 (by decide +kernel), zzat_mem 292 (by decide +kernel), by decide⟩⟩⟩
theorem zwC_12 : zzokC 12 := by
  rw [zzokC_of zc_X3_island]
  exact ⟨zzat_mem 297 (by decide +kernel), zzat_mem 74 (by decide +kernel), by decide +kernel, by decide +kernel, by decide +kernel, by decide, ⟨fun h => absurd h (by decide), fun _ => ⟨zzat_mem 295 (by decide +kernel), zzat_mem 296 (by decide +kernel), by decide⟩⟩⟩
theorem zwC_13 : zzokC 13 := by
  rw [zzokC_of zc_X3_isKind]
  exact ⟨zzat_mem 300 (by decide +kernel), zzat_mem 74 (by decide +kernel), by decide +kernel, by decide +kernel, by decide +kernel, by decide, ⟨fun _ => zzat_mem 299 (by decide +kernel), fun h => absurd h (by decide)⟩⟩
theorem zwC_14 : zzokC 14 := by
  rw [zzokC_of zc_X2_add]
  exact ⟨zzat_mem 304 (by decide +kernel), zzat_mem 75 (by decide +kernel), by decide +kernel, by decide +kernel, by decide +kernel, by decide, ⟨fun h => absurd h (by decide), fun _ => ⟨zzat_mem 303 (by decide +kernel), zzat_mem 4 (by decide +kernel), by decide⟩⟩⟩
theorem zwC_15 : zzokC 15 := by
  rw [zzokC_of zc_X3_about]
  exact ⟨zzat_mem 308 (by decide +kernel), zzat_mem 74 (by decide +kernel), by decide +kernel, by decide +kernel, by decide +kernel, by decide, ⟨fun h => absurd h (by decide), fun _ => ⟨zzat_mem 306 (by decide +kernel), zzat_mem 307 (by decide +kernel), by decide⟩⟩⟩
theorem zwC_16 : zzokC 16 := by
  rw [zzokC_of zc_X3_isIsland]
  exact ⟨zzat_mem 312 (by decide +kernel), zzat_mem 74 (by decide +kernel), by decide +kernel, by decide +kernel, by decide +kernel, by decide, ⟨fun h => absurd h (by decide), fun _ => ⟨zzat_mem 311 (by decide +kernel), zzat_mem 5 (by decide +kernel), by decide⟩⟩⟩
theorem zwC_17 : zzokC 17 := by
  rw [zzokC_of zc_X2_pushOf]
  exact ⟨zzat_mem 316 (by decide +kernel), zzat_mem 75 (by decide +kernel), by decide +kernel, by decide +kernel, by decide +kernel, by decide, ⟨fun h => absurd h (by decide), fun _ => ⟨zzat_mem 315 (by decide +kernel), zzat_mem 6 (by decide +kernel), by decide⟩⟩⟩
theorem zwC_18 : zzokC 18 := by
  rw [zzokC_of zc_X2_isAnchored]
  exact ⟨zzat_mem 324 (by decide +kernel), zzat_mem 75 (by decide +kernel), by decide +kernel, by decide +kernel, by decide +kernel, by decide, ⟨fun h => absurd h (by decide), fun _ => ⟨zzat_mem 323 (by decide +kernel), zzat_mem 7 (by decide +kernel), by decide⟩⟩⟩
theorem zwC_19 : zzokC 19 := by
  rw [zzokC_of zc_X2_neighbours]
  exact ⟨zzat_mem 328 (by decide +kernel), zzat_mem 75 (by decide +kernel), by decide +kernel, by decide +kernel, by decide +kernel, by decide, ⟨fun h => absurd h (by decide), fun _ => ⟨zzat_mem 327 (by decide +kernel), zzat_mem 8 (by decide +kernel), by decide⟩⟩⟩
theorem zwC_20 : zzokC 20 := by
  rw [zzokC_of zc_X2_areBeside]
  exact ⟨zzat_mem 332 (by decide +kernel), zzat_mem 75 (by decide +kernel), by decide +kernel, by decide +kernel, by decide +kernel, by decide, ⟨fun h => absurd h (by decide), fun _ => ⟨zzat_mem 331 (by decide +kernel), zzat_mem 9 (by decide +kernel), by decide⟩⟩⟩
theorem zwC_21 : zzokC 21 := by
  rw [zzokC_of zc_X2_stepped]
  exact ⟨zzat_mem 335 (by decide +kernel), zzat_mem 75 (by decide +kernel), by decide +kernel, by decide +kernel, by decide +kernel, by decide, ⟨fun _ => zzat_mem 334 (by decide +kernel), fun h => absurd h (by decide)⟩⟩
theorem zwC_22 : zzokC 22 := by
  rw [zzokC_of zc_X3_as]
  exact ⟨zzat_mem 339 (by decide +kernel), zzat_mem 74 (by decide +kernel), by decide +kernel, by decide +kernel, by decide +kernel, by decide, ⟨fun h => absurd h (by decide), fun _ => ⟨zzat_mem 337 (by decide +kernel), zzat_mem 338 (by decide +kernel), by decide⟩⟩⟩
theorem zwC_23 : zzokC 23 := by
  rw [zzokC_of zc_X3_anchor]
  exact ⟨zzat_mem 343 (by decide +kernel), zzat_mem 74 (by decide +kernel), by decide +kernel, by decide +kernel, by decide +kernel, by decide, ⟨fun h => absurd h (by decide), fun _ => ⟨zzat_mem 341 (by decide +kernel), zzat_mem 342 (by decide +kernel), by decide⟩⟩⟩
theorem zwC_24 : zzokC 24 := by
  rw [zzokC_of zc_X3_wed]
  exact ⟨zzat_mem 347 (by decide +kernel), zzat_mem 74 (by decide +kernel), by decide +kernel, by decide +kernel, by decide +kernel, by decide, ⟨fun h => absurd h (by decide), fun _ => ⟨zzat_mem 345 (by decide +kernel), zzat_mem 346 (by decide +kernel), by decide⟩⟩⟩
theorem zwC_25 : zzokC 25 := by
  rw [zzokC_of zc_X3_areTwo]
  exact ⟨zzat_mem 351 (by decide +kernel), zzat_mem 74 (by decide +kernel), by decide +kernel, by decide +kernel, by decide +kernel, by decide, ⟨fun h => absurd h (by decide), fun _ => ⟨zzat_mem 350 (by decide +kernel), zzat_mem 10 (by decide +kernel), by decide⟩⟩⟩
theorem zwC_26 : zzokC 26 := by
  rw [zzokC_of zc_X2_areRoped]
  exact ⟨zzat_mem 355 (by decide +kernel), zzat_mem 75 (by decide +kernel), by decide +kernel, by decide +kernel, by decide +kernel, by decide, ⟨fun h => absurd h (by decide), fun _ => ⟨zzat_mem 354 (by decide +kernel), zzat_mem 11 (by decide +kernel), by decide⟩⟩⟩
theorem zwC_27 : zzokC 27 := by
  rw [zzokC_of zc_X2_tie]
  exact ⟨zzat_mem 360 (by decide +kernel), zzat_mem 75 (by decide +kernel), by decide +kernel, by decide +kernel, by decide +kernel, by decide, ⟨fun h => absurd h (by decide), fun _ => ⟨zzat_mem 359 (by decide +kernel), zzat_mem 12 (by decide +kernel), by decide⟩⟩⟩
theorem zwC_28 : zzokC 28 := by
  rw [zzokC_of zc_X2_findParties]
  exact ⟨zzat_mem 364 (by decide +kernel), zzat_mem 75 (by decide +kernel), by decide +kernel, by decide +kernel, by decide +kernel, by decide, ⟨fun h => absurd h (by decide), fun _ => ⟨zzat_mem 363 (by decide +kernel), zzat_mem 13 (by decide +kernel), by decide⟩⟩⟩
theorem zwC_29 : zzokC 29 := by
  rw [zzokC_of zc_X2_tiedTo]
  exact ⟨zzat_mem 368 (by decide +kernel), zzat_mem 75 (by decide +kernel), by decide +kernel, by decide +kernel, by decide +kernel, by decide, ⟨fun h => absurd h (by decide), fun _ => ⟨zzat_mem 367 (by decide +kernel), zzat_mem 14 (by decide +kernel), by decide⟩⟩⟩
theorem zwC_30 : zzokC 30 := by
  rw [zzokC_of zc_X3_axe]
  exact ⟨zzat_mem 372 (by decide +kernel), zzat_mem 74 (by decide +kernel), by decide +kernel, by decide +kernel, by decide +kernel, by decide, ⟨fun h => absurd h (by decide), fun _ => ⟨zzat_mem 370 (by decide +kernel), zzat_mem 371 (by decide +kernel), by decide⟩⟩⟩
theorem zwC_31 : zzokC 31 := by
  rw [zzokC_of zc_X2_cut]
  exact ⟨zzat_mem 376 (by decide +kernel), zzat_mem 75 (by decide +kernel), by decide +kernel, by decide +kernel, by decide +kernel, by decide, ⟨fun h => absurd h (by decide), fun _ => ⟨zzat_mem 375 (by decide +kernel), zzat_mem 15 (by decide +kernel), by decide⟩⟩⟩
theorem zwC_32 : zzokC 32 := by
  rw [zzokC_of zc_X3_day]
  exact ⟨zzat_mem 380 (by decide +kernel), zzat_mem 74 (by decide +kernel), by decide +kernel, by decide +kernel, by decide +kernel, by decide, ⟨fun h => absurd h (by decide), fun _ => ⟨zzat_mem 378 (by decide +kernel), zzat_mem 379 (by decide +kernel), by decide⟩⟩⟩
theorem zwC_33 : zzokC 33 := by
  rw [zzokC_of zc_X2_drift]
  exact ⟨zzat_mem 384 (by decide +kernel), zzat_mem 75 (by decide +kernel), by decide +kernel, by decide +kernel, by decide +kernel, by decide, ⟨fun h => absurd h (by decide), fun _ => ⟨zzat_mem 383 (by decide +kernel), zzat_mem 16 (by decide +kernel), by decide⟩⟩⟩
theorem zwC_34 : zzokC 34 := by
  rw [zzokC_of zc_X2_leads]
  exact ⟨zzat_mem 388 (by decide +kernel), zzat_mem 75 (by decide +kernel), by decide +kernel, by decide +kernel, by decide +kernel, by decide, ⟨fun h => absurd h (by decide), fun _ => ⟨zzat_mem 387 (by decide +kernel), zzat_mem 17 (by decide +kernel), by decide⟩⟩⟩
theorem zwC_35 : zzokC 35 := by
  rw [zzokC_of zc_X2_moves]
  exact ⟨zzat_mem 392 (by decide +kernel), zzat_mem 75 (by decide +kernel), by decide +kernel, by decide +kernel, by decide +kernel, by decide, ⟨fun h => absurd h (by decide), fun _ => ⟨zzat_mem 391 (by decide +kernel), zzat_mem 18 (by decide +kernel), by decide⟩⟩⟩
theorem zwC_36 : zzokC 36 := by
  rw [zzokC_of zc_X2_stepOf]
  exact ⟨zzat_mem 396 (by decide +kernel), zzat_mem 75 (by decide +kernel), by decide +kernel, by decide +kernel, by decide +kernel, by decide, ⟨fun h => absurd h (by decide), fun _ => ⟨zzat_mem 395 (by decide +kernel), zzat_mem 19 (by decide +kernel), by decide⟩⟩⟩
theorem zwC_37 : zzokC 37 := by
  rw [zzokC_of zc_J6_compare_7cf53]
  exact ⟨zzat_mem 400 (by decide +kernel), zzat_mem 80 (by decide +kernel), by decide +kernel, by decide +kernel, by decide +kernel, by decide, ⟨fun _ => zzat_mem 399 (by decide +kernel), fun h => absurd h (by decide)⟩⟩
theorem zwC_38 : zzokC 38 := by
  rw [zzokC_of zc_X2_isBarred]
  exact ⟨zzat_mem 404 (by decide +kernel), zzat_mem 75 (by decide +kernel), by decide +kernel, by decide +kernel, by decide +kernel, by decide, ⟨fun h => absurd h (by decide), fun _ => ⟨zzat_mem 403 (by decide +kernel), zzat_mem 20 (by decide +kernel), by decide⟩⟩⟩
theorem zwC_39 : zzokC 39 := by
  rw [zzokC_of zc_X3_meet]
  exact ⟨zzat_mem 408 (by decide +kernel), zzat_mem 74 (by decide +kernel), by decide +kernel, by decide +kernel, by decide +kernel, by decide, ⟨fun h => absurd h (by decide), fun _ => ⟨zzat_mem 406 (by decide +kernel), zzat_mem 407 (by decide +kernel), by decide⟩⟩⟩
theorem zwC_40 : zzokC 40 := by
  rw [zzokC_of zc_X3_firstMeeting]
  exact ⟨zzat_mem 412 (by decide +kernel), zzat_mem 74 (by decide +kernel), by decide +kernel, by decide +kernel, by decide +kernel, by decide, ⟨fun h => absurd h (by decide), fun _ => ⟨zzat_mem 411 (by decide +kernel), zzat_mem 21 (by decide +kernel), by decide⟩⟩⟩
theorem zwC_41 : zzokC 41 := by
  rw [zzokC_of zc_X2_copy]
  exact ⟨zzat_mem 416 (by decide +kernel), zzat_mem 75 (by decide +kernel), by decide +kernel, by decide +kernel, by decide +kernel, by decide, ⟨fun h => absurd h (by decide), fun _ => ⟨zzat_mem 415 (by decide +kernel), zzat_mem 22 (by decide +kernel), by decide⟩⟩⟩
theorem zwC_42 : zzokC 42 := by
  rw [zzokC_of zc_X3_anchors]
  exact ⟨zzat_mem 423 (by decide +kernel), zzat_mem 74 (by decide +kernel), by decide +kernel, by decide +kernel, by decide +kernel, by decide, ⟨fun h => absurd h (by decide), fun _ => ⟨zzat_mem 421 (by decide +kernel), zzat_mem 422 (by decide +kernel), by decide⟩⟩⟩
theorem zwC_43 : zzokC 43 := by
  rw [zzokC_of zc_X3_fewestAnchors]
  exact ⟨zzat_mem 427 (by decide +kernel), zzat_mem 74 (by decide +kernel), by decide +kernel, by decide +kernel, by decide +kernel, by decide, ⟨fun h => absurd h (by decide), fun _ => ⟨zzat_mem 426 (by decide +kernel), zzat_mem 23 (by decide +kernel), by decide⟩⟩⟩
theorem zwC_44 : zzokC 44 := by
  rw [zzokC_of zc_J6_bitCount_0f7a4]
  exact ⟨zzat_mem 430 (by decide +kernel), zzat_mem 80 (by decide +kernel), by decide +kernel, by decide +kernel, by decide +kernel, by decide, ⟨fun _ => zzat_mem 429 (by decide +kernel), fun h => absurd h (by decide)⟩⟩
theorem zwC_45 : zzokC 45 := by
  rw [zzokC_of zc_X3_stable]
  exact ⟨zzat_mem 437 (by decide +kernel), zzat_mem 74 (by decide +kernel), by decide +kernel, by decide +kernel, by decide +kernel, by decide, ⟨fun h => absurd h (by decide), fun _ => ⟨zzat_mem 435 (by decide +kernel), zzat_mem 436 (by decide +kernel), by decide⟩⟩⟩
theorem zwC_46 : zzokC 46 := by
  rw [zzokC_of zc_X3_meetAll]
  exact ⟨zzat_mem 441 (by decide +kernel), zzat_mem 74 (by decide +kernel), by decide +kernel, by decide +kernel, by decide +kernel, by decide, ⟨fun h => absurd h (by decide), fun _ => ⟨zzat_mem 440 (by decide +kernel), zzat_mem 24 (by decide +kernel), by decide⟩⟩⟩
theorem zwC_47 : zzokC 47 := by
  rw [zzokC_of zc_J7_fill_53178]
  exact ⟨zzat_mem 444 (by decide +kernel), zzat_mem 82 (by decide +kernel), by decide +kernel, by decide +kernel, by decide +kernel, by decide, ⟨fun _ => zzat_mem 443 (by decide +kernel), fun h => absurd h (by decide)⟩⟩
theorem zwC_48 : zzokC 48 := by
  rw [zzokC_of zc_X2_noteMeetings]
  exact ⟨zzat_mem 448 (by decide +kernel), zzat_mem 75 (by decide +kernel), by decide +kernel, by decide +kernel, by decide +kernel, by decide, ⟨fun h => absurd h (by decide), fun _ => ⟨zzat_mem 447 (by decide +kernel), zzat_mem 25 (by decide +kernel), by decide⟩⟩⟩
theorem zwC_49 : zzokC 49 := by
  rw [zzokC_of zc_X0_solve]
  exact ⟨zzat_mem 452 (by decide +kernel), zzat_mem 77 (by decide +kernel), by decide +kernel, by decide +kernel, by decide +kernel, by decide, ⟨fun h => absurd h (by decide), fun _ => ⟨zzat_mem 451 (by decide +kernel), zzat_mem 26 (by decide +kernel), by decide⟩⟩⟩
theorem zwC_50 : zzokC 50 := by
  rw [zzokC_of zc_X0_goThrough]
  exact ⟨zzat_mem 457 (by decide +kernel), zzat_mem 77 (by decide +kernel), by decide +kernel, by decide +kernel, by decide +kernel, by decide, ⟨fun h => absurd h (by decide), fun _ => ⟨zzat_mem 456 (by decide +kernel), zzat_mem 27 (by decide +kernel), by decide⟩⟩⟩
theorem zwC_51 : zzokC 51 := by
  rw [zzokC_of zc_X0_weigh]
  exact ⟨zzat_mem 461 (by decide +kernel), zzat_mem 77 (by decide +kernel), by decide +kernel, by decide +kernel, by decide +kernel, by decide, ⟨fun h => absurd h (by decide), fun _ => ⟨zzat_mem 460 (by decide +kernel), zzat_mem 28 (by decide +kernel), by decide⟩⟩⟩
theorem zwC_52 : zzokC 52 := by
  rw [zzokC_of zc_X0_isStable]
  exact ⟨zzat_mem 465 (by decide +kernel), zzat_mem 77 (by decide +kernel), by decide +kernel, by decide +kernel, by decide +kernel, by decide, ⟨fun h => absurd h (by decide), fun _ => ⟨zzat_mem 464 (by decide +kernel), zzat_mem 29 (by decide +kernel), by decide⟩⟩⟩
theorem zwC_53 : zzokC 53 := by
  rw [zzokC_of zc_X0_likesBetter]
  exact ⟨zzat_mem 469 (by decide +kernel), zzat_mem 77 (by decide +kernel), by decide +kernel, by decide +kernel, by decide +kernel, by decide, ⟨fun h => absurd h (by decide), fun _ => ⟨zzat_mem 468 (by decide +kernel), zzat_mem 30 (by decide +kernel), by decide⟩⟩⟩
theorem zwC_54 : zzokC 54 := by
  rw [zzokC_of zc_X3_matchesTell]
  exact ⟨zzat_mem 474 (by decide +kernel), zzat_mem 74 (by decide +kernel), by decide +kernel, by decide +kernel, by decide +kernel, by decide, ⟨fun h => absurd h (by decide), fun _ => ⟨zzat_mem 473 (by decide +kernel), zzat_mem 31 (by decide +kernel), by decide⟩⟩⟩
theorem zwC_55 : zzokC 55 := by
  rw [zzokC_of zc_X3_parting]
  exact ⟨zzat_mem 481 (by decide +kernel), zzat_mem 74 (by decide +kernel), by decide +kernel, by decide +kernel, by decide +kernel, by decide, ⟨fun h => absurd h (by decide), fun _ => ⟨zzat_mem 479 (by decide +kernel), zzat_mem 480 (by decide +kernel), by decide⟩⟩⟩
theorem zwC_56 : zzokC 56 := by
  rw [zzokC_of zc_X2_fewestCuts]
  exact ⟨zzat_mem 485 (by decide +kernel), zzat_mem 75 (by decide +kernel), by decide +kernel, by decide +kernel, by decide +kernel, by decide, ⟨fun h => absurd h (by decide), fun _ => ⟨zzat_mem 484 (by decide +kernel), zzat_mem 32 (by decide +kernel), by decide⟩⟩⟩
theorem zwC_57 : zzokC 57 := by
  rw [zzokC_of zc_X2_ropesOutOf]
  exact ⟨zzat_mem 489 (by decide +kernel), zzat_mem 75 (by decide +kernel), by decide +kernel, by decide +kernel, by decide +kernel, by decide, ⟨fun h => absurd h (by decide), fun _ => ⟨zzat_mem 488 (by decide +kernel), zzat_mem 33 (by decide +kernel), by decide⟩⟩⟩
theorem zwC_58 : zzokC 58 := by
  rw [zzokC_of zc_X3_shell]
  exact ⟨zzat_mem 495 (by decide +kernel), zzat_mem 74 (by decide +kernel), by decide +kernel, by decide +kernel, by decide +kernel, by decide, ⟨fun h => absurd h (by decide), fun _ => ⟨zzat_mem 493 (by decide +kernel), zzat_mem 494 (by decide +kernel), by decide⟩⟩⟩
theorem zwC_59 : zzokC 59 := by
  rw [zzokC_of zc_X1_add]
  exact ⟨zzat_mem 499 (by decide +kernel), zzat_mem 76 (by decide +kernel), by decide +kernel, by decide +kernel, by decide +kernel, by decide, ⟨fun h => absurd h (by decide), fun _ => ⟨zzat_mem 498 (by decide +kernel), zzat_mem 34 (by decide +kernel), by decide⟩⟩⟩
theorem zwC_60 : zzokC 60 := by
  rw [zzokC_of zc_X3_forget]
  exact ⟨zzat_mem 503 (by decide +kernel), zzat_mem 74 (by decide +kernel), by decide +kernel, by decide +kernel, by decide +kernel, by decide, ⟨fun h => absurd h (by decide), fun _ => ⟨zzat_mem 501 (by decide +kernel), zzat_mem 502 (by decide +kernel), by decide⟩⟩⟩
theorem zwC_61 : zzokC 61 := by
  rw [zzokC_of zc_X3_guess]
  exact ⟨zzat_mem 507 (by decide +kernel), zzat_mem 74 (by decide +kernel), by decide +kernel, by decide +kernel, by decide +kernel, by decide, ⟨fun h => absurd h (by decide), fun _ => ⟨zzat_mem 505 (by decide +kernel), zzat_mem 506 (by decide +kernel), by decide⟩⟩⟩
theorem zwC_62 : zzokC 62 := by
  rw [zzokC_of zc_X3_shellsWouldHold]
  exact ⟨zzat_mem 511 (by decide +kernel), zzat_mem 74 (by decide +kernel), by decide +kernel, by decide +kernel, by decide +kernel, by decide, ⟨fun h => absurd h (by decide), fun _ => ⟨zzat_mem 510 (by decide +kernel), zzat_mem 35 (by decide +kernel), by decide⟩⟩⟩
theorem zwC_63 : zzokC 63 := by
  rw [zzokC_of zc_X1_lastDay]
  exact ⟨zzat_mem 515 (by decide +kernel), zzat_mem 76 (by decide +kernel), by decide +kernel, by decide +kernel, by decide +kernel, by decide, ⟨fun h => absurd h (by decide), fun _ => ⟨zzat_mem 514 (by decide +kernel), zzat_mem 36 (by decide +kernel), by decide⟩⟩⟩
theorem zwC_64 : zzokC 64 := by
  rw [zzokC_of zc_X1_holdOn]
  exact ⟨zzat_mem 520 (by decide +kernel), zzat_mem 76 (by decide +kernel), by decide +kernel, by decide +kernel, by decide +kernel, by decide, ⟨fun h => absurd h (by decide), fun _ => ⟨zzat_mem 519 (by decide +kernel), zzat_mem 37 (by decide +kernel), by decide⟩⟩⟩
theorem zwC_65 : zzokC 65 := by
  rw [zzokC_of zc_X3_seasons]
  exact ⟨zzat_mem 525 (by decide +kernel), zzat_mem 74 (by decide +kernel), by decide +kernel, by decide +kernel, by decide +kernel, by decide, ⟨fun h => absurd h (by decide), fun _ => ⟨zzat_mem 523 (by decide +kernel), zzat_mem 524 (by decide +kernel), by decide⟩⟩⟩
theorem zwC_66 : zzokC 66 := by
  rw [zzokC_of zc_X3_nextSeed]
  exact ⟨zzat_mem 528 (by decide +kernel), zzat_mem 74 (by decide +kernel), by decide +kernel, by decide +kernel, by decide +kernel, by decide, ⟨fun _ => zzat_mem 527 (by decide +kernel), fun h => absurd h (by decide)⟩⟩
theorem zwC_67 : zzokC 67 := by
  rw [zzokC_of zc_X2_pairsBeside]
  exact ⟨zzat_mem 535 (by decide +kernel), zzat_mem 75 (by decide +kernel), by decide +kernel, by decide +kernel, by decide +kernel, by decide, ⟨fun h => absurd h (by decide), fun _ => ⟨zzat_mem 534 (by decide +kernel), zzat_mem 38 (by decide +kernel), by decide⟩⟩⟩
theorem zwC_68 : zzokC 68 := by
  rw [zzokC_of zc_X3_image]
  exact ⟨zzat_mem 540 (by decide +kernel), zzat_mem 74 (by decide +kernel), by decide +kernel, by decide +kernel, by decide +kernel, by decide, ⟨fun h => absurd h (by decide), fun _ => ⟨zzat_mem 538 (by decide +kernel), zzat_mem 539 (by decide +kernel), by decide⟩⟩⟩
theorem zwC_69 : zzokC 69 := by
  rw [zzokC_of zc_X1_copy]
  exact ⟨zzat_mem 544 (by decide +kernel), zzat_mem 76 (by decide +kernel), by decide +kernel, by decide +kernel, by decide +kernel, by decide, ⟨fun h => absurd h (by decide), fun _ => ⟨zzat_mem 543 (by decide +kernel), zzat_mem 39 (by decide +kernel), by decide⟩⟩⟩
theorem zwC_70 : zzokC 70 := by
  rw [zzokC_of zc_X3_restore]
  exact ⟨zzat_mem 548 (by decide +kernel), zzat_mem 74 (by decide +kernel), by decide +kernel, by decide +kernel, by decide +kernel, by decide, ⟨fun h => absurd h (by decide), fun _ => ⟨zzat_mem 546 (by decide +kernel), zzat_mem 547 (by decide +kernel), by decide⟩⟩⟩
theorem zwC_71 : zzokC 71 := by
  rw [zzokC_of zc_X3_count]
  exact ⟨zzat_mem 552 (by decide +kernel), zzat_mem 74 (by decide +kernel), by decide +kernel, by decide +kernel, by decide +kernel, by decide, ⟨fun h => absurd h (by decide), fun _ => ⟨zzat_mem 550 (by decide +kernel), zzat_mem 551 (by decide +kernel), by decide⟩⟩⟩
theorem zwC_72 : zzokC 72 := by
  rw [zzokC_of zc_X2_parties]
  exact ⟨zzat_mem 556 (by decide +kernel), zzat_mem 75 (by decide +kernel), by decide +kernel, by decide +kernel, by decide +kernel, by decide, ⟨fun h => absurd h (by decide), fun _ => ⟨zzat_mem 555 (by decide +kernel), zzat_mem 40 (by decide +kernel), by decide⟩⟩⟩
theorem zwC_73 : zzokC 73 := by
  rw [zzokC_of zc_X3_digest]
  exact ⟨zzat_mem 560 (by decide +kernel), zzat_mem 74 (by decide +kernel), by decide +kernel, by decide +kernel, by decide +kernel, by decide, ⟨fun h => absurd h (by decide), fun _ => ⟨zzat_mem 558 (by decide +kernel), zzat_mem 559 (by decide +kernel), by decide⟩⟩⟩
theorem zwC_74 : zzokC 74 := by
  rw [zzokC_of zc_X3_digestIslands]
  exact ⟨zzat_mem 566 (by decide +kernel), zzat_mem 74 (by decide +kernel), by decide +kernel, by decide +kernel, by decide +kernel, by decide, ⟨fun h => absurd h (by decide), fun _ => ⟨zzat_mem 565 (by decide +kernel), zzat_mem 41 (by decide +kernel), by decide⟩⟩⟩
theorem zwC_75 : zzokC 75 := by
  rw [zzokC_of zc_X3_digestMatches]
  exact ⟨zzat_mem 571 (by decide +kernel), zzat_mem 74 (by decide +kernel), by decide +kernel, by decide +kernel, by decide +kernel, by decide, ⟨fun h => absurd h (by decide), fun _ => ⟨zzat_mem 570 (by decide +kernel), zzat_mem 42 (by decide +kernel), by decide⟩⟩⟩
theorem zwC_76 : zzokC 76 := by
  rw [zzokC_of zc_X4_letter]
  exact ⟨zzat_mem 691 (by decide +kernel), zzat_mem 78 (by decide +kernel), by decide +kernel, by decide +kernel, by decide +kernel, by decide, ⟨fun h => absurd h (by decide), fun _ => ⟨zzat_mem 689 (by decide +kernel), zzat_mem 690 (by decide +kernel), by decide⟩⟩⟩
theorem zwC_77 : zzokC 77 := by
  rw [zzokC_of zc_X4_in]
  exact ⟨zzat_mem 695 (by decide +kernel), zzat_mem 78 (by decide +kernel), by decide +kernel, by decide +kernel, by decide +kernel, by decide, ⟨fun _ => zzat_mem 694 (by decide +kernel), fun h => absurd h (by decide)⟩⟩
theorem zwC_78 : zzokC 78 := by
  rw [zzokC_of zc_X4_blank]
  exact ⟨zzat_mem 699 (by decide +kernel), zzat_mem 78 (by decide +kernel), by decide +kernel, by decide +kernel, by decide +kernel, by decide, ⟨fun h => absurd h (by decide), fun _ => ⟨zzat_mem 697 (by decide +kernel), zzat_mem 698 (by decide +kernel), by decide⟩⟩⟩
theorem zwC_79 : zzokC 79 := by
  rw [zzokC_of zc_X4_fault]
  exact ⟨zzat_mem 703 (by decide +kernel), zzat_mem 78 (by decide +kernel), by decide +kernel, by decide +kernel, by decide +kernel, by decide, ⟨fun h => absurd h (by decide), fun _ => ⟨zzat_mem 701 (by decide +kernel), zzat_mem 702 (by decide +kernel), by decide⟩⟩⟩
theorem zwC_80 : zzokC 80 := by
  rw [zzokC_of zc_X4_faultOf]
  exact ⟨zzat_mem 707 (by decide +kernel), zzat_mem 78 (by decide +kernel), by decide +kernel, by decide +kernel, by decide +kernel, by decide, ⟨fun h => absurd h (by decide), fun _ => ⟨zzat_mem 706 (by decide +kernel), zzat_mem 43 (by decide +kernel), by decide⟩⟩⟩
theorem zwC_81 : zzokC 81 := by
  rw [zzokC_of zc_X4_sea]
  exact ⟨zzat_mem 711 (by decide +kernel), zzat_mem 78 (by decide +kernel), by decide +kernel, by decide +kernel, by decide +kernel, by decide, ⟨fun h => absurd h (by decide), fun _ => ⟨zzat_mem 709 (by decide +kernel), zzat_mem 710 (by decide +kernel), by decide⟩⟩⟩
theorem zwC_82 : zzokC 82 := by
  rw [zzokC_of zc_X4_currentMany]
  exact ⟨zzat_mem 715 (by decide +kernel), zzat_mem 78 (by decide +kernel), by decide +kernel, by decide +kernel, by decide +kernel, by decide, ⟨fun h => absurd h (by decide), fun _ => ⟨zzat_mem 714 (by decide +kernel), zzat_mem 44 (by decide +kernel), by decide⟩⟩⟩
theorem zwC_83 : zzokC 83 := by
  rw [zzokC_of zc_X4_place]
  exact ⟨zzat_mem 719 (by decide +kernel), zzat_mem 78 (by decide +kernel), by decide +kernel, by decide +kernel, by decide +kernel, by decide, ⟨fun h => absurd h (by decide), fun _ => ⟨zzat_mem 717 (by decide +kernel), zzat_mem 718 (by decide +kernel), by decide⟩⟩⟩
theorem zwC_84 : zzokC 84 := by
  rw [zzokC_of zc_X4_whoIsAt]
  exact ⟨zzat_mem 724 (by decide +kernel), zzat_mem 78 (by decide +kernel), by decide +kernel, by decide +kernel, by decide +kernel, by decide, ⟨fun h => absurd h (by decide), fun _ => ⟨zzat_mem 723 (by decide +kernel), zzat_mem 45 (by decide +kernel), by decide⟩⟩⟩
theorem zwC_85 : zzokC 85 := by
  rw [zzokC_of zc_X4_wind]
  exact ⟨zzat_mem 728 (by decide +kernel), zzat_mem 78 (by decide +kernel), by decide +kernel, by decide +kernel, by decide +kernel, by decide, ⟨fun h => absurd h (by decide), fun _ => ⟨zzat_mem 726 (by decide +kernel), zzat_mem 727 (by decide +kernel), by decide⟩⟩⟩
theorem zwC_86 : zzokC 86 := by
  rw [zzokC_of zc_X4_island]
  exact ⟨zzat_mem 733 (by decide +kernel), zzat_mem 78 (by decide +kernel), by decide +kernel, by decide +kernel, by decide +kernel, by decide, ⟨fun h => absurd h (by decide), fun _ => ⟨zzat_mem 731 (by decide +kernel), zzat_mem 732 (by decide +kernel), by decide⟩⟩⟩
theorem zwC_87 : zzokC 87 := by
  rw [zzokC_of zc_X4_about]
  exact ⟨zzat_mem 739 (by decide +kernel), zzat_mem 78 (by decide +kernel), by decide +kernel, by decide +kernel, by decide +kernel, by decide, ⟨fun h => absurd h (by decide), fun _ => ⟨zzat_mem 737 (by decide +kernel), zzat_mem 738 (by decide +kernel), by decide⟩⟩⟩
theorem zwC_88 : zzokC 88 := by
  rw [zzokC_of zc_X4_isIsland]
  exact ⟨zzat_mem 743 (by decide +kernel), zzat_mem 78 (by decide +kernel), by decide +kernel, by decide +kernel, by decide +kernel, by decide, ⟨fun h => absurd h (by decide), fun _ => ⟨zzat_mem 742 (by decide +kernel), zzat_mem 46 (by decide +kernel), by decide⟩⟩⟩
theorem zwC_89 : zzokC 89 := by
  rw [zzokC_of zc_X4_tell]
  exact ⟨zzat_mem 747 (by decide +kernel), zzat_mem 78 (by decide +kernel), by decide +kernel, by decide +kernel, by decide +kernel, by decide, ⟨fun h => absurd h (by decide), fun _ => ⟨zzat_mem 746 (by decide +kernel), zzat_mem 47 (by decide +kernel), by decide⟩⟩⟩
theorem zwC_90 : zzokC 90 := by
  rw [zzokC_of zc_X4_asItIs]
  exact ⟨zzat_mem 751 (by decide +kernel), zzat_mem 78 (by decide +kernel), by decide +kernel, by decide +kernel, by decide +kernel, by decide, ⟨fun h => absurd h (by decide), fun _ => ⟨zzat_mem 750 (by decide +kernel), zzat_mem 48 (by decide +kernel), by decide⟩⟩⟩
theorem zwC_91 : zzokC 91 := by
  rw [zzokC_of zc_X4_pushOf]
  exact ⟨zzat_mem 755 (by decide +kernel), zzat_mem 78 (by decide +kernel), by decide +kernel, by decide +kernel, by decide +kernel, by decide, ⟨fun h => absurd h (by decide), fun _ => ⟨zzat_mem 754 (by decide +kernel), zzat_mem 49 (by decide +kernel), by decide⟩⟩⟩
theorem zwC_92 : zzokC 92 := by
  rw [zzokC_of zc_X4_partyOf]
  exact ⟨zzat_mem 759 (by decide +kernel), zzat_mem 78 (by decide +kernel), by decide +kernel, by decide +kernel, by decide +kernel, by decide, ⟨fun h => absurd h (by decide), fun _ => ⟨zzat_mem 758 (by decide +kernel), zzat_mem 50 (by decide +kernel), by decide⟩⟩⟩
theorem zwC_93 : zzokC 93 := by
  rw [zzokC_of zc_X4_partyBy]
  exact ⟨zzat_mem 763 (by decide +kernel), zzat_mem 78 (by decide +kernel), by decide +kernel, by decide +kernel, by decide +kernel, by decide, ⟨fun h => absurd h (by decide), fun _ => ⟨zzat_mem 762 (by decide +kernel), zzat_mem 51 (by decide +kernel), by decide⟩⟩⟩
theorem zwC_94 : zzokC 94 := by
  rw [zzokC_of zc_X4_besideBits]
  exact ⟨zzat_mem 767 (by decide +kernel), zzat_mem 78 (by decide +kernel), by decide +kernel, by decide +kernel, by decide +kernel, by decide, ⟨fun h => absurd h (by decide), fun _ => ⟨zzat_mem 766 (by decide +kernel), zzat_mem 52 (by decide +kernel), by decide⟩⟩⟩
theorem zwC_95 : zzokC 95 := by
  rw [zzokC_of zc_X4_areBeside]
  exact ⟨zzat_mem 770 (by decide +kernel), zzat_mem 78 (by decide +kernel), by decide +kernel, by decide +kernel, by decide +kernel, by decide, ⟨fun _ => zzat_mem 769 (by decide +kernel), fun h => absurd h (by decide)⟩⟩
theorem zwC_96 : zzokC 96 := by
  rw [zzokC_of zc_X4_ropedBits]
  exact ⟨zzat_mem 774 (by decide +kernel), zzat_mem 78 (by decide +kernel), by decide +kernel, by decide +kernel, by decide +kernel, by decide, ⟨fun h => absurd h (by decide), fun _ => ⟨zzat_mem 773 (by decide +kernel), zzat_mem 53 (by decide +kernel), by decide⟩⟩⟩
theorem zwC_97 : zzokC 97 := by
  rw [zzokC_of zc_X4_areRoped]
  exact ⟨zzat_mem 778 (by decide +kernel), zzat_mem 78 (by decide +kernel), by decide +kernel, by decide +kernel, by decide +kernel, by decide, ⟨fun h => absurd h (by decide), fun _ => ⟨zzat_mem 777 (by decide +kernel), zzat_mem 54 (by decide +kernel), by decide⟩⟩⟩
theorem zwC_98 : zzokC 98 := by
  rw [zzokC_of zc_X4_as]
  exact ⟨zzat_mem 782 (by decide +kernel), zzat_mem 78 (by decide +kernel), by decide +kernel, by decide +kernel, by decide +kernel, by decide, ⟨fun h => absurd h (by decide), fun _ => ⟨zzat_mem 780 (by decide +kernel), zzat_mem 781 (by decide +kernel), by decide⟩⟩⟩
theorem zwC_99 : zzokC 99 := by
  rw [zzokC_of zc_X4_anchor]
  exact ⟨zzat_mem 786 (by decide +kernel), zzat_mem 78 (by decide +kernel), by decide +kernel, by decide +kernel, by decide +kernel, by decide, ⟨fun h => absurd h (by decide), fun _ => ⟨zzat_mem 784 (by decide +kernel), zzat_mem 785 (by decide +kernel), by decide⟩⟩⟩
theorem zwC_100 : zzokC 100 := by
  rw [zzokC_of zc_X4_wed]
  exact ⟨zzat_mem 790 (by decide +kernel), zzat_mem 78 (by decide +kernel), by decide +kernel, by decide +kernel, by decide +kernel, by decide, ⟨fun h => absurd h (by decide), fun _ => ⟨zzat_mem 788 (by decide +kernel), zzat_mem 789 (by decide +kernel), by decide⟩⟩⟩
theorem zwC_101 : zzokC 101 := by
  rw [zzokC_of zc_X4_arePair]
  exact ⟨zzat_mem 794 (by decide +kernel), zzat_mem 78 (by decide +kernel), by decide +kernel, by decide +kernel, by decide +kernel, by decide, ⟨fun h => absurd h (by decide), fun _ => ⟨zzat_mem 793 (by decide +kernel), zzat_mem 55 (by decide +kernel), by decide⟩⟩⟩
theorem zwC_102 : zzokC 102 := by
  rw [zzokC_of zc_X4_axe]
  exact ⟨zzat_mem 798 (by decide +kernel), zzat_mem 78 (by decide +kernel), by decide +kernel, by decide +kernel, by decide +kernel, by decide, ⟨fun h => absurd h (by decide), fun _ => ⟨zzat_mem 796 (by decide +kernel), zzat_mem 797 (by decide +kernel), by decide⟩⟩⟩
theorem zwC_103 : zzokC 103 := by
  rw [zzokC_of zc_X4_day]
  exact ⟨zzat_mem 802 (by decide +kernel), zzat_mem 78 (by decide +kernel), by decide +kernel, by decide +kernel, by decide +kernel, by decide, ⟨fun h => absurd h (by decide), fun _ => ⟨zzat_mem 800 (by decide +kernel), zzat_mem 801 (by decide +kernel), by decide⟩⟩⟩
theorem zwC_104 : zzokC 104 := by
  rw [zzokC_of zc_X4_passes]
  exact ⟨zzat_mem 806 (by decide +kernel), zzat_mem 78 (by decide +kernel), by decide +kernel, by decide +kernel, by decide +kernel, by decide, ⟨fun h => absurd h (by decide), fun _ => ⟨zzat_mem 805 (by decide +kernel), zzat_mem 56 (by decide +kernel), by decide⟩⟩⟩
theorem zwC_105 : zzokC 105 := by
  rw [zzokC_of zc_X4_isFirst]
  exact ⟨zzat_mem 810 (by decide +kernel), zzat_mem 78 (by decide +kernel), by decide +kernel, by decide +kernel, by decide +kernel, by decide, ⟨fun h => absurd h (by decide), fun _ => ⟨zzat_mem 809 (by decide +kernel), zzat_mem 57 (by decide +kernel), by decide⟩⟩⟩
theorem zwC_106 : zzokC 106 := by
  rw [zzokC_of zc_X4_drifts]
  exact ⟨zzat_mem 814 (by decide +kernel), zzat_mem 78 (by decide +kernel), by decide +kernel, by decide +kernel, by decide +kernel, by decide, ⟨fun h => absurd h (by decide), fun _ => ⟨zzat_mem 813 (by decide +kernel), zzat_mem 58 (by decide +kernel), by decide⟩⟩⟩
theorem zwC_107 : zzokC 107 := by
  rw [zzokC_of zc_X4_meet]
  exact ⟨zzat_mem 818 (by decide +kernel), zzat_mem 78 (by decide +kernel), by decide +kernel, by decide +kernel, by decide +kernel, by decide, ⟨fun h => absurd h (by decide), fun _ => ⟨zzat_mem 816 (by decide +kernel), zzat_mem 817 (by decide +kernel), by decide⟩⟩⟩
theorem zwC_108 : zzokC 108 := by
  rw [zzokC_of zc_X4_meetBy]
  exact ⟨zzat_mem 822 (by decide +kernel), zzat_mem 78 (by decide +kernel), by decide +kernel, by decide +kernel, by decide +kernel, by decide, ⟨fun h => absurd h (by decide), fun _ => ⟨zzat_mem 821 (by decide +kernel), zzat_mem 59 (by decide +kernel), by decide⟩⟩⟩
theorem zwC_109 : zzokC 109 := by
  rw [zzokC_of zc_X4_anchors]
  exact ⟨zzat_mem 826 (by decide +kernel), zzat_mem 78 (by decide +kernel), by decide +kernel, by decide +kernel, by decide +kernel, by decide, ⟨fun h => absurd h (by decide), fun _ => ⟨zzat_mem 824 (by decide +kernel), zzat_mem 825 (by decide +kernel), by decide⟩⟩⟩
theorem zwC_110 : zzokC 110 := by
  rw [zzokC_of zc_X4_anchorsOf]
  exact ⟨zzat_mem 831 (by decide +kernel), zzat_mem 78 (by decide +kernel), by decide +kernel, by decide +kernel, by decide +kernel, by decide, ⟨fun h => absurd h (by decide), fun _ => ⟨zzat_mem 830 (by decide +kernel), zzat_mem 60 (by decide +kernel), by decide⟩⟩⟩
theorem zwC_111 : zzokC 111 := by
  rw [zzokC_of zc_X4_ones]
  exact ⟨zzat_mem 834 (by decide +kernel), zzat_mem 78 (by decide +kernel), by decide +kernel, by decide +kernel, by decide +kernel, by decide, ⟨fun _ => zzat_mem 833 (by decide +kernel), fun h => absurd h (by decide)⟩⟩
theorem zwC_112 : zzokC 112 := by
  rw [zzokC_of zc_X4_stable]
  exact ⟨zzat_mem 838 (by decide +kernel), zzat_mem 78 (by decide +kernel), by decide +kernel, by decide +kernel, by decide +kernel, by decide, ⟨fun h => absurd h (by decide), fun _ => ⟨zzat_mem 836 (by decide +kernel), zzat_mem 837 (by decide +kernel), by decide⟩⟩⟩
theorem zwC_113 : zzokC 113 := by
  rw [zzokC_of zc_X4_layStable]
  exact ⟨zzat_mem 844 (by decide +kernel), zzat_mem 78 (by decide +kernel), by decide +kernel, by decide +kernel, by decide +kernel, by decide, ⟨fun h => absurd h (by decide), fun _ => ⟨zzat_mem 843 (by decide +kernel), zzat_mem 61 (by decide +kernel), by decide⟩⟩⟩
theorem zwC_114 : zzokC 114 := by
  rw [zzokC_of zc_X4_isMatch]
  exact ⟨zzat_mem 848 (by decide +kernel), zzat_mem 78 (by decide +kernel), by decide +kernel, by decide +kernel, by decide +kernel, by decide, ⟨fun h => absurd h (by decide), fun _ => ⟨zzat_mem 847 (by decide +kernel), zzat_mem 62 (by decide +kernel), by decide⟩⟩⟩
theorem zwC_115 : zzokC 115 := by
  rw [zzokC_of zc_X4_isStable]
  exact ⟨zzat_mem 852 (by decide +kernel), zzat_mem 78 (by decide +kernel), by decide +kernel, by decide +kernel, by decide +kernel, by decide, ⟨fun h => absurd h (by decide), fun _ => ⟨zzat_mem 851 (by decide +kernel), zzat_mem 63 (by decide +kernel), by decide⟩⟩⟩
theorem zwC_116 : zzokC 116 := by
  rw [zzokC_of zc_X4_likes]
  exact ⟨zzat_mem 856 (by decide +kernel), zzat_mem 78 (by decide +kernel), by decide +kernel, by decide +kernel, by decide +kernel, by decide, ⟨fun h => absurd h (by decide), fun _ => ⟨zzat_mem 855 (by decide +kernel), zzat_mem 64 (by decide +kernel), by decide⟩⟩⟩
theorem zwC_117 : zzokC 117 := by
  rw [zzokC_of zc_X4_copy]
  exact ⟨zzat_mem 859 (by decide +kernel), zzat_mem 78 (by decide +kernel), by decide +kernel, by decide +kernel, by decide +kernel, by decide, ⟨fun _ => zzat_mem 858 (by decide +kernel), fun h => absurd h (by decide)⟩⟩
theorem zwC_118 : zzokC 118 := by
  rw [zzokC_of zc_X4_tellStable]
  exact ⟨zzat_mem 863 (by decide +kernel), zzat_mem 78 (by decide +kernel), by decide +kernel, by decide +kernel, by decide +kernel, by decide, ⟨fun h => absurd h (by decide), fun _ => ⟨zzat_mem 862 (by decide +kernel), zzat_mem 65 (by decide +kernel), by decide⟩⟩⟩
theorem zwC_119 : zzokC 119 := by
  rw [zzokC_of zc_X4_parting]
  exact ⟨zzat_mem 867 (by decide +kernel), zzat_mem 78 (by decide +kernel), by decide +kernel, by decide +kernel, by decide +kernel, by decide, ⟨fun h => absurd h (by decide), fun _ => ⟨zzat_mem 865 (by decide +kernel), zzat_mem 866 (by decide +kernel), by decide⟩⟩⟩
theorem zwC_120 : zzokC 120 := by
  rw [zzokC_of zc_X4_shell]
  exact ⟨zzat_mem 871 (by decide +kernel), zzat_mem 78 (by decide +kernel), by decide +kernel, by decide +kernel, by decide +kernel, by decide, ⟨fun h => absurd h (by decide), fun _ => ⟨zzat_mem 869 (by decide +kernel), zzat_mem 870 (by decide +kernel), by decide⟩⟩⟩
theorem zwC_121 : zzokC 121 := by
  rw [zzokC_of zc_X4_forget]
  exact ⟨zzat_mem 876 (by decide +kernel), zzat_mem 78 (by decide +kernel), by decide +kernel, by decide +kernel, by decide +kernel, by decide, ⟨fun h => absurd h (by decide), fun _ => ⟨zzat_mem 874 (by decide +kernel), zzat_mem 875 (by decide +kernel), by decide⟩⟩⟩
theorem zwC_122 : zzokC 122 := by
  rw [zzokC_of zc_X4_guess]
  exact ⟨zzat_mem 880 (by decide +kernel), zzat_mem 78 (by decide +kernel), by decide +kernel, by decide +kernel, by decide +kernel, by decide, ⟨fun h => absurd h (by decide), fun _ => ⟨zzat_mem 878 (by decide +kernel), zzat_mem 879 (by decide +kernel), by decide⟩⟩⟩
theorem zwC_123 : zzokC 123 := by
  rw [zzokC_of zc_X4_guessOf]
  exact ⟨zzat_mem 884 (by decide +kernel), zzat_mem 78 (by decide +kernel), by decide +kernel, by decide +kernel, by decide +kernel, by decide, ⟨fun h => absurd h (by decide), fun _ => ⟨zzat_mem 883 (by decide +kernel), zzat_mem 66 (by decide +kernel), by decide⟩⟩⟩
theorem zwC_124 : zzokC 124 := by
  rw [zzokC_of zc_X4_isSo]
  exact ⟨zzat_mem 888 (by decide +kernel), zzat_mem 78 (by decide +kernel), by decide +kernel, by decide +kernel, by decide +kernel, by decide, ⟨fun h => absurd h (by decide), fun _ => ⟨zzat_mem 887 (by decide +kernel), zzat_mem 67 (by decide +kernel), by decide⟩⟩⟩
theorem zwC_125 : zzokC 125 := by
  rw [zzokC_of zc_X4_seasons]
  exact ⟨zzat_mem 892 (by decide +kernel), zzat_mem 78 (by decide +kernel), by decide +kernel, by decide +kernel, by decide +kernel, by decide, ⟨fun h => absurd h (by decide), fun _ => ⟨zzat_mem 890 (by decide +kernel), zzat_mem 891 (by decide +kernel), by decide⟩⟩⟩
theorem zwC_126 : zzokC 126 := by
  rw [zzokC_of zc_X4_draw]
  exact ⟨zzat_mem 898 (by decide +kernel), zzat_mem 78 (by decide +kernel), by decide +kernel, by decide +kernel, by decide +kernel, by decide, ⟨fun h => absurd h (by decide), fun _ => ⟨zzat_mem 897 (by decide +kernel), zzat_mem 68 (by decide +kernel), by decide⟩⟩⟩
theorem zwC_127 : zzokC 127 := by
  rw [zzokC_of zc_X4_image]
  exact ⟨zzat_mem 906 (by decide +kernel), zzat_mem 78 (by decide +kernel), by decide +kernel, by decide +kernel, by decide +kernel, by decide, ⟨fun h => absurd h (by decide), fun _ => ⟨zzat_mem 904 (by decide +kernel), zzat_mem 905 (by decide +kernel), by decide⟩⟩⟩
theorem zwC_128 : zzokC 128 := by
  rw [zzokC_of zc_X4_restore]
  exact ⟨zzat_mem 910 (by decide +kernel), zzat_mem 78 (by decide +kernel), by decide +kernel, by decide +kernel, by decide +kernel, by decide, ⟨fun h => absurd h (by decide), fun _ => ⟨zzat_mem 908 (by decide +kernel), zzat_mem 909 (by decide +kernel), by decide⟩⟩⟩
theorem zwC_129 : zzokC 129 := by
  rw [zzokC_of zc_X4_count]
  exact ⟨zzat_mem 914 (by decide +kernel), zzat_mem 78 (by decide +kernel), by decide +kernel, by decide +kernel, by decide +kernel, by decide, ⟨fun h => absurd h (by decide), fun _ => ⟨zzat_mem 912 (by decide +kernel), zzat_mem 913 (by decide +kernel), by decide⟩⟩⟩
theorem zwC_130 : zzokC 130 := by
  rw [zzokC_of zc_X4_countOf]
  exact ⟨zzat_mem 918 (by decide +kernel), zzat_mem 78 (by decide +kernel), by decide +kernel, by decide +kernel, by decide +kernel, by decide, ⟨fun h => absurd h (by decide), fun _ => ⟨zzat_mem 917 (by decide +kernel), zzat_mem 69 (by decide +kernel), by decide⟩⟩⟩
theorem zwC_131 : zzokC 131 := by
  rw [zzokC_of zc_X4_partyMany]
  exact ⟨zzat_mem 922 (by decide +kernel), zzat_mem 78 (by decide +kernel), by decide +kernel, by decide +kernel, by decide +kernel, by decide, ⟨fun h => absurd h (by decide), fun _ => ⟨zzat_mem 921 (by decide +kernel), zzat_mem 70 (by decide +kernel), by decide⟩⟩⟩
theorem zwC_132 : zzokC 132 := by
  rw [zzokC_of zc_X4_digest]
  exact ⟨zzat_mem 926 (by decide +kernel), zzat_mem 78 (by decide +kernel), by decide +kernel, by decide +kernel, by decide +kernel, by decide, ⟨fun h => absurd h (by decide), fun _ => ⟨zzat_mem 924 (by decide +kernel), zzat_mem 925 (by decide +kernel), by decide⟩⟩⟩
theorem zwC_133 : zzokC 133 := by
  rw [zzokC_of zc_X4_say]
  exact ⟨zzat_mem 931 (by decide +kernel), zzat_mem 78 (by decide +kernel), by decide +kernel, by decide +kernel, by decide +kernel, by decide, ⟨fun h => absurd h (by decide), fun _ => ⟨zzat_mem 930 (by decide +kernel), zzat_mem 71 (by decide +kernel), by decide⟩⟩⟩
theorem zwC_134 : zzokC 134 := by
  rw [zzokC_of zc_X4_sayIsland]
  exact ⟨zzat_mem 936 (by decide +kernel), zzat_mem 78 (by decide +kernel), by decide +kernel, by decide +kernel, by decide +kernel, by decide, ⟨fun h => absurd h (by decide), fun _ => ⟨zzat_mem 935 (by decide +kernel), zzat_mem 72 (by decide +kernel), by decide⟩⟩⟩
theorem zwC_r0 : ∀ e ∈ ([0, 1, 2, 3, 4, 5, 6, 7, 8, 9, 10, 11, 12, 13, 14, 15] : List Nat), zzokC e := List.forall_mem_cons.mpr ⟨zwC_0, List.forall_mem_cons.mpr ⟨zwC_1, List.forall_mem_cons.mpr ⟨zwC_2, List.forall_mem_cons.mpr ⟨zwC_3, List.forall_mem_cons.mpr ⟨zwC_4, List.forall_mem_cons.mpr ⟨zwC_5, List.forall_mem_cons.mpr ⟨zwC_6, List.forall_mem_cons.mpr ⟨zwC_7, List.forall_mem_cons.mpr ⟨zwC_8, List.forall_mem_cons.mpr ⟨zwC_9, List.forall_mem_cons.mpr ⟨zwC_10, List.forall_mem_cons.mpr ⟨zwC_11, List.forall_mem_cons.mpr ⟨zwC_12, List.forall_mem_cons.mpr ⟨zwC_13, List.forall_mem_cons.mpr ⟨zwC_14, List.forall_mem_cons.mpr ⟨zwC_15, fun _ h => absurd h List.not_mem_nil⟩⟩⟩⟩⟩⟩⟩⟩⟩⟩⟩⟩⟩⟩⟩⟩
theorem zwC_r1 : ∀ e ∈ ([16, 17, 18, 19, 20, 21, 22, 23, 24, 25, 26, 27, 28, 29, 30, 31] : List Nat), zzokC e := List.forall_mem_cons.mpr ⟨zwC_16, List.forall_mem_cons.mpr ⟨zwC_17, List.forall_mem_cons.mpr ⟨zwC_18, List.forall_mem_cons.mpr ⟨zwC_19, List.forall_mem_cons.mpr ⟨zwC_20, List.forall_mem_cons.mpr ⟨zwC_21, List.forall_mem_cons.mpr ⟨zwC_22, List.forall_mem_cons.mpr ⟨zwC_23, List.forall_mem_cons.mpr ⟨zwC_24, List.forall_mem_cons.mpr ⟨zwC_25, List.forall_mem_cons.mpr ⟨zwC_26, List.forall_mem_cons.mpr ⟨zwC_27, List.forall_mem_cons.mpr ⟨zwC_28, List.forall_mem_cons.mpr ⟨zwC_29, List.forall_mem_cons.mpr ⟨zwC_30, List.forall_mem_cons.mpr ⟨zwC_31, fun _ h => absurd h List.not_mem_nil⟩⟩⟩⟩⟩⟩⟩⟩⟩⟩⟩⟩⟩⟩⟩⟩
theorem zwC_r2 : ∀ e ∈ ([32, 33, 34, 35, 36, 37, 38, 39, 40, 41, 42, 43, 44, 45, 46, 47] : List Nat), zzokC e := List.forall_mem_cons.mpr ⟨zwC_32, List.forall_mem_cons.mpr ⟨zwC_33, List.forall_mem_cons.mpr ⟨zwC_34, List.forall_mem_cons.mpr ⟨zwC_35, List.forall_mem_cons.mpr ⟨zwC_36, List.forall_mem_cons.mpr ⟨zwC_37, List.forall_mem_cons.mpr ⟨zwC_38, List.forall_mem_cons.mpr ⟨zwC_39, List.forall_mem_cons.mpr ⟨zwC_40, List.forall_mem_cons.mpr ⟨zwC_41, List.forall_mem_cons.mpr ⟨zwC_42, List.forall_mem_cons.mpr ⟨zwC_43, List.forall_mem_cons.mpr ⟨zwC_44, List.forall_mem_cons.mpr ⟨zwC_45, List.forall_mem_cons.mpr ⟨zwC_46, List.forall_mem_cons.mpr ⟨zwC_47, fun _ h => absurd h List.not_mem_nil⟩⟩⟩⟩⟩⟩⟩⟩⟩⟩⟩⟩⟩⟩⟩⟩
theorem zwC_r3 : ∀ e ∈ ([48, 49, 50, 51, 52, 53, 54, 55, 56, 57, 58, 59, 60, 61, 62, 63] : List Nat), zzokC e := List.forall_mem_cons.mpr ⟨zwC_48, List.forall_mem_cons.mpr ⟨zwC_49, List.forall_mem_cons.mpr ⟨zwC_50, List.forall_mem_cons.mpr ⟨zwC_51, List.forall_mem_cons.mpr ⟨zwC_52, List.forall_mem_cons.mpr ⟨zwC_53, List.forall_mem_cons.mpr ⟨zwC_54, List.forall_mem_cons.mpr ⟨zwC_55, List.forall_mem_cons.mpr ⟨zwC_56, List.forall_mem_cons.mpr ⟨zwC_57, List.forall_mem_cons.mpr ⟨zwC_58, List.forall_mem_cons.mpr ⟨zwC_59, List.forall_mem_cons.mpr ⟨zwC_60, List.forall_mem_cons.mpr ⟨zwC_61, List.forall_mem_cons.mpr ⟨zwC_62, List.forall_mem_cons.mpr ⟨zwC_63, fun _ h => absurd h List.not_mem_nil⟩⟩⟩⟩⟩⟩⟩⟩⟩⟩⟩⟩⟩⟩⟩⟩
theorem zwC_r4 : ∀ e ∈ ([64, 65, 66, 67, 68, 69, 70, 71, 72, 73, 74, 75, 76, 77, 78, 79] : List Nat), zzokC e := List.forall_mem_cons.mpr ⟨zwC_64, List.forall_mem_cons.mpr ⟨zwC_65, List.forall_mem_cons.mpr ⟨zwC_66, List.forall_mem_cons.mpr ⟨zwC_67, List.forall_mem_cons.mpr ⟨zwC_68, List.forall_mem_cons.mpr ⟨zwC_69, List.forall_mem_cons.mpr ⟨zwC_70, List.forall_mem_cons.mpr ⟨zwC_71, List.forall_mem_cons.mpr ⟨zwC_72, List.forall_mem_cons.mpr ⟨zwC_73, List.forall_mem_cons.mpr ⟨zwC_74, List.forall_mem_cons.mpr ⟨zwC_75, List.forall_mem_cons.mpr ⟨zwC_76, List.forall_mem_cons.mpr ⟨zwC_77, List.forall_mem_cons.mpr ⟨zwC_78, List.forall_mem_cons.mpr ⟨zwC_79, fun _ h => absurd h List.not_mem_nil⟩⟩⟩⟩⟩⟩⟩⟩⟩⟩⟩⟩⟩⟩⟩⟩
theorem zwC_r5 : ∀ e ∈ ([80, 81, 82, 83, 84, 85, 86, 87, 88, 89, 90, 91, 92, 93, 94, 95] : List Nat), zzokC e := List.forall_mem_cons.mpr ⟨zwC_80, List.forall_mem_cons.mpr ⟨zwC_81, List.forall_mem_cons.mpr ⟨zwC_82, List.forall_mem_cons.mpr ⟨zwC_83, List.forall_mem_cons.mpr ⟨zwC_84, List.forall_mem_cons.mpr ⟨zwC_85, List.forall_mem_cons.mpr ⟨zwC_86, List.forall_mem_cons.mpr ⟨zwC_87, List.forall_mem_cons.mpr ⟨zwC_88, List.forall_mem_cons.mpr ⟨zwC_89, List.forall_mem_cons.mpr ⟨zwC_90, List.forall_mem_cons.mpr ⟨zwC_91, List.forall_mem_cons.mpr ⟨zwC_92, List.forall_mem_cons.mpr ⟨zwC_93, List.forall_mem_cons.mpr ⟨zwC_94, List.forall_mem_cons.mpr ⟨zwC_95, fun _ h => absurd h List.not_mem_nil⟩⟩⟩⟩⟩⟩⟩⟩⟩⟩⟩⟩⟩⟩⟩⟩
theorem zwC_r6 : ∀ e ∈ ([96, 97, 98, 99, 100, 101, 102, 103, 104, 105, 106, 107, 108, 109, 110, 111] : List Nat), zzokC e := List.forall_mem_cons.mpr ⟨zwC_96, List.forall_mem_cons.mpr ⟨zwC_97, List.forall_mem_cons.mpr ⟨zwC_98, List.forall_mem_cons.mpr ⟨zwC_99, List.forall_mem_cons.mpr ⟨zwC_100, List.forall_mem_cons.mpr ⟨zwC_101, List.forall_mem_cons.mpr ⟨zwC_102, List.forall_mem_cons.mpr ⟨zwC_103, List.forall_mem_cons.mpr ⟨zwC_104, List.forall_mem_cons.mpr ⟨zwC_105, List.forall_mem_cons.mpr ⟨zwC_106, List.forall_mem_cons.mpr ⟨zwC_107, List.forall_mem_cons.mpr ⟨zwC_108, List.forall_mem_cons.mpr ⟨zwC_109, List.forall_mem_cons.mpr ⟨zwC_110, List.forall_mem_cons.mpr ⟨zwC_111, fun _ h => absurd h List.not_mem_nil⟩⟩⟩⟩⟩⟩⟩⟩⟩⟩⟩⟩⟩⟩⟩⟩
theorem zwC_r7 : ∀ e ∈ ([112, 113, 114, 115, 116, 117, 118, 119, 120, 121, 122, 123, 124, 125, 126, 127] : List Nat), zzokC e := List.forall_mem_cons.mpr ⟨zwC_112, List.forall_mem_cons.mpr ⟨zwC_113, List.forall_mem_cons.mpr ⟨zwC_114, List.forall_mem_cons.mpr ⟨zwC_115, List.forall_mem_cons.mpr ⟨zwC_116, List.forall_mem_cons.mpr ⟨zwC_117, List.forall_mem_cons.mpr ⟨zwC_118, List.forall_mem_cons.mpr ⟨zwC_119, List.forall_mem_cons.mpr ⟨zwC_120, List.forall_mem_cons.mpr ⟨zwC_121, List.forall_mem_cons.mpr ⟨zwC_122, List.forall_mem_cons.mpr ⟨zwC_123, List.forall_mem_cons.mpr ⟨zwC_124, List.forall_mem_cons.mpr ⟨zwC_125, List.forall_mem_cons.mpr ⟨zwC_126, List.forall_mem_cons.mpr ⟨zwC_127, fun _ h => absurd h List.not_mem_nil⟩⟩⟩⟩⟩⟩⟩⟩⟩⟩⟩⟩⟩⟩⟩⟩
theorem zwC_r8 : ∀ e ∈ ([128, 129, 130, 131, 132, 133, 134] : List Nat), zzokC e := List.forall_mem_cons.mpr ⟨zwC_128, List.forall_mem_cons.mpr ⟨zwC_129, List.forall_mem_cons.mpr ⟨zwC_130, List.forall_mem_cons.mpr ⟨zwC_131, List.forall_mem_cons.mpr ⟨zwC_132, List.forall_mem_cons.mpr ⟨zwC_133, List.forall_mem_cons.mpr ⟨zwC_134, fun _ h => absurd h List.not_mem_nil⟩⟩⟩⟩⟩⟩⟩
set_option maxRecDepth 100000 in
theorem zwC_all : ∀ e ∈ List.range 135, zzokC e := by
  have h : ∀ e ∈ ([0, 1, 2, 3, 4, 5, 6, 7, 8, 9, 10, 11, 12, 13, 14, 15] ++ ([16, 17, 18, 19, 20, 21, 22, 23, 24, 25, 26, 27, 28, 29, 30, 31] ++ ([32, 33, 34, 35, 36, 37, 38, 39, 40, 41, 42, 43, 44, 45, 46, 47] ++ ([48, 49, 50, 51, 52, 53, 54, 55, 56, 57, 58, 59, 60, 61, 62, 63] ++ ([64, 65, 66, 67, 68, 69, 70, 71, 72, 73, 74, 75, 76, 77, 78, 79] ++ ([80, 81, 82, 83, 84, 85, 86, 87, 88, 89, 90, 91, 92, 93, 94, 95] ++ ([96, 97, 98, 99, 100, 101, 102, 103, 104, 105, 106, 107, 108, 109, 110, 111] ++ ([112, 113, 114, 115, 116, 117, 118, 119, 120, 121, 122, 123, 124, 125, 126, 127] ++ ([128, 129, 130, 131, 132, 133, 134])))))))) : List Nat), zzokC e := List.forall_mem_append.mpr ⟨zwC_r0, List.forall_mem_append.mpr ⟨zwC_r1, List.forall_mem_append.mpr ⟨zwC_r2, List.forall_mem_append.mpr ⟨zwC_r3, List.forall_mem_append.mpr ⟨zwC_r4, List.forall_mem_append.mpr ⟨zwC_r5, List.forall_mem_append.mpr ⟨zwC_r6, List.forall_mem_append.mpr ⟨zwC_r7, zwC_r8⟩⟩⟩⟩⟩⟩⟩⟩
  exact fun e he => h e (by first | exact he | (rw [show ([0, 1, 2, 3, 4, 5, 6, 7, 8, 9, 10, 11, 12, 13, 14, 15] ++ ([16, 17, 18, 19, 20, 21, 22, 23, 24, 25, 26, 27, 28, 29, 30, 31] ++ ([32, 33, 34, 35, 36, 37, 38, 39, 40, 41, 42, 43, 44, 45, 46, 47] ++ ([48, 49, 50, 51, 52, 53, 54, 55, 56, 57, 58, 59, 60, 61, 62, 63] ++ ([64, 65, 66, 67, 68, 69, 70, 71, 72, 73, 74, 75, 76, 77, 78, 79] ++ ([80, 81, 82, 83, 84, 85, 86, 87, 88, 89, 90, 91, 92, 93, 94, 95] ++ ([96, 97, 98, 99, 100, 101, 102, 103, 104, 105, 106, 107, 108, 109, 110, 111] ++ ([112, 113, 114, 115, 116, 117, 118, 119, 120, 121, 122, 123, 124, 125, 126, 127] ++ ([128, 129, 130, 131, 132, 133, 134])))))))) : List Nat) = List.range 135 from rfl]; exact he))
theorem zwM_0 : zzokM ((5, 13), (0, 0)) := by
  rw [zzokM_of zc_X3_letter]
  exact ⟨by decide, Or.inl ⟨rfl, zzat_mem 244 (by decide +kernel), rfl⟩⟩
theorem zwM_1 : zzokM ((5, 18), (0, 1)) := by
  rw [zzokM_of zc_X3_blank]
  exact ⟨by decide, Or.inl ⟨rfl, zzat_mem 248 (by decide +kernel), rfl⟩⟩
theorem zwM_2 : zzokM ((5, 23), (0, 2)) := by
  rw [zzokM_of zc_X3_fault]
  exact ⟨by decide, Or.inl ⟨rfl, zzat_mem 252 (by decide +kernel), rfl⟩⟩
theorem zwM_3 : zzokM ((3, 69), (2, 3)) := by
  rw [zzokM_of zc_X3_isSign]
  exact ⟨by decide, Or.inr (Or.inr ⟨rfl, zzat_mem 259 (by decide +kernel), rfl⟩)⟩
theorem zwM_4 : zzokM ((5, 27), (0, 4)) := by
  rw [zzokM_of zc_X3_sea]
  exact ⟨by decide, Or.inl ⟨rfl, zzat_mem 262 (by decide +kernel), rfl⟩⟩
theorem zwM_5 : zzokM ((3, 73), (0, 2)) := by
  rw [zzokM_of zc_X3_fault]
  exact ⟨by decide, Or.inl ⟨rfl, zzat_mem 266 (by decide +kernel), rfl⟩⟩
theorem zwM_6 : zzokM ((3, 77), (1, 5)) := by
  rw [zzokM_of zc_X2_clear]
  exact ⟨by decide, Or.inr (Or.inl ⟨rfl, zzatN_mem 267 (by decide +kernel), rfl⟩)⟩
theorem zwM_7 : zzokM ((3, 83), (2, 6)) := by
  rw [zzokM_of zc_X3_currentOf]
  exact ⟨by decide, Or.inr (Or.inr ⟨rfl, zzat_mem 271 (by decide +kernel), rfl⟩)⟩
theorem zwM_8 : zzokM ((3, 90), (1, 7)) := by
  rw [zzokM_of zc_X2_currents]
  exact ⟨by decide, Or.inr (Or.inl ⟨rfl, zzatN_mem 274 (by decide +kernel), rfl⟩)⟩
theorem zwM_9 : zzokM ((5, 31), (0, 8)) := by
  rw [zzokM_of zc_X3_place]
  exact ⟨by decide, Or.inl ⟨rfl, zzat_mem 278 (by decide +kernel), rfl⟩⟩
theorem zwM_10 : zzokM ((3, 93), (0, 9)) := by
  rw [zzokM_of zc_X3_isPlace]
  exact ⟨by decide, Or.inl ⟨rfl, zzat_mem 282 (by decide +kernel), rfl⟩⟩
theorem zwM_11 : zzokM ((3, 96), (1, 10)) := by
  rw [zzokM_of zc_X2_islandAt]
  exact ⟨by decide, Or.inr (Or.inl ⟨rfl, zzatN_mem 286 (by decide +kernel), rfl⟩)⟩
theorem zwM_12 : zzokM ((5, 36), (0, 11)) := by
  rw [zzokM_of zc_X3_wind]
  exact ⟨by decide, Or.inl ⟨rfl, zzat_mem 290 (by decide +kernel), rfl⟩⟩
theorem zwM_13 : zzokM ((5, 40), (0, 12)) := by
  rw [zzokM_of zc_X3_island]
  exact ⟨by decide, Or.inl ⟨rfl, zzat_mem 294 (by decide +kernel), rfl⟩⟩
theorem zwM_14 : zzokM ((3, 102), (2, 13)) := by
  rw [zzokM_of zc_X3_isKind]
  exact ⟨by decide, Or.inr (Or.inr ⟨rfl, zzat_mem 298 (by decide +kernel), rfl⟩)⟩
theorem zwM_15 : zzokM ((3, 108), (1, 14)) := by
  rw [zzokM_of zc_X2_add]
  exact ⟨by decide, Or.inr (Or.inl ⟨rfl, zzatN_mem 301 (by decide +kernel), rfl⟩)⟩
theorem zwM_16 : zzokM ((5, 45), (0, 15)) := by
  rw [zzokM_of zc_X3_about]
  exact ⟨by decide, Or.inl ⟨rfl, zzat_mem 305 (by decide +kernel), rfl⟩⟩
theorem zwM_17 : zzokM ((3, 112), (0, 16)) := by
  rw [zzokM_of zc_X3_isIsland]
  exact ⟨by decide, Or.inl ⟨rfl, zzat_mem 309 (by decide +kernel), rfl⟩⟩
theorem zwM_18 : zzokM ((3, 124), (1, 17)) := by
  rw [zzokM_of zc_X2_pushOf]
  exact ⟨by decide, Or.inr (Or.inl ⟨rfl, zzatN_mem 313 (by decide +kernel), rfl⟩)⟩
theorem zwM_19 : zzokM ((3, 127), (1, 18)) := by
  rw [zzokM_of zc_X2_isAnchored]
  exact ⟨by decide, Or.inr (Or.inl ⟨rfl, zzatN_mem 321 (by decide +kernel), rfl⟩)⟩
theorem zwM_20 : zzokM ((3, 133), (1, 19)) := by
  rw [zzokM_of zc_X2_neighbours]
  exact ⟨by decide, Or.inr (Or.inl ⟨rfl, zzatN_mem 325 (by decide +kernel), rfl⟩)⟩
theorem zwM_21 : zzokM ((2, 65), (0, 20)) := by
  rw [zzokM_of zc_X2_areBeside]
  exact ⟨by decide, Or.inl ⟨rfl, zzat_mem 329 (by decide +kernel), rfl⟩⟩
theorem zwM_22 : zzokM ((2, 61), (2, 21)) := by
  rw [zzokM_of zc_X2_stepped]
  exact ⟨by decide, Or.inr (Or.inr ⟨rfl, zzat_mem 333 (by decide +kernel), rfl⟩)⟩
theorem zwM_23 : zzokM ((5, 49), (0, 22)) := by
  rw [zzokM_of zc_X3_as]
  exact ⟨by decide, Or.inl ⟨rfl, zzat_mem 336 (by decide +kernel), rfl⟩⟩
theorem zwM_24 : zzokM ((5, 53), (0, 23)) := by
  rw [zzokM_of zc_X3_anchor]
  exact ⟨by decide, Or.inl ⟨rfl, zzat_mem 340 (by decide +kernel), rfl⟩⟩
theorem zwM_25 : zzokM ((5, 58), (0, 24)) := by
  rw [zzokM_of zc_X3_wed]
  exact ⟨by decide, Or.inl ⟨rfl, zzat_mem 344 (by decide +kernel), rfl⟩⟩
theorem zwM_26 : zzokM ((3, 142), (0, 25)) := by
  rw [zzokM_of zc_X3_areTwo]
  exact ⟨by decide, Or.inl ⟨rfl, zzat_mem 348 (by decide +kernel), rfl⟩⟩
theorem zwM_27 : zzokM ((3, 146), (1, 26)) := by
  rw [zzokM_of zc_X2_areRoped]
  exact ⟨by decide, Or.inr (Or.inl ⟨rfl, zzatN_mem 352 (by decide +kernel), rfl⟩)⟩
theorem zwM_28 : zzokM ((3, 149), (1, 20)) := by
  rw [zzokM_of zc_X2_areBeside]
  exact ⟨by decide, Or.inr (Or.inl ⟨rfl, zzatN_mem 356 (by decide +kernel), rfl⟩)⟩
theorem zwM_29 : zzokM ((3, 155), (1, 27)) := by
  rw [zzokM_of zc_X2_tie]
  exact ⟨by decide, Or.inr (Or.inl ⟨rfl, zzatN_mem 357 (by decide +kernel), rfl⟩)⟩
theorem zwM_30 : zzokM ((2, 78), (0, 28)) := by
  rw [zzokM_of zc_X2_findParties]
  exact ⟨by decide, Or.inl ⟨rfl, zzat_mem 361 (by decide +kernel), rfl⟩⟩
theorem zwM_31 : zzokM ((2, 81), (0, 29)) := by
  rw [zzokM_of zc_X2_tiedTo]
  exact ⟨by decide, Or.inl ⟨rfl, zzat_mem 365 (by decide +kernel), rfl⟩⟩
theorem zwM_32 : zzokM ((5, 62), (0, 30)) := by
  rw [zzokM_of zc_X3_axe]
  exact ⟨by decide, Or.inl ⟨rfl, zzat_mem 369 (by decide +kernel), rfl⟩⟩
theorem zwM_33 : zzokM ((3, 159), (1, 31)) := by
  rw [zzokM_of zc_X2_cut]
  exact ⟨by decide, Or.inr (Or.inl ⟨rfl, zzatN_mem 373 (by decide +kernel), rfl⟩)⟩
theorem zwM_34 : zzokM ((5, 66), (0, 32)) := by
  rw [zzokM_of zc_X3_day]
  exact ⟨by decide, Or.inl ⟨rfl, zzat_mem 377 (by decide +kernel), rfl⟩⟩
theorem zwM_35 : zzokM ((3, 162), (1, 33)) := by
  rw [zzokM_of zc_X2_drift]
  exact ⟨by decide, Or.inr (Or.inl ⟨rfl, zzatN_mem 381 (by decide +kernel), rfl⟩)⟩
theorem zwM_36 : zzokM ((2, 84), (0, 34)) := by
  rw [zzokM_of zc_X2_leads]
  exact ⟨by decide, Or.inl ⟨rfl, zzat_mem 385 (by decide +kernel), rfl⟩⟩
theorem zwM_37 : zzokM ((2, 96), (0, 35)) := by
  rw [zzokM_of zc_X2_moves]
  exact ⟨by decide, Or.inl ⟨rfl, zzat_mem 389 (by decide +kernel), rfl⟩⟩
theorem zwM_38 : zzokM ((2, 99), (0, 36)) := by
  rw [zzokM_of zc_X2_stepOf]
  exact ⟨by decide, Or.inl ⟨rfl, zzat_mem 393 (by decide +kernel), rfl⟩⟩
theorem zwM_39 : zzokM ((2, 105), (0, 17)) := by
  rw [zzokM_of zc_X2_pushOf]
  exact ⟨by decide, Or.inl ⟨rfl, zzat_mem 397 (by decide +kernel), rfl⟩⟩
theorem zwM_40 : zzokM ((2, 108), (2, 37)) := by
  rw [zzokM_of zc_J6_compare_7cf53]
  exact ⟨by decide, Or.inr (Or.inr ⟨rfl, zzat_mem 398 (by decide +kernel), rfl⟩)⟩
theorem zwM_41 : zzokM ((2, 102), (0, 38)) := by
  rw [zzokM_of zc_X2_isBarred]
  exact ⟨by decide, Or.inl ⟨rfl, zzat_mem 401 (by decide +kernel), rfl⟩⟩
theorem zwM_42 : zzokM ((5, 70), (0, 39)) := by
  rw [zzokM_of zc_X3_meet]
  exact ⟨by decide, Or.inl ⟨rfl, zzat_mem 405 (by decide +kernel), rfl⟩⟩
theorem zwM_43 : zzokM ((3, 165), (0, 40)) := by
  rw [zzokM_of zc_X3_firstMeeting]
  exact ⟨by decide, Or.inl ⟨rfl, zzat_mem 409 (by decide +kernel), rfl⟩⟩
theorem zwM_44 : zzokM ((3, 198), (1, 41)) := by
  rw [zzokM_of zc_X2_copy]
  exact ⟨by decide, Or.inr (Or.inl ⟨rfl, zzatN_mem 413 (by decide +kernel), rfl⟩)⟩
theorem zwM_45 : zzokM ((5, 74), (0, 42)) := by
  rw [zzokM_of zc_X3_anchors]
  exact ⟨by decide, Or.inl ⟨rfl, zzat_mem 420 (by decide +kernel), rfl⟩⟩
theorem zwM_46 : zzokM ((3, 169), (0, 43)) := by
  rw [zzokM_of zc_X3_fewestAnchors]
  exact ⟨by decide, Or.inl ⟨rfl, zzat_mem 424 (by decide +kernel), rfl⟩⟩
theorem zwM_47 : zzokM ((3, 172), (2, 44)) := by
  rw [zzokM_of zc_J6_bitCount_0f7a4]
  exact ⟨by decide, Or.inr (Or.inr ⟨rfl, zzat_mem 428 (by decide +kernel), rfl⟩)⟩
theorem zwM_48 : zzokM ((5, 79), (0, 45)) := by
  rw [zzokM_of zc_X3_stable]
  exact ⟨by decide, Or.inl ⟨rfl, zzat_mem 434 (by decide +kernel), rfl⟩⟩
theorem zwM_49 : zzokM ((3, 177), (0, 46)) := by
  rw [zzokM_of zc_X3_meetAll]
  exact ⟨by decide, Or.inl ⟨rfl, zzat_mem 438 (by decide +kernel), rfl⟩⟩
theorem zwM_50 : zzokM ((3, 240), (2, 47)) := by
  rw [zzokM_of zc_J7_fill_53178]
  exact ⟨by decide, Or.inr (Or.inr ⟨rfl, zzat_mem 442 (by decide +kernel), rfl⟩)⟩
theorem zwM_51 : zzokM ((3, 246), (1, 48)) := by
  rw [zzokM_of zc_X2_noteMeetings]
  exact ⟨by decide, Or.inr (Or.inl ⟨rfl, zzatN_mem 445 (by decide +kernel), rfl⟩)⟩
theorem zwM_52 : zzokM ((3, 181), (1, 49)) := by
  rw [zzokM_of zc_X0_solve]
  exact ⟨by decide, Or.inr (Or.inl ⟨rfl, zzatN_mem 449 (by decide +kernel), rfl⟩)⟩
theorem zwM_53 : zzokM ((0, 38), (2, 47)) := by
  rw [zzokM_of zc_J7_fill_53178]
  exact ⟨by decide, Or.inr (Or.inr ⟨rfl, zzat_mem 453 (by decide +kernel), rfl⟩)⟩
theorem zwM_54 : zzokM ((0, 44), (0, 50)) := by
  rw [zzokM_of zc_X0_goThrough]
  exact ⟨by decide, Or.inl ⟨rfl, zzat_mem 454 (by decide +kernel), rfl⟩⟩
theorem zwM_55 : zzokM ((0, 48), (0, 51)) := by
  rw [zzokM_of zc_X0_weigh]
  exact ⟨by decide, Or.inl ⟨rfl, zzat_mem 458 (by decide +kernel), rfl⟩⟩
theorem zwM_56 : zzokM ((0, 52), (0, 52)) := by
  rw [zzokM_of zc_X0_isStable]
  exact ⟨by decide, Or.inl ⟨rfl, zzat_mem 462 (by decide +kernel), rfl⟩⟩
theorem zwM_57 : zzokM ((0, 62), (0, 53)) := by
  rw [zzokM_of zc_X0_likesBetter]
  exact ⟨by decide, Or.inl ⟨rfl, zzat_mem 466 (by decide +kernel), rfl⟩⟩
theorem zwM_58 : zzokM ((3, 185), (0, 54)) := by
  rw [zzokM_of zc_X3_matchesTell]
  exact ⟨by decide, Or.inl ⟨rfl, zzat_mem 471 (by decide +kernel), rfl⟩⟩
theorem zwM_59 : zzokM ((5, 83), (0, 55)) := by
  rw [zzokM_of zc_X3_parting]
  exact ⟨by decide, Or.inl ⟨rfl, zzat_mem 478 (by decide +kernel), rfl⟩⟩
theorem zwM_60 : zzokM ((3, 188), (1, 56)) := by
  rw [zzokM_of zc_X2_fewestCuts]
  exact ⟨by decide, Or.inr (Or.inl ⟨rfl, zzatN_mem 482 (by decide +kernel), rfl⟩)⟩
theorem zwM_61 : zzokM ((2, 88), (0, 57)) := by
  rw [zzokM_of zc_X2_ropesOutOf]
  exact ⟨by decide, Or.inl ⟨rfl, zzat_mem 486 (by decide +kernel), rfl⟩⟩
theorem zwM_62 : zzokM ((2, 73), (2, 44)) := by
  rw [zzokM_of zc_J6_bitCount_0f7a4]
  exact ⟨by decide, Or.inr (Or.inr ⟨rfl, zzat_mem 490 (by decide +kernel), rfl⟩)⟩
theorem zwM_63 : zzokM ((5, 87), (0, 58)) := by
  rw [zzokM_of zc_X3_shell]
  exact ⟨by decide, Or.inl ⟨rfl, zzat_mem 492 (by decide +kernel), rfl⟩⟩
theorem zwM_64 : zzokM ((3, 191), (1, 59)) := by
  rw [zzokM_of zc_X1_add]
  exact ⟨by decide, Or.inr (Or.inl ⟨rfl, zzatN_mem 496 (by decide +kernel), rfl⟩)⟩
theorem zwM_65 : zzokM ((5, 92), (0, 60)) := by
  rw [zzokM_of zc_X3_forget]
  exact ⟨by decide, Or.inl ⟨rfl, zzat_mem 500 (by decide +kernel), rfl⟩⟩
theorem zwM_66 : zzokM ((5, 96), (0, 61)) := by
  rw [zzokM_of zc_X3_guess]
  exact ⟨by decide, Or.inl ⟨rfl, zzat_mem 504 (by decide +kernel), rfl⟩⟩
theorem zwM_67 : zzokM ((3, 194), (0, 62)) := by
  rw [zzokM_of zc_X3_shellsWouldHold]
  exact ⟨by decide, Or.inl ⟨rfl, zzat_mem 508 (by decide +kernel), rfl⟩⟩
theorem zwM_68 : zzokM ((3, 261), (1, 63)) := by
  rw [zzokM_of zc_X1_lastDay]
  exact ⟨by decide, Or.inr (Or.inl ⟨rfl, zzatN_mem 512 (by decide +kernel), rfl⟩)⟩
theorem zwM_69 : zzokM ((3, 264), (1, 64)) := by
  rw [zzokM_of zc_X1_holdOn]
  exact ⟨by decide, Or.inr (Or.inl ⟨rfl, zzatN_mem 517 (by decide +kernel), rfl⟩)⟩
theorem zwM_70 : zzokM ((1, 35), (1, 20)) := by
  rw [zzokM_of zc_X2_areBeside]
  exact ⟨by decide, Or.inr (Or.inl ⟨rfl, zzatN_mem 521 (by decide +kernel), rfl⟩)⟩
theorem zwM_71 : zzokM ((5, 100), (0, 65)) := by
  rw [zzokM_of zc_X3_seasons]
  exact ⟨by decide, Or.inl ⟨rfl, zzat_mem 522 (by decide +kernel), rfl⟩⟩
theorem zwM_72 : zzokM ((3, 202), (2, 66)) := by
  rw [zzokM_of zc_X3_nextSeed]
  exact ⟨by decide, Or.inr (Or.inr ⟨rfl, zzat_mem 526 (by decide +kernel), rfl⟩)⟩
theorem zwM_73 : zzokM ((3, 205), (1, 67)) := by
  rw [zzokM_of zc_X2_pairsBeside]
  exact ⟨by decide, Or.inr (Or.inl ⟨rfl, zzatN_mem 532 (by decide +kernel), rfl⟩)⟩
theorem zwM_74 : zzokM ((2, 69), (0, 19)) := by
  rw [zzokM_of zc_X2_neighbours]
  exact ⟨by decide, Or.inl ⟨rfl, zzat_mem 536 (by decide +kernel), rfl⟩⟩
theorem zwM_75 : zzokM ((5, 104), (0, 68)) := by
  rw [zzokM_of zc_X3_image]
  exact ⟨by decide, Or.inl ⟨rfl, zzat_mem 537 (by decide +kernel), rfl⟩⟩
theorem zwM_76 : zzokM ((3, 208), (1, 69)) := by
  rw [zzokM_of zc_X1_copy]
  exact ⟨by decide, Or.inr (Or.inl ⟨rfl, zzatN_mem 541 (by decide +kernel), rfl⟩)⟩
theorem zwM_77 : zzokM ((5, 108), (0, 70)) := by
  rw [zzokM_of zc_X3_restore]
  exact ⟨by decide, Or.inl ⟨rfl, zzat_mem 545 (by decide +kernel), rfl⟩⟩
theorem zwM_78 : zzokM ((5, 112), (0, 71)) := by
  rw [zzokM_of zc_X3_count]
  exact ⟨by decide, Or.inl ⟨rfl, zzat_mem 549 (by decide +kernel), rfl⟩⟩
theorem zwM_79 : zzokM ((3, 214), (1, 72)) := by
  rw [zzokM_of zc_X2_parties]
  exact ⟨by decide, Or.inr (Or.inl ⟨rfl, zzatN_mem 553 (by decide +kernel), rfl⟩)⟩
theorem zwM_80 : zzokM ((5, 116), (0, 73)) := by
  rw [zzokM_of zc_X3_digest]
  exact ⟨by decide, Or.inl ⟨rfl, zzat_mem 557 (by decide +kernel), rfl⟩⟩
theorem zwM_81 : zzokM ((3, 224), (0, 74)) := by
  rw [zzokM_of zc_X3_digestIslands]
  exact ⟨by decide, Or.inl ⟨rfl, zzat_mem 563 (by decide +kernel), rfl⟩⟩
theorem zwM_82 : zzokM ((3, 268), (0, 15)) := by
  rw [zzokM_of zc_X3_about]
  exact ⟨by decide, Or.inl ⟨rfl, zzat_mem 567 (by decide +kernel), rfl⟩⟩
theorem zwM_83 : zzokM ((3, 228), (0, 75)) := by
  rw [zzokM_of zc_X3_digestMatches]
  exact ⟨by decide, Or.inl ⟨rfl, zzat_mem 568 (by decide +kernel), rfl⟩⟩
theorem zwM_84 : zzokM ((3, 231), (0, 71)) := by
  rw [zzokM_of zc_X3_count]
  exact ⟨by decide, Or.inl ⟨rfl, zzat_mem 572 (by decide +kernel), rfl⟩⟩
theorem zwM_85 : zzokM ((5, 17), (0, 76)) := by
  rw [zzokM_of zc_X4_letter]
  exact ⟨by decide, Or.inl ⟨rfl, zzat_mem 688 (by decide +kernel), rfl⟩⟩
theorem zwM_86 : zzokM ((4, 52), (2, 77)) := by
  rw [zzokM_of zc_X4_in]
  exact ⟨by decide, Or.inr (Or.inr ⟨rfl, zzat_mem 693 (by decide +kernel), rfl⟩)⟩
theorem zwM_87 : zzokM ((5, 22), (0, 78)) := by
  rw [zzokM_of zc_X4_blank]
  exact ⟨by decide, Or.inl ⟨rfl, zzat_mem 696 (by decide +kernel), rfl⟩⟩
theorem zwM_88 : zzokM ((5, 26), (0, 79)) := by
  rw [zzokM_of zc_X4_fault]
  exact ⟨by decide, Or.inl ⟨rfl, zzat_mem 700 (by decide +kernel), rfl⟩⟩
theorem zwM_89 : zzokM ((4, 59), (0, 80)) := by
  rw [zzokM_of zc_X4_faultOf]
  exact ⟨by decide, Or.inl ⟨rfl, zzat_mem 704 (by decide +kernel), rfl⟩⟩
theorem zwM_90 : zzokM ((5, 30), (0, 81)) := by
  rw [zzokM_of zc_X4_sea]
  exact ⟨by decide, Or.inl ⟨rfl, zzat_mem 708 (by decide +kernel), rfl⟩⟩
theorem zwM_91 : zzokM ((4, 88), (0, 82)) := by
  rw [zzokM_of zc_X4_currentMany]
  exact ⟨by decide, Or.inl ⟨rfl, zzat_mem 712 (by decide +kernel), rfl⟩⟩
theorem zwM_92 : zzokM ((5, 35), (0, 83)) := by
  rw [zzokM_of zc_X4_place]
  exact ⟨by decide, Or.inl ⟨rfl, zzat_mem 716 (by decide +kernel), rfl⟩⟩
theorem zwM_93 : zzokM ((4, 97), (0, 84)) := by
  rw [zzokM_of zc_X4_whoIsAt]
  exact ⟨by decide, Or.inl ⟨rfl, zzat_mem 721 (by decide +kernel), rfl⟩⟩
theorem zwM_94 : zzokM ((5, 39), (0, 85)) := by
  rw [zzokM_of zc_X4_wind]
  exact ⟨by decide, Or.inl ⟨rfl, zzat_mem 725 (by decide +kernel), rfl⟩⟩
theorem zwM_95 : zzokM ((5, 44), (0, 86)) := by
  rw [zzokM_of zc_X4_island]
  exact ⟨by decide, Or.inl ⟨rfl, zzat_mem 730 (by decide +kernel), rfl⟩⟩
theorem zwM_96 : zzokM ((5, 48), (0, 87)) := by
  rw [zzokM_of zc_X4_about]
  exact ⟨by decide, Or.inl ⟨rfl, zzat_mem 736 (by decide +kernel), rfl⟩⟩
theorem zwM_97 : zzokM ((4, 91), (0, 88)) := by
  rw [zzokM_of zc_X4_isIsland]
  exact ⟨by decide, Or.inl ⟨rfl, zzat_mem 740 (by decide +kernel), rfl⟩⟩
theorem zwM_98 : zzokM ((4, 148), (0, 89)) := by
  rw [zzokM_of zc_X4_tell]
  exact ⟨by decide, Or.inl ⟨rfl, zzat_mem 744 (by decide +kernel), rfl⟩⟩
theorem zwM_99 : zzokM ((4, 139), (0, 90)) := by
  rw [zzokM_of zc_X4_asItIs]
  exact ⟨by decide, Or.inl ⟨rfl, zzat_mem 748 (by decide +kernel), rfl⟩⟩
theorem zwM_100 : zzokM ((4, 123), (0, 91)) := by
  rw [zzokM_of zc_X4_pushOf]
  exact ⟨by decide, Or.inl ⟨rfl, zzat_mem 752 (by decide +kernel), rfl⟩⟩
theorem zwM_101 : zzokM ((4, 120), (0, 92)) := by
  rw [zzokM_of zc_X4_partyOf]
  exact ⟨by decide, Or.inl ⟨rfl, zzat_mem 756 (by decide +kernel), rfl⟩⟩
theorem zwM_102 : zzokM ((4, 116), (0, 93)) := by
  rw [zzokM_of zc_X4_partyBy]
  exact ⟨by decide, Or.inl ⟨rfl, zzat_mem 760 (by decide +kernel), rfl⟩⟩
theorem zwM_103 : zzokM ((4, 142), (0, 94)) := by
  rw [zzokM_of zc_X4_besideBits]
  exact ⟨by decide, Or.inl ⟨rfl, zzat_mem 764 (by decide +kernel), rfl⟩⟩
theorem zwM_104 : zzokM ((4, 132), (2, 95)) := by
  rw [zzokM_of zc_X4_areBeside]
  exact ⟨by decide, Or.inr (Or.inr ⟨rfl, zzat_mem 768 (by decide +kernel), rfl⟩)⟩
theorem zwM_105 : zzokM ((4, 145), (0, 96)) := by
  rw [zzokM_of zc_X4_ropedBits]
  exact ⟨by decide, Or.inl ⟨rfl, zzat_mem 771 (by decide +kernel), rfl⟩⟩
theorem zwM_106 : zzokM ((4, 136), (0, 97)) := by
  rw [zzokM_of zc_X4_areRoped]
  exact ⟨by decide, Or.inl ⟨rfl, zzat_mem 775 (by decide +kernel), rfl⟩⟩
theorem zwM_107 : zzokM ((5, 52), (0, 98)) := by
  rw [zzokM_of zc_X4_as]
  exact ⟨by decide, Or.inl ⟨rfl, zzat_mem 779 (by decide +kernel), rfl⟩⟩
theorem zwM_108 : zzokM ((5, 57), (0, 99)) := by
  rw [zzokM_of zc_X4_anchor]
  exact ⟨by decide, Or.inl ⟨rfl, zzat_mem 783 (by decide +kernel), rfl⟩⟩
theorem zwM_109 : zzokM ((5, 61), (0, 100)) := by
  rw [zzokM_of zc_X4_wed]
  exact ⟨by decide, Or.inl ⟨rfl, zzat_mem 787 (by decide +kernel), rfl⟩⟩
theorem zwM_110 : zzokM ((4, 151), (0, 101)) := by
  rw [zzokM_of zc_X4_arePair]
  exact ⟨by decide, Or.inl ⟨rfl, zzat_mem 791 (by decide +kernel), rfl⟩⟩
theorem zwM_111 : zzokM ((5, 65), (0, 102)) := by
  rw [zzokM_of zc_X4_axe]
  exact ⟨by decide, Or.inl ⟨rfl, zzat_mem 795 (by decide +kernel), rfl⟩⟩
theorem zwM_112 : zzokM ((5, 69), (0, 103)) := by
  rw [zzokM_of zc_X4_day]
  exact ⟨by decide, Or.inl ⟨rfl, zzat_mem 799 (by decide +kernel), rfl⟩⟩
theorem zwM_113 : zzokM ((4, 154), (0, 104)) := by
  rw [zzokM_of zc_X4_passes]
  exact ⟨by decide, Or.inl ⟨rfl, zzat_mem 803 (by decide +kernel), rfl⟩⟩
theorem zwM_114 : zzokM ((4, 126), (0, 105)) := by
  rw [zzokM_of zc_X4_isFirst]
  exact ⟨by decide, Or.inl ⟨rfl, zzat_mem 807 (by decide +kernel), rfl⟩⟩
theorem zwM_115 : zzokM ((4, 129), (0, 106)) := by
  rw [zzokM_of zc_X4_drifts]
  exact ⟨by decide, Or.inl ⟨rfl, zzat_mem 811 (by decide +kernel), rfl⟩⟩
theorem zwM_116 : zzokM ((5, 73), (0, 107)) := by
  rw [zzokM_of zc_X4_meet]
  exact ⟨by decide, Or.inl ⟨rfl, zzat_mem 815 (by decide +kernel), rfl⟩⟩
theorem zwM_117 : zzokM ((4, 157), (0, 108)) := by
  rw [zzokM_of zc_X4_meetBy]
  exact ⟨by decide, Or.inl ⟨rfl, zzat_mem 819 (by decide +kernel), rfl⟩⟩
theorem zwM_118 : zzokM ((5, 78), (0, 109)) := by
  rw [zzokM_of zc_X4_anchors]
  exact ⟨by decide, Or.inl ⟨rfl, zzat_mem 823 (by decide +kernel), rfl⟩⟩
theorem zwM_119 : zzokM ((4, 169), (0, 110)) := by
  rw [zzokM_of zc_X4_anchorsOf]
  exact ⟨by decide, Or.inl ⟨rfl, zzat_mem 828 (by decide +kernel), rfl⟩⟩
theorem zwM_120 : zzokM ((4, 161), (2, 111)) := by
  rw [zzokM_of zc_X4_ones]
  exact ⟨by decide, Or.inr (Or.inr ⟨rfl, zzat_mem 832 (by decide +kernel), rfl⟩)⟩
theorem zwM_121 : zzokM ((5, 82), (0, 112)) := by
  rw [zzokM_of zc_X4_stable]
  exact ⟨by decide, Or.inl ⟨rfl, zzat_mem 835 (by decide +kernel), rfl⟩⟩
theorem zwM_122 : zzokM ((4, 197), (0, 113)) := by
  rw [zzokM_of zc_X4_layStable]
  exact ⟨by decide, Or.inl ⟨rfl, zzat_mem 841 (by decide +kernel), rfl⟩⟩
theorem zwM_123 : zzokM ((4, 182), (0, 114)) := by
  rw [zzokM_of zc_X4_isMatch]
  exact ⟨by decide, Or.inl ⟨rfl, zzat_mem 845 (by decide +kernel), rfl⟩⟩
theorem zwM_124 : zzokM ((4, 185), (0, 115)) := by
  rw [zzokM_of zc_X4_isStable]
  exact ⟨by decide, Or.inl ⟨rfl, zzat_mem 849 (by decide +kernel), rfl⟩⟩
theorem zwM_125 : zzokM ((4, 173), (0, 116)) := by
  rw [zzokM_of zc_X4_likes]
  exact ⟨by decide, Or.inl ⟨rfl, zzat_mem 853 (by decide +kernel), rfl⟩⟩
theorem zwM_126 : zzokM ((4, 189), (2, 117)) := by
  rw [zzokM_of zc_X4_copy]
  exact ⟨by decide, Or.inr (Or.inr ⟨rfl, zzat_mem 857 (by decide +kernel), rfl⟩)⟩
theorem zwM_127 : zzokM ((4, 200), (0, 118)) := by
  rw [zzokM_of zc_X4_tellStable]
  exact ⟨by decide, Or.inl ⟨rfl, zzat_mem 860 (by decide +kernel), rfl⟩⟩
theorem zwM_128 : zzokM ((5, 86), (0, 119)) := by
  rw [zzokM_of zc_X4_parting]
  exact ⟨by decide, Or.inl ⟨rfl, zzat_mem 864 (by decide +kernel), rfl⟩⟩
theorem zwM_129 : zzokM ((5, 91), (0, 120)) := by
  rw [zzokM_of zc_X4_shell]
  exact ⟨by decide, Or.inl ⟨rfl, zzat_mem 868 (by decide +kernel), rfl⟩⟩
theorem zwM_130 : zzokM ((5, 95), (0, 121)) := by
  rw [zzokM_of zc_X4_forget]
  exact ⟨by decide, Or.inl ⟨rfl, zzat_mem 873 (by decide +kernel), rfl⟩⟩
theorem zwM_131 : zzokM ((5, 99), (0, 122)) := by
  rw [zzokM_of zc_X4_guess]
  exact ⟨by decide, Or.inl ⟨rfl, zzat_mem 877 (by decide +kernel), rfl⟩⟩
theorem zwM_132 : zzokM ((4, 209), (0, 123)) := by
  rw [zzokM_of zc_X4_guessOf]
  exact ⟨by decide, Or.inl ⟨rfl, zzat_mem 881 (by decide +kernel), rfl⟩⟩
theorem zwM_133 : zzokM ((4, 205), (0, 124)) := by
  rw [zzokM_of zc_X4_isSo]
  exact ⟨by decide, Or.inl ⟨rfl, zzat_mem 885 (by decide +kernel), rfl⟩⟩
theorem zwM_134 : zzokM ((5, 103), (0, 125)) := by
  rw [zzokM_of zc_X4_seasons]
  exact ⟨by decide, Or.inl ⟨rfl, zzat_mem 889 (by decide +kernel), rfl⟩⟩
theorem zwM_135 : zzokM ((4, 226), (0, 126)) := by
  rw [zzokM_of zc_X4_draw]
  exact ⟨by decide, Or.inl ⟨rfl, zzat_mem 895 (by decide +kernel), rfl⟩⟩
theorem zwM_136 : zzokM ((5, 107), (0, 127)) := by
  rw [zzokM_of zc_X4_image]
  exact ⟨by decide, Or.inl ⟨rfl, zzat_mem 903 (by decide +kernel), rfl⟩⟩
theorem zwM_137 : zzokM ((5, 111), (0, 128)) := by
  rw [zzokM_of zc_X4_restore]
  exact ⟨by decide, Or.inl ⟨rfl, zzat_mem 907 (by decide +kernel), rfl⟩⟩
theorem zwM_138 : zzokM ((5, 115), (0, 129)) := by
  rw [zzokM_of zc_X4_count]
  exact ⟨by decide, Or.inl ⟨rfl, zzat_mem 911 (by decide +kernel), rfl⟩⟩
theorem zwM_139 : zzokM ((4, 250), (0, 130)) := by
  rw [zzokM_of zc_X4_countOf]
  exact ⟨by decide, Or.inl ⟨rfl, zzat_mem 915 (by decide +kernel), rfl⟩⟩
theorem zwM_140 : zzokM ((4, 247), (0, 131)) := by
  rw [zzokM_of zc_X4_partyMany]
  exact ⟨by decide, Or.inl ⟨rfl, zzat_mem 919 (by decide +kernel), rfl⟩⟩
theorem zwM_141 : zzokM ((5, 120), (0, 132)) := by
  rw [zzokM_of zc_X4_digest]
  exact ⟨by decide, Or.inl ⟨rfl, zzat_mem 923 (by decide +kernel), rfl⟩⟩
theorem zwM_142 : zzokM ((4, 259), (0, 133)) := by
  rw [zzokM_of zc_X4_say]
  exact ⟨by decide, Or.inl ⟨rfl, zzat_mem 928 (by decide +kernel), rfl⟩⟩
theorem zwM_143 : zzokM ((4, 265), (0, 134)) := by
  rw [zzokM_of zc_X4_sayIsland]
  exact ⟨by decide, Or.inl ⟨rfl, zzat_mem 933 (by decide +kernel), rfl⟩⟩
theorem zwM_r0 : ∀ e ∈ ([((5, 13), (0, 0)), ((5, 18), (0, 1)), ((5, 23), (0, 2)), ((3, 69), (2, 3)), ((5, 27), (0, 4)), ((3, 73), (0, 2)), ((3, 77), (1, 5)), ((3, 83), (2, 6)), ((3, 90), (1, 7)), ((5, 31), (0, 8)), ((3, 93), (0, 9)), ((3, 96), (1, 10)), ((5, 36), (0, 11)), ((5, 40), (0, 12)), ((3, 102), (2, 13)), ((3, 108), (1, 14))] : List ((Nat × Nat) × (Nat × Nat))), zzokM e := List.forall_mem_cons.mpr ⟨zwM_0, List.forall_mem_cons.mpr ⟨zwM_1, List.forall_mem_cons.mpr ⟨zwM_2, List.forall_mem_cons.mpr ⟨zwM_3, List.forall_mem_cons.mpr ⟨zwM_4, List.forall_mem_cons.mpr ⟨zwM_5, List.forall_mem_cons.mpr ⟨zwM_6, List.forall_mem_cons.mpr ⟨zwM_7, List.forall_mem_cons.mpr ⟨zwM_8, List.forall_mem_cons.mpr ⟨zwM_9, List.forall_mem_cons.mpr ⟨zwM_10, List.forall_mem_cons.mpr ⟨zwM_11, List.forall_mem_cons.mpr ⟨zwM_12, List.forall_mem_cons.mpr ⟨zwM_13, List.forall_mem_cons.mpr ⟨zwM_14, List.forall_mem_cons.mpr ⟨zwM_15, fun _ h => absurd h List.not_mem_nil⟩⟩⟩⟩⟩⟩⟩⟩⟩⟩⟩⟩⟩⟩⟩⟩
theorem zwM_r1 : ∀ e ∈ ([((5, 45), (0, 15)), ((3, 112), (0, 16)), ((3, 124), (1, 17)), ((3, 127), (1, 18)), ((3, 133), (1, 19)), ((2, 65), (0, 20)), ((2, 61), (2, 21)), ((5, 49), (0, 22)), ((5, 53), (0, 23)), ((5, 58), (0, 24)), ((3, 142), (0, 25)), ((3, 146), (1, 26)), ((3, 149), (1, 20)), ((3, 155), (1, 27)), ((2, 78), (0, 28)), ((2, 81), (0, 29))] : List ((Nat × Nat) × (Nat × Nat))), zzokM e := List.forall_mem_cons.mpr ⟨zwM_16, List.forall_mem_cons.mpr ⟨zwM_17, List.forall_mem_cons.mpr ⟨zwM_18, List.forall_mem_cons.mpr ⟨zwM_19, List.forall_mem_cons.mpr ⟨zwM_20, List.forall_mem_cons.mpr ⟨zwM_21, List.forall_mem_cons.mpr ⟨zwM_22, List.forall_mem_cons.mpr ⟨zwM_23, List.forall_mem_cons.mpr ⟨zwM_24, List.forall_mem_cons.mpr ⟨zwM_25, List.forall_mem_cons.mpr ⟨zwM_26, List.forall_mem_cons.mpr ⟨zwM_27, List.forall_mem_cons.mpr ⟨zwM_28, List.forall_mem_cons.mpr ⟨zwM_29, List.forall_mem_cons.mpr ⟨zwM_30, List.forall_mem_cons.mpr ⟨zwM_31, fun _ h => absurd h List.not_mem_nil⟩⟩⟩⟩⟩⟩⟩⟩⟩⟩⟩⟩⟩⟩⟩⟩
theorem zwM_r2 : ∀ e ∈ ([((5, 62), (0, 30)), ((3, 159), (1, 31)), ((5, 66), (0, 32)), ((3, 162), (1, 33)), ((2, 84), (0, 34)), ((2, 96), (0, 35)), ((2, 99), (0, 36)), ((2, 105), (0, 17)), ((2, 108), (2, 37)), ((2, 102), (0, 38)), ((5, 70), (0, 39)), ((3, 165), (0, 40)), ((3, 198), (1, 41)), ((5, 74), (0, 42)), ((3, 169), (0, 43)), ((3, 172), (2, 44))] : List ((Nat × Nat) × (Nat × Nat))), zzokM e := List.forall_mem_cons.mpr ⟨zwM_32, List.forall_mem_cons.mpr ⟨zwM_33, List.forall_mem_cons.mpr ⟨zwM_34, List.forall_mem_cons.mpr ⟨zwM_35, List.forall_mem_cons.mpr ⟨zwM_36, List.forall_mem_cons.mpr ⟨zwM_37, List.forall_mem_cons.mpr ⟨zwM_38, List.forall_mem_cons.mpr ⟨zwM_39, List.forall_mem_cons.mpr ⟨zwM_40, List.forall_mem_cons.mpr ⟨zwM_41, List.forall_mem_cons.mpr ⟨zwM_42, List.forall_mem_cons.mpr ⟨zwM_43, List.forall_mem_cons.mpr ⟨zwM_44, List.forall_mem_cons.mpr ⟨zwM_45, List.forall_mem_cons.mpr ⟨zwM_46, List.forall_mem_cons.mpr ⟨zwM_47, fun _ h => absurd h List.not_mem_nil⟩⟩⟩⟩⟩⟩⟩⟩⟩⟩⟩⟩⟩⟩⟩⟩
theorem zwM_r3 : ∀ e ∈ ([((5, 79), (0, 45)), ((3, 177), (0, 46)), ((3, 240), (2, 47)), ((3, 246), (1, 48)), ((3, 181), (1, 49)), ((0, 38), (2, 47)), ((0, 44), (0, 50)), ((0, 48), (0, 51)), ((0, 52), (0, 52)), ((0, 62), (0, 53)), ((3, 185), (0, 54)), ((5, 83), (0, 55)), ((3, 188), (1, 56)), ((2, 88), (0, 57)), ((2, 73), (2, 44)), ((5, 87), (0, 58))] : List ((Nat × Nat) × (Nat × Nat))), zzokM e := List.forall_mem_cons.mpr ⟨zwM_48, List.forall_mem_cons.mpr ⟨zwM_49, List.forall_mem_cons.mpr ⟨zwM_50, List.forall_mem_cons.mpr ⟨zwM_51, List.forall_mem_cons.mpr ⟨zwM_52, List.forall_mem_cons.mpr ⟨zwM_53, List.forall_mem_cons.mpr ⟨zwM_54, List.forall_mem_cons.mpr ⟨zwM_55, List.forall_mem_cons.mpr ⟨zwM_56, List.forall_mem_cons.mpr ⟨zwM_57, List.forall_mem_cons.mpr ⟨zwM_58, List.forall_mem_cons.mpr ⟨zwM_59, List.forall_mem_cons.mpr ⟨zwM_60, List.forall_mem_cons.mpr ⟨zwM_61, List.forall_mem_cons.mpr ⟨zwM_62, List.forall_mem_cons.mpr ⟨zwM_63, fun _ h => absurd h List.not_mem_nil⟩⟩⟩⟩⟩⟩⟩⟩⟩⟩⟩⟩⟩⟩⟩⟩
theorem zwM_r4 : ∀ e ∈ ([((3, 191), (1, 59)), ((5, 92), (0, 60)), ((5, 96), (0, 61)), ((3, 194), (0, 62)), ((3, 261), (1, 63)), ((3, 264), (1, 64)), ((1, 35), (1, 20)), ((5, 100), (0, 65)), ((3, 202), (2, 66)), ((3, 205), (1, 67)), ((2, 69), (0, 19)), ((5, 104), (0, 68)), ((3, 208), (1, 69)), ((5, 108), (0, 70)), ((5, 112), (0, 71)), ((3, 214), (1, 72))] : List ((Nat × Nat) × (Nat × Nat))), zzokM e := List.forall_mem_cons.mpr ⟨zwM_64, List.forall_mem_cons.mpr ⟨zwM_65, List.forall_mem_cons.mpr ⟨zwM_66, List.forall_mem_cons.mpr ⟨zwM_67, List.forall_mem_cons.mpr ⟨zwM_68, List.forall_mem_cons.mpr ⟨zwM_69, List.forall_mem_cons.mpr ⟨zwM_70, List.forall_mem_cons.mpr ⟨zwM_71, List.forall_mem_cons.mpr ⟨zwM_72, List.forall_mem_cons.mpr ⟨zwM_73, List.forall_mem_cons.mpr ⟨zwM_74, List.forall_mem_cons.mpr ⟨zwM_75, List.forall_mem_cons.mpr ⟨zwM_76, List.forall_mem_cons.mpr ⟨zwM_77, List.forall_mem_cons.mpr ⟨zwM_78, List.forall_mem_cons.mpr ⟨zwM_79, fun _ h => absurd h List.not_mem_nil⟩⟩⟩⟩⟩⟩⟩⟩⟩⟩⟩⟩⟩⟩⟩⟩
theorem zwM_r5 : ∀ e ∈ ([((5, 116), (0, 73)), ((3, 224), (0, 74)), ((3, 268), (0, 15)), ((3, 228), (0, 75)), ((3, 231), (0, 71)), ((5, 17), (0, 76)), ((4, 52), (2, 77)), ((5, 22), (0, 78)), ((5, 26), (0, 79)), ((4, 59), (0, 80)), ((5, 30), (0, 81)), ((4, 88), (0, 82)), ((5, 35), (0, 83)), ((4, 97), (0, 84)), ((5, 39), (0, 85)), ((5, 44), (0, 86))] : List ((Nat × Nat) × (Nat × Nat))), zzokM e := List.forall_mem_cons.mpr ⟨zwM_80, List.forall_mem_cons.mpr ⟨zwM_81, List.forall_mem_cons.mpr ⟨zwM_82, List.forall_mem_cons.mpr ⟨zwM_83, List.forall_mem_cons.mpr ⟨zwM_84, List.forall_mem_cons.mpr ⟨zwM_85, List.forall_mem_cons.mpr ⟨zwM_86, List.forall_mem_cons.mpr ⟨zwM_87, List.forall_mem_cons.mpr ⟨zwM_88, List.forall_mem_cons.mpr ⟨zwM_89, List.forall_mem_cons.mpr ⟨zwM_90, List.forall_mem_cons.mpr ⟨zwM_91, List.forall_mem_cons.mpr ⟨zwM_92, List.forall_mem_cons.mpr ⟨zwM_93, List.forall_mem_cons.mpr ⟨zwM_94, List.forall_mem_cons.mpr ⟨zwM_95, fun _ h => absurd h List.not_mem_nil⟩⟩⟩⟩⟩⟩⟩⟩⟩⟩⟩⟩⟩⟩⟩⟩
theorem zwM_r6 : ∀ e ∈ ([((5, 48), (0, 87)), ((4, 91), (0, 88)), ((4, 148), (0, 89)), ((4, 139), (0, 90)), ((4, 123), (0, 91)), ((4, 120), (0, 92)), ((4, 116), (0, 93)), ((4, 142), (0, 94)), ((4, 132), (2, 95)), ((4, 145), (0, 96)), ((4, 136), (0, 97)), ((5, 52), (0, 98)), ((5, 57), (0, 99)), ((5, 61), (0, 100)), ((4, 151), (0, 101)), ((5, 65), (0, 102))] : List ((Nat × Nat) × (Nat × Nat))), zzokM e := List.forall_mem_cons.mpr ⟨zwM_96, List.forall_mem_cons.mpr ⟨zwM_97, List.forall_mem_cons.mpr ⟨zwM_98, List.forall_mem_cons.mpr ⟨zwM_99, List.forall_mem_cons.mpr ⟨zwM_100, List.forall_mem_cons.mpr ⟨zwM_101, List.forall_mem_cons.mpr ⟨zwM_102, List.forall_mem_cons.mpr ⟨zwM_103, List.forall_mem_cons.mpr ⟨zwM_104, List.forall_mem_cons.mpr ⟨zwM_105, List.forall_mem_cons.mpr ⟨zwM_106, List.forall_mem_cons.mpr ⟨zwM_107, List.forall_mem_cons.mpr ⟨zwM_108, List.forall_mem_cons.mpr ⟨zwM_109, List.forall_mem_cons.mpr ⟨zwM_110, List.forall_mem_cons.mpr ⟨zwM_111, fun _ h => absurd h List.not_mem_nil⟩⟩⟩⟩⟩⟩⟩⟩⟩⟩⟩⟩⟩⟩⟩⟩
theorem zwM_r7 : ∀ e ∈ ([((5, 69), (0, 103)), ((4, 154), (0, 104)), ((4, 126), (0, 105)), ((4, 129), (0, 106)), ((5, 73), (0, 107)), ((4, 157), (0, 108)), ((5, 78), (0, 109)), ((4, 169), (0, 110)), ((4, 161), (2, 111)), ((5, 82), (0, 112)), ((4, 197), (0, 113)), ((4, 182), (0, 114)), ((4, 185), (0, 115)), ((4, 173), (0, 116)), ((4, 189), (2, 117)), ((4, 200), (0, 118))] : List ((Nat × Nat) × (Nat × Nat))), zzokM e := List.forall_mem_cons.mpr ⟨zwM_112, List.forall_mem_cons.mpr ⟨zwM_113, List.forall_mem_cons.mpr ⟨zwM_114, List.forall_mem_cons.mpr ⟨zwM_115, List.forall_mem_cons.mpr ⟨zwM_116, List.forall_mem_cons.mpr ⟨zwM_117, List.forall_mem_cons.mpr ⟨zwM_118, List.forall_mem_cons.mpr ⟨zwM_119, List.forall_mem_cons.mpr ⟨zwM_120, List.forall_mem_cons.mpr ⟨zwM_121, List.forall_mem_cons.mpr ⟨zwM_122, List.forall_mem_cons.mpr ⟨zwM_123, List.forall_mem_cons.mpr ⟨zwM_124, List.forall_mem_cons.mpr ⟨zwM_125, List.forall_mem_cons.mpr ⟨zwM_126, List.forall_mem_cons.mpr ⟨zwM_127, fun _ h => absurd h List.not_mem_nil⟩⟩⟩⟩⟩⟩⟩⟩⟩⟩⟩⟩⟩⟩⟩⟩
theorem zwM_r8 : ∀ e ∈ ([((5, 86), (0, 119)), ((5, 91), (0, 120)), ((5, 95), (0, 121)), ((5, 99), (0, 122)), ((4, 209), (0, 123)), ((4, 205), (0, 124)), ((5, 103), (0, 125)), ((4, 226), (0, 126)), ((5, 107), (0, 127)), ((5, 111), (0, 128)), ((5, 115), (0, 129)), ((4, 250), (0, 130)), ((4, 247), (0, 131)), ((5, 120), (0, 132)), ((4, 259), (0, 133)), ((4, 265), (0, 134))] : List ((Nat × Nat) × (Nat × Nat))), zzokM e := List.forall_mem_cons.mpr ⟨zwM_128, List.forall_mem_cons.mpr ⟨zwM_129, List.forall_mem_cons.mpr ⟨zwM_130, List.forall_mem_cons.mpr ⟨zwM_131, List.forall_mem_cons.mpr ⟨zwM_132, List.forall_mem_cons.mpr ⟨zwM_133, List.forall_mem_cons.mpr ⟨zwM_134, List.forall_mem_cons.mpr ⟨zwM_135, List.forall_mem_cons.mpr ⟨zwM_136, List.forall_mem_cons.mpr ⟨zwM_137, List.forall_mem_cons.mpr ⟨zwM_138, List.forall_mem_cons.mpr ⟨zwM_139, List.forall_mem_cons.mpr ⟨zwM_140, List.forall_mem_cons.mpr ⟨zwM_141, List.forall_mem_cons.mpr ⟨zwM_142, List.forall_mem_cons.mpr ⟨zwM_143, fun _ h => absurd h List.not_mem_nil⟩⟩⟩⟩⟩⟩⟩⟩⟩⟩⟩⟩⟩⟩⟩⟩
set_option maxRecDepth 100000 in
theorem zwM_all : ∀ e ∈ zzmT, zzokM e := by
  have h : ∀ e ∈ ([((5, 13), (0, 0)), ((5, 18), (0, 1)), ((5, 23), (0, 2)), ((3, 69), (2, 3)), ((5, 27), (0, 4)), ((3, 73), (0, 2)), ((3, 77), (1, 5)), ((3, 83), (2, 6)), ((3, 90), (1, 7)), ((5, 31), (0, 8)), ((3, 93), (0, 9)), ((3, 96), (1, 10)), ((5, 36), (0, 11)), ((5, 40), (0, 12)), ((3, 102), (2, 13)), ((3, 108), (1, 14))] ++ ([((5, 45), (0, 15)), ((3, 112), (0, 16)), ((3, 124), (1, 17)), ((3, 127), (1, 18)), ((3, 133), (1, 19)), ((2, 65), (0, 20)), ((2, 61), (2, 21)), ((5, 49), (0, 22)), ((5, 53), (0, 23)), ((5, 58), (0, 24)), ((3, 142), (0, 25)), ((3, 146), (1, 26)), ((3, 149), (1, 20)), ((3, 155), (1, 27)), ((2, 78), (0, 28)), ((2, 81), (0, 29))] ++ ([((5, 62), (0, 30)), ((3, 159), (1, 31)), ((5, 66), (0, 32)), ((3, 162), (1, 33)), ((2, 84), (0, 34)), ((2, 96), (0, 35)), ((2, 99), (0, 36)), ((2, 105), (0, 17)), ((2, 108), (2, 37)), ((2, 102), (0, 38)), ((5, 70), (0, 39)), ((3, 165), (0, 40)), ((3, 198), (1, 41)), ((5, 74), (0, 42)), ((3, 169), (0, 43)), ((3, 172), (2, 44))] ++ ([((5, 79), (0, 45)), ((3, 177), (0, 46)), ((3, 240), (2, 47)), ((3, 246), (1, 48)), ((3, 181), (1, 49)), ((0, 38), (2, 47)), ((0, 44), (0, 50)), ((0, 48), (0, 51)), ((0, 52), (0, 52)), ((0, 62), (0, 53)), ((3, 185), (0, 54)), ((5, 83), (0, 55)), ((3, 188), (1, 56)), ((2, 88), (0, 57)), ((2, 73), (2, 44)), ((5, 87), (0, 58))] ++ ([((3, 191), (1, 59)), ((5, 92), (0, 60)), ((5, 96), (0, 61)), ((3, 194), (0, 62)), ((3, 261), (1, 63)), ((3, 264), (1, 64)), ((1, 35), (1, 20)), ((5, 100), (0, 65)), ((3, 202), (2, 66)), ((3, 205), (1, 67)), ((2, 69), (0, 19)), ((5, 104), (0, 68)), ((3, 208), (1, 69)), ((5, 108), (0, 70)), ((5, 112), (0, 71)), ((3, 214), (1, 72))] ++ ([((5, 116), (0, 73)), ((3, 224), (0, 74)), ((3, 268), (0, 15)), ((3, 228), (0, 75)), ((3, 231), (0, 71)), ((5, 17), (0, 76)), ((4, 52), (2, 77)), ((5, 22), (0, 78)), ((5, 26), (0, 79)), ((4, 59), (0, 80)), ((5, 30), (0, 81)), ((4, 88), (0, 82)), ((5, 35), (0, 83)), ((4, 97), (0, 84)), ((5, 39), (0, 85)), ((5, 44), (0, 86))] ++ ([((5, 48), (0, 87)), ((4, 91), (0, 88)), ((4, 148), (0, 89)), ((4, 139), (0, 90)), ((4, 123), (0, 91)), ((4, 120), (0, 92)), ((4, 116), (0, 93)), ((4, 142), (0, 94)), ((4, 132), (2, 95)), ((4, 145), (0, 96)), ((4, 136), (0, 97)), ((5, 52), (0, 98)), ((5, 57), (0, 99)), ((5, 61), (0, 100)), ((4, 151), (0, 101)), ((5, 65), (0, 102))] ++ ([((5, 69), (0, 103)), ((4, 154), (0, 104)), ((4, 126), (0, 105)), ((4, 129), (0, 106)), ((5, 73), (0, 107)), ((4, 157), (0, 108)), ((5, 78), (0, 109)), ((4, 169), (0, 110)), ((4, 161), (2, 111)), ((5, 82), (0, 112)), ((4, 197), (0, 113)), ((4, 182), (0, 114)), ((4, 185), (0, 115)), ((4, 173), (0, 116)), ((4, 189), (2, 117)), ((4, 200), (0, 118))] ++ ([((5, 86), (0, 119)), ((5, 91), (0, 120)), ((5, 95), (0, 121)), ((5, 99), (0, 122)), ((4, 209), (0, 123)), ((4, 205), (0, 124)), ((5, 103), (0, 125)), ((4, 226), (0, 126)), ((5, 107), (0, 127)), ((5, 111), (0, 128)), ((5, 115), (0, 129)), ((4, 250), (0, 130)), ((4, 247), (0, 131)), ((5, 120), (0, 132)), ((4, 259), (0, 133)), ((4, 265), (0, 134))])))))))) : List ((Nat × Nat) × (Nat × Nat))), zzokM e := List.forall_mem_append.mpr ⟨zwM_r0, List.forall_mem_append.mpr ⟨zwM_r1, List.forall_mem_append.mpr ⟨zwM_r2, List.forall_mem_append.mpr ⟨zwM_r3, List.forall_mem_append.mpr ⟨zwM_r4, List.forall_mem_append.mpr ⟨zwM_r5, List.forall_mem_append.mpr ⟨zwM_r6, List.forall_mem_append.mpr ⟨zwM_r7, zwM_r8⟩⟩⟩⟩⟩⟩⟩⟩
  exact fun e he => h e (by first | exact he | (rw [show ([((5, 13), (0, 0)), ((5, 18), (0, 1)), ((5, 23), (0, 2)), ((3, 69), (2, 3)), ((5, 27), (0, 4)), ((3, 73), (0, 2)), ((3, 77), (1, 5)), ((3, 83), (2, 6)), ((3, 90), (1, 7)), ((5, 31), (0, 8)), ((3, 93), (0, 9)), ((3, 96), (1, 10)), ((5, 36), (0, 11)), ((5, 40), (0, 12)), ((3, 102), (2, 13)), ((3, 108), (1, 14))] ++ ([((5, 45), (0, 15)), ((3, 112), (0, 16)), ((3, 124), (1, 17)), ((3, 127), (1, 18)), ((3, 133), (1, 19)), ((2, 65), (0, 20)), ((2, 61), (2, 21)), ((5, 49), (0, 22)), ((5, 53), (0, 23)), ((5, 58), (0, 24)), ((3, 142), (0, 25)), ((3, 146), (1, 26)), ((3, 149), (1, 20)), ((3, 155), (1, 27)), ((2, 78), (0, 28)), ((2, 81), (0, 29))] ++ ([((5, 62), (0, 30)), ((3, 159), (1, 31)), ((5, 66), (0, 32)), ((3, 162), (1, 33)), ((2, 84), (0, 34)), ((2, 96), (0, 35)), ((2, 99), (0, 36)), ((2, 105), (0, 17)), ((2, 108), (2, 37)), ((2, 102), (0, 38)), ((5, 70), (0, 39)), ((3, 165), (0, 40)), ((3, 198), (1, 41)), ((5, 74), (0, 42)), ((3, 169), (0, 43)), ((3, 172), (2, 44))] ++ ([((5, 79), (0, 45)), ((3, 177), (0, 46)), ((3, 240), (2, 47)), ((3, 246), (1, 48)), ((3, 181), (1, 49)), ((0, 38), (2, 47)), ((0, 44), (0, 50)), ((0, 48), (0, 51)), ((0, 52), (0, 52)), ((0, 62), (0, 53)), ((3, 185), (0, 54)), ((5, 83), (0, 55)), ((3, 188), (1, 56)), ((2, 88), (0, 57)), ((2, 73), (2, 44)), ((5, 87), (0, 58))] ++ ([((3, 191), (1, 59)), ((5, 92), (0, 60)), ((5, 96), (0, 61)), ((3, 194), (0, 62)), ((3, 261), (1, 63)), ((3, 264), (1, 64)), ((1, 35), (1, 20)), ((5, 100), (0, 65)), ((3, 202), (2, 66)), ((3, 205), (1, 67)), ((2, 69), (0, 19)), ((5, 104), (0, 68)), ((3, 208), (1, 69)), ((5, 108), (0, 70)), ((5, 112), (0, 71)), ((3, 214), (1, 72))] ++ ([((5, 116), (0, 73)), ((3, 224), (0, 74)), ((3, 268), (0, 15)), ((3, 228), (0, 75)), ((3, 231), (0, 71)), ((5, 17), (0, 76)), ((4, 52), (2, 77)), ((5, 22), (0, 78)), ((5, 26), (0, 79)), ((4, 59), (0, 80)), ((5, 30), (0, 81)), ((4, 88), (0, 82)), ((5, 35), (0, 83)), ((4, 97), (0, 84)), ((5, 39), (0, 85)), ((5, 44), (0, 86))] ++ ([((5, 48), (0, 87)), ((4, 91), (0, 88)), ((4, 148), (0, 89)), ((4, 139), (0, 90)), ((4, 123), (0, 91)), ((4, 120), (0, 92)), ((4, 116), (0, 93)), ((4, 142), (0, 94)), ((4, 132), (2, 95)), ((4, 145), (0, 96)), ((4, 136), (0, 97)), ((5, 52), (0, 98)), ((5, 57), (0, 99)), ((5, 61), (0, 100)), ((4, 151), (0, 101)), ((5, 65), (0, 102))] ++ ([((5, 69), (0, 103)), ((4, 154), (0, 104)), ((4, 126), (0, 105)), ((4, 129), (0, 106)), ((5, 73), (0, 107)), ((4, 157), (0, 108)), ((5, 78), (0, 109)), ((4, 169), (0, 110)), ((4, 161), (2, 111)), ((5, 82), (0, 112)), ((4, 197), (0, 113)), ((4, 182), (0, 114)), ((4, 185), (0, 115)), ((4, 173), (0, 116)), ((4, 189), (2, 117)), ((4, 200), (0, 118))] ++ ([((5, 86), (0, 119)), ((5, 91), (0, 120)), ((5, 95), (0, 121)), ((5, 99), (0, 122)), ((4, 209), (0, 123)), ((4, 205), (0, 124)), ((5, 103), (0, 125)), ((4, 226), (0, 126)), ((5, 107), (0, 127)), ((5, 111), (0, 128)), ((5, 115), (0, 129)), ((4, 250), (0, 130)), ((4, 247), (0, 131)), ((5, 120), (0, 132)), ((4, 259), (0, 133)), ((4, 265), (0, 134))])))))))) : List ((Nat × Nat) × (Nat × Nat))) = zzmT from rfl]; exact he))
set_option maxRecDepth 100000 in
theorem zzki_ok : zzkiT.all (fun e => zzin (.constant (zzR e.1.1) e.1.2 e.2)) = true := by decide +kernel
set_option maxRecDepth 100000 in
theorem zzkl_ok : zzklT.all (fun e => zzin (.constantLong (zzR e.1.1) e.1.2 e.2)) = true := by decide +kernel
set_option maxRecDepth 100000 in
theorem zzac_ok : [(2, 49), (0, 56)].all (fun e : Nat × Nat => zzin (.methodLink (zzR e.1) e.2 arraycopyName)) = true := by decide +kernel
theorem zzac_w : zzin (.native arraycopyName) = true ∧ zzin (.static arraycopyName) = true ∧ zzin (.initialized "java/lang/System") = true := by decide +kernel
set_option maxRecDepth 100000 in
theorem zzmn_ok : [(3, 63), (2, 91)].all (fun e : Nat × Nat => zzin (.methodLink (zzR e.1) e.2 Lib.Math.min.name)) = true := by decide +kernel
set_option maxRecDepth 100000 in
theorem zzmx_ok : [(3, 255), (1, 29)].all (fun e : Nat × Nat => zzin (.methodLink (zzR e.1) e.2 Lib.Math.max.name)) = true := by decide +kernel
theorem zzmm_w : zzin (.static Lib.Math.min.name) = true ∧ zzin (.static Lib.Math.max.name) = true ∧ zzin (.initialized "java/lang/Math") = true ∧ zzin (.code Lib.Math.min.name Lib.Math.min.code 2 (some .int)) = true ∧ zzin (.code Lib.Math.max.name Lib.Math.max.code 2 (some .int)) = true := by decide +kernel
theorem zzst_w : zzinN (.fieldLinkNest (zzR 2) 55 "IslandsWed" "CURRENT_SHARE" "[I" "IslandsWed") = true ∧ zzinN (.fieldLinkNest (zzR 2) 58 "IslandsWed" "WIND_SHARE" "[I" "IslandsWed") = true := by decide +kernel
set_option maxRecDepth 100000 in
theorem zzu_ok : ∀ ci, ci < 5 → (u_ws (zzR ci) (zzTT ci) (zzNN ci)).all zzin = true := by decide +kernel
theorem zzcl_at : ∀ ci, ci < 5 → vwCl[ci]? = some (zzR ci, zzTT ci, zzNN ci) := by
  intro ci h
  match ci, h with
  | 0, _ => rfl
  | 1, _ => rfl
  | 2, _ => rfl
  | 3, _ => rfl
  | 4, _ => rfl
theorem zzty_ok : ∀ ci, ci < 5 → ∀ k, k < zzNN ci → parseFieldDescriptor (zzTT ci k).2.2.1 = some (zzty ci k) := by
  intro ci h
  match ci, h with
  | 0, _ => exact tyX0_ok
  | 1, _ => exact tyX1_ok
  | 2, _ => exact tyX2_ok
  | 3, _ => exact tyX3_ok
  | 4, _ => exact tyX4_ok
theorem zznm_ok : ∀ ci, ci < 5 → ∀ a, a < zzNN ci → ∀ b, b < zzNN ci → a ≠ b → (zzTT ci a).2.1 ≠ (zzTT ci b).2.1 := by
  intro ci h
  match ci, h with
  | 0, _ => exact nmX0
  | 1, _ => exact nmX1
  | 2, _ => exact nmX2
  | 3, _ => exact nmX3
  | 4, _ => exact nmX4
theorem zzT0_good : ∀ w ∈ zzT0, ((w.onTables && w.keeps) = true ∨ ∃ ty, w = .arrayClass ty) := fun w h => good_of_word (List.mem_filter.mp h).2
theorem zzcd_ok (k : Nat) (hk : k < zzNM) : zzPC (zzm k) := zwC_all k (List.mem_range.mpr hk)
theorem zzmt_ok {o idx kd k : Nat} (h : zzmt o idx = some (kd, k)) : zzPM o idx kd k (zzm k) := zwM_all _ (zz_lookup h)
theorem zzgoodT {Ts : List Cond} (hT : ∀ w ∈ zzT0, w ∈ Ts) (k : Nat) (hk : k < zzNM) : GoodIn Ts (zzws k) := by
  have h := zzcd_ok k hk
  intro w hw
  rcases List.mem_cons.mp hw with rfl | hw
  · exact ⟨hT _ h.1, zzT0_good _ h.1⟩
  · exact ⟨hT _ hw, zzT0_good _ hw⟩
theorem zzu_in (ci : Nat) (h : ci < 5) : ∀ w ∈ u_ws (zzR ci) (zzTT ci) (zzNN ci), w ∈ zzT0 := fun w hw => zzin_mem (List.all_eq_true.mp (zzu_ok ci h) w hw)
theorem zzN0_kind : ∀ w ∈ zzN0, (∃ a i b n d h, w = .fieldLinkNest a i b n d h) ∨ ∃ a i x h, w = .methodLinkNest a i x h := by
  intro w hw
  have h := (List.mem_filter.mp hw).2
  cases w <;> first | exact Or.inl ⟨_, _, _, _, _, _, rfl⟩ | exact Or.inr ⟨_, _, _, _, rfl⟩ | exact absurd h (by simp [zzisN])
theorem zzf_ok {o idx ci sl : Nat} {ne : Bool} (h : zzf o idx = some (ci, sl, ne)) : ci < 5 ∧ sl < zzNN ci ∧ (ne = true → Cond.fieldLinkNest (zzR o) idx (zzTT ci sl).1 (zzTT ci sl).2.1 (zzTT ci sl).2.2.1 "IslandsWed" ∈ zzN0) ∧ (ne = false → Cond.fieldLink (zzR o) idx (zzTT ci sl).1 (zzTT ci sl).2.1 (zzTT ci sl).2.2.1 ∈ zzT0) := by
  have h1 := List.all_eq_true.mp zzfT_ok _ (zz_lookup h)
  simp only [zzchkF, Bool.and_eq_true, decide_eq_true_eq] at h1
  obtain ⟨⟨a, b⟩, c⟩ := h1
  refine ⟨a, b, fun e => ?_, fun e => ?_⟩
  · rw [if_pos e] at c; exact zzinN_mem c
  · rw [if_neg (by rw [e]; decide)] at c; exact zzin_mem c
end
section
/-! THE PURE MACHINE. A world gives an abstract address its cell: an array (tag 0: of int, 1: of boolean; its length; its contents) or an object (number of its class in vwCl; its fields). A set R of states (pc, locals, stack, world) that is closed under the rules below holds a state from which the machine, too, comes to its end. -/
abbrev zzE : Type := (Nat × Nat × (Nat → Int32)) ⊕ (Nat × List Value)
abbrev zzW : Type := Nat → Option zzE
abbrev zzL : Type := List (Nat × Value)
abbrev zzS : Type := Nat → zzL → List Value → zzW → Prop
abbrev zzQ : Type := List Value → zzW → Prop
abbrev zzT : Type := Nat → Option (Nat × (Nat → Int32))
abbrev zzK : Type := Nat → List Value → zzW → zzQ → Prop
def zzup (w : zzW) (a : Nat) (e : zzE) : zzW := fun k => if k = a then some e else w k
def zzget : zzL → Nat → Option Value
  | [], _ => none
  | q :: t, i => cond (Nat.beq q.1 i) (some q.2) (zzget t i)
def zzins (i : Nat) (v : Value) : zzL → zzL
  | [] => [(i, v)]
  | q :: t => cond (Nat.ble i q.1) ((i, v) :: q :: t) (q :: zzins i v t)
def zzdel (i : Nat) : zzL → zzL
  | [] => []
  | q :: t => cond (Nat.beq q.1 i || (Nat.beq (q.1 + 1) i && Nat.beq q.2.category 2)) (zzdel i t) (q :: zzdel i t)
def zzdel2 (i : Nat) : zzL → zzL
  | [] => []
  | q :: t => cond (Nat.beq q.1 i || (Nat.beq q.1 (i + 1) || (Nat.beq (q.1 + 1) i && Nat.beq q.2.category 2))) (zzdel2 i t) (q :: zzdel2 i t)
def zzput (ls : zzL) (i : Nat) (v : Value) : zzL := zzins i v (zzdel i ls)
def zzput2 (ls : zzL) (i : Nat) (v : Value) : zzL := zzins i v (zzdel2 i ls)
def zzSA : Nat := 1000
def zzSB : Nat := 1001
def zzgs (o idx : Nat) : Option Nat := if o = 2 ∧ idx = 55 then some zzSA else if o = 2 ∧ idx = 58 then some zzSB else none

def zr_iconst (zs : zzT) (CL : zzK) (cc : ByteArray) (o nL : Nat) (rt : Option FieldType) (Q : zzQ) (R : zzS) : Prop := ∀ (pc : Nat) (ls : zzL) (st : List Value) (w : zzW) (n : Int) (v : Int32), decode cc pc = .ok (.iconst n, 1) → Int32.ofInt n = v → R (pc + 1) ls (.int v :: st) (w) → R pc ls st w
def zr_bipush (zs : zzT) (CL : zzK) (cc : ByteArray) (o nL : Nat) (rt : Option FieldType) (Q : zzQ) (R : zzS) : Prop := ∀ (pc : Nat) (ls : zzL) (st : List Value) (w : zzW) (n : Int) (v : Int32), decode cc pc = .ok (.bipush n, 2) → (Int8.ofInt n).toInt32 = v → R (pc + 2) ls (.int v :: st) (w) → R pc ls st w
def zr_lconst (zs : zzT) (CL : zzK) (cc : ByteArray) (o nL : Nat) (rt : Option FieldType) (Q : zzQ) (R : zzS) : Prop := ∀ (pc : Nat) (ls : zzL) (st : List Value) (w : zzW) (n : Fin 2) (v : Int64), decode cc pc = .ok (.lconst n, 1) → Int64.ofNat (n : Nat) = v → R (pc + 1) ls (.long v :: st) (w) → R pc ls st w
def zr_ldc (zs : zzT) (CL : zzK) (cc : ByteArray) (o nL : Nat) (rt : Option FieldType) (Q : zzQ) (R : zzS) : Prop := ∀ (pc : Nat) (ls : zzL) (st : List Value) (w : zzW) (idx : Nat) (v : Int32), decode cc pc = .ok (.ldc idx, 2) → zzki o idx = some v → R (pc + 2) ls (.int v :: st) (w) → R pc ls st w
def zr_ldcw (zs : zzT) (CL : zzK) (cc : ByteArray) (o nL : Nat) (rt : Option FieldType) (Q : zzQ) (R : zzS) : Prop := ∀ (pc : Nat) (ls : zzL) (st : List Value) (w : zzW) (idx : Nat) (v : Int32), decode cc pc = .ok (.ldc_w idx, 3) → zzki o idx = some v → R (pc + 3) ls (.int v :: st) (w) → R pc ls st w
def zr_ldc2 (zs : zzT) (CL : zzK) (cc : ByteArray) (o nL : Nat) (rt : Option FieldType) (Q : zzQ) (R : zzS) : Prop := ∀ (pc : Nat) (ls : zzL) (st : List Value) (w : zzW) (idx : Nat) (v : Int64), decode cc pc = .ok (.ldc2_w idx, 3) → zzkl o idx = some v → R (pc + 3) ls (.long v :: st) (w) → R pc ls st w
def zr_iload_n (zs : zzT) (CL : zzK) (cc : ByteArray) (o nL : Nat) (rt : Option FieldType) (Q : zzQ) (R : zzS) : Prop := ∀ (pc : Nat) (ls : zzL) (st : List Value) (w : zzW) (j : Fin 4) (i : Nat) (x : Int32), decode cc pc = .ok (.iload_n j, 1) → (j : Nat) = i → zzget ls i = some (.int x) → R (pc + 1) ls (.int x :: st) (w) → R pc ls st w
def zr_iload (zs : zzT) (CL : zzK) (cc : ByteArray) (o nL : Nat) (rt : Option FieldType) (Q : zzQ) (R : zzS) : Prop := ∀ (pc : Nat) (ls : zzL) (st : List Value) (w : zzW) (i : Nat) (x : Int32), decode cc pc = .ok (.iload i, 2) → zzget ls i = some (.int x) → R (pc + 2) ls (.int x :: st) (w) → R pc ls st w
def zr_lload_n (zs : zzT) (CL : zzK) (cc : ByteArray) (o nL : Nat) (rt : Option FieldType) (Q : zzQ) (R : zzS) : Prop := ∀ (pc : Nat) (ls : zzL) (st : List Value) (w : zzW) (j : Fin 4) (i : Nat) (x : Int64), decode cc pc = .ok (.lload_n j, 1) → (j : Nat) = i → zzget ls i = some (.long x) → R (pc + 1) ls (.long x :: st) (w) → R pc ls st w
def zr_lload (zs : zzT) (CL : zzK) (cc : ByteArray) (o nL : Nat) (rt : Option FieldType) (Q : zzQ) (R : zzS) : Prop := ∀ (pc : Nat) (ls : zzL) (st : List Value) (w : zzW) (i : Nat) (x : Int64), decode cc pc = .ok (.lload i, 2) → zzget ls i = some (.long x) → R (pc + 2) ls (.long x :: st) (w) → R pc ls st w
def zr_aload_n (zs : zzT) (CL : zzK) (cc : ByteArray) (o nL : Nat) (rt : Option FieldType) (Q : zzQ) (R : zzS) : Prop := ∀ (pc : Nat) (ls : zzL) (st : List Value) (w : zzW) (j : Fin 4) (i : Nat) (x : Nat), decode cc pc = .ok (.aload_n j, 1) → (j : Nat) = i → zzget ls i = some (.ref x) → R (pc + 1) ls (.ref x :: st) (w) → R pc ls st w
def zr_aload (zs : zzT) (CL : zzK) (cc : ByteArray) (o nL : Nat) (rt : Option FieldType) (Q : zzQ) (R : zzS) : Prop := ∀ (pc : Nat) (ls : zzL) (st : List Value) (w : zzW) (i : Nat) (x : Nat), decode cc pc = .ok (.aload i, 2) → zzget ls i = some (.ref x) → R (pc + 2) ls (.ref x :: st) (w) → R pc ls st w
def zr_istore_n (zs : zzT) (CL : zzK) (cc : ByteArray) (o nL : Nat) (rt : Option FieldType) (Q : zzQ) (R : zzS) : Prop := ∀ (pc : Nat) (ls : zzL) (st : List Value) (w : zzW) (j : Fin 4) (i : Nat) (x : Int32) (ls1 : zzL), decode cc pc = .ok (.istore_n j, 1) → (j : Nat) = i → i < nL → zzput ls i (.int x) = ls1 → R (pc + 1) ls1 (st) (w) → R pc ls (.int x :: st) w
def zr_istore (zs : zzT) (CL : zzK) (cc : ByteArray) (o nL : Nat) (rt : Option FieldType) (Q : zzQ) (R : zzS) : Prop := ∀ (pc : Nat) (ls : zzL) (st : List Value) (w : zzW) (i : Nat) (x : Int32) (ls1 : zzL), decode cc pc = .ok (.istore i, 2) → i < nL → zzput ls i (.int x) = ls1 → R (pc + 2) ls1 (st) (w) → R pc ls (.int x :: st) w
def zr_lstore_n (zs : zzT) (CL : zzK) (cc : ByteArray) (o nL : Nat) (rt : Option FieldType) (Q : zzQ) (R : zzS) : Prop := ∀ (pc : Nat) (ls : zzL) (st : List Value) (w : zzW) (j : Fin 4) (i : Nat) (x : Int64) (ls1 : zzL), decode cc pc = .ok (.lstore_n j, 1) → (j : Nat) = i → i + 1 < nL → zzput2 ls i (.long x) = ls1 → R (pc + 1) ls1 (st) (w) → R pc ls (.long x :: st) w
def zr_lstore (zs : zzT) (CL : zzK) (cc : ByteArray) (o nL : Nat) (rt : Option FieldType) (Q : zzQ) (R : zzS) : Prop := ∀ (pc : Nat) (ls : zzL) (st : List Value) (w : zzW) (i : Nat) (x : Int64) (ls1 : zzL), decode cc pc = .ok (.lstore i, 2) → i + 1 < nL → zzput2 ls i (.long x) = ls1 → R (pc + 2) ls1 (st) (w) → R pc ls (.long x :: st) w
def zr_astore_n (zs : zzT) (CL : zzK) (cc : ByteArray) (o nL : Nat) (rt : Option FieldType) (Q : zzQ) (R : zzS) : Prop := ∀ (pc : Nat) (ls : zzL) (st : List Value) (w : zzW) (j : Fin 4) (i : Nat) (x : Nat) (ls1 : zzL), decode cc pc = .ok (.astore_n j, 1) → (j : Nat) = i → i < nL → zzput ls i (.ref x) = ls1 → R (pc + 1) ls1 (st) (w) → R pc ls (.ref x :: st) w
def zr_astore (zs : zzT) (CL : zzK) (cc : ByteArray) (o nL : Nat) (rt : Option FieldType) (Q : zzQ) (R : zzS) : Prop := ∀ (pc : Nat) (ls : zzL) (st : List Value) (w : zzW) (i : Nat) (x : Nat) (ls1 : zzL), decode cc pc = .ok (.astore i, 2) → i < nL → zzput ls i (.ref x) = ls1 → R (pc + 2) ls1 (st) (w) → R pc ls (.ref x :: st) w
def zr_iinc (zs : zzT) (CL : zzK) (cc : ByteArray) (o nL : Nat) (rt : Option FieldType) (Q : zzQ) (R : zzS) : Prop := ∀ (pc : Nat) (ls : zzL) (st : List Value) (w : zzW) (i : Nat) (n : Int) (x v : Int32) (ls1 : zzL), decode cc pc = .ok (.iinc i n, 3) → zzget ls i = some (.int x) → x + Int32.ofInt n = v → i < nL → zzput ls i (.int v) = ls1 → R (pc + 3) ls1 (st) (w) → R pc ls st w
def zr_iadd (zs : zzT) (CL : zzK) (cc : ByteArray) (o nL : Nat) (rt : Option FieldType) (Q : zzQ) (R : zzS) : Prop := ∀ (pc : Nat) (ls : zzL) (st : List Value) (w : zzW) (x y v : Int32), decode cc pc = .ok (.iadd, 1) → x + y = v → R (pc + 1) ls (.int v :: st) (w) → R pc ls (.int y :: .int x :: st) w
def zr_isub (zs : zzT) (CL : zzK) (cc : ByteArray) (o nL : Nat) (rt : Option FieldType) (Q : zzQ) (R : zzS) : Prop := ∀ (pc : Nat) (ls : zzL) (st : List Value) (w : zzW) (x y v : Int32), decode cc pc = .ok (.isub, 1) → x - y = v → R (pc + 1) ls (.int v :: st) (w) → R pc ls (.int y :: .int x :: st) w
def zr_imul (zs : zzT) (CL : zzK) (cc : ByteArray) (o nL : Nat) (rt : Option FieldType) (Q : zzQ) (R : zzS) : Prop := ∀ (pc : Nat) (ls : zzL) (st : List Value) (w : zzW) (x y v : Int32), decode cc pc = .ok (.imul, 1) → x * y = v → R (pc + 1) ls (.int v :: st) (w) → R pc ls (.int y :: .int x :: st) w
def zr_iand (zs : zzT) (CL : zzK) (cc : ByteArray) (o nL : Nat) (rt : Option FieldType) (Q : zzQ) (R : zzS) : Prop := ∀ (pc : Nat) (ls : zzL) (st : List Value) (w : zzW) (x y v : Int32), decode cc pc = .ok (.iand, 1) → x &&& y = v → R (pc + 1) ls (.int v :: st) (w) → R pc ls (.int y :: .int x :: st) w
def zr_ior (zs : zzT) (CL : zzK) (cc : ByteArray) (o nL : Nat) (rt : Option FieldType) (Q : zzQ) (R : zzS) : Prop := ∀ (pc : Nat) (ls : zzL) (st : List Value) (w : zzW) (x y v : Int32), decode cc pc = .ok (.ior, 1) → x ||| y = v → R (pc + 1) ls (.int v :: st) (w) → R pc ls (.int y :: .int x :: st) w
def zr_ixor (zs : zzT) (CL : zzK) (cc : ByteArray) (o nL : Nat) (rt : Option FieldType) (Q : zzQ) (R : zzS) : Prop := ∀ (pc : Nat) (ls : zzL) (st : List Value) (w : zzW) (x y v : Int32), decode cc pc = .ok (.ixor, 1) → x ^^^ y = v → R (pc + 1) ls (.int v :: st) (w) → R pc ls (.int y :: .int x :: st) w
def zr_ishl (zs : zzT) (CL : zzK) (cc : ByteArray) (o nL : Nat) (rt : Option FieldType) (Q : zzQ) (R : zzS) : Prop := ∀ (pc : Nat) (ls : zzL) (st : List Value) (w : zzW) (x y v : Int32), decode cc pc = .ok (.ishl, 1) → x <<< (y &&& 31) = v → R (pc + 1) ls (.int v :: st) (w) → R pc ls (.int y :: .int x :: st) w
def zr_ishr (zs : zzT) (CL : zzK) (cc : ByteArray) (o nL : Nat) (rt : Option FieldType) (Q : zzQ) (R : zzS) : Prop := ∀ (pc : Nat) (ls : zzL) (st : List Value) (w : zzW) (x y v : Int32), decode cc pc = .ok (.ishr, 1) → x >>> (y &&& 31) = v → R (pc + 1) ls (.int v :: st) (w) → R pc ls (.int y :: .int x :: st) w
def zr_iushr (zs : zzT) (CL : zzK) (cc : ByteArray) (o nL : Nat) (rt : Option FieldType) (Q : zzQ) (R : zzS) : Prop := ∀ (pc : Nat) (ls : zzL) (st : List Value) (w : zzW) (x y v : Int32), decode cc pc = .ok (.iushr, 1) → (x.toUInt32 >>> (y.toUInt32 &&& Int32.toUInt32 31)).toInt32 = v → R (pc + 1) ls (.int v :: st) (w) → R pc ls (.int y :: .int x :: st) w
def zr_idiv (zs : zzT) (CL : zzK) (cc : ByteArray) (o nL : Nat) (rt : Option FieldType) (Q : zzQ) (R : zzS) : Prop := ∀ (pc : Nat) (ls : zzL) (st : List Value) (w : zzW) (x y v : Int32), decode cc pc = .ok (.idiv, 1) → ¬ y = 0 → x / y = v → R (pc + 1) ls (.int v :: st) (w) → R pc ls (.int y :: .int x :: st) w
def zr_irem (zs : zzT) (CL : zzK) (cc : ByteArray) (o nL : Nat) (rt : Option FieldType) (Q : zzQ) (R : zzS) : Prop := ∀ (pc : Nat) (ls : zzL) (st : List Value) (w : zzW) (x y v : Int32), decode cc pc = .ok (.irem, 1) → ¬ y = 0 → x - x / y * y = v → R (pc + 1) ls (.int v :: st) (w) → R pc ls (.int y :: .int x :: st) w
def zr_ineg (zs : zzT) (CL : zzK) (cc : ByteArray) (o nL : Nat) (rt : Option FieldType) (Q : zzQ) (R : zzS) : Prop := ∀ (pc : Nat) (ls : zzL) (st : List Value) (w : zzW) (x v : Int32), decode cc pc = .ok (.ineg, 1) → -x = v → R (pc + 1) ls (.int v :: st) (w) → R pc ls (.int x :: st) w
def zr_ladd (zs : zzT) (CL : zzK) (cc : ByteArray) (o nL : Nat) (rt : Option FieldType) (Q : zzQ) (R : zzS) : Prop := ∀ (pc : Nat) (ls : zzL) (st : List Value) (w : zzW) (x y v : Int64), decode cc pc = .ok (.ladd, 1) → x + y = v → R (pc + 1) ls (.long v :: st) (w) → R pc ls (.long y :: .long x :: st) w
def zr_lmul (zs : zzT) (CL : zzK) (cc : ByteArray) (o nL : Nat) (rt : Option FieldType) (Q : zzQ) (R : zzS) : Prop := ∀ (pc : Nat) (ls : zzL) (st : List Value) (w : zzW) (x y v : Int64), decode cc pc = .ok (.lmul, 1) → x * y = v → R (pc + 1) ls (.long v :: st) (w) → R pc ls (.long y :: .long x :: st) w
def zr_land (zs : zzT) (CL : zzK) (cc : ByteArray) (o nL : Nat) (rt : Option FieldType) (Q : zzQ) (R : zzS) : Prop := ∀ (pc : Nat) (ls : zzL) (st : List Value) (w : zzW) (x y v : Int64), decode cc pc = .ok (.land, 1) → x &&& y = v → R (pc + 1) ls (.long v :: st) (w) → R pc ls (.long y :: .long x :: st) w
def zr_lcmp (zs : zzT) (CL : zzK) (cc : ByteArray) (o nL : Nat) (rt : Option FieldType) (Q : zzQ) (R : zzS) : Prop := ∀ (pc : Nat) (ls : zzL) (st : List Value) (w : zzW) (x y : Int64) (v : Int32), decode cc pc = .ok (.lcmp, 1) → lg_cmp x y = v → R (pc + 1) ls (.int v :: st) (w) → R pc ls (.long y :: .long x :: st) w
def zr_i2l (zs : zzT) (CL : zzK) (cc : ByteArray) (o nL : Nat) (rt : Option FieldType) (Q : zzQ) (R : zzS) : Prop := ∀ (pc : Nat) (ls : zzL) (st : List Value) (w : zzW) (x : Int32) (v : Int64), decode cc pc = .ok (.i2l, 1) → x.toInt64 = v → R (pc + 1) ls (.long v :: st) (w) → R pc ls (.int x :: st) w
def zr_l2i (zs : zzT) (CL : zzK) (cc : ByteArray) (o nL : Nat) (rt : Option FieldType) (Q : zzQ) (R : zzS) : Prop := ∀ (pc : Nat) (ls : zzL) (st : List Value) (w : zzW) (x : Int64) (v : Int32), decode cc pc = .ok (.l2i, 1) → x.toInt32 = v → R (pc + 1) ls (.int v :: st) (w) → R pc ls (.long x :: st) w
def zr_dup (zs : zzT) (CL : zzK) (cc : ByteArray) (o nL : Nat) (rt : Option FieldType) (Q : zzQ) (R : zzS) : Prop := ∀ (pc : Nat) (ls : zzL) (st : List Value) (w : zzW) (u : Value), decode cc pc = .ok (.dup, 1) → u.category = 1 → R (pc + 1) ls (u :: u :: st) (w) → R pc ls (u :: st) w
def zr_pop (zs : zzT) (CL : zzK) (cc : ByteArray) (o nL : Nat) (rt : Option FieldType) (Q : zzQ) (R : zzS) : Prop := ∀ (pc : Nat) (ls : zzL) (st : List Value) (w : zzW) (u : Value), decode cc pc = .ok (.pop, 1) → u.category = 1 → R (pc + 1) ls (st) (w) → R pc ls (u :: st) w
def zr_dup2 (zs : zzT) (CL : zzK) (cc : ByteArray) (o nL : Nat) (rt : Option FieldType) (Q : zzQ) (R : zzS) : Prop := ∀ (pc : Nat) (ls : zzL) (st : List Value) (w : zzW) (u v : Value), decode cc pc = .ok (.dup2, 1) → u.category = 1 → v.category = 1 → R (pc + 1) ls (u :: v :: u :: v :: st) (w) → R pc ls (u :: v :: st) w
def zr_if_eq (zs : zzT) (CL : zzK) (cc : ByteArray) (o nL : Nat) (rt : Option FieldType) (Q : zzQ) (R : zzS) : Prop := ∀ (pc : Nat) (ls : zzL) (st : List Value) (w : zzW) (x : Int32) (off : Int) (tgt : Nat), decode cc pc = .ok (.ifCond .eq off, 3) → (pc : Int) + off = (tgt : Int) → (x = 0 → R tgt ls st w) → (¬ x = 0 → R (pc + 3) ls st w) → R pc ls (.int x :: st) w
def zr_if_ne (zs : zzT) (CL : zzK) (cc : ByteArray) (o nL : Nat) (rt : Option FieldType) (Q : zzQ) (R : zzS) : Prop := ∀ (pc : Nat) (ls : zzL) (st : List Value) (w : zzW) (x : Int32) (off : Int) (tgt : Nat), decode cc pc = .ok (.ifCond .ne off, 3) → (pc : Int) + off = (tgt : Int) → (¬ x = 0 → R tgt ls st w) → (x = 0 → R (pc + 3) ls st w) → R pc ls (.int x :: st) w
def zr_if_lt (zs : zzT) (CL : zzK) (cc : ByteArray) (o nL : Nat) (rt : Option FieldType) (Q : zzQ) (R : zzS) : Prop := ∀ (pc : Nat) (ls : zzL) (st : List Value) (w : zzW) (x : Int32) (off : Int) (tgt : Nat), decode cc pc = .ok (.ifCond .lt off, 3) → (pc : Int) + off = (tgt : Int) → (x < 0 → R tgt ls st w) → (¬ x < 0 → R (pc + 3) ls st w) → R pc ls (.int x :: st) w
def zr_if_ge (zs : zzT) (CL : zzK) (cc : ByteArray) (o nL : Nat) (rt : Option FieldType) (Q : zzQ) (R : zzS) : Prop := ∀ (pc : Nat) (ls : zzL) (st : List Value) (w : zzW) (x : Int32) (off : Int) (tgt : Nat), decode cc pc = .ok (.ifCond .ge off, 3) → (pc : Int) + off = (tgt : Int) → (0 ≤ x → R tgt ls st w) → (¬ 0 ≤ x → R (pc + 3) ls st w) → R pc ls (.int x :: st) w
def zr_if_gt (zs : zzT) (CL : zzK) (cc : ByteArray) (o nL : Nat) (rt : Option FieldType) (Q : zzQ) (R : zzS) : Prop := ∀ (pc : Nat) (ls : zzL) (st : List Value) (w : zzW) (x : Int32) (off : Int) (tgt : Nat), decode cc pc = .ok (.ifCond .gt off, 3) → (pc : Int) + off = (tgt : Int) → (0 < x → R tgt ls st w) → (¬ 0 < x → R (pc + 3) ls st w) → R pc ls (.int x :: st) w
def zr_if_le (zs : zzT) (CL : zzK) (cc : ByteArray) (o nL : Nat) (rt : Option FieldType) (Q : zzQ) (R : zzS) : Prop := ∀ (pc : Nat) (ls : zzL) (st : List Value) (w : zzW) (x : Int32) (off : Int) (tgt : Nat), decode cc pc = .ok (.ifCond .le off, 3) → (pc : Int) + off = (tgt : Int) → (x ≤ 0 → R tgt ls st w) → (¬ x ≤ 0 → R (pc + 3) ls st w) → R pc ls (.int x :: st) w
def zr_icmp_eq (zs : zzT) (CL : zzK) (cc : ByteArray) (o nL : Nat) (rt : Option FieldType) (Q : zzQ) (R : zzS) : Prop := ∀ (pc : Nat) (ls : zzL) (st : List Value) (w : zzW) (x y : Int32) (off : Int) (tgt : Nat), decode cc pc = .ok (.if_icmp .eq off, 3) → (pc : Int) + off = (tgt : Int) → (x = y → R tgt ls st w) → (¬ x = y → R (pc + 3) ls st w) → R pc ls (.int y :: .int x :: st) w
def zr_icmp_ne (zs : zzT) (CL : zzK) (cc : ByteArray) (o nL : Nat) (rt : Option FieldType) (Q : zzQ) (R : zzS) : Prop := ∀ (pc : Nat) (ls : zzL) (st : List Value) (w : zzW) (x y : Int32) (off : Int) (tgt : Nat), decode cc pc = .ok (.if_icmp .ne off, 3) → (pc : Int) + off = (tgt : Int) → (¬ x = y → R tgt ls st w) → (x = y → R (pc + 3) ls st w) → R pc ls (.int y :: .int x :: st) w
def zr_icmp_lt (zs : zzT) (CL : zzK) (cc : ByteArray) (o nL : Nat) (rt : Option FieldType) (Q : zzQ) (R : zzS) : Prop := ∀ (pc : Nat) (ls : zzL) (st : List Value) (w : zzW) (x y : Int32) (off : Int) (tgt : Nat), decode cc pc = .ok (.if_icmp .lt off, 3) → (pc : Int) + off = (tgt : Int) → (x < y → R tgt ls st w) → (¬ x < y → R (pc + 3) ls st w) → R pc ls (.int y :: .int x :: st) w
def zr_icmp_ge (zs : zzT) (CL : zzK) (cc : ByteArray) (o nL : Nat) (rt : Option FieldType) (Q : zzQ) (R : zzS) : Prop := ∀ (pc : Nat) (ls : zzL) (st : List Value) (w : zzW) (x y : Int32) (off : Int) (tgt : Nat), decode cc pc = .ok (.if_icmp .ge off, 3) → (pc : Int) + off = (tgt : Int) → (y ≤ x → R tgt ls st w) → (¬ y ≤ x → R (pc + 3) ls st w) → R pc ls (.int y :: .int x :: st) w
def zr_icmp_gt (zs : zzT) (CL : zzK) (cc : ByteArray) (o nL : Nat) (rt : Option FieldType) (Q : zzQ) (R : zzS) : Prop := ∀ (pc : Nat) (ls : zzL) (st : List Value) (w : zzW) (x y : Int32) (off : Int) (tgt : Nat), decode cc pc = .ok (.if_icmp .gt off, 3) → (pc : Int) + off = (tgt : Int) → (y < x → R tgt ls st w) → (¬ y < x → R (pc + 3) ls st w) → R pc ls (.int y :: .int x :: st) w
def zr_icmp_le (zs : zzT) (CL : zzK) (cc : ByteArray) (o nL : Nat) (rt : Option FieldType) (Q : zzQ) (R : zzS) : Prop := ∀ (pc : Nat) (ls : zzL) (st : List Value) (w : zzW) (x y : Int32) (off : Int) (tgt : Nat), decode cc pc = .ok (.if_icmp .le off, 3) → (pc : Int) + off = (tgt : Int) → (x ≤ y → R tgt ls st w) → (¬ x ≤ y → R (pc + 3) ls st w) → R pc ls (.int y :: .int x :: st) w
def zr_goto (zs : zzT) (CL : zzK) (cc : ByteArray) (o nL : Nat) (rt : Option FieldType) (Q : zzQ) (R : zzS) : Prop := ∀ (pc : Nat) (ls : zzL) (st : List Value) (w : zzW) (off : Int) (tgt : Nat), decode cc pc = .ok (.goto off, 3) → (pc : Int) + off = (tgt : Int) → R tgt ls st w → R pc ls st w
def zr_tabIn (zs : zzT) (CL : zzK) (cc : ByteArray) (o nL : Nat) (rt : Option FieldType) (Q : zzQ) (R : zzS) : Prop := ∀ (pc : Nat) (ls : zzL) (st : List Value) (w : zzW) (dflt lo hi : Int) (offs : Array Int) (len : Nat) (x : Int32) (off : Int) (tgt : Nat), decode cc pc = .ok (.tableswitch dflt lo hi offs, len) → ¬ x.toInt < lo → ¬ hi < x.toInt → offs[(x.toInt - lo).toNat]? = some off → (pc : Int) + off = (tgt : Int) → R tgt ls st w → R pc ls (.int x :: st) w
def zr_tabOut (zs : zzT) (CL : zzK) (cc : ByteArray) (o nL : Nat) (rt : Option FieldType) (Q : zzQ) (R : zzS) : Prop := ∀ (pc : Nat) (ls : zzL) (st : List Value) (w : zzW) (dflt lo hi : Int) (offs : Array Int) (len : Nat) (x : Int32) (tgt : Nat), decode cc pc = .ok (.tableswitch dflt lo hi offs, len) → (x.toInt < lo ∨ hi < x.toInt) → (pc : Int) + dflt = (tgt : Int) → R tgt ls st w → R pc ls (.int x :: st) w
def zr_get (zs : zzT) (CL : zzK) (cc : ByteArray) (o nL : Nat) (rt : Option FieldType) (Q : zzQ) (R : zzS) : Prop := ∀ (pc : Nat) (ls : zzL) (st : List Value) (w : zzW) (idx ci sl : Nat) (ne : Bool) (a : Nat) (fs : List Value) (v : Value), decode cc pc = .ok (.getfield idx, 3) → zzf o idx = some (ci, sl, ne) → w a = some (.inr (ci, fs)) → fs[sl]? = some v → R (pc + 3) ls (v :: st) (w) → R pc ls (.ref a :: st) w
def zr_puti (zs : zzT) (CL : zzK) (cc : ByteArray) (o nL : Nat) (rt : Option FieldType) (Q : zzQ) (R : zzS) : Prop := ∀ (pc : Nat) (ls : zzL) (st : List Value) (w : zzW) (idx ci sl : Nat) (ne : Bool) (a : Nat) (fs : List Value) (x : Int32), decode cc pc = .ok (.putfield idx, 3) → zzf o idx = some (ci, sl, ne) → w a = some (.inr (ci, fs)) → sl < fs.length → (zzTT ci sl).2.2.2 = false → narrow (zzty ci sl) (.int x) = .int x → fits (zzty ci sl) (.int x) = true → R (pc + 3) ls (st) (zzup w a (.inr (ci, fs.set sl (.int x)))) → R pc ls (.int x :: .ref a :: st) w
def zr_putl (zs : zzT) (CL : zzK) (cc : ByteArray) (o nL : Nat) (rt : Option FieldType) (Q : zzQ) (R : zzS) : Prop := ∀ (pc : Nat) (ls : zzL) (st : List Value) (w : zzW) (idx ci sl : Nat) (ne : Bool) (a : Nat) (fs : List Value) (x : Int64), decode cc pc = .ok (.putfield idx, 3) → zzf o idx = some (ci, sl, ne) → w a = some (.inr (ci, fs)) → sl < fs.length → (zzTT ci sl).2.2.2 = false → narrow (zzty ci sl) (.long x) = .long x → fits (zzty ci sl) (.long x) = true → R (pc + 3) ls (st) (zzup w a (.inr (ci, fs.set sl (.long x)))) → R pc ls (.long x :: .ref a :: st) w
def zr_gets (zs : zzT) (CL : zzK) (cc : ByteArray) (o nL : Nat) (rt : Option FieldType) (Q : zzQ) (R : zzS) : Prop := ∀ (pc : Nat) (ls : zzL) (st : List Value) (w : zzW) (idx t : Nat), decode cc pc = .ok (.getstatic idx, 3) → zzgs o idx = some t → R (pc + 3) ls (.ref t :: st) (w) → R pc ls st w
def zr_iald (zs : zzT) (CL : zzK) (cc : ByteArray) (o nL : Nat) (rt : Option FieldType) (Q : zzQ) (R : zzS) : Prop := ∀ (pc : Nat) (ls : zzL) (st : List Value) (w : zzW) (a n : Nat) (f : Nat → Int32) (i v : Int32), decode cc pc = .ok (.iaload, 1) → w a = some (.inl (0, n, f)) → vp_in i n → f i.toNatClampNeg = v → R (pc + 1) ls (.int v :: st) (w) → R pc ls (.int i :: .ref a :: st) w
def zr_tald (zs : zzT) (CL : zzK) (cc : ByteArray) (o nL : Nat) (rt : Option FieldType) (Q : zzQ) (R : zzS) : Prop := ∀ (pc : Nat) (ls : zzL) (st : List Value) (w : zzW) (a n : Nat) (f : Nat → Int32) (i v : Int32), decode cc pc = .ok (.iaload, 1) → zs a = some (n, f) → vp_in i n → f i.toNatClampNeg = v → R (pc + 1) ls (.int v :: st) (w) → R pc ls (.int i :: .ref a :: st) w
def zr_zald (zs : zzT) (CL : zzK) (cc : ByteArray) (o nL : Nat) (rt : Option FieldType) (Q : zzQ) (R : zzS) : Prop := ∀ (pc : Nat) (ls : zzL) (st : List Value) (w : zzW) (a n : Nat) (f : Nat → Int32) (i v : Int32), decode cc pc = .ok (.baload, 1) → w a = some (.inl (1, n, f)) → vp_in i n → f i.toNatClampNeg = v → R (pc + 1) ls (.int v :: st) (w) → R pc ls (.int i :: .ref a :: st) w
def zr_iast (zs : zzT) (CL : zzK) (cc : ByteArray) (o nL : Nat) (rt : Option FieldType) (Q : zzQ) (R : zzS) : Prop := ∀ (pc : Nat) (ls : zzL) (st : List Value) (w : zzW) (a n : Nat) (f : Nat → Int32) (i x : Int32), decode cc pc = .ok (.iastore, 1) → w a = some (.inl (0, n, f)) → vp_in i n → R (pc + 1) ls (st) (zzup w a (.inl (0, n, upd f i.toNatClampNeg x))) → R pc ls (.int x :: .int i :: .ref a :: st) w
def zr_zast (zs : zzT) (CL : zzK) (cc : ByteArray) (o nL : Nat) (rt : Option FieldType) (Q : zzQ) (R : zzS) : Prop := ∀ (pc : Nat) (ls : zzL) (st : List Value) (w : zzW) (a n : Nat) (f : Nat → Int32) (i x : Int32), decode cc pc = .ok (.bastore, 1) → w a = some (.inl (1, n, f)) → vp_in i n → R (pc + 1) ls (st) (zzup w a (.inl (1, n, upd f i.toNatClampNeg (vp_nar .boolean x)))) → R pc ls (.int x :: .int i :: .ref a :: st) w
def zr_alen (zs : zzT) (CL : zzK) (cc : ByteArray) (o nL : Nat) (rt : Option FieldType) (Q : zzQ) (R : zzS) : Prop := ∀ (pc : Nat) (ls : zzL) (st : List Value) (w : zzW) (a n : Nat) (f : Nat → Int32) (v : Int32), decode cc pc = .ok (.arraylength, 1) → w a = some (.inl (0, n, f)) → Int32.ofNat n = v → R (pc + 1) ls (.int v :: st) (w) → R pc ls (.ref a :: st) w
def zr_tlen (zs : zzT) (CL : zzK) (cc : ByteArray) (o nL : Nat) (rt : Option FieldType) (Q : zzQ) (R : zzS) : Prop := ∀ (pc : Nat) (ls : zzL) (st : List Value) (w : zzW) (a n : Nat) (f : Nat → Int32) (v : Int32), decode cc pc = .ok (.arraylength, 1) → zs a = some (n, f) → Int32.ofNat n = v → R (pc + 1) ls (.int v :: st) (w) → R pc ls (.ref a :: st) w
def zr_invv (zs : zzT) (CL : zzK) (cc : ByteArray) (o nL : Nat) (rt : Option FieldType) (Q : zzQ) (R : zzS) : Prop := ∀ (pc : Nat) (ls : zzL) (st : List Value) (w : zzW) (idx kd k : Nat) (As : List Value) (b ci : Nat) (fs : List Value) (st0 : List Value), decode cc pc = .ok (.invokevirtual idx, 3) → zzmt o idx = some (kd, k) → kd < 2 → st0 = As.reverse ++ .ref b :: st → As.length = zzn k → w b = some (.inr (ci, fs)) → ci = zzo k → (st.map fun v => v.category).sum ≤ 8 → CL k (.ref b :: As) w (fun r w1 => R (pc + 3) ls (r ++ st) w1) → R pc ls st0 w
def zr_invs (zs : zzT) (CL : zzK) (cc : ByteArray) (o nL : Nat) (rt : Option FieldType) (Q : zzQ) (R : zzS) : Prop := ∀ (pc : Nat) (ls : zzL) (st : List Value) (w : zzW) (idx k : Nat) (As : List Value) (st0 : List Value), decode cc pc = .ok (.invokestatic idx, 3) → zzmt o idx = some (2, k) → st0 = As.reverse ++ st → As.length = zzn k → (st.map fun v => v.category).sum ≤ 8 → CL k As w (fun r w1 => R (pc + 3) ls (r ++ st) w1) → R pc ls st0 w
def zr_acopy (zs : zzT) (CL : zzK) (cc : ByteArray) (o nL : Nat) (rt : Option FieldType) (Q : zzQ) (R : zzS) : Prop := ∀ (pc : Nat) (ls : zzL) (st : List Value) (w : zzW) (idx a0 a1 n0 n1 : Nat) (f g : Nat → Int32) (sp dp n : Int32), decode cc pc = .ok (.invokestatic idx, 3) → zzac o idx = true → w a0 = some (.inl (0, n0, f)) → w a1 = some (.inl (0, n1, g)) → ¬ sp < 0 → ¬ dp < 0 → ¬ n < 0 → sp.toNatClampNeg + n.toNatClampNeg ≤ n0 → dp.toNatClampNeg + n.toNatClampNeg ≤ n1 → (st.map fun v => v.category).sum ≤ 8 → R (pc + 3) ls (st) (zzup w a1 (.inl (0, n1, va_cpy f g sp.toNatClampNeg dp.toNatClampNeg n.toNatClampNeg))) → R pc ls (.int n :: .int dp :: .ref a1 :: .int sp :: .ref a0 :: st) w
def zr_mmn (zs : zzT) (CL : zzK) (cc : ByteArray) (o nL : Nat) (rt : Option FieldType) (Q : zzQ) (R : zzS) : Prop := ∀ (pc : Nat) (ls : zzL) (st : List Value) (w : zzW) (idx : Nat) (x y v : Int32), decode cc pc = .ok (.invokestatic idx, 3) → zzmn o idx = true → (if y < x then y else x) = v → (st.map fun v => v.category).sum ≤ 8 → R (pc + 3) ls (.int v :: st) (w) → R pc ls (.int y :: .int x :: st) w
def zr_mmx (zs : zzT) (CL : zzK) (cc : ByteArray) (o nL : Nat) (rt : Option FieldType) (Q : zzQ) (R : zzS) : Prop := ∀ (pc : Nat) (ls : zzL) (st : List Value) (w : zzW) (idx : Nat) (x y v : Int32), decode cc pc = .ok (.invokestatic idx, 3) → zzmx o idx = true → (if x < y then y else x) = v → (st.map fun v => v.category).sum ≤ 8 → R (pc + 3) ls (.int v :: st) (w) → R pc ls (.int y :: .int x :: st) w
def zr_weak (zs : zzT) (CL : zzK) (cc : ByteArray) (o nL : Nat) (rt : Option FieldType) (Q : zzQ) (R : zzS) : Prop := ∀ (pc : Nat) (ls : zzL) (st : List Value) (w : zzW) (ls1 : zzL), (∀ q ∈ ls1, q ∈ ls) → R pc ls1 st w → R pc ls st w
def zr_iret (zs : zzT) (CL : zzK) (cc : ByteArray) (o nL : Nat) (rt : Option FieldType) (Q : zzQ) (R : zzS) : Prop := ∀ (pc : Nat) (ls : zzL) (st : List Value) (w : zzW) (ty : FieldType) (v : Int32), decode cc pc = .ok (.ireturn, 1) → rt = some ty → narrow ty (.int v) = .int v → Q [.int v] w → R pc ls [.int v] w
def zr_lret (zs : zzT) (CL : zzK) (cc : ByteArray) (o nL : Nat) (rt : Option FieldType) (Q : zzQ) (R : zzS) : Prop := ∀ (pc : Nat) (ls : zzL) (st : List Value) (w : zzW) (v : Int64), decode cc pc = .ok (.lreturn, 1) → rt = some .long → Q [.long v] w → R pc ls [.long v] w
def zr_vret (zs : zzT) (CL : zzK) (cc : ByteArray) (o nL : Nat) (rt : Option FieldType) (Q : zzQ) (R : zzS) : Prop := ∀ (pc : Nat) (ls : zzL) (st : List Value) (w : zzW) , decode cc pc = .ok (.return_, 1) → rt = none → Q [] w → R pc ls [] w
def zzC0 (zs : zzT) (CL : zzK) (cc : ByteArray) (o nL : Nat) (rt : Option FieldType) (Q : zzQ) (R : zzS) : Prop := zr_iconst zs CL cc o nL rt Q R ∧ zr_bipush zs CL cc o nL rt Q R ∧ zr_lconst zs CL cc o nL rt Q R ∧ zr_ldc zs CL cc o nL rt Q R ∧ zr_ldcw zs CL cc o nL rt Q R ∧ zr_ldc2 zs CL cc o nL rt Q R ∧ zr_iload_n zs CL cc o nL rt Q R ∧ zr_iload zs CL cc o nL rt Q R
def zzC1 (zs : zzT) (CL : zzK) (cc : ByteArray) (o nL : Nat) (rt : Option FieldType) (Q : zzQ) (R : zzS) : Prop := zr_lload_n zs CL cc o nL rt Q R ∧ zr_lload zs CL cc o nL rt Q R ∧ zr_aload_n zs CL cc o nL rt Q R ∧ zr_aload zs CL cc o nL rt Q R ∧ zr_istore_n zs CL cc o nL rt Q R ∧ zr_istore zs CL cc o nL rt Q R ∧ zr_lstore_n zs CL cc o nL rt Q R ∧ zr_lstore zs CL cc o nL rt Q R
def zzC2 (zs : zzT) (CL : zzK) (cc : ByteArray) (o nL : Nat) (rt : Option FieldType) (Q : zzQ) (R : zzS) : Prop := zr_astore_n zs CL cc o nL rt Q R ∧ zr_astore zs CL cc o nL rt Q R ∧ zr_iinc zs CL cc o nL rt Q R ∧ zr_iadd zs CL cc o nL rt Q R ∧ zr_isub zs CL cc o nL rt Q R ∧ zr_imul zs CL cc o nL rt Q R ∧ zr_iand zs CL cc o nL rt Q R ∧ zr_ior zs CL cc o nL rt Q R
def zzC3 (zs : zzT) (CL : zzK) (cc : ByteArray) (o nL : Nat) (rt : Option FieldType) (Q : zzQ) (R : zzS) : Prop := zr_ixor zs CL cc o nL rt Q R ∧ zr_ishl zs CL cc o nL rt Q R ∧ zr_ishr zs CL cc o nL rt Q R ∧ zr_iushr zs CL cc o nL rt Q R ∧ zr_idiv zs CL cc o nL rt Q R ∧ zr_irem zs CL cc o nL rt Q R ∧ zr_ineg zs CL cc o nL rt Q R ∧ zr_ladd zs CL cc o nL rt Q R
def zzC4 (zs : zzT) (CL : zzK) (cc : ByteArray) (o nL : Nat) (rt : Option FieldType) (Q : zzQ) (R : zzS) : Prop := zr_lmul zs CL cc o nL rt Q R ∧ zr_land zs CL cc o nL rt Q R ∧ zr_lcmp zs CL cc o nL rt Q R ∧ zr_i2l zs CL cc o nL rt Q R ∧ zr_l2i zs CL cc o nL rt Q R ∧ zr_dup zs CL cc o nL rt Q R ∧ zr_pop zs CL cc o nL rt Q R ∧ zr_dup2 zs CL cc o nL rt Q R
def zzC5 (zs : zzT) (CL : zzK) (cc : ByteArray) (o nL : Nat) (rt : Option FieldType) (Q : zzQ) (R : zzS) : Prop := zr_if_eq zs CL cc o nL rt Q R ∧ zr_if_ne zs CL cc o nL rt Q R ∧ zr_if_lt zs CL cc o nL rt Q R ∧ zr_if_ge zs CL cc o nL rt Q R ∧ zr_if_gt zs CL cc o nL rt Q R ∧ zr_if_le zs CL cc o nL rt Q R ∧ zr_icmp_eq zs CL cc o nL rt Q R ∧ zr_icmp_ne zs CL cc o nL rt Q R
def zzC6 (zs : zzT) (CL : zzK) (cc : ByteArray) (o nL : Nat) (rt : Option FieldType) (Q : zzQ) (R : zzS) : Prop := zr_icmp_lt zs CL cc o nL rt Q R ∧ zr_icmp_ge zs CL cc o nL rt Q R ∧ zr_icmp_gt zs CL cc o nL rt Q R ∧ zr_icmp_le zs CL cc o nL rt Q R ∧ zr_goto zs CL cc o nL rt Q R ∧ zr_tabIn zs CL cc o nL rt Q R ∧ zr_tabOut zs CL cc o nL rt Q R ∧ zr_get zs CL cc o nL rt Q R
def zzC7 (zs : zzT) (CL : zzK) (cc : ByteArray) (o nL : Nat) (rt : Option FieldType) (Q : zzQ) (R : zzS) : Prop := zr_puti zs CL cc o nL rt Q R ∧ zr_putl zs CL cc o nL rt Q R ∧ zr_gets zs CL cc o nL rt Q R ∧ zr_iald zs CL cc o nL rt Q R ∧ zr_tald zs CL cc o nL rt Q R ∧ zr_zald zs CL cc o nL rt Q R ∧ zr_iast zs CL cc o nL rt Q R ∧ zr_zast zs CL cc o nL rt Q R
def zzC8 (zs : zzT) (CL : zzK) (cc : ByteArray) (o nL : Nat) (rt : Option FieldType) (Q : zzQ) (R : zzS) : Prop := zr_alen zs CL cc o nL rt Q R ∧ zr_tlen zs CL cc o nL rt Q R ∧ zr_invv zs CL cc o nL rt Q R ∧ zr_invs zs CL cc o nL rt Q R ∧ zr_acopy zs CL cc o nL rt Q R ∧ zr_mmn zs CL cc o nL rt Q R ∧ zr_mmx zs CL cc o nL rt Q R ∧ zr_weak zs CL cc o nL rt Q R
def zzC9 (zs : zzT) (CL : zzK) (cc : ByteArray) (o nL : Nat) (rt : Option FieldType) (Q : zzQ) (R : zzS) : Prop := zr_iret zs CL cc o nL rt Q R ∧ zr_lret zs CL cc o nL rt Q R ∧ zr_vret zs CL cc o nL rt Q R
def zzC (zs : zzT) (CL : zzK) (cc : ByteArray) (o nL : Nat) (rt : Option FieldType) (Q : zzQ) (R : zzS) : Prop := zzC0 zs CL cc o nL rt Q R ∧ zzC1 zs CL cc o nL rt Q R ∧ zzC2 zs CL cc o nL rt Q R ∧ zzC3 zs CL cc o nL rt Q R ∧ zzC4 zs CL cc o nL rt Q R ∧ zzC5 zs CL cc o nL rt Q R ∧ zzC6 zs CL cc o nL rt Q R ∧ zzC7 zs CL cc o nL rt Q R ∧ zzC8 zs CL cc o nL rt Q R ∧ zzC9 zs CL cc o nL rt Q R
theorem z_iconst {zs : zzT} {CL : zzK} {cc : ByteArray} {o nL : Nat} {rt : Option FieldType} {Q : zzQ} {R : zzS} (h : zzC zs CL cc o nL rt Q R) {pc : Nat} {ls : zzL} {st : List Value} {w : zzW} {n : Int} {v : Int32} (h0 : decode cc pc = .ok (.iconst n, 1)) (h1 : Int32.ofInt n = v) (h2 : R (pc + 1) ls (.int v :: st) (w)) : R pc ls st w := h.1.1 pc ls st w n v h0 h1 h2
theorem z_bipush {zs : zzT} {CL : zzK} {cc : ByteArray} {o nL : Nat} {rt : Option FieldType} {Q : zzQ} {R : zzS} (h : zzC zs CL cc o nL rt Q R) {pc : Nat} {ls : zzL} {st : List Value} {w : zzW} {n : Int} {v : Int32} (h0 : decode cc pc = .ok (.bipush n, 2)) (h1 : (Int8.ofInt n).toInt32 = v) (h2 : R (pc + 2) ls (.int v :: st) (w)) : R pc ls st w := h.1.2.1 pc ls st w n v h0 h1 h2
theorem z_lconst {zs : zzT} {CL : zzK} {cc : ByteArray} {o nL : Nat} {rt : Option FieldType} {Q : zzQ} {R : zzS} (h : zzC zs CL cc o nL rt Q R) {pc : Nat} {ls : zzL} {st : List Value} {w : zzW} {n : Fin 2} {v : Int64} (h0 : decode cc pc = .ok (.lconst n, 1)) (h1 : Int64.ofNat (n : Nat) = v) (h2 : R (pc + 1) ls (.long v :: st) (w)) : R pc ls st w := h.1.2.2.1 pc ls st w n v h0 h1 h2
theorem z_ldc {zs : zzT} {CL : zzK} {cc : ByteArray} {o nL : Nat} {rt : Option FieldType} {Q : zzQ} {R : zzS} (h : zzC zs CL cc o nL rt Q R) {pc : Nat} {ls : zzL} {st : List Value} {w : zzW} {idx : Nat} {v : Int32} (h0 : decode cc pc = .ok (.ldc idx, 2)) (h1 : zzki o idx = some v) (h2 : R (pc + 2) ls (.int v :: st) (w)) : R pc ls st w := h.1.2.2.2.1 pc ls st w idx v h0 h1 h2
theorem z_ldcw {zs : zzT} {CL : zzK} {cc : ByteArray} {o nL : Nat} {rt : Option FieldType} {Q : zzQ} {R : zzS} (h : zzC zs CL cc o nL rt Q R) {pc : Nat} {ls : zzL} {st : List Value} {w : zzW} {idx : Nat} {v : Int32} (h0 : decode cc pc = .ok (.ldc_w idx, 3)) (h1 : zzki o idx = some v) (h2 : R (pc + 3) ls (.int v :: st) (w)) : R pc ls st w := h.1.2.2.2.2.1 pc ls st w idx v h0 h1 h2
theorem z_ldc2 {zs : zzT} {CL : zzK} {cc : ByteArray} {o nL : Nat} {rt : Option FieldType} {Q : zzQ} {R : zzS} (h : zzC zs CL cc o nL rt Q R) {pc : Nat} {ls : zzL} {st : List Value} {w : zzW} {idx : Nat} {v : Int64} (h0 : decode cc pc = .ok (.ldc2_w idx, 3)) (h1 : zzkl o idx = some v) (h2 : R (pc + 3) ls (.long v :: st) (w)) : R pc ls st w := h.1.2.2.2.2.2.1 pc ls st w idx v h0 h1 h2
theorem z_iload_n {zs : zzT} {CL : zzK} {cc : ByteArray} {o nL : Nat} {rt : Option FieldType} {Q : zzQ} {R : zzS} (h : zzC zs CL cc o nL rt Q R) {pc : Nat} {ls : zzL} {st : List Value} {w : zzW} {j : Fin 4} {i : Nat} {x : Int32} (h0 : decode cc pc = .ok (.iload_n j, 1)) (h1 : (j : Nat) = i) (h2 : zzget ls i = some (.int x)) (h3 : R (pc + 1) ls (.int x :: st) (w)) : R pc ls st w := h.1.2.2.2.2.2.2.1 pc ls st w j i x h0 h1 h2 h3
theorem z_iload {zs : zzT} {CL : zzK} {cc : ByteArray} {o nL : Nat} {rt : Option FieldType} {Q : zzQ} {R : zzS} (h : zzC zs CL cc o nL rt Q R) {pc : Nat} {ls : zzL} {st : List Value} {w : zzW} {i : Nat} {x : Int32} (h0 : decode cc pc = .ok (.iload i, 2)) (h1 : zzget ls i = some (.int x)) (h2 : R (pc + 2) ls (.int x :: st) (w)) : R pc ls st w := h.1.2.2.2.2.2.2.2 pc ls st w i x h0 h1 h2
theorem z_lload_n {zs : zzT} {CL : zzK} {cc : ByteArray} {o nL : Nat} {rt : Option FieldType} {Q : zzQ} {R : zzS} (h : zzC zs CL cc o nL rt Q R) {pc : Nat} {ls : zzL} {st : List Value} {w : zzW} {j : Fin 4} {i : Nat} {x : Int64} (h0 : decode cc pc = .ok (.lload_n j, 1)) (h1 : (j : Nat) = i) (h2 : zzget ls i = some (.long x)) (h3 : R (pc + 1) ls (.long x :: st) (w)) : R pc ls st w := h.2.1.1 pc ls st w j i x h0 h1 h2 h3
theorem z_lload {zs : zzT} {CL : zzK} {cc : ByteArray} {o nL : Nat} {rt : Option FieldType} {Q : zzQ} {R : zzS} (h : zzC zs CL cc o nL rt Q R) {pc : Nat} {ls : zzL} {st : List Value} {w : zzW} {i : Nat} {x : Int64} (h0 : decode cc pc = .ok (.lload i, 2)) (h1 : zzget ls i = some (.long x)) (h2 : R (pc + 2) ls (.long x :: st) (w)) : R pc ls st w := h.2.1.2.1 pc ls st w i x h0 h1 h2
theorem z_aload_n {zs : zzT} {CL : zzK} {cc : ByteArray} {o nL : Nat} {rt : Option FieldType} {Q : zzQ} {R : zzS} (h : zzC zs CL cc o nL rt Q R) {pc : Nat} {ls : zzL} {st : List Value} {w : zzW} {j : Fin 4} {i : Nat} {x : Nat} (h0 : decode cc pc = .ok (.aload_n j, 1)) (h1 : (j : Nat) = i) (h2 : zzget ls i = some (.ref x)) (h3 : R (pc + 1) ls (.ref x :: st) (w)) : R pc ls st w := h.2.1.2.2.1 pc ls st w j i x h0 h1 h2 h3
theorem z_aload {zs : zzT} {CL : zzK} {cc : ByteArray} {o nL : Nat} {rt : Option FieldType} {Q : zzQ} {R : zzS} (h : zzC zs CL cc o nL rt Q R) {pc : Nat} {ls : zzL} {st : List Value} {w : zzW} {i : Nat} {x : Nat} (h0 : decode cc pc = .ok (.aload i, 2)) (h1 : zzget ls i = some (.ref x)) (h2 : R (pc + 2) ls (.ref x :: st) (w)) : R pc ls st w := h.2.1.2.2.2.1 pc ls st w i x h0 h1 h2
theorem z_istore_n {zs : zzT} {CL : zzK} {cc : ByteArray} {o nL : Nat} {rt : Option FieldType} {Q : zzQ} {R : zzS} (h : zzC zs CL cc o nL rt Q R) {pc : Nat} {ls : zzL} {st : List Value} {w : zzW} {j : Fin 4} {i : Nat} {x : Int32} {ls1 : zzL} (h0 : decode cc pc = .ok (.istore_n j, 1)) (h1 : (j : Nat) = i) (h2 : i < nL) (h3 : zzput ls i (.int x) = ls1) (h4 : R (pc + 1) ls1 (st) (w)) : R pc ls (.int x :: st) w := h.2.1.2.2.2.2.1 pc ls st w j i x ls1 h0 h1 h2 h3 h4
theorem z_istore {zs : zzT} {CL : zzK} {cc : ByteArray} {o nL : Nat} {rt : Option FieldType} {Q : zzQ} {R : zzS} (h : zzC zs CL cc o nL rt Q R) {pc : Nat} {ls : zzL} {st : List Value} {w : zzW} {i : Nat} {x : Int32} {ls1 : zzL} (h0 : decode cc pc = .ok (.istore i, 2)) (h1 : i < nL) (h2 : zzput ls i (.int x) = ls1) (h3 : R (pc + 2) ls1 (st) (w)) : R pc ls (.int x :: st) w := h.2.1.2.2.2.2.2.1 pc ls st w i x ls1 h0 h1 h2 h3
theorem z_lstore_n {zs : zzT} {CL : zzK} {cc : ByteArray} {o nL : Nat} {rt : Option FieldType} {Q : zzQ} {R : zzS} (h : zzC zs CL cc o nL rt Q R) {pc : Nat} {ls : zzL} {st : List Value} {w : zzW} {j : Fin 4} {i : Nat} {x : Int64} {ls1 : zzL} (h0 : decode cc pc = .ok (.lstore_n j, 1)) (h1 : (j : Nat) = i) (h2 : i + 1 < nL) (h3 : zzput2 ls i (.long x) = ls1) (h4 : R (pc + 1) ls1 (st) (w)) : R pc ls (.long x :: st) w := h.2.1.2.2.2.2.2.2.1 pc ls st w j i x ls1 h0 h1 h2 h3 h4
theorem z_lstore {zs : zzT} {CL : zzK} {cc : ByteArray} {o nL : Nat} {rt : Option FieldType} {Q : zzQ} {R : zzS} (h : zzC zs CL cc o nL rt Q R) {pc : Nat} {ls : zzL} {st : List Value} {w : zzW} {i : Nat} {x : Int64} {ls1 : zzL} (h0 : decode cc pc = .ok (.lstore i, 2)) (h1 : i + 1 < nL) (h2 : zzput2 ls i (.long x) = ls1) (h3 : R (pc + 2) ls1 (st) (w)) : R pc ls (.long x :: st) w := h.2.1.2.2.2.2.2.2.2 pc ls st w i x ls1 h0 h1 h2 h3
theorem z_astore_n {zs : zzT} {CL : zzK} {cc : ByteArray} {o nL : Nat} {rt : Option FieldType} {Q : zzQ} {R : zzS} (h : zzC zs CL cc o nL rt Q R) {pc : Nat} {ls : zzL} {st : List Value} {w : zzW} {j : Fin 4} {i : Nat} {x : Nat} {ls1 : zzL} (h0 : decode cc pc = .ok (.astore_n j, 1)) (h1 : (j : Nat) = i) (h2 : i < nL) (h3 : zzput ls i (.ref x) = ls1) (h4 : R (pc + 1) ls1 (st) (w)) : R pc ls (.ref x :: st) w := h.2.2.1.1 pc ls st w j i x ls1 h0 h1 h2 h3 h4
theorem z_astore {zs : zzT} {CL : zzK} {cc : ByteArray} {o nL : Nat} {rt : Option FieldType} {Q : zzQ} {R : zzS} (h : zzC zs CL cc o nL rt Q R) {pc : Nat} {ls : zzL} {st : List Value} {w : zzW} {i : Nat} {x : Nat} {ls1 : zzL} (h0 : decode cc pc = .ok (.astore i, 2)) (h1 : i < nL) (h2 : zzput ls i (.ref x) = ls1) (h3 : R (pc + 2) ls1 (st) (w)) : R pc ls (.ref x :: st) w := h.2.2.1.2.1 pc ls st w i x ls1 h0 h1 h2 h3
theorem z_iinc {zs : zzT} {CL : zzK} {cc : ByteArray} {o nL : Nat} {rt : Option FieldType} {Q : zzQ} {R : zzS} (h : zzC zs CL cc o nL rt Q R) {pc : Nat} {ls : zzL} {st : List Value} {w : zzW} {i : Nat} {n : Int} {x v : Int32} {ls1 : zzL} (h0 : decode cc pc = .ok (.iinc i n, 3)) (h1 : zzget ls i = some (.int x)) (h2 : x + Int32.ofInt n = v) (h3 : i < nL) (h4 : zzput ls i (.int v) = ls1) (h5 : R (pc + 3) ls1 (st) (w)) : R pc ls st w := h.2.2.1.2.2.1 pc ls st w i n x v ls1 h0 h1 h2 h3 h4 h5
theorem z_iadd {zs : zzT} {CL : zzK} {cc : ByteArray} {o nL : Nat} {rt : Option FieldType} {Q : zzQ} {R : zzS} (h : zzC zs CL cc o nL rt Q R) {pc : Nat} {ls : zzL} {st : List Value} {w : zzW} {x y v : Int32} (h0 : decode cc pc = .ok (.iadd, 1)) (h1 : x + y = v) (h2 : R (pc + 1) ls (.int v :: st) (w)) : R pc ls (.int y :: .int x :: st) w := h.2.2.1.2.2.2.1 pc ls st w x y v h0 h1 h2
theorem z_isub {zs : zzT} {CL : zzK} {cc : ByteArray} {o nL : Nat} {rt : Option FieldType} {Q : zzQ} {R : zzS} (h : zzC zs CL cc o nL rt Q R) {pc : Nat} {ls : zzL} {st : List Value} {w : zzW} {x y v : Int32} (h0 : decode cc pc = .ok (.isub, 1)) (h1 : x - y = v) (h2 : R (pc + 1) ls (.int v :: st) (w)) : R pc ls (.int y :: .int x :: st) w := h.2.2.1.2.2.2.2.1 pc ls st w x y v h0 h1 h2
theorem z_imul {zs : zzT} {CL : zzK} {cc : ByteArray} {o nL : Nat} {rt : Option FieldType} {Q : zzQ} {R : zzS} (h : zzC zs CL cc o nL rt Q R) {pc : Nat} {ls : zzL} {st : List Value} {w : zzW} {x y v : Int32} (h0 : decode cc pc = .ok (.imul, 1)) (h1 : x * y = v) (h2 : R (pc + 1) ls (.int v :: st) (w)) : R pc ls (.int y :: .int x :: st) w := h.2.2.1.2.2.2.2.2.1 pc ls st w x y v h0 h1 h2
theorem z_iand {zs : zzT} {CL : zzK} {cc : ByteArray} {o nL : Nat} {rt : Option FieldType} {Q : zzQ} {R : zzS} (h : zzC zs CL cc o nL rt Q R) {pc : Nat} {ls : zzL} {st : List Value} {w : zzW} {x y v : Int32} (h0 : decode cc pc = .ok (.iand, 1)) (h1 : x &&& y = v) (h2 : R (pc + 1) ls (.int v :: st) (w)) : R pc ls (.int y :: .int x :: st) w := h.2.2.1.2.2.2.2.2.2.1 pc ls st w x y v h0 h1 h2
theorem z_ior {zs : zzT} {CL : zzK} {cc : ByteArray} {o nL : Nat} {rt : Option FieldType} {Q : zzQ} {R : zzS} (h : zzC zs CL cc o nL rt Q R) {pc : Nat} {ls : zzL} {st : List Value} {w : zzW} {x y v : Int32} (h0 : decode cc pc = .ok (.ior, 1)) (h1 : x ||| y = v) (h2 : R (pc + 1) ls (.int v :: st) (w)) : R pc ls (.int y :: .int x :: st) w := h.2.2.1.2.2.2.2.2.2.2 pc ls st w x y v h0 h1 h2
theorem z_ixor {zs : zzT} {CL : zzK} {cc : ByteArray} {o nL : Nat} {rt : Option FieldType} {Q : zzQ} {R : zzS} (h : zzC zs CL cc o nL rt Q R) {pc : Nat} {ls : zzL} {st : List Value} {w : zzW} {x y v : Int32} (h0 : decode cc pc = .ok (.ixor, 1)) (h1 : x ^^^ y = v) (h2 : R (pc + 1) ls (.int v :: st) (w)) : R pc ls (.int y :: .int x :: st) w := h.2.2.2.1.1 pc ls st w x y v h0 h1 h2
theorem z_ishl {zs : zzT} {CL : zzK} {cc : ByteArray} {o nL : Nat} {rt : Option FieldType} {Q : zzQ} {R : zzS} (h : zzC zs CL cc o nL rt Q R) {pc : Nat} {ls : zzL} {st : List Value} {w : zzW} {x y v : Int32} (h0 : decode cc pc = .ok (.ishl, 1)) (h1 : x <<< (y &&& 31) = v) (h2 : R (pc + 1) ls (.int v :: st) (w)) : R pc ls (.int y :: .int x :: st) w := h.2.2.2.1.2.1 pc ls st w x y v h0 h1 h2
theorem z_ishr {zs : zzT} {CL : zzK} {cc : ByteArray} {o nL : Nat} {rt : Option FieldType} {Q : zzQ} {R : zzS} (h : zzC zs CL cc o nL rt Q R) {pc : Nat} {ls : zzL} {st : List Value} {w : zzW} {x y v : Int32} (h0 : decode cc pc = .ok (.ishr, 1)) (h1 : x >>> (y &&& 31) = v) (h2 : R (pc + 1) ls (.int v :: st) (w)) : R pc ls (.int y :: .int x :: st) w := h.2.2.2.1.2.2.1 pc ls st w x y v h0 h1 h2
theorem z_iushr {zs : zzT} {CL : zzK} {cc : ByteArray} {o nL : Nat} {rt : Option FieldType} {Q : zzQ} {R : zzS} (h : zzC zs CL cc o nL rt Q R) {pc : Nat} {ls : zzL} {st : List Value} {w : zzW} {x y v : Int32} (h0 : decode cc pc = .ok (.iushr, 1)) (h1 : (x.toUInt32 >>> (y.toUInt32 &&& Int32.toUInt32 31)).toInt32 = v) (h2 : R (pc + 1) ls (.int v :: st) (w)) : R pc ls (.int y :: .int x :: st) w := h.2.2.2.1.2.2.2.1 pc ls st w x y v h0 h1 h2
theorem z_idiv {zs : zzT} {CL : zzK} {cc : ByteArray} {o nL : Nat} {rt : Option FieldType} {Q : zzQ} {R : zzS} (h : zzC zs CL cc o nL rt Q R) {pc : Nat} {ls : zzL} {st : List Value} {w : zzW} {x y v : Int32} (h0 : decode cc pc = .ok (.idiv, 1)) (h1 : ¬ y = 0) (h2 : x / y = v) (h3 : R (pc + 1) ls (.int v :: st) (w)) : R pc ls (.int y :: .int x :: st) w := h.2.2.2.1.2.2.2.2.1 pc ls st w x y v h0 h1 h2 h3
theorem z_irem {zs : zzT} {CL : zzK} {cc : ByteArray} {o nL : Nat} {rt : Option FieldType} {Q : zzQ} {R : zzS} (h : zzC zs CL cc o nL rt Q R) {pc : Nat} {ls : zzL} {st : List Value} {w : zzW} {x y v : Int32} (h0 : decode cc pc = .ok (.irem, 1)) (h1 : ¬ y = 0) (h2 : x - x / y * y = v) (h3 : R (pc + 1) ls (.int v :: st) (w)) : R pc ls (.int y :: .int x :: st) w := h.2.2.2.1.2.2.2.2.2.1 pc ls st w x y v h0 h1 h2 h3
theorem z_ineg {zs : zzT} {CL : zzK} {cc : ByteArray} {o nL : Nat} {rt : Option FieldType} {Q : zzQ} {R : zzS} (h : zzC zs CL cc o nL rt Q R) {pc : Nat} {ls : zzL} {st : List Value} {w : zzW} {x v : Int32} (h0 : decode cc pc = .ok (.ineg, 1)) (h1 : -x = v) (h2 : R (pc + 1) ls (.int v :: st) (w)) : R pc ls (.int x :: st) w := h.2.2.2.1.2.2.2.2.2.2.1 pc ls st w x v h0 h1 h2
theorem z_ladd {zs : zzT} {CL : zzK} {cc : ByteArray} {o nL : Nat} {rt : Option FieldType} {Q : zzQ} {R : zzS} (h : zzC zs CL cc o nL rt Q R) {pc : Nat} {ls : zzL} {st : List Value} {w : zzW} {x y v : Int64} (h0 : decode cc pc = .ok (.ladd, 1)) (h1 : x + y = v) (h2 : R (pc + 1) ls (.long v :: st) (w)) : R pc ls (.long y :: .long x :: st) w := h.2.2.2.1.2.2.2.2.2.2.2 pc ls st w x y v h0 h1 h2
theorem z_lmul {zs : zzT} {CL : zzK} {cc : ByteArray} {o nL : Nat} {rt : Option FieldType} {Q : zzQ} {R : zzS} (h : zzC zs CL cc o nL rt Q R) {pc : Nat} {ls : zzL} {st : List Value} {w : zzW} {x y v : Int64} (h0 : decode cc pc = .ok (.lmul, 1)) (h1 : x * y = v) (h2 : R (pc + 1) ls (.long v :: st) (w)) : R pc ls (.long y :: .long x :: st) w := h.2.2.2.2.1.1 pc ls st w x y v h0 h1 h2
theorem z_land {zs : zzT} {CL : zzK} {cc : ByteArray} {o nL : Nat} {rt : Option FieldType} {Q : zzQ} {R : zzS} (h : zzC zs CL cc o nL rt Q R) {pc : Nat} {ls : zzL} {st : List Value} {w : zzW} {x y v : Int64} (h0 : decode cc pc = .ok (.land, 1)) (h1 : x &&& y = v) (h2 : R (pc + 1) ls (.long v :: st) (w)) : R pc ls (.long y :: .long x :: st) w := h.2.2.2.2.1.2.1 pc ls st w x y v h0 h1 h2
theorem z_lcmp {zs : zzT} {CL : zzK} {cc : ByteArray} {o nL : Nat} {rt : Option FieldType} {Q : zzQ} {R : zzS} (h : zzC zs CL cc o nL rt Q R) {pc : Nat} {ls : zzL} {st : List Value} {w : zzW} {x y : Int64} {v : Int32} (h0 : decode cc pc = .ok (.lcmp, 1)) (h1 : lg_cmp x y = v) (h2 : R (pc + 1) ls (.int v :: st) (w)) : R pc ls (.long y :: .long x :: st) w := h.2.2.2.2.1.2.2.1 pc ls st w x y v h0 h1 h2
theorem z_i2l {zs : zzT} {CL : zzK} {cc : ByteArray} {o nL : Nat} {rt : Option FieldType} {Q : zzQ} {R : zzS} (h : zzC zs CL cc o nL rt Q R) {pc : Nat} {ls : zzL} {st : List Value} {w : zzW} {x : Int32} {v : Int64} (h0 : decode cc pc = .ok (.i2l, 1)) (h1 : x.toInt64 = v) (h2 : R (pc + 1) ls (.long v :: st) (w)) : R pc ls (.int x :: st) w := h.2.2.2.2.1.2.2.2.1 pc ls st w x v h0 h1 h2
theorem z_l2i {zs : zzT} {CL : zzK} {cc : ByteArray} {o nL : Nat} {rt : Option FieldType} {Q : zzQ} {R : zzS} (h : zzC zs CL cc o nL rt Q R) {pc : Nat} {ls : zzL} {st : List Value} {w : zzW} {x : Int64} {v : Int32} (h0 : decode cc pc = .ok (.l2i, 1)) (h1 : x.toInt32 = v) (h2 : R (pc + 1) ls (.int v :: st) (w)) : R pc ls (.long x :: st) w := h.2.2.2.2.1.2.2.2.2.1 pc ls st w x v h0 h1 h2
theorem z_dup {zs : zzT} {CL : zzK} {cc : ByteArray} {o nL : Nat} {rt : Option FieldType} {Q : zzQ} {R : zzS} (h : zzC zs CL cc o nL rt Q R) {pc : Nat} {ls : zzL} {st : List Value} {w : zzW} {u : Value} (h0 : decode cc pc = .ok (.dup, 1)) (h1 : u.category = 1) (h2 : R (pc + 1) ls (u :: u :: st) (w)) : R pc ls (u :: st) w := h.2.2.2.2.1.2.2.2.2.2.1 pc ls st w u h0 h1 h2
theorem z_pop {zs : zzT} {CL : zzK} {cc : ByteArray} {o nL : Nat} {rt : Option FieldType} {Q : zzQ} {R : zzS} (h : zzC zs CL cc o nL rt Q R) {pc : Nat} {ls : zzL} {st : List Value} {w : zzW} {u : Value} (h0 : decode cc pc = .ok (.pop, 1)) (h1 : u.category = 1) (h2 : R (pc + 1) ls (st) (w)) : R pc ls (u :: st) w := h.2.2.2.2.1.2.2.2.2.2.2.1 pc ls st w u h0 h1 h2
theorem z_dup2 {zs : zzT} {CL : zzK} {cc : ByteArray} {o nL : Nat} {rt : Option FieldType} {Q : zzQ} {R : zzS} (h : zzC zs CL cc o nL rt Q R) {pc : Nat} {ls : zzL} {st : List Value} {w : zzW} {u v : Value} (h0 : decode cc pc = .ok (.dup2, 1)) (h1 : u.category = 1) (h2 : v.category = 1) (h3 : R (pc + 1) ls (u :: v :: u :: v :: st) (w)) : R pc ls (u :: v :: st) w := h.2.2.2.2.1.2.2.2.2.2.2.2 pc ls st w u v h0 h1 h2 h3
theorem z_if_eq {zs : zzT} {CL : zzK} {cc : ByteArray} {o nL : Nat} {rt : Option FieldType} {Q : zzQ} {R : zzS} (h : zzC zs CL cc o nL rt Q R) {pc : Nat} {ls : zzL} {st : List Value} {w : zzW} {x : Int32} {off : Int} {tgt : Nat} (h0 : decode cc pc = .ok (.ifCond .eq off, 3)) (h1 : (pc : Int) + off = (tgt : Int)) (h2 : (x = 0 → R tgt ls st w)) (h3 : (¬ x = 0 → R (pc + 3) ls st w)) : R pc ls (.int x :: st) w := h.2.2.2.2.2.1.1 pc ls st w x off tgt h0 h1 h2 h3
theorem z_if_ne {zs : zzT} {CL : zzK} {cc : ByteArray} {o nL : Nat} {rt : Option FieldType} {Q : zzQ} {R : zzS} (h : zzC zs CL cc o nL rt Q R) {pc : Nat} {ls : zzL} {st : List Value} {w : zzW} {x : Int32} {off : Int} {tgt : Nat} (h0 : decode cc pc = .ok (.ifCond .ne off, 3)) (h1 : (pc : Int) + off = (tgt : Int)) (h2 : (¬ x = 0 → R tgt ls st w)) (h3 : (x = 0 → R (pc + 3) ls st w)) : R pc ls (.int x :: st) w := h.2.2.2.2.2.1.2.1 pc ls st w x off tgt h0 h1 h2 h3
theorem z_if_lt {zs : zzT} {CL : zzK} {cc : ByteArray} {o nL : Nat} {rt : Option FieldType} {Q : zzQ} {R : zzS} (h : zzC zs CL cc o nL rt Q R) {pc : Nat} {ls : zzL} {st : List Value} {w : zzW} {x : Int32} {off : Int} {tgt : Nat} (h0 : decode cc pc = .ok (.ifCond .lt off, 3)) (h1 : (pc : Int) + off = (tgt : Int)) (h2 : (x < 0 → R tgt ls st w)) (h3 : (¬ x < 0 → R (pc + 3) ls st w)) : R pc ls (.int x :: st) w := h.2.2.2.2.2.1.2.2.1 pc ls st w x off tgt h0 h1 h2 h3
theorem z_if_ge {zs : zzT} {CL : zzK} {cc : ByteArray} {o nL : Nat} {rt : Option FieldType} {Q : zzQ} {R : zzS} (h : zzC zs CL cc o nL rt Q R) {pc : Nat} {ls : zzL} {st : List Value} {w : zzW} {x : Int32} {off : Int} {tgt : Nat} (h0 : decode cc pc = .ok (.ifCond .ge off, 3)) (h1 : (pc : Int) + off = (tgt : Int)) (h2 : (0 ≤ x → R tgt ls st w)) (h3 : (¬ 0 ≤ x → R (pc + 3) ls st w)) : R pc ls (.int x :: st) w := h.2.2.2.2.2.1.2.2.2.1 pc ls st w x off tgt h0 h1 h2 h3
theorem z_if_gt {zs : zzT} {CL : zzK} {cc : ByteArray} {o nL : Nat} {rt : Option FieldType} {Q : zzQ} {R : zzS} (h : zzC zs CL cc o nL rt Q R) {pc : Nat} {ls : zzL} {st : List Value} {w : zzW} {x : Int32} {off : Int} {tgt : Nat} (h0 : decode cc pc = .ok (.ifCond .gt off, 3)) (h1 : (pc : Int) + off = (tgt : Int)) (h2 : (0 < x → R tgt ls st w)) (h3 : (¬ 0 < x → R (pc + 3) ls st w)) : R pc ls (.int x :: st) w := h.2.2.2.2.2.1.2.2.2.2.1 pc ls st w x off tgt h0 h1 h2 h3
theorem z_if_le {zs : zzT} {CL : zzK} {cc : ByteArray} {o nL : Nat} {rt : Option FieldType} {Q : zzQ} {R : zzS} (h : zzC zs CL cc o nL rt Q R) {pc : Nat} {ls : zzL} {st : List Value} {w : zzW} {x : Int32} {off : Int} {tgt : Nat} (h0 : decode cc pc = .ok (.ifCond .le off, 3)) (h1 : (pc : Int) + off = (tgt : Int)) (h2 : (x ≤ 0 → R tgt ls st w)) (h3 : (¬ x ≤ 0 → R (pc + 3) ls st w)) : R pc ls (.int x :: st) w := h.2.2.2.2.2.1.2.2.2.2.2.1 pc ls st w x off tgt h0 h1 h2 h3
theorem z_icmp_eq {zs : zzT} {CL : zzK} {cc : ByteArray} {o nL : Nat} {rt : Option FieldType} {Q : zzQ} {R : zzS} (h : zzC zs CL cc o nL rt Q R) {pc : Nat} {ls : zzL} {st : List Value} {w : zzW} {x y : Int32} {off : Int} {tgt : Nat} (h0 : decode cc pc = .ok (.if_icmp .eq off, 3)) (h1 : (pc : Int) + off = (tgt : Int)) (h2 : (x = y → R tgt ls st w)) (h3 : (¬ x = y → R (pc + 3) ls st w)) : R pc ls (.int y :: .int x :: st) w := h.2.2.2.2.2.1.2.2.2.2.2.2.1 pc ls st w x y off tgt h0 h1 h2 h3
theorem z_icmp_ne {zs : zzT} {CL : zzK} {cc : ByteArray} {o nL : Nat} {rt : Option FieldType} {Q : zzQ} {R : zzS} (h : zzC zs CL cc o nL rt Q R) {pc : Nat} {ls : zzL} {st : List Value} {w : zzW} {x y : Int32} {off : Int} {tgt : Nat} (h0 : decode cc pc = .ok (.if_icmp .ne off, 3)) (h1 : (pc : Int) + off = (tgt : Int)) (h2 : (¬ x = y → R tgt ls st w)) (h3 : (x = y → R (pc + 3) ls st w)) : R pc ls (.int y :: .int x :: st) w := h.2.2.2.2.2.1.2.2.2.2.2.2.2 pc ls st w x y off tgt h0 h1 h2 h3
theorem z_icmp_lt {zs : zzT} {CL : zzK} {cc : ByteArray} {o nL : Nat} {rt : Option FieldType} {Q : zzQ} {R : zzS} (h : zzC zs CL cc o nL rt Q R) {pc : Nat} {ls : zzL} {st : List Value} {w : zzW} {x y : Int32} {off : Int} {tgt : Nat} (h0 : decode cc pc = .ok (.if_icmp .lt off, 3)) (h1 : (pc : Int) + off = (tgt : Int)) (h2 : (x < y → R tgt ls st w)) (h3 : (¬ x < y → R (pc + 3) ls st w)) : R pc ls (.int y :: .int x :: st) w := h.2.2.2.2.2.2.1.1 pc ls st w x y off tgt h0 h1 h2 h3
theorem z_icmp_ge {zs : zzT} {CL : zzK} {cc : ByteArray} {o nL : Nat} {rt : Option FieldType} {Q : zzQ} {R : zzS} (h : zzC zs CL cc o nL rt Q R) {pc : Nat} {ls : zzL} {st : List Value} {w : zzW} {x y : Int32} {off : Int} {tgt : Nat} (h0 : decode cc pc = .ok (.if_icmp .ge off, 3)) (h1 : (pc : Int) + off = (tgt : Int)) (h2 : (y ≤ x → R tgt ls st w)) (h3 : (¬ y ≤ x → R (pc + 3) ls st w)) : R pc ls (.int y :: .int x :: st) w := h.2.2.2.2.2.2.1.2.1 pc ls st w x y off tgt h0 h1 h2 h3
theorem z_icmp_gt {zs : zzT} {CL : zzK} {cc : ByteArray} {o nL : Nat} {rt : Option FieldType} {Q : zzQ} {R : zzS} (h : zzC zs CL cc o nL rt Q R) {pc : Nat} {ls : zzL} {st : List Value} {w : zzW} {x y : Int32} {off : Int} {tgt : Nat} (h0 : decode cc pc = .ok (.if_icmp .gt off, 3)) (h1 : (pc : Int) + off = (tgt : Int)) (h2 : (y < x → R tgt ls st w)) (h3 : (¬ y < x → R (pc + 3) ls st w)) : R pc ls (.int y :: .int x :: st) w := h.2.2.2.2.2.2.1.2.2.1 pc ls st w x y off tgt h0 h1 h2 h3
theorem z_icmp_le {zs : zzT} {CL : zzK} {cc : ByteArray} {o nL : Nat} {rt : Option FieldType} {Q : zzQ} {R : zzS} (h : zzC zs CL cc o nL rt Q R) {pc : Nat} {ls : zzL} {st : List Value} {w : zzW} {x y : Int32} {off : Int} {tgt : Nat} (h0 : decode cc pc = .ok (.if_icmp .le off, 3)) (h1 : (pc : Int) + off = (tgt : Int)) (h2 : (x ≤ y → R tgt ls st w)) (h3 : (¬ x ≤ y → R (pc + 3) ls st w)) : R pc ls (.int y :: .int x :: st) w := h.2.2.2.2.2.2.1.2.2.2.1 pc ls st w x y off tgt h0 h1 h2 h3
theorem z_goto {zs : zzT} {CL : zzK} {cc : ByteArray} {o nL : Nat} {rt : Option FieldType} {Q : zzQ} {R : zzS} (h : zzC zs CL cc o nL rt Q R) {pc : Nat} {ls : zzL} {st : List Value} {w : zzW} {off : Int} {tgt : Nat} (h0 : decode cc pc = .ok (.goto off, 3)) (h1 : (pc : Int) + off = (tgt : Int)) (h2 : R tgt ls st w) : R pc ls st w := h.2.2.2.2.2.2.1.2.2.2.2.1 pc ls st w off tgt h0 h1 h2
theorem z_tabIn {zs : zzT} {CL : zzK} {cc : ByteArray} {o nL : Nat} {rt : Option FieldType} {Q : zzQ} {R : zzS} (h : zzC zs CL cc o nL rt Q R) {pc : Nat} {ls : zzL} {st : List Value} {w : zzW} {dflt lo hi : Int} {offs : Array Int} {len : Nat} {x : Int32} {off : Int} {tgt : Nat} (h0 : decode cc pc = .ok (.tableswitch dflt lo hi offs, len)) (h1 : ¬ x.toInt < lo) (h2 : ¬ hi < x.toInt) (h3 : offs[(x.toInt - lo).toNat]? = some off) (h4 : (pc : Int) + off = (tgt : Int)) (h5 : R tgt ls st w) : R pc ls (.int x :: st) w := h.2.2.2.2.2.2.1.2.2.2.2.2.1 pc ls st w dflt lo hi offs len x off tgt h0 h1 h2 h3 h4 h5
theorem z_tabOut {zs : zzT} {CL : zzK} {cc : ByteArray} {o nL : Nat} {rt : Option FieldType} {Q : zzQ} {R : zzS} (h : zzC zs CL cc o nL rt Q R) {pc : Nat} {ls : zzL} {st : List Value} {w : zzW} {dflt lo hi : Int} {offs : Array Int} {len : Nat} {x : Int32} {tgt : Nat} (h0 : decode cc pc = .ok (.tableswitch dflt lo hi offs, len)) (h1 : (x.toInt < lo ∨ hi < x.toInt)) (h2 : (pc : Int) + dflt = (tgt : Int)) (h3 : R tgt ls st w) : R pc ls (.int x :: st) w := h.2.2.2.2.2.2.1.2.2.2.2.2.2.1 pc ls st w dflt lo hi offs len x tgt h0 h1 h2 h3
theorem z_get {zs : zzT} {CL : zzK} {cc : ByteArray} {o nL : Nat} {rt : Option FieldType} {Q : zzQ} {R : zzS} (h : zzC zs CL cc o nL rt Q R) {pc : Nat} {ls : zzL} {st : List Value} {w : zzW} {idx ci sl : Nat} {ne : Bool} {a : Nat} {fs : List Value} {v : Value} (h0 : decode cc pc = .ok (.getfield idx, 3)) (h1 : zzf o idx = some (ci, sl, ne)) (h2 : w a = some (.inr (ci, fs))) (h3 : fs[sl]? = some v) (h4 : R (pc + 3) ls (v :: st) (w)) : R pc ls (.ref a :: st) w := h.2.2.2.2.2.2.1.2.2.2.2.2.2.2 pc ls st w idx ci sl ne a fs v h0 h1 h2 h3 h4
theorem z_puti {zs : zzT} {CL : zzK} {cc : ByteArray} {o nL : Nat} {rt : Option FieldType} {Q : zzQ} {R : zzS} (h : zzC zs CL cc o nL rt Q R) {pc : Nat} {ls : zzL} {st : List Value} {w : zzW} {idx ci sl : Nat} {ne : Bool} {a : Nat} {fs : List Value} {x : Int32} (h0 : decode cc pc = .ok (.putfield idx, 3)) (h1 : zzf o idx = some (ci, sl, ne)) (h2 : w a = some (.inr (ci, fs))) (h3 : sl < fs.length) (h4 : (zzTT ci sl).2.2.2 = false) (h5 : narrow (zzty ci sl) (.int x) = .int x) (h6 : fits (zzty ci sl) (.int x) = true) (h7 : R (pc + 3) ls (st) (zzup w a (.inr (ci, fs.set sl (.int x))))) : R pc ls (.int x :: .ref a :: st) w := h.2.2.2.2.2.2.2.1.1 pc ls st w idx ci sl ne a fs x h0 h1 h2 h3 h4 h5 h6 h7
theorem z_putl {zs : zzT} {CL : zzK} {cc : ByteArray} {o nL : Nat} {rt : Option FieldType} {Q : zzQ} {R : zzS} (h : zzC zs CL cc o nL rt Q R) {pc : Nat} {ls : zzL} {st : List Value} {w : zzW} {idx ci sl : Nat} {ne : Bool} {a : Nat} {fs : List Value} {x : Int64} (h0 : decode cc pc = .ok (.putfield idx, 3)) (h1 : zzf o idx = some (ci, sl, ne)) (h2 : w a = some (.inr (ci, fs))) (h3 : sl < fs.length) (h4 : (zzTT ci sl).2.2.2 = false) (h5 : narrow (zzty ci sl) (.long x) = .long x) (h6 : fits (zzty ci sl) (.long x) = true) (h7 : R (pc + 3) ls (st) (zzup w a (.inr (ci, fs.set sl (.long x))))) : R pc ls (.long x :: .ref a :: st) w := h.2.2.2.2.2.2.2.1.2.1 pc ls st w idx ci sl ne a fs x h0 h1 h2 h3 h4 h5 h6 h7
theorem z_gets {zs : zzT} {CL : zzK} {cc : ByteArray} {o nL : Nat} {rt : Option FieldType} {Q : zzQ} {R : zzS} (h : zzC zs CL cc o nL rt Q R) {pc : Nat} {ls : zzL} {st : List Value} {w : zzW} {idx t : Nat} (h0 : decode cc pc = .ok (.getstatic idx, 3)) (h1 : zzgs o idx = some t) (h2 : R (pc + 3) ls (.ref t :: st) (w)) : R pc ls st w := h.2.2.2.2.2.2.2.1.2.2.1 pc ls st w idx t h0 h1 h2
theorem z_iald {zs : zzT} {CL : zzK} {cc : ByteArray} {o nL : Nat} {rt : Option FieldType} {Q : zzQ} {R : zzS} (h : zzC zs CL cc o nL rt Q R) {pc : Nat} {ls : zzL} {st : List Value} {w : zzW} {a n : Nat} {f : Nat → Int32} {i v : Int32} (h0 : decode cc pc = .ok (.iaload, 1)) (h1 : w a = some (.inl (0, n, f))) (h2 : vp_in i n) (h3 : f i.toNatClampNeg = v) (h4 : R (pc + 1) ls (.int v :: st) (w)) : R pc ls (.int i :: .ref a :: st) w := h.2.2.2.2.2.2.2.1.2.2.2.1 pc ls st w a n f i v h0 h1 h2 h3 h4
theorem z_tald {zs : zzT} {CL : zzK} {cc : ByteArray} {o nL : Nat} {rt : Option FieldType} {Q : zzQ} {R : zzS} (h : zzC zs CL cc o nL rt Q R) {pc : Nat} {ls : zzL} {st : List Value} {w : zzW} {a n : Nat} {f : Nat → Int32} {i v : Int32} (h0 : decode cc pc = .ok (.iaload, 1)) (h1 : zs a = some (n, f)) (h2 : vp_in i n) (h3 : f i.toNatClampNeg = v) (h4 : R (pc + 1) ls (.int v :: st) (w)) : R pc ls (.int i :: .ref a :: st) w := h.2.2.2.2.2.2.2.1.2.2.2.2.1 pc ls st w a n f i v h0 h1 h2 h3 h4
theorem z_zald {zs : zzT} {CL : zzK} {cc : ByteArray} {o nL : Nat} {rt : Option FieldType} {Q : zzQ} {R : zzS} (h : zzC zs CL cc o nL rt Q R) {pc : Nat} {ls : zzL} {st : List Value} {w : zzW} {a n : Nat} {f : Nat → Int32} {i v : Int32} (h0 : decode cc pc = .ok (.baload, 1)) (h1 : w a = some (.inl (1, n, f))) (h2 : vp_in i n) (h3 : f i.toNatClampNeg = v) (h4 : R (pc + 1) ls (.int v :: st) (w)) : R pc ls (.int i :: .ref a :: st) w := h.2.2.2.2.2.2.2.1.2.2.2.2.2.1 pc ls st w a n f i v h0 h1 h2 h3 h4
theorem z_iast {zs : zzT} {CL : zzK} {cc : ByteArray} {o nL : Nat} {rt : Option FieldType} {Q : zzQ} {R : zzS} (h : zzC zs CL cc o nL rt Q R) {pc : Nat} {ls : zzL} {st : List Value} {w : zzW} {a n : Nat} {f : Nat → Int32} {i x : Int32} (h0 : decode cc pc = .ok (.iastore, 1)) (h1 : w a = some (.inl (0, n, f))) (h2 : vp_in i n) (h3 : R (pc + 1) ls (st) (zzup w a (.inl (0, n, upd f i.toNatClampNeg x)))) : R pc ls (.int x :: .int i :: .ref a :: st) w := h.2.2.2.2.2.2.2.1.2.2.2.2.2.2.1 pc ls st w a n f i x h0 h1 h2 h3
theorem z_zast {zs : zzT} {CL : zzK} {cc : ByteArray} {o nL : Nat} {rt : Option FieldType} {Q : zzQ} {R : zzS} (h : zzC zs CL cc o nL rt Q R) {pc : Nat} {ls : zzL} {st : List Value} {w : zzW} {a n : Nat} {f : Nat → Int32} {i x : Int32} (h0 : decode cc pc = .ok (.bastore, 1)) (h1 : w a = some (.inl (1, n, f))) (h2 : vp_in i n) (h3 : R (pc + 1) ls (st) (zzup w a (.inl (1, n, upd f i.toNatClampNeg (vp_nar .boolean x))))) : R pc ls (.int x :: .int i :: .ref a :: st) w := h.2.2.2.2.2.2.2.1.2.2.2.2.2.2.2 pc ls st w a n f i x h0 h1 h2 h3
theorem z_alen {zs : zzT} {CL : zzK} {cc : ByteArray} {o nL : Nat} {rt : Option FieldType} {Q : zzQ} {R : zzS} (h : zzC zs CL cc o nL rt Q R) {pc : Nat} {ls : zzL} {st : List Value} {w : zzW} {a n : Nat} {f : Nat → Int32} {v : Int32} (h0 : decode cc pc = .ok (.arraylength, 1)) (h1 : w a = some (.inl (0, n, f))) (h2 : Int32.ofNat n = v) (h3 : R (pc + 1) ls (.int v :: st) (w)) : R pc ls (.ref a :: st) w := h.2.2.2.2.2.2.2.2.1.1 pc ls st w a n f v h0 h1 h2 h3
theorem z_tlen {zs : zzT} {CL : zzK} {cc : ByteArray} {o nL : Nat} {rt : Option FieldType} {Q : zzQ} {R : zzS} (h : zzC zs CL cc o nL rt Q R) {pc : Nat} {ls : zzL} {st : List Value} {w : zzW} {a n : Nat} {f : Nat → Int32} {v : Int32} (h0 : decode cc pc = .ok (.arraylength, 1)) (h1 : zs a = some (n, f)) (h2 : Int32.ofNat n = v) (h3 : R (pc + 1) ls (.int v :: st) (w)) : R pc ls (.ref a :: st) w := h.2.2.2.2.2.2.2.2.1.2.1 pc ls st w a n f v h0 h1 h2 h3
theorem z_invv {zs : zzT} {CL : zzK} {cc : ByteArray} {o nL : Nat} {rt : Option FieldType} {Q : zzQ} {R : zzS} (h : zzC zs CL cc o nL rt Q R) {pc : Nat} {ls : zzL} {st : List Value} {w : zzW} {idx kd k : Nat} {As : List Value} {b ci : Nat} {fs : List Value} {st0 : List Value} (h0 : decode cc pc = .ok (.invokevirtual idx, 3)) (h1 : zzmt o idx = some (kd, k)) (h2 : kd < 2) (h3 : st0 = As.reverse ++ .ref b :: st) (h4 : As.length = zzn k) (h5 : w b = some (.inr (ci, fs))) (h6 : ci = zzo k) (h7 : (st.map fun v => v.category).sum ≤ 8) (h8 : CL k (.ref b :: As) w (fun r w1 => R (pc + 3) ls (r ++ st) w1)) : R pc ls st0 w := h.2.2.2.2.2.2.2.2.1.2.2.1 pc ls st w idx kd k As b ci fs st0 h0 h1 h2 h3 h4 h5 h6 h7 h8
theorem z_invs {zs : zzT} {CL : zzK} {cc : ByteArray} {o nL : Nat} {rt : Option FieldType} {Q : zzQ} {R : zzS} (h : zzC zs CL cc o nL rt Q R) {pc : Nat} {ls : zzL} {st : List Value} {w : zzW} {idx k : Nat} {As : List Value} {st0 : List Value} (h0 : decode cc pc = .ok (.invokestatic idx, 3)) (h1 : zzmt o idx = some (2, k)) (h2 : st0 = As.reverse ++ st) (h3 : As.length = zzn k) (h4 : (st.map fun v => v.category).sum ≤ 8) (h5 : CL k As w (fun r w1 => R (pc + 3) ls (r ++ st) w1)) : R pc ls st0 w := h.2.2.2.2.2.2.2.2.1.2.2.2.1 pc ls st w idx k As st0 h0 h1 h2 h3 h4 h5
theorem z_acopy {zs : zzT} {CL : zzK} {cc : ByteArray} {o nL : Nat} {rt : Option FieldType} {Q : zzQ} {R : zzS} (h : zzC zs CL cc o nL rt Q R) {pc : Nat} {ls : zzL} {st : List Value} {w : zzW} {idx a0 a1 n0 n1 : Nat} {f g : Nat → Int32} {sp dp n : Int32} (h0 : decode cc pc = .ok (.invokestatic idx, 3)) (h1 : zzac o idx = true) (h2 : w a0 = some (.inl (0, n0, f))) (h3 : w a1 = some (.inl (0, n1, g))) (h4 : ¬ sp < 0) (h5 : ¬ dp < 0) (h6 : ¬ n < 0) (h7 : sp.toNatClampNeg + n.toNatClampNeg ≤ n0) (h8 : dp.toNatClampNeg + n.toNatClampNeg ≤ n1) (h9 : (st.map fun v => v.category).sum ≤ 8) (h10 : R (pc + 3) ls (st) (zzup w a1 (.inl (0, n1, va_cpy f g sp.toNatClampNeg dp.toNatClampNeg n.toNatClampNeg)))) : R pc ls (.int n :: .int dp :: .ref a1 :: .int sp :: .ref a0 :: st) w := h.2.2.2.2.2.2.2.2.1.2.2.2.2.1 pc ls st w idx a0 a1 n0 n1 f g sp dp n h0 h1 h2 h3 h4 h5 h6 h7 h8 h9 h10
theorem z_mmn {zs : zzT} {CL : zzK} {cc : ByteArray} {o nL : Nat} {rt : Option FieldType} {Q : zzQ} {R : zzS} (h : zzC zs CL cc o nL rt Q R) {pc : Nat} {ls : zzL} {st : List Value} {w : zzW} {idx : Nat} {x y v : Int32} (h0 : decode cc pc = .ok (.invokestatic idx, 3)) (h1 : zzmn o idx = true) (h2 : (if y < x then y else x) = v) (h3 : (st.map fun v => v.category).sum ≤ 8) (h4 : R (pc + 3) ls (.int v :: st) (w)) : R pc ls (.int y :: .int x :: st) w := h.2.2.2.2.2.2.2.2.1.2.2.2.2.2.1 pc ls st w idx x y v h0 h1 h2 h3 h4
theorem z_mmx {zs : zzT} {CL : zzK} {cc : ByteArray} {o nL : Nat} {rt : Option FieldType} {Q : zzQ} {R : zzS} (h : zzC zs CL cc o nL rt Q R) {pc : Nat} {ls : zzL} {st : List Value} {w : zzW} {idx : Nat} {x y v : Int32} (h0 : decode cc pc = .ok (.invokestatic idx, 3)) (h1 : zzmx o idx = true) (h2 : (if x < y then y else x) = v) (h3 : (st.map fun v => v.category).sum ≤ 8) (h4 : R (pc + 3) ls (.int v :: st) (w)) : R pc ls (.int y :: .int x :: st) w := h.2.2.2.2.2.2.2.2.1.2.2.2.2.2.2.1 pc ls st w idx x y v h0 h1 h2 h3 h4
theorem z_weak {zs : zzT} {CL : zzK} {cc : ByteArray} {o nL : Nat} {rt : Option FieldType} {Q : zzQ} {R : zzS} (h : zzC zs CL cc o nL rt Q R) {pc : Nat} {ls : zzL} {st : List Value} {w : zzW} {ls1 : zzL} (h0 : (∀ q ∈ ls1, q ∈ ls)) (h1 : R pc ls1 st w) : R pc ls st w := h.2.2.2.2.2.2.2.2.1.2.2.2.2.2.2.2 pc ls st w ls1 h0 h1
theorem z_iret {zs : zzT} {CL : zzK} {cc : ByteArray} {o nL : Nat} {rt : Option FieldType} {Q : zzQ} {R : zzS} (h : zzC zs CL cc o nL rt Q R) {pc : Nat} {ls : zzL} {st : List Value} {w : zzW} {ty : FieldType} {v : Int32} (h0 : decode cc pc = .ok (.ireturn, 1)) (h1 : rt = some ty) (h2 : narrow ty (.int v) = .int v) (h3 : Q [.int v] w) : R pc ls [.int v] w := h.2.2.2.2.2.2.2.2.2.1 pc ls st w ty v h0 h1 h2 h3
theorem z_lret {zs : zzT} {CL : zzK} {cc : ByteArray} {o nL : Nat} {rt : Option FieldType} {Q : zzQ} {R : zzS} (h : zzC zs CL cc o nL rt Q R) {pc : Nat} {ls : zzL} {st : List Value} {w : zzW} {v : Int64} (h0 : decode cc pc = .ok (.lreturn, 1)) (h1 : rt = some .long) (h2 : Q [.long v] w) : R pc ls [.long v] w := h.2.2.2.2.2.2.2.2.2.2.1 pc ls st w v h0 h1 h2
theorem z_vret {zs : zzT} {CL : zzK} {cc : ByteArray} {o nL : Nat} {rt : Option FieldType} {Q : zzQ} {R : zzS} (h : zzC zs CL cc o nL rt Q R) {pc : Nat} {ls : zzL} {st : List Value} {w : zzW}  (h0 : decode cc pc = .ok (.return_, 1)) (h1 : rt = none) (h2 : Q [] w) : R pc ls [] w := h.2.2.2.2.2.2.2.2.2.2.2 pc ls st w  h0 h1 h2
/-- a method, called: at most d calls open one in the other -/
def zzCL (zs : zzT) : Nat → zzK
  | 0 => fun _ _ _ _ => False
  | d + 1 => fun k av w Q => k < zzNM ∧ (lg_sl av).length ≤ zzl k ∧ ∀ R : zzS, zzC zs (zzCL zs d) (zzc k) (zzo k) (zzl k) (zzr k) Q R → R 0 (lv_args 0 av) [] w
end
section
/-! SOUNDNESS of the pure machine over the machine itself -/
def zzv (al : Nat → Nat) : Value → Value
  | .ref a => .ref (al a)
  | v => v
def zzq (al : Nat → Nat) (q : Nat × Value) : Nat × Value := (q.1, zzv al q.2)
theorem zzv_cat (al : Nat → Nat) (v : Value) : (zzv al v).category = v.category := by cases v <;> rfl
theorem zzv_cats (al : Nat → Nat) (st : List Value) : ((st.map (zzv al)).map fun v => v.category).sum = (st.map fun v => v.category).sum := by
  rw [List.map_map]
  congr 1
  exact List.map_congr_left (fun v _ => zzv_cat al v)
def zzcell (cI cZ : ClassId) (al : Nat → Nat) : Option zzE → va_E
  | some (.inl (tag, n, f)) => .inl (if tag = 0 then cI else cZ, n, .inl f)
  | some (.inr (ci, fs)) => .inr (ci, fs.map (zzv al))
  | none => .inr (0, [])
def zzwl (cI cZ : ClassId) (al : Nat → Nat) (M : Nat) (w : zzW) : va_W := (List.range M).map (fun k => (al k, zzcell cI cZ al (w k)))
def zzok (M : Nat) (w : zzW) : Prop := ∀ k, (w k).isSome = true ↔ k < M
theorem zzok_lt {M : Nat} {w : zzW} {a : Nat} {e : zzE} (h : zzok M w) (ha : w a = some e) : a < M := (h a).mp (by rw [ha]; rfl)
theorem zzok_up {M : Nat} {w : zzW} {a : Nat} {e0 : zzE} (h : zzok M w) (ha : w a = some e0) (e : zzE) : zzok M (zzup w a e) := by
  intro k
  by_cases hk : k = a
  · subst hk
    have : k < M := zzok_lt h ha
    simp [zzup, this]
  · simp only [zzup, if_neg hk]
    exact h k
theorem zzwl_at {cI cZ : ClassId} {al : Nat → Nat} {M : Nat} {w : zzW} {a : Nat} {e : zzE} (h : zzok M w) (ha : w a = some e) : (zzwl cI cZ al M w)[a]? = some (al a, zzcell cI cZ al (some e)) := by
  have hl := zzok_lt h ha
  simp only [zzwl, List.getElem?_map, List.getElem?_range hl, Option.map_some, ha]
theorem zzwl_set {cI cZ : ClassId} {al : Nat → Nat} {M : Nat} {w : zzW} {a : Nat} (ha : a < M) (e : zzE) : (zzwl cI cZ al M w).set a (al a, zzcell cI cZ al (some e)) = zzwl cI cZ al M (zzup w a e) := by
  apply List.ext_getElem?
  intro i
  rw [List.getElem?_set]
  simp only [zzwl, List.getElem?_map, List.length_map, List.length_range]
  by_cases hi : a = i
  · subst hi
    simp [ha, zzup]
  · rw [if_neg hi]
    by_cases h2 : i < M
    · simp [List.getElem?_range h2, zzup, Ne.symm hi]
    · simp [List.getElem?_eq_none (l := List.range M) (i := i) (by simpa using h2)]
theorem zzD {cI cZ : ClassId} {al : Nat → Nat} {M : Nat} {A : Nat → Prop} (hinj : ∀ i j, i < M → j < M → al i = al j → i = j) (hA : ∀ k, k < M → A (al k)) (w : zzW) : va_D A (zzwl cI cZ al M w) := by
  have key : ∀ (i : Nat) (p : Nat × va_E), (zzwl cI cZ al M w)[i]? = some p → i < M ∧ p.1 = al i := by
    intro i p hp
    by_cases h2 : i < M
    · simp only [zzwl, List.getElem?_map, List.getElem?_range h2, Option.map_some, Option.some.injEq] at hp
      subst hp
      exact ⟨h2, rfl⟩
    · simp [zzwl, List.getElem?_eq_none (l := List.range M) (i := i) (by simpa using h2)] at hp
  refine ⟨fun i j p q hp hq e => ?_, fun k q hq => ?_⟩
  · obtain ⟨h1, h2⟩ := key i p hp
    obtain ⟨h3, h4⟩ := key j q hq
    exact hinj i j h1 h3 (by rw [← h2, ← h4]; exact e)
  · obtain ⟨h1, h2⟩ := key k q hq
    rw [h2]
    exact hA k h1
theorem zzget_mem {i : Nat} {v : Value} : ∀ {ls : zzL}, zzget ls i = some v → (i, v) ∈ ls
  | [], h => by simp [zzget] at h
  | (j, u) :: t, h => by
    unfold zzget at h
    cases e : Nat.beq j i with
    | true =>
      rw [e] at h
      cases h
      have : j = i := Nat.eq_of_beq_eq_true e
      subst this
      exact List.mem_cons_self
    | false =>
      rw [e] at h
      exact List.mem_cons_of_mem _ (zzget_mem h)
theorem zzget_has {al : Nat → Nat} {ls : zzL} {ls' : Array Slot} {nL i : Nat} {v : Value} (h : lv_has ls' nL (ls.map (zzq al))) (hg : zzget ls i = some v) : ls'[i]? = some (.val (zzv al v)) :=
  h.2.2 (i, zzv al v) (List.mem_map.mpr ⟨(i, v), zzget_mem hg, rfl⟩)
theorem zzins_mem {i : Nat} {v : Value} {q : Nat × Value} : ∀ {l : zzL}, q ∈ zzins i v l → q = (i, v) ∨ q ∈ l
  | [], h => by
    simp only [zzins, List.mem_singleton] at h
    exact Or.inl h
  | p :: t, h => by
    unfold zzins at h
    cases e : Nat.ble i p.1 with
    | true =>
      rw [e] at h
      exact List.mem_cons.mp h
    | false =>
      rw [e] at h
      rcases List.mem_cons.mp h with h | h
      · exact Or.inr (h ▸ List.mem_cons_self)
      · rcases zzins_mem h with h | h
        · exact Or.inl h
        · exact Or.inr (List.mem_cons_of_mem _ h)
theorem zzdel_mem {i : Nat} {q : Nat × Value} : ∀ {l : zzL}, q ∈ zzdel i l → q ∈ l ∧ q.1 ≠ i ∧ ¬ (q.1 + 1 = i ∧ q.2.category = 2)
  | [], h => by simp [zzdel] at h
  | p :: t, h => by
    unfold zzdel at h
    cases e : (Nat.beq p.1 i || (Nat.beq (p.1 + 1) i && Nat.beq p.2.category 2)) with
    | true =>
      rw [e] at h
      obtain ⟨a, b⟩ := zzdel_mem h
      exact ⟨List.mem_cons_of_mem _ a, b⟩
    | false =>
      rw [e] at h
      rcases List.mem_cons.mp h with rfl | h
      · simp only [Bool.or_eq_false_iff, Bool.and_eq_false_iff] at e
        refine ⟨List.mem_cons_self, fun z => ?_, fun z => ?_⟩
        · have := e.1
          rw [z] at this
          simp at this
        · rcases e.2 with e | e
          · rw [z.1] at e; simp at e
          · rw [z.2] at e; simp at e
      · obtain ⟨a, b⟩ := zzdel_mem h
        exact ⟨List.mem_cons_of_mem _ a, b⟩
theorem zzdel2_mem {i : Nat} {q : Nat × Value} : ∀ {l : zzL}, q ∈ zzdel2 i l → q ∈ l ∧ q.1 ≠ i ∧ q.1 ≠ i + 1 ∧ ¬ (q.1 + 1 = i ∧ q.2.category = 2)
  | [], h => by simp [zzdel2] at h
  | p :: t, h => by
    unfold zzdel2 at h
    cases e : (Nat.beq p.1 i || (Nat.beq p.1 (i + 1) || (Nat.beq (p.1 + 1) i && Nat.beq p.2.category 2))) with
    | true =>
      rw [e] at h
      obtain ⟨a, b⟩ := zzdel2_mem h
      exact ⟨List.mem_cons_of_mem _ a, b⟩
    | false =>
      rw [e] at h
      rcases List.mem_cons.mp h with rfl | h
      · simp only [Bool.or_eq_false_iff, Bool.and_eq_false_iff] at e
        refine ⟨List.mem_cons_self, fun z => ?_, fun z => ?_, fun z => ?_⟩
        · have := e.1
          rw [z] at this
          simp at this
        · have := e.2.1
          rw [z] at this
          simp at this
        · rcases e.2.2 with e | e
          · rw [z.1] at e; simp at e
          · rw [z.2] at e; simp at e
      · obtain ⟨a, b⟩ := zzdel2_mem h
        exact ⟨List.mem_cons_of_mem _ a, b⟩
theorem zzput_has {al : Nat → Nat} {ls : zzL} {ls' : Array Slot} {nL i : Nat} {v : Value} (h : lv_has ls' nL ((i, zzv al v) :: (ls.map (zzq al)).filter (fun q => !(q.1 == i) && !(q.1 + 1 == i && q.2.category == 2)))) : lv_has ls' nL ((zzput ls i v).map (zzq al)) := by
  refine ⟨h.1, h.2.1, fun q hq => h.2.2 q ?_⟩
  obtain ⟨r, hr, rfl⟩ := List.mem_map.mp hq
  rcases zzins_mem hr with rfl | hr
  · exact List.mem_cons_self
  · obtain ⟨a, b, d⟩ := zzdel_mem hr
    refine List.mem_cons_of_mem _ (List.mem_filter.mpr ⟨List.mem_map.mpr ⟨r, a, rfl⟩, ?_⟩)
    have hc : (zzq al r).2.category = r.2.category := zzv_cat al r.2
    have h1 : (zzq al r).1 = r.1 := rfl
    rw [hc, h1]
    simp only [Bool.and_eq_true, Bool.not_eq_true', Bool.and_eq_false_iff, beq_eq_false_iff_ne]
    refine ⟨b, ?_⟩
    by_cases z : r.1 + 1 = i
    · exact Or.inr (fun z2 => d ⟨z, z2⟩)
    · exact Or.inl z
theorem zzput2_has {al : Nat → Nat} {ls : zzL} {ls' : Array Slot} {nL i : Nat} {v : Value} (h : lv_has ls' nL ((i, zzv al v) :: (ls.map (zzq al)).filter (fun q => !(q.1 == i) && (!(q.1 == i + 1) && !(q.1 + 1 == i && q.2.category == 2))))) : lv_has ls' nL ((zzput2 ls i v).map (zzq al)) := by
  refine ⟨h.1, h.2.1, fun q hq => h.2.2 q ?_⟩
  obtain ⟨r, hr, rfl⟩ := List.mem_map.mp hq
  rcases zzins_mem hr with rfl | hr
  · exact List.mem_cons_self
  · obtain ⟨a, b, b2, d⟩ := zzdel2_mem hr
    refine List.mem_cons_of_mem _ (List.mem_filter.mpr ⟨List.mem_map.mpr ⟨r, a, rfl⟩, ?_⟩)
    have hc : (zzq al r).2.category = r.2.category := zzv_cat al r.2
    have h1 : (zzq al r).1 = r.1 := rfl
    rw [hc, h1]
    simp only [Bool.and_eq_true, Bool.not_eq_true', Bool.and_eq_false_iff, beq_eq_false_iff_ne]
    refine ⟨b, b2, ?_⟩
    by_cases z : r.1 + 1 = i
    · exact Or.inr (fun z2 => d ⟨z, z2⟩)
    · exact Or.inl z
/-- what a method of the system finds: the tables' words of arrays and classes, the nest words, the tables that nobody writes -/
def zzEnv (D : va_G) (cI cZ : ClassId) (al : Nat → Nat) (zs : zzT) (A : Nat → Prop) (U : State) : Prop :=
  va_K D vwCl [(cI, .int), (cZ, .boolean)] U ∧ (∀ w ∈ zzN0, va_Nw w U) ∧ (∀ (t n : Nat) (f : Nat → Int32), zs t = some (n, f) → va_T .int (al t) n (fun j => .int (f j)) A U U.heap) ∧
  va_Z "IslandsWed" "CURRENT_SHARE" "[I" (.ref (al zzSA)) A U U.heap ∧ va_Z "IslandsWed" "WIND_SHARE" "[I" (.ref (al zzSB)) A U U.heap
theorem zzEnv.call {D : va_G} {cI cZ : ClassId} {al : Nat → Nat} {zs : zzT} {A : Nat → Prop} {U : State} (h : zzEnv D cI cZ al zs A U) (g : JFrame) (mk : MethodId) (a : Array Value) : zzEnv D cI cZ al zs A (U.calling g mk a) :=
  ⟨va_K.moved (u := U) (U := U.calling g mk a) (Vm.Alike.refl U.vm) h.1, fun w hw => va_Nw.same (u := U) (by rcases zzN0_kind w hw with ⟨_, _, _, _, _, _, rfl⟩ | ⟨_, _, _, _, rfl⟩ <;> rfl) rfl (h.2.1 w hw), fun t n f e => va_T.moved (u := U) (U := U.calling g mk a) (Vm.Alike.refl U.vm) (h.2.2.1 t n f e), va_Z.moved (u := U) (U := U.calling g mk a) (Vm.Alike.refl U.vm) h.2.2.2.1, va_Z.moved (u := U) (U := U.calling g mk a) (Vm.Alike.refl U.vm) h.2.2.2.2⟩
theorem zzEnv.go {D : va_G} {cI cZ : ClassId} {al : Nat → Nat} {zs : zzT} {A B : Nat → Prop} {s U : State} {H : Heap} {locs : List Loc} (h : zzEnv D cI cZ al zs A s) (hS : va_S A s.heap H locs) (hU : U.heap = H) (hW : s.WarmedH U.vm) (hAB : ∀ q, B q → A q) : zzEnv D cI cZ al zs B U := by
  subst hU
  refine ⟨va_K.moved hW.alike h.1, fun w hw => ?_, fun t n f e => ?_, ?_, ?_⟩
  · have h2 := h.2.1 w hw
    rcases zzN0_kind w hw with ⟨_, _, _, _, _, _, rfl⟩ | ⟨_, _, _, _, rfl⟩
    · exact va_Nw.warmF hW h2
    · exact va_Nw.warmM hW h2
  · exact ((va_T.moved hW.alike (h.2.2.1 t n f e)).kept (fun a h1 h2 => hS.2.1 a h1 h2)).narrow hAB
  · exact ((va_Z.moved hW.alike h.2.2.2.1).kept (fun a h1 h2 => hS.2.1 a h1 h2)).narrow hAB
  · exact ((va_Z.moved hW.alike h.2.2.2.2).kept (fun a h1 h2 => hS.2.1 a h1 h2)).narrow hAB
def zzA (al : Nat → Nat) (M sz : Nat) : Nat → Prop := fun q => (∃ k, k < M ∧ q = al k) ∨ sz ≤ q
def zzrm (d : Nat) : Room := { frames := d, cells := 0, slots := 0, locals := 64 * d }
def zzPc (D : va_G) (cI cZ : ClassId) (al : Nat → Nat) (M : Nat) (zs : zzT) (av : List Value) (w : zzW) (sz : Nat) : Array Value → State → Prop :=
  va_Pc (av.map (zzv al)) (fun U => U.heap.size = sz ∧ zzok M w ∧ va_P D vwCl (zzwl cI cZ al M w) U.heap ∧ zzEnv D cI cZ al zs (zzA al M sz) U)
def zzQc (D : va_G) (cI cZ : ClassId) (al : Nat → Nat) (M : Nat) (Q : zzQ) (sz : Nat) : Array Value → State → Outcome → State → Prop := fun _ st oc t =>
  (∃ (r : List Value) (w1 : zzW), zzok M w1 ∧ Q r w1 ∧ r.length ≤ 1 ∧ oc = .returned ((r.map (zzv al)).head?) ∧ va_P D vwCl (zzwl cI cZ al M w1) t.heap) ∧ va_F (zzA al M sz) st t
def zzRW (p : Program) (l : Launch) (e : Env) (Rm : Room) (s : State) (m : MethodId) (args : Array Value) (below : List Frame) (meth : Method) (c : Code) (Z : State → Prop) (D : va_G) (cI cZ : ClassId) (al : Nat → Nat) (M : Nat) (A : Nat → Prop) (cells slots nL : Nat) : zzS := fun pc ls st w =>
  zzok M w → ∀ (H : Heap) (locs : List Loc) (ls1 : Array Slot), va_P D vwCl (zzwl cI cZ al M w) H → va_S A s.heap H locs → lv_has ls1 nL (ls.map (zzq al)) → W p l e Rm s m args below meth c H locs cells slots Z (F0 m pc ls1 (st.map (zzv al)))
/-- where the walk stands: the machine, the method's code, its class, the words, the world's addresses -/
def zzcx (p : Program) (Rm : Room) (s : State) (m : MethodId) (args : Array Value) (c : Code) (D : va_G) (cI cZ : ClassId) (al : Nat → Nat) (M : Nat) (A : Nat → Prop) (nL : Nat) (zs : zzT) (cc : ByteArray) (o cells slots : Nat) : Prop :=
  p.tables.exec = Jvm.exec ∧ c.code = cc ∧ c.maxLocals = nL ∧ s.vm.findClass (zzR o) = some m.cls ∧ (∀ w ∈ zzT0, w.before args s = true) ∧ zzEnv D cI cZ al zs A s ∧ (∀ i j, i < M → j < M → al i = al j → i = j) ∧ (∀ k, k < M → A (al k)) ∧ (∀ q, s.heap.size ≤ q → A q) ∧ (1 ≤ Rm.frames ∧ 40 ≤ Rm.locals ∧ cells ≤ Rm.cells ∧ slots ≤ Rm.slots)
set_option maxRecDepth 20000 in
theorem zzkl_in {o idx : Nat} {v : Int64} (h : zzkl o idx = some v) : Cond.constantLong (zzR o) idx v ∈ zzT0 := zzin_mem (List.all_eq_true.mp zzkl_ok ((o, idx), v) (zz_lookup h))
theorem zzki_in {o idx : Nat} {v : Int32} (h : zzki o idx = some v) : Cond.constant (zzR o) idx v ∈ zzT0 := zzin_mem (List.all_eq_true.mp zzki_ok ((o, idx), v) (zz_lookup h))
section ZS
variable {p : Program} {l : Launch} {e : Env} {Rm : Room} {s : State} {m : MethodId} {args : Array Value} {below : List Frame} {meth : Method} {c : Code} {Z : State → Prop} {D : va_G} {cI cZ : ClassId} {al : Nat → Nat} {M : Nat} {A : Nat → Prop} {cells slots nL : Nat} {zs : zzT} {CL : zzK} {cc : ByteArray} {o : Nat} {rt : Option FieldType} {Q : zzQ}
theorem zs_iconst (C : zzcx p Rm s m args c D cI cZ al M A nL zs cc o cells slots) : zr_iconst zs CL cc o nL rt Q (zzRW p l e Rm s m args below meth c Z D cI cZ al M A cells slots nL) := by
  intro pc ls st w n v hd hv kk hok H locs ls1 hP hS hl
  exact lv_iconst C.1 C.2.1 hd hv (kk hok H locs ls1 hP hS hl)
theorem zs_bipush (C : zzcx p Rm s m args c D cI cZ al M A nL zs cc o cells slots) : zr_bipush zs CL cc o nL rt Q (zzRW p l e Rm s m args below meth c Z D cI cZ al M A cells slots nL) := by
  intro pc ls st w n v hd hv kk hok H locs ls1 hP hS hl
  exact lv_bipush C.1 C.2.1 hd hv (kk hok H locs ls1 hP hS hl)
theorem zs_lconst (C : zzcx p Rm s m args c D cI cZ al M A nL zs cc o cells slots) : zr_lconst zs CL cc o nL rt Q (zzRW p l e Rm s m args below meth c Z D cI cZ al M A cells slots nL) := by
  intro pc ls st w n v hd hv kk hok H locs ls1 hP hS hl
  exact lv_lconst C.1 C.2.1 hd hv (kk hok H locs ls1 hP hS hl)
theorem zs_ldc (C : zzcx p Rm s m args c D cI cZ al M A nL zs cc o cells slots) : zr_ldc zs CL cc o nL rt Q (zzRW p l e Rm s m args below meth c Z D cI cZ al M A cells slots nL) := by
  intro pc ls st w idx v hd hv kk hok H locs ls1 hP hS hl
  exact lv_ldc C.1 C.2.1 C.2.2.2.1 (C.2.2.2.2.1 _ (zzki_in hv)) hd (kk hok H locs ls1 hP hS hl)
theorem zs_ldcw (C : zzcx p Rm s m args c D cI cZ al M A nL zs cc o cells slots) : zr_ldcw zs CL cc o nL rt Q (zzRW p l e Rm s m args below meth c Z D cI cZ al M A cells slots nL) := by
  intro pc ls st w idx v hd hv kk hok H locs ls1 hP hS hl
  exact lv_ldcw C.1 C.2.1 C.2.2.2.1 (C.2.2.2.2.1 _ (zzki_in hv)) hd (kk hok H locs ls1 hP hS hl)
theorem zs_ldc2 (C : zzcx p Rm s m args c D cI cZ al M A nL zs cc o cells slots) : zr_ldc2 zs CL cc o nL rt Q (zzRW p l e Rm s m args below meth c Z D cI cZ al M A cells slots nL) := by
  intro pc ls st w idx v hd hv kk hok H locs ls1 hP hS hl
  exact lv_ldc2 C.1 C.2.1 C.2.2.2.1 (C.2.2.2.2.1 _ (zzkl_in hv)) hd (kk hok H locs ls1 hP hS hl)
theorem zs_iload_n (C : zzcx p Rm s m args c D cI cZ al M A nL zs cc o cells slots) : zr_iload_n zs CL cc o nL rt Q (zzRW p l e Rm s m args below meth c Z D cI cZ al M A cells slots nL) := by
  intro pc ls st w j i x hd hj hg kk hok H locs ls1 hP hS hl
  exact lv_iload_n C.1 C.2.1 hd hj (zzget_has hl hg) (kk hok H locs ls1 hP hS hl)
theorem zs_iload (C : zzcx p Rm s m args c D cI cZ al M A nL zs cc o cells slots) : zr_iload zs CL cc o nL rt Q (zzRW p l e Rm s m args below meth c Z D cI cZ al M A cells slots nL) := by
  intro pc ls st w i x hd hg kk hok H locs ls1 hP hS hl
  exact lv_iload C.1 C.2.1 hd (zzget_has hl hg) (kk hok H locs ls1 hP hS hl)
theorem zs_lload_n (C : zzcx p Rm s m args c D cI cZ al M A nL zs cc o cells slots) : zr_lload_n zs CL cc o nL rt Q (zzRW p l e Rm s m args below meth c Z D cI cZ al M A cells slots nL) := by
  intro pc ls st w j i x hd hj hg kk hok H locs ls1 hP hS hl
  exact lv_lload_n C.1 C.2.1 hd hj (zzget_has hl hg) (kk hok H locs ls1 hP hS hl)
theorem zs_lload (C : zzcx p Rm s m args c D cI cZ al M A nL zs cc o cells slots) : zr_lload zs CL cc o nL rt Q (zzRW p l e Rm s m args below meth c Z D cI cZ al M A cells slots nL) := by
  intro pc ls st w i x hd hg kk hok H locs ls1 hP hS hl
  exact lv_lload C.1 C.2.1 hd (zzget_has hl hg) (kk hok H locs ls1 hP hS hl)
theorem zs_aload_n (C : zzcx p Rm s m args c D cI cZ al M A nL zs cc o cells slots) : zr_aload_n zs CL cc o nL rt Q (zzRW p l e Rm s m args below meth c Z D cI cZ al M A cells slots nL) := by
  intro pc ls st w j i x hd hj hg kk hok H locs ls1 hP hS hl
  exact lv_aload_n C.1 C.2.1 hd hj (zzget_has hl hg) (kk hok H locs ls1 hP hS hl)
theorem zs_aload (C : zzcx p Rm s m args c D cI cZ al M A nL zs cc o cells slots) : zr_aload zs CL cc o nL rt Q (zzRW p l e Rm s m args below meth c Z D cI cZ al M A cells slots nL) := by
  intro pc ls st w i x hd hg kk hok H locs ls1 hP hS hl
  exact lv_aload C.1 C.2.1 hd (zzget_has hl hg) (kk hok H locs ls1 hP hS hl)
theorem zs_istore_n (C : zzcx p Rm s m args c D cI cZ al M A nL zs cc o cells slots) : zr_istore_n zs CL cc o nL rt Q (zzRW p l e Rm s m args below meth c Z D cI cZ al M A cells slots nL) := by
  intro pc ls st w j i x ls1 hd hj hn hp kk hok H locs ls1 hP hS hl
  subst hp
  exact lv_istore_n C.1 C.2.1 hd hj hl hn rfl (fun ls2 hl2 => kk hok H locs ls2 hP hS (zzput_has hl2))
theorem zs_istore (C : zzcx p Rm s m args c D cI cZ al M A nL zs cc o cells slots) : zr_istore zs CL cc o nL rt Q (zzRW p l e Rm s m args below meth c Z D cI cZ al M A cells slots nL) := by
  intro pc ls st w i x ls1 hd hn hp kk hok H locs ls1 hP hS hl
  subst hp
  exact lv_istore C.1 C.2.1 hd hl hn rfl (fun ls2 hl2 => kk hok H locs ls2 hP hS (zzput_has hl2))
theorem zs_lstore_n (C : zzcx p Rm s m args c D cI cZ al M A nL zs cc o cells slots) : zr_lstore_n zs CL cc o nL rt Q (zzRW p l e Rm s m args below meth c Z D cI cZ al M A cells slots nL) := by
  intro pc ls st w j i x ls1 hd hj hn hp kk hok H locs ls1 hP hS hl
  subst hp
  exact lv_lstore_n C.1 C.2.1 hd hj hl hn rfl (fun ls2 hl2 => kk hok H locs ls2 hP hS (zzput2_has hl2))
theorem zs_lstore (C : zzcx p Rm s m args c D cI cZ al M A nL zs cc o cells slots) : zr_lstore zs CL cc o nL rt Q (zzRW p l e Rm s m args below meth c Z D cI cZ al M A cells slots nL) := by
  intro pc ls st w i x ls1 hd hn hp kk hok H locs ls1 hP hS hl
  subst hp
  exact lv_lstore C.1 C.2.1 hd hl hn rfl (fun ls2 hl2 => kk hok H locs ls2 hP hS (zzput2_has hl2))
theorem zs_astore_n (C : zzcx p Rm s m args c D cI cZ al M A nL zs cc o cells slots) : zr_astore_n zs CL cc o nL rt Q (zzRW p l e Rm s m args below meth c Z D cI cZ al M A cells slots nL) := by
  intro pc ls st w j i x ls1 hd hj hn hp kk hok H locs ls1 hP hS hl
  subst hp
  exact lv_astore_n C.1 C.2.1 hd hj hl hn rfl (fun ls2 hl2 => kk hok H locs ls2 hP hS (zzput_has hl2))
theorem zs_astore (C : zzcx p Rm s m args c D cI cZ al M A nL zs cc o cells slots) : zr_astore zs CL cc o nL rt Q (zzRW p l e Rm s m args below meth c Z D cI cZ al M A cells slots nL) := by
  intro pc ls st w i x ls1 hd hn hp kk hok H locs ls1 hP hS hl
  subst hp
  exact lv_astore C.1 C.2.1 hd hl hn rfl (fun ls2 hl2 => kk hok H locs ls2 hP hS (zzput_has hl2))
theorem zs_iinc (C : zzcx p Rm s m args c D cI cZ al M A nL zs cc o cells slots) : zr_iinc zs CL cc o nL rt Q (zzRW p l e Rm s m args below meth c Z D cI cZ al M A cells slots nL) := by
  intro pc ls st w i n x v ls1 hd hg hv hn hp kk hok H locs ls1 hP hS hl
  subst hp
  obtain ⟨k0, hk0⟩ := List.getElem?_of_mem (List.mem_map.mpr ⟨(i, .int x), zzget_mem hg, rfl⟩ : zzq al (i, .int x) ∈ ls.map (zzq al))
  exact lv_iinc C.1 C.2.1 hd hl (k := k0) hk0 hv hn rfl (fun ls2 hl2 => kk hok H locs ls2 hP hS (zzput_has (v := .int v) hl2))
theorem zs_iadd (C : zzcx p Rm s m args c D cI cZ al M A nL zs cc o cells slots) : zr_iadd zs CL cc o nL rt Q (zzRW p l e Rm s m args below meth c Z D cI cZ al M A cells slots nL) := by
  intro pc ls st w x y v hd hv kk hok H locs ls1 hP hS hl
  subst hv
  exact lv_iadd C.1 C.2.1 hd (kk hok H locs ls1 hP hS hl)
theorem zs_isub (C : zzcx p Rm s m args c D cI cZ al M A nL zs cc o cells slots) : zr_isub zs CL cc o nL rt Q (zzRW p l e Rm s m args below meth c Z D cI cZ al M A cells slots nL) := by
  intro pc ls st w x y v hd hv kk hok H locs ls1 hP hS hl
  subst hv
  exact lv_isub C.1 C.2.1 hd (kk hok H locs ls1 hP hS hl)
theorem zs_imul (C : zzcx p Rm s m args c D cI cZ al M A nL zs cc o cells slots) : zr_imul zs CL cc o nL rt Q (zzRW p l e Rm s m args below meth c Z D cI cZ al M A cells slots nL) := by
  intro pc ls st w x y v hd hv kk hok H locs ls1 hP hS hl
  subst hv
  exact lv_imul C.1 C.2.1 hd (kk hok H locs ls1 hP hS hl)
theorem zs_iand (C : zzcx p Rm s m args c D cI cZ al M A nL zs cc o cells slots) : zr_iand zs CL cc o nL rt Q (zzRW p l e Rm s m args below meth c Z D cI cZ al M A cells slots nL) := by
  intro pc ls st w x y v hd hv kk hok H locs ls1 hP hS hl
  subst hv
  exact lv_iand C.1 C.2.1 hd (kk hok H locs ls1 hP hS hl)
theorem zs_ior (C : zzcx p Rm s m args c D cI cZ al M A nL zs cc o cells slots) : zr_ior zs CL cc o nL rt Q (zzRW p l e Rm s m args below meth c Z D cI cZ al M A cells slots nL) := by
  intro pc ls st w x y v hd hv kk hok H locs ls1 hP hS hl
  subst hv
  exact lv_ior C.1 C.2.1 hd (kk hok H locs ls1 hP hS hl)
theorem zs_ixor (C : zzcx p Rm s m args c D cI cZ al M A nL zs cc o cells slots) : zr_ixor zs CL cc o nL rt Q (zzRW p l e Rm s m args below meth c Z D cI cZ al M A cells slots nL) := by
  intro pc ls st w x y v hd hv kk hok H locs ls1 hP hS hl
  subst hv
  exact lv_ixor C.1 C.2.1 hd (kk hok H locs ls1 hP hS hl)
theorem zs_ishl (C : zzcx p Rm s m args c D cI cZ al M A nL zs cc o cells slots) : zr_ishl zs CL cc o nL rt Q (zzRW p l e Rm s m args below meth c Z D cI cZ al M A cells slots nL) := by
  intro pc ls st w x y v hd hv kk hok H locs ls1 hP hS hl
  subst hv
  exact lv_ishl C.1 C.2.1 hd (kk hok H locs ls1 hP hS hl)
theorem zs_ishr (C : zzcx p Rm s m args c D cI cZ al M A nL zs cc o cells slots) : zr_ishr zs CL cc o nL rt Q (zzRW p l e Rm s m args below meth c Z D cI cZ al M A cells slots nL) := by
  intro pc ls st w x y v hd hv kk hok H locs ls1 hP hS hl
  subst hv
  exact lv_ishr C.1 C.2.1 hd (kk hok H locs ls1 hP hS hl)
theorem zs_ladd (C : zzcx p Rm s m args c D cI cZ al M A nL zs cc o cells slots) : zr_ladd zs CL cc o nL rt Q (zzRW p l e Rm s m args below meth c Z D cI cZ al M A cells slots nL) := by
  intro pc ls st w x y v hd hv kk hok H locs ls1 hP hS hl
  subst hv
  exact lv_ladd C.1 C.2.1 hd (kk hok H locs ls1 hP hS hl)
theorem zs_lmul (C : zzcx p Rm s m args c D cI cZ al M A nL zs cc o cells slots) : zr_lmul zs CL cc o nL rt Q (zzRW p l e Rm s m args below meth c Z D cI cZ al M A cells slots nL) := by
  intro pc ls st w x y v hd hv kk hok H locs ls1 hP hS hl
  subst hv
  exact lv_lmul C.1 C.2.1 hd (kk hok H locs ls1 hP hS hl)
theorem zs_land (C : zzcx p Rm s m args c D cI cZ al M A nL zs cc o cells slots) : zr_land zs CL cc o nL rt Q (zzRW p l e Rm s m args below meth c Z D cI cZ al M A cells slots nL) := by
  intro pc ls st w x y v hd hv kk hok H locs ls1 hP hS hl
  subst hv
  exact lv_land C.1 C.2.1 hd (kk hok H locs ls1 hP hS hl)
theorem zs_ineg (C : zzcx p Rm s m args c D cI cZ al M A nL zs cc o cells slots) : zr_ineg zs CL cc o nL rt Q (zzRW p l e Rm s m args below meth c Z D cI cZ al M A cells slots nL) := by
  intro pc ls st w x v hd hv kk hok H locs ls1 hP hS hl
  subst hv
  exact lv_ineg C.1 C.2.1 hd (kk hok H locs ls1 hP hS hl)
theorem zs_idiv (C : zzcx p Rm s m args c D cI cZ al M A nL zs cc o cells slots) : zr_idiv zs CL cc o nL rt Q (zzRW p l e Rm s m args below meth c Z D cI cZ al M A cells slots nL) := by
  intro pc ls st w x y v hd h0 hv kk hok H locs ls1 hP hS hl
  subst hv
  exact lv_idiv C.1 C.2.1 hd h0 (kk hok H locs ls1 hP hS hl)
theorem zs_irem (C : zzcx p Rm s m args c D cI cZ al M A nL zs cc o cells slots) : zr_irem zs CL cc o nL rt Q (zzRW p l e Rm s m args below meth c Z D cI cZ al M A cells slots nL) := by
  intro pc ls st w x y v hd h0 hv kk hok H locs ls1 hP hS hl
  subst hv
  exact lv_irem C.1 C.2.1 hd h0 (kk hok H locs ls1 hP hS hl)
theorem zs_iushr (C : zzcx p Rm s m args c D cI cZ al M A nL zs cc o cells slots) : zr_iushr zs CL cc o nL rt Q (zzRW p l e Rm s m args below meth c Z D cI cZ al M A cells slots nL) := by
  intro pc ls st w x y v hd hv kk hok H locs ls1 hP hS hl
  exact lv_iushr C.1 C.2.1 hd hv (kk hok H locs ls1 hP hS hl)
theorem zs_lcmp (C : zzcx p Rm s m args c D cI cZ al M A nL zs cc o cells slots) : zr_lcmp zs CL cc o nL rt Q (zzRW p l e Rm s m args below meth c Z D cI cZ al M A cells slots nL) := by
  intro pc ls st w x y v hd hv kk hok H locs ls1 hP hS hl
  subst hv
  exact W.lcmp C.1 C.2.1 hd (kk hok H locs ls1 hP hS hl)
theorem zs_i2l (C : zzcx p Rm s m args c D cI cZ al M A nL zs cc o cells slots) : zr_i2l zs CL cc o nL rt Q (zzRW p l e Rm s m args below meth c Z D cI cZ al M A cells slots nL) := by
  intro pc ls st w x v hd hv kk hok H locs ls1 hP hS hl
  exact lv_i2l C.1 C.2.1 hd hv (kk hok H locs ls1 hP hS hl)
theorem zs_l2i (C : zzcx p Rm s m args c D cI cZ al M A nL zs cc o cells slots) : zr_l2i zs CL cc o nL rt Q (zzRW p l e Rm s m args below meth c Z D cI cZ al M A cells slots nL) := by
  intro pc ls st w x v hd hv kk hok H locs ls1 hP hS hl
  exact lv_l2i C.1 C.2.1 hd hv (kk hok H locs ls1 hP hS hl)
theorem zs_dup (C : zzcx p Rm s m args c D cI cZ al M A nL zs cc o cells slots) : zr_dup zs CL cc o nL rt Q (zzRW p l e Rm s m args below meth c Z D cI cZ al M A cells slots nL) := by
  intro pc ls st w u hd hu kk hok H locs ls1 hP hS hl
  exact lv_dup C.1 C.2.1 hd ((zzv_cat al u).trans hu) (kk hok H locs ls1 hP hS hl)
theorem zs_pop (C : zzcx p Rm s m args c D cI cZ al M A nL zs cc o cells slots) : zr_pop zs CL cc o nL rt Q (zzRW p l e Rm s m args below meth c Z D cI cZ al M A cells slots nL) := by
  intro pc ls st w u hd hu kk hok H locs ls1 hP hS hl
  exact lv_pop C.1 C.2.1 hd ((zzv_cat al u).trans hu) (kk hok H locs ls1 hP hS hl)
theorem zs_dup2 (C : zzcx p Rm s m args c D cI cZ al M A nL zs cc o cells slots) : zr_dup2 zs CL cc o nL rt Q (zzRW p l e Rm s m args below meth c Z D cI cZ al M A cells slots nL) := by
  intro pc ls st w u v hd hu hv kk hok H locs ls1 hP hS hl
  exact lv_dup2_11 C.1 C.2.1 hd ((zzv_cat al u).trans hu) ((zzv_cat al v).trans hv) (kk hok H locs ls1 hP hS hl)
theorem zs_if_eq (C : zzcx p Rm s m args c D cI cZ al M A nL zs cc o cells slots) : zr_if_eq zs CL cc o nL rt Q (zzRW p l e Rm s m args below meth c Z D cI cZ al M A cells slots nL) := by
  intro pc ls st w x off tgt hd ht kt kf hok H locs ls1 hP hS hl
  exact lv_if_eq C.1 C.2.1 hd ht (fun h => kt h hok H locs ls1 hP hS hl) (fun h => kf h hok H locs ls1 hP hS hl)
theorem zs_icmp_eq (C : zzcx p Rm s m args c D cI cZ al M A nL zs cc o cells slots) : zr_icmp_eq zs CL cc o nL rt Q (zzRW p l e Rm s m args below meth c Z D cI cZ al M A cells slots nL) := by
  intro pc ls st w x y off tgt hd ht kt kf hok H locs ls1 hP hS hl
  exact lv_icmp_eq C.1 C.2.1 hd ht (fun h => kt h hok H locs ls1 hP hS hl) (fun h => kf h hok H locs ls1 hP hS hl)
theorem zs_if_ne (C : zzcx p Rm s m args c D cI cZ al M A nL zs cc o cells slots) : zr_if_ne zs CL cc o nL rt Q (zzRW p l e Rm s m args below meth c Z D cI cZ al M A cells slots nL) := by
  intro pc ls st w x off tgt hd ht kt kf hok H locs ls1 hP hS hl
  exact lv_if_ne C.1 C.2.1 hd ht (fun h => kt h hok H locs ls1 hP hS hl) (fun h => kf h hok H locs ls1 hP hS hl)
theorem zs_icmp_ne (C : zzcx p Rm s m args c D cI cZ al M A nL zs cc o cells slots) : zr_icmp_ne zs CL cc o nL rt Q (zzRW p l e Rm s m args below meth c Z D cI cZ al M A cells slots nL) := by
  intro pc ls st w x y off tgt hd ht kt kf hok H locs ls1 hP hS hl
  exact lv_icmp_ne C.1 C.2.1 hd ht (fun h => kt h hok H locs ls1 hP hS hl) (fun h => kf h hok H locs ls1 hP hS hl)
theorem zs_if_lt (C : zzcx p Rm s m args c D cI cZ al M A nL zs cc o cells slots) : zr_if_lt zs CL cc o nL rt Q (zzRW p l e Rm s m args below meth c Z D cI cZ al M A cells slots nL) := by
  intro pc ls st w x off tgt hd ht kt kf hok H locs ls1 hP hS hl
  exact lv_if_lt C.1 C.2.1 hd ht (fun h => kt h hok H locs ls1 hP hS hl) (fun h => kf h hok H locs ls1 hP hS hl)
theorem zs_icmp_lt (C : zzcx p Rm s m args c D cI cZ al M A nL zs cc o cells slots) : zr_icmp_lt zs CL cc o nL rt Q (zzRW p l e Rm s m args below meth c Z D cI cZ al M A cells slots nL) := by
  intro pc ls st w x y off tgt hd ht kt kf hok H locs ls1 hP hS hl
  exact lv_icmp_lt C.1 C.2.1 hd ht (fun h => kt h hok H locs ls1 hP hS hl) (fun h => kf h hok H locs ls1 hP hS hl)
theorem zs_if_ge (C : zzcx p Rm s m args c D cI cZ al M A nL zs cc o cells slots) : zr_if_ge zs CL cc o nL rt Q (zzRW p l e Rm s m args below meth c Z D cI cZ al M A cells slots nL) := by
  intro pc ls st w x off tgt hd ht kt kf hok H locs ls1 hP hS hl
  exact lv_if_ge C.1 C.2.1 hd ht (fun h => kt h hok H locs ls1 hP hS hl) (fun h => kf h hok H locs ls1 hP hS hl)
theorem zs_icmp_ge (C : zzcx p Rm s m args c D cI cZ al M A nL zs cc o cells slots) : zr_icmp_ge zs CL cc o nL rt Q (zzRW p l e Rm s m args below meth c Z D cI cZ al M A cells slots nL) := by
  intro pc ls st w x y off tgt hd ht kt kf hok H locs ls1 hP hS hl
  exact lv_icmp_ge C.1 C.2.1 hd ht (fun h => kt h hok H locs ls1 hP hS hl) (fun h => kf h hok H locs ls1 hP hS hl)
theorem zs_if_gt (C : zzcx p Rm s m args c D cI cZ al M A nL zs cc o cells slots) : zr_if_gt zs CL cc o nL rt Q (zzRW p l e Rm s m args below meth c Z D cI cZ al M A cells slots nL) := by
  intro pc ls st w x off tgt hd ht kt kf hok H locs ls1 hP hS hl
  exact lv_if_gt C.1 C.2.1 hd ht (fun h => kt h hok H locs ls1 hP hS hl) (fun h => kf h hok H locs ls1 hP hS hl)
theorem zs_icmp_gt (C : zzcx p Rm s m args c D cI cZ al M A nL zs cc o cells slots) : zr_icmp_gt zs CL cc o nL rt Q (zzRW p l e Rm s m args below meth c Z D cI cZ al M A cells slots nL) := by
  intro pc ls st w x y off tgt hd ht kt kf hok H locs ls1 hP hS hl
  exact lv_icmp_gt C.1 C.2.1 hd ht (fun h => kt h hok H locs ls1 hP hS hl) (fun h => kf h hok H locs ls1 hP hS hl)
theorem zs_if_le (C : zzcx p Rm s m args c D cI cZ al M A nL zs cc o cells slots) : zr_if_le zs CL cc o nL rt Q (zzRW p l e Rm s m args below meth c Z D cI cZ al M A cells slots nL) := by
  intro pc ls st w x off tgt hd ht kt kf hok H locs ls1 hP hS hl
  exact lv_if_le C.1 C.2.1 hd ht (fun h => kt h hok H locs ls1 hP hS hl) (fun h => kf h hok H locs ls1 hP hS hl)
theorem zs_icmp_le (C : zzcx p Rm s m args c D cI cZ al M A nL zs cc o cells slots) : zr_icmp_le zs CL cc o nL rt Q (zzRW p l e Rm s m args below meth c Z D cI cZ al M A cells slots nL) := by
  intro pc ls st w x y off tgt hd ht kt kf hok H locs ls1 hP hS hl
  exact lv_icmp_le C.1 C.2.1 hd ht (fun h => kt h hok H locs ls1 hP hS hl) (fun h => kf h hok H locs ls1 hP hS hl)
theorem zs_goto (C : zzcx p Rm s m args c D cI cZ al M A nL zs cc o cells slots) : zr_goto zs CL cc o nL rt Q (zzRW p l e Rm s m args below meth c Z D cI cZ al M A cells slots nL) := by
  intro pc ls st w off tgt hd ht kk hok H locs ls1 hP hS hl
  exact lv_goto C.1 C.2.1 hd ht (kk hok H locs ls1 hP hS hl)
theorem zs_tabIn (C : zzcx p Rm s m args c D cI cZ al M A nL zs cc o cells slots) : zr_tabIn zs CL cc o nL rt Q (zzRW p l e Rm s m args below meth c Z D cI cZ al M A cells slots nL) := by
  intro pc ls st w dflt lo hi offs len x off tgt hd h1 h2 ho ht kk hok H locs ls1 hP hS hl
  exact lv_tableIn C.1 C.2.1 hd h1 h2 ho ht (kk hok H locs ls1 hP hS hl)
theorem zs_tabOut (C : zzcx p Rm s m args c D cI cZ al M A nL zs cc o cells slots) : zr_tabOut zs CL cc o nL rt Q (zzRW p l e Rm s m args below meth c Z D cI cZ al M A cells slots nL) := by
  intro pc ls st w dflt lo hi offs len x tgt hd h1 ht kk hok H locs ls1 hP hS hl
  exact lv_tableOut C.1 C.2.1 hd h1 ht (kk hok H locs ls1 hP hS hl)
theorem zs_get (C : zzcx p Rm s m args c D cI cZ al M A nL zs cc o cells slots) : zr_get zs CL cc o nL rt Q (zzRW p l e Rm s m args below meth c Z D cI cZ al M A cells slots nL) := by
  intro pc ls st w idx ci sl ne a fs v hd hf hw hv kk hok H locs ls1 hP hS hl
  obtain ⟨hci, hsl, hN, hT⟩ := zzf_ok hf
  have hv2 : (fs.map (zzv al))[sl]? = some (zzv al v) := by rw [List.getElem?_map, hv]; rfl
  cases ne with
  | true => exact va_getN C.1 C.2.1 C.2.2.2.2.1 (zzu_in ci hci) C.2.2.2.1 C.2.2.2.2.2.1.1 hP a (zzwl_at hok hw) (zzcl_at ci hci) sl hsl (va_Nw.use rfl (C.2.2.2.2.2.1.2.1 _ (hN rfl))) (fun _ h9 => h9) hv2 hd (kk hok H locs ls1 hP hS hl)
  | false => exact va_get C.1 C.2.1 C.2.2.2.2.1 (zzu_in ci hci) C.2.2.2.1 C.2.2.2.2.2.1.1 hP a (zzwl_at hok hw) (zzcl_at ci hci) sl hsl (C.2.2.2.2.1 _ (hT rfl)) (fun _ h9 => h9) hv2 hd (kk hok H locs ls1 hP hS hl)
theorem zs_puti (C : zzcx p Rm s m args c D cI cZ al M A nL zs cc o cells slots) : zr_puti zs CL cc o nL rt Q (zzRW p l e Rm s m args below meth c Z D cI cZ al M A cells slots nL) := by
  intro pc ls st w idx ci sl ne a fs x hd hf hw hlt hfin hnar hfit kk hok H locs ls1 hP hS hl
  obtain ⟨hci, hsl, hN, hT⟩ := zzf_ok hf
  have hM := zzok_lt hok hw
  have hl2 : sl < (fs.map (zzv al)).length := by rw [List.length_map]; exact hlt
  have hD : va_D A (zzwl cI cZ al M w) := zzD C.2.2.2.2.2.2.1 C.2.2.2.2.2.2.2.1 w
  have fin : ∀ (H1 : Heap) (locs1 : List Loc), va_P D vwCl ((zzwl cI cZ al M w).set a (al a, .inr (ci, (fs.map (zzv al)).set sl (.int x)))) H1 → va_D A ((zzwl cI cZ al M w).set a (al a, .inr (ci, (fs.map (zzv al)).set sl (.int x)))) → va_S A s.heap H1 locs1 → W p l e Rm s m args below meth c H1 locs1 cells slots Z (F0 m (pc + 3) ls1 (st.map (zzv al))) := by
    intro H1 locs1 hP1 _ hS1
    have e1 : (fs.map (zzv al)).set sl (.int x) = (fs.set sl (.int x)).map (zzv al) := by rw [List.map_set]; rfl
    have hP2 : va_P D vwCl (zzwl cI cZ al M (zzup w a (.inr (ci, fs.set sl (.int x))))) H1 := by
      rw [← zzwl_set hM]
      rw [e1] at hP1
      exact hP1
    exact kk (zzok_up hok hw _) H1 locs1 ls1 hP2 hS1 hl
  cases ne with
  | true => exact va_putN C.1 C.2.1 C.2.2.2.2.1 (zzu_in ci hci) (zzty ci) (zzty_ok ci hci) (zznm_ok ci hci) C.2.2.2.1 C.2.2.2.2.2.1.1 hP hD hS a (zzwl_at hok hw) (zzcl_at ci hci) sl hsl (va_Nw.use rfl (C.2.2.2.2.2.1.2.1 _ (hN rfl))) (fun _ h9 => h9) hfin (zzty_ok ci hci sl hsl) hnar hfit hl2 hd fin
  | false => exact va_put C.1 C.2.1 C.2.2.2.2.1 (zzu_in ci hci) (zzty ci) (zzty_ok ci hci) (zznm_ok ci hci) C.2.2.2.1 C.2.2.2.2.2.1.1 hP hD hS a (zzwl_at hok hw) (zzcl_at ci hci) sl hsl (C.2.2.2.2.1 _ (hT rfl)) (fun _ h9 => h9) hfin (zzty_ok ci hci sl hsl) hnar hfit hl2 hd fin
theorem zs_putl (C : zzcx p Rm s m args c D cI cZ al M A nL zs cc o cells slots) : zr_putl zs CL cc o nL rt Q (zzRW p l e Rm s m args below meth c Z D cI cZ al M A cells slots nL) := by
  intro pc ls st w idx ci sl ne a fs x hd hf hw hlt hfin hnar hfit kk hok H locs ls1 hP hS hl
  obtain ⟨hci, hsl, hN, hT⟩ := zzf_ok hf
  have hM := zzok_lt hok hw
  have hl2 : sl < (fs.map (zzv al)).length := by rw [List.length_map]; exact hlt
  have hD : va_D A (zzwl cI cZ al M w) := zzD C.2.2.2.2.2.2.1 C.2.2.2.2.2.2.2.1 w
  have fin : ∀ (H1 : Heap) (locs1 : List Loc), va_P D vwCl ((zzwl cI cZ al M w).set a (al a, .inr (ci, (fs.map (zzv al)).set sl (.long x)))) H1 → va_D A ((zzwl cI cZ al M w).set a (al a, .inr (ci, (fs.map (zzv al)).set sl (.long x)))) → va_S A s.heap H1 locs1 → W p l e Rm s m args below meth c H1 locs1 cells slots Z (F0 m (pc + 3) ls1 (st.map (zzv al))) := by
    intro H1 locs1 hP1 _ hS1
    have e1 : (fs.map (zzv al)).set sl (.long x) = (fs.set sl (.long x)).map (zzv al) := by rw [List.map_set]; rfl
    have hP2 : va_P D vwCl (zzwl cI cZ al M (zzup w a (.inr (ci, fs.set sl (.long x))))) H1 := by
      rw [← zzwl_set hM]
      rw [e1] at hP1
      exact hP1
    exact kk (zzok_up hok hw _) H1 locs1 ls1 hP2 hS1 hl
  cases ne with
  | true => exact va_putN C.1 C.2.1 C.2.2.2.2.1 (zzu_in ci hci) (zzty ci) (zzty_ok ci hci) (zznm_ok ci hci) C.2.2.2.1 C.2.2.2.2.2.1.1 hP hD hS a (zzwl_at hok hw) (zzcl_at ci hci) sl hsl (va_Nw.use rfl (C.2.2.2.2.2.1.2.1 _ (hN rfl))) (fun _ h9 => h9) hfin (zzty_ok ci hci sl hsl) hnar hfit hl2 hd fin
  | false => exact va_put C.1 C.2.1 C.2.2.2.2.1 (zzu_in ci hci) (zzty ci) (zzty_ok ci hci) (zznm_ok ci hci) C.2.2.2.1 C.2.2.2.2.2.1.1 hP hD hS a (zzwl_at hok hw) (zzcl_at ci hci) sl hsl (C.2.2.2.2.1 _ (hT rfl)) (fun _ h9 => h9) hfin (zzty_ok ci hci sl hsl) hnar hfit hl2 hd fin
theorem zs_gets (C : zzcx p Rm s m args c D cI cZ al M A nL zs cc o cells slots) : zr_gets zs CL cc o nL rt Q (zzRW p l e Rm s m args below meth c Z D cI cZ al M A cells slots nL) := by
  intro pc ls st w idx t hd ht kk hok H locs ls1 hP hS hl
  unfold zzgs at ht
  split at ht
  · next h =>
    obtain ⟨rfl, rfl⟩ := h
    cases ht
    exact va_getsN C.1 C.2.1 C.2.2.2.2.2.1.2.2.2.1 hS C.2.2.2.1 (va_Nw.use rfl (C.2.2.2.2.2.1.2.1 _ (zzinN_mem zzst_w.1))) (fun _ h9 => h9) hd (kk hok H locs ls1 hP hS hl)
  · split at ht
    · next h =>
      obtain ⟨rfl, rfl⟩ := h
      cases ht
      exact va_getsN C.1 C.2.1 C.2.2.2.2.2.1.2.2.2.2 hS C.2.2.2.1 (va_Nw.use rfl (C.2.2.2.2.2.1.2.1 _ (zzinN_mem zzst_w.2))) (fun _ h9 => h9) hd (kk hok H locs ls1 hP hS hl)
    · cases ht
theorem zs_iald (C : zzcx p Rm s m args c D cI cZ al M A nL zs cc o cells slots) : zr_iald zs CL cc o nL rt Q (zzRW p l e Rm s m args below meth c Z D cI cZ al M A cells slots nL) := by
  intro pc ls st w a n f i v hd hw hin hv kk hok H locs ls1 hP hS hl
  subst hv
  exact va_iald C.1 C.2.1 C.2.2.2.2.2.1.1 hP a 0 (zzwl_at hok hw) rfl hin hd (kk hok H locs ls1 hP hS hl)
theorem zs_zald (C : zzcx p Rm s m args c D cI cZ al M A nL zs cc o cells slots) : zr_zald zs CL cc o nL rt Q (zzRW p l e Rm s m args below meth c Z D cI cZ al M A cells slots nL) := by
  intro pc ls st w a n f i v hd hw hin hv kk hok H locs ls1 hP hS hl
  subst hv
  exact va_zald C.1 C.2.1 C.2.2.2.2.2.1.1 hP a 1 (zzwl_at hok hw) rfl hin hd (kk hok H locs ls1 hP hS hl)
theorem zs_tald (C : zzcx p Rm s m args c D cI cZ al M A nL zs cc o cells slots) : zr_tald zs CL cc o nL rt Q (zzRW p l e Rm s m args below meth c Z D cI cZ al M A cells slots nL) := by
  intro pc ls st w a n f i v hd hw hin hv kk hok H locs ls1 hP hS hl
  subst hv
  exact va_ti C.1 C.2.1 (C.2.2.2.2.2.1.2.2.1 _ _ _ hw) hS hin rfl hd (kk hok H locs ls1 hP hS hl)
theorem zs_iast (C : zzcx p Rm s m args c D cI cZ al M A nL zs cc o cells slots) : zr_iast zs CL cc o nL rt Q (zzRW p l e Rm s m args below meth c Z D cI cZ al M A cells slots nL) := by
  intro pc ls st w a n f i x hd hw hin kk hok H locs ls1 hP hS hl
  have hM := zzok_lt hok hw
  have hD : va_D A (zzwl cI cZ al M w) := zzD C.2.2.2.2.2.2.1 C.2.2.2.2.2.2.2.1 w
  refine va_iast C.1 C.2.1 C.2.2.2.2.2.1.1 hP hD hS a 0 (zzwl_at hok hw) rfl hin hd ?_
  intro H1 locs1 hP1 _ hS1
  have hP2 : va_P D vwCl (zzwl cI cZ al M (zzup w a (.inl (0, n, upd f i.toNatClampNeg x)))) H1 := by
    rw [← zzwl_set hM]
    exact hP1
  exact kk (zzok_up hok hw _) H1 locs1 ls1 hP2 hS1 hl
theorem zs_zast (C : zzcx p Rm s m args c D cI cZ al M A nL zs cc o cells slots) : zr_zast zs CL cc o nL rt Q (zzRW p l e Rm s m args below meth c Z D cI cZ al M A cells slots nL) := by
  intro pc ls st w a n f i x hd hw hin kk hok H locs ls1 hP hS hl
  have hM := zzok_lt hok hw
  have hD : va_D A (zzwl cI cZ al M w) := zzD C.2.2.2.2.2.2.1 C.2.2.2.2.2.2.2.1 w
  refine va_zast C.1 C.2.1 C.2.2.2.2.2.1.1 hP hD hS a 1 (zzwl_at hok hw) rfl hin hd ?_
  intro H1 locs1 hP1 _ hS1
  have hP2 : va_P D vwCl (zzwl cI cZ al M (zzup w a (.inl (1, n, upd f i.toNatClampNeg (vp_nar .boolean x))))) H1 := by
    rw [← zzwl_set hM]
    exact hP1
  exact kk (zzok_up hok hw _) H1 locs1 ls1 hP2 hS1 hl
theorem zs_alen (C : zzcx p Rm s m args c D cI cZ al M A nL zs cc o cells slots) : zr_alen zs CL cc o nL rt Q (zzRW p l e Rm s m args below meth c Z D cI cZ al M A cells slots nL) := by
  intro pc ls st w a n f v hd hw hv kk hok H locs ls1 hP hS hl
  exact va_alen C.1 C.2.1 C.2.2.2.2.2.1.1 hP a 0 (zzwl_at hok hw) rfl hv hd (kk hok H locs ls1 hP hS hl)
theorem zs_tlen (C : zzcx p Rm s m args c D cI cZ al M A nL zs cc o cells slots) : zr_tlen zs CL cc o nL rt Q (zzRW p l e Rm s m args below meth c Z D cI cZ al M A cells slots nL) := by
  intro pc ls st w a n f v hd hw hv kk hok H locs ls1 hP hS hl
  exact va_tlen C.1 C.2.1 (C.2.2.2.2.2.1.2.2.1 _ _ _ hw) hS hv hd (kk hok H locs ls1 hP hS hl)
theorem zs_mmn (C : zzcx p Rm s m args c D cI cZ al M A nL zs cc o cells slots) : zr_mmn zs CL cc o nL rt Q (zzRW p l e Rm s m args below meth c Z D cI cZ al M A cells slots nL) := by
  intro pc ls st w idx x y v hd hm hv hst kk hok H locs ls1 hP hS hl
  subst hv
  have hin := List.all_eq_true.mp zzmn_ok (o, idx) (List.contains_iff_mem.mp hm)
  have w := zzmm_w
  refine va_mmin C.1 C.2.1 (by rw [C.2.2.1, hl.1]) C.2.2.2.1 (C.2.2.2.2.1 _ (zzin_mem hin)) (C.2.2.2.2.1 _ (zzin_mem w.1)) (C.2.2.2.2.1 _ (zzin_mem w.2.2.1)) (C.2.2.2.2.1 _ (zzin_mem w.2.2.2.1)) C.2.2.2.2.2.2.2.2.2.1 ?_ C.2.2.2.2.2.2.2.2.2.2.2.1 C.2.2.2.2.2.2.2.2.2.2.2.2 hd (kk hok H locs ls1 hP hS hl)
  rw [zzv_cats]
  have := C.2.2.2.2.2.2.2.2.2.2.1
  omega
theorem zs_mmx (C : zzcx p Rm s m args c D cI cZ al M A nL zs cc o cells slots) : zr_mmx zs CL cc o nL rt Q (zzRW p l e Rm s m args below meth c Z D cI cZ al M A cells slots nL) := by
  intro pc ls st w idx x y v hd hm hv hst kk hok H locs ls1 hP hS hl
  subst hv
  have hin := List.all_eq_true.mp zzmx_ok (o, idx) (List.contains_iff_mem.mp hm)
  have w := zzmm_w
  refine va_mmax C.1 C.2.1 (by rw [C.2.2.1, hl.1]) C.2.2.2.1 (C.2.2.2.2.1 _ (zzin_mem hin)) (C.2.2.2.2.1 _ (zzin_mem w.2.1)) (C.2.2.2.2.1 _ (zzin_mem w.2.2.1)) (C.2.2.2.2.1 _ (zzin_mem w.2.2.2.2)) C.2.2.2.2.2.2.2.2.2.1 ?_ C.2.2.2.2.2.2.2.2.2.2.2.1 C.2.2.2.2.2.2.2.2.2.2.2.2 hd (kk hok H locs ls1 hP hS hl)
  rw [zzv_cats]
  have := C.2.2.2.2.2.2.2.2.2.2.1
  omega
theorem zs_acopy (C : zzcx p Rm s m args c D cI cZ al M A nL zs cc o cells slots) : zr_acopy zs CL cc o nL rt Q (zzRW p l e Rm s m args below meth c Z D cI cZ al M A cells slots nL) := by
  intro pc ls st w idx a0 a1 n0 n1 f g sp dp n hd ha hw0 hw1 h1 h2 h3 h4 h5 hst kk hok H locs ls1 hP hS hl
  have hM := zzok_lt hok hw1
  have hD : va_D A (zzwl cI cZ al M w) := zzD C.2.2.2.2.2.2.1 C.2.2.2.2.2.2.2.1 w
  have hin := List.all_eq_true.mp zzac_ok (o, idx) (List.contains_iff_mem.mp ha)
  have ww := zzac_w
  refine va_copyi C.1 C.2.1 (by rw [C.2.2.1, hl.1]) C.2.2.2.1 (C.2.2.2.2.1 _ (zzin_mem hin)) (C.2.2.2.2.1 _ (zzin_mem ww.1)) (C.2.2.2.2.1 _ (zzin_mem ww.2.1)) (C.2.2.2.2.1 _ (zzin_mem ww.2.2)) C.2.2.2.2.2.1.1 hP hD hS a0 a1 0 0 (zzwl_at hok hw0) (zzwl_at hok hw1) rfl rfl rfl h1 h2 h3 h4 h5 (fun _ _ => rfl) C.2.2.2.2.2.2.2.2.2.1 ?_ hd ?_
  · rw [zzv_cats]
    have := C.2.2.2.2.2.2.2.2.2.2.1
    have e9 : nativeFrameWords "java/lang/System" "arraycopy" 5 = 7 := by decide
    rw [e9]
    omega
  · intro H1 locs1 hP1 _ hS1
    have hP2 : va_P D vwCl (zzwl cI cZ al M (zzup w a1 (.inl (0, n1, va_cpy f g sp.toNatClampNeg dp.toNatClampNeg n.toNatClampNeg)))) H1 := by
      rw [← zzwl_set hM]
      exact hP1
    exact kk (zzok_up hok hw1 _) H1 locs1 ls1 hP2 hS1 hl
theorem zs_weak (C : zzcx p Rm s m args c D cI cZ al M A nL zs cc o cells slots) : zr_weak zs CL cc o nL rt Q (zzRW p l e Rm s m args below meth c Z D cI cZ al M A cells slots nL) := by
  intro pc ls st w ls1 hw kk hok H locs ls1 hP hS hl
  exact kk hok H locs ls1 hP hS ⟨hl.1, hl.2.1, fun q hq => by
    obtain ⟨r, hr, rfl⟩ := List.mem_map.mp hq
    exact hl.2.2 _ (List.mem_map.mpr ⟨r, hw r hr, rfl⟩)⟩
end ZS
end
section
section ZV
variable {p : Program} {l : Launch} {e : Env} {Rm : Room} {s : State} {m : MethodId} {args : Array Value} {below : List Frame} {meth : Method} {c : Code} {Z : State → Prop} {D : va_G} {cI cZ : ClassId} {al : Nat → Nat} {M : Nat} {A : Nat → Prop} {cells slots nL : Nat} {zs : zzT} {CL : zzK} {cc : ByteArray} {o : Nat} {rt : Option FieldType} {Q : zzQ}
/-- behind a call -/
theorem zz_back {pc : Nat} {ls : zzL} {st : List Value} {ls1 : Array Slot} {st1 : List Value} {a : Array Value} {H : Heap} {locs : List Loc} (C : zzcx p Rm s m args c D cI cZ al M A nL zs cc o cells slots)
    (hr : va_Run p l e Rm s m args below meth c H locs cells slots 0 0 (F0 m pc ls1 st1) (st.map (zzv al)) (zzQc D cI cZ al M (fun r w1 => zzRW p l e Rm s m args below meth c Z D cI cZ al M A cells slots nL (pc + 3) ls (r ++ st) w1) H.size a) (zzA al M H.size))
    (hS : va_S A s.heap H locs) (hl : lv_has ls1 nL (ls.map (zzq al))) : W p l e Rm s m args below meth c H locs cells slots Z (F0 m pc ls1 st1) := by
  have hsub : ∀ q, zzA al M H.size q → A q := by
    intro q hq
    rcases hq with ⟨k, hk, rfl⟩ | hq
    · exact C.2.2.2.2.2.2.2.1 k hk
    · exact C.2.2.2.2.2.2.2.2.1 q (Nat.le_trans hS.1 hq)
  intro T hT X
  obtain ⟨v, st₀, t, T', L, h0, X', hL, e1, e2, ⟨⟨r, w1, hok1, hQ, hlen, hv, hP1⟩, hz, hk⟩, stp⟩ := hr T hT X
  rw [h0] at hz hk
  have hv : v = (r.map (zzv al)).head? := by injection hv
  have hrv : v.toList ++ st.map (zzv al) = (r ++ st).map (zzv al) := by
    rw [hv, List.map_append]
    match r, hlen with
    | [], _ => rfl
    | [x], _ => rfl
    | x :: y :: z, h => simp at h
  have hS1 : va_S A s.heap T'.heap (locs ++ L) := ⟨Nat.le_trans hS.1 (by rw [e1]; exact hz), fun q h1 h2 => by rw [e1, hk q (Nat.lt_of_lt_of_le h1 hS.1) (fun z => h2 (hsub q z))]; exact hS.2.1 q h1 h2, fun q hq => by
      rcases List.mem_append.mp hq with h | h
      · exact hS.2.2 q h
      · exact hsub _ (hL q h)⟩
  obtain ⟨t2, a1, b1⟩ := hQ hok1 T'.heap (locs ++ L) ls1 (by rw [e1]; exact hP1) hS1 hl T' rfl X'
  refine ⟨t2, stp t2 ?_, b1⟩
  have : F0 m (pc + 3) ls1 ((r ++ st).map (zzv al)) = { F0 m pc ls1 st1 with pc := (F0 m pc ls1 st1).pc + 3, stack := v.toList ++ st.map (zzv al) } := by rw [hrv]
  rw [← this]
  exact a1
theorem zz_blind {av : List Value} {w : zzW} {sz : Nat} : FrameBlind (zzPc D cI cZ al M zs av w sz) := by
  intro a U g mk q
  obtain ⟨q0, q1, q2, q3, q4⟩ := q
  exact ⟨q0, q1, q2, q3, q4.call g mk a⟩
theorem zz_pre {av : List Value} {w : zzW} {H : Heap} {locs : List Loc} (C : zzcx p Rm s m args c D cI cZ al M A nL zs cc o cells slots) (hok : zzok M w) (hP : va_P D vwCl (zzwl cI cZ al M w) H) (hS : va_S A s.heap H locs) : ∀ U : State, U.heap = H → s.WarmedH U.vm → zzPc D cI cZ al M zs av w H.size (av.map (zzv al)).toArray U := by
  intro U hU hW
  refine ⟨rfl, by rw [hU], hok, by rw [hU]; exact hP, C.2.2.2.2.2.1.go hS hU hW ?_⟩
  intro q hq
  rcases hq with ⟨k, hk, rfl⟩ | hq
  · exact C.2.2.2.2.2.2.2.1 k hk
  · exact C.2.2.2.2.2.2.2.2.1 q (Nat.le_trans hS.1 hq)
theorem zs_invv (C : zzcx p Rm s m args c D cI cZ al M A nL zs cc o cells slots) (rm : Room) (hr0 : rm.cells = 0 ∧ rm.slots = 0 ∧ rm.frames + 1 ≤ Rm.frames ∧ 60 + rm.locals ≤ Rm.locals) (IH : ∀ (k : Nat) (av : List Value) (w : zzW) (Q : zzQ) (sz : Nat), CL k av w Q → Met l (zzy k) (zzws k) rm (zzPc D cI cZ al M zs av w sz) (zzQc D cI cZ al M Q sz) 0 0 (zzA al M sz)) : zr_invv zs CL cc o nL rt Q (zzRW p l e Rm s m args below meth c Z D cI cZ al M A cells slots nL) := by
  intro pc ls st w idx kd k As b ci fs st0 hd hm hkd hst hn hw hci hcat hcl hok H locs ls1 hP hS hl
  subst hst
  subst hci
  obtain ⟨hk, hm⟩ := zzmt_ok hm
  obtain ⟨hcode, hini, hpl, hcls, hds, hmx, hstat⟩ := zzcd_ok k hk
  have hb0 : (zzm k).2.2.2.2.2.2 = false := by
    rcases hm with h | h | h
    · exact h.2.2
    · exact h.2.2
    · omega
  obtain ⟨hinst, hsel, ho5⟩ := hstat.2 hb0
  have hts := C.2.2.2.2.1
  have hM := IH k (.ref b :: As) w _ H.size hcl
  have hrec := va_recv C.2.2.2.2.2.1.1 hP (zzcl_at _ ho5) (zzwl_at hok hw)
  have hpv : PreV s H (zzR (zzo k)) (al b) (zzPc D cI cZ al M zs (.ref b :: As) w H.size) (As.map (zzv al)) := ⟨zz_blind, hrec, zz_pre C hok hP hS⟩
  have hlen : (As.map (zzv al)).length = zzn k := by rw [List.length_map]; exact hn
  have hstack : (F0 m pc ls1 ((As.reverse ++ .ref b :: st).map (zzv al))).stack = (As.map (zzv al)).reverse ++ .ref (al b) :: st.map (zzv al) := by
    show (As.reverse ++ .ref b :: st).map (zzv al) = _
    rw [List.map_append, List.map_reverse]
    rfl
  have hroom : 2 * (F0 m pc ls1 ((As.reverse ++ .ref b :: st).map (zzv al))).monitorRoom + ((st.map (zzv al)).map fun v => v.category).sum ≤ 8 := lv_room (by rw [zzv_cats]; exact hcat)
  have hcells : cells + 0 ≤ Rm.cells ∧ slots + 0 ≤ Rm.slots := ⟨C.2.2.2.2.2.2.2.2.2.2.2.1, C.2.2.2.2.2.2.2.2.2.2.2.2⟩
  have hmx2 : 8 + (zzl k + 11) + rm.locals ≤ Rm.locals := by
    have : zzl k ≤ 40 := hmx
    have := hr0.2.2.2
    omega
  rcases hm with h | h | h
  · refine zz_back C (va_runV (C := zzR (zzo k)) (As := As.map (zzv al)) (rest := st.map (zzv al)) (n := zzn k) ⟨C.1, C.2.1, C.2.2.1, C.2.2.2.1, hts⟩ hM ⟨callB_of (zzn k) hts (zzgoodT (fun _ h => h) k hk) rfl hr0.1 hr0.2.1 (hts _ hini) (hts _ h.2.1) hds ⟨hr0.2.2.1, hmx2⟩, hts _ hinst, hts _ hsel⟩ hpv rfl hlen hl.1 hstack hroom hd hcells) hS hl
  · refine zz_back C (va_runVN (C := zzR (zzo k)) (As := As.map (zzv al)) (rest := st.map (zzv al)) (n := zzn k) ⟨C.1, C.2.1, C.2.2.1, C.2.2.2.1, hts⟩ hM ⟨va_cnB (zzn k) hts (zzgoodT (fun _ h => h) k hk) rfl hr0.1 hr0.2.1 (C.2.2.2.2.2.1.2.1 _ h.2.1) (hts _ hini) hds ⟨hr0.2.2.1, hmx2⟩, hts _ hinst, hts _ hsel⟩ hpv rfl hlen hl.1 hstack hroom hd hcells) hS hl
  · omega
theorem zs_invs (C : zzcx p Rm s m args c D cI cZ al M A nL zs cc o cells slots) (rm : Room) (hr0 : rm.cells = 0 ∧ rm.slots = 0 ∧ rm.frames + 1 ≤ Rm.frames ∧ 60 + rm.locals ≤ Rm.locals) (IH : ∀ (k : Nat) (av : List Value) (w : zzW) (Q : zzQ) (sz : Nat), CL k av w Q → Met l (zzy k) (zzws k) rm (zzPc D cI cZ al M zs av w sz) (zzQc D cI cZ al M Q sz) 0 0 (zzA al M sz)) : zr_invs zs CL cc o nL rt Q (zzRW p l e Rm s m args below meth c Z D cI cZ al M A cells slots nL) := by
  intro pc ls st w idx k As st0 hd hm hst hn hcat hcl hok H locs ls1 hP hS hl
  subst hst
  obtain ⟨hk, hm⟩ := zzmt_ok hm
  obtain ⟨hcode, hini, hpl, hcls, hds, hmx, hstat⟩ := zzcd_ok k hk
  have hm2 : Cond.methodLink (zzR o) idx (zzm k).1 ∈ zzT0 ∧ (zzm k).2.2.2.2.2.2 = true := by
    rcases hm with h | h | h
    · omega
    · omega
    · exact h.2
  have hsta := hstat.1 hm2.2
  have hts := C.2.2.2.2.1
  have hM := IH k As w _ H.size hcl
  have hlen : (As.map (zzv al)).length = zzn k := by rw [List.length_map]; exact hn
  have hstack : (F0 m pc ls1 ((As.reverse ++ st).map (zzv al))).stack = (As.map (zzv al)).reverse ++ st.map (zzv al) := by
    show (As.reverse ++ st).map (zzv al) = _
    rw [List.map_append, List.map_reverse]
  have hroom : 2 * (F0 m pc ls1 ((As.reverse ++ st).map (zzv al))).monitorRoom + ((st.map (zzv al)).map fun v => v.category).sum ≤ 8 := lv_room (by rw [zzv_cats]; exact hcat)
  have hcells : cells + 0 ≤ Rm.cells ∧ slots + 0 ≤ Rm.slots := ⟨C.2.2.2.2.2.2.2.2.2.2.2.1, C.2.2.2.2.2.2.2.2.2.2.2.2⟩
  have hmx2 : 8 + (zzl k + 11) + rm.locals ≤ Rm.locals := by
    have : zzl k ≤ 40 := hmx
    have := hr0.2.2.2
    omega
  exact zz_back C (va_runS (As := As.map (zzv al)) (rest := st.map (zzv al)) (n := zzn k) ⟨C.1, C.2.1, C.2.2.1, C.2.2.2.1, hts⟩ hM ⟨callB_of (zzn k) hts (zzgoodT (fun _ h => h) k hk) rfl hr0.1 hr0.2.1 (hts _ hini) (hts _ hm2.1) hds ⟨hr0.2.2.1, hmx2⟩, hts _ hsta⟩ ⟨zz_blind, zz_pre C hok hP hS⟩ rfl hlen hl.1 hstack hroom hd hcells) hS hl
/-- the machine's states are closed under the rules; the returns are the caller's to show -/
theorem zz_closed (C : zzcx p Rm s m args c D cI cZ al M A nL zs cc o cells slots) (rm : Room) (hr0 : rm.cells = 0 ∧ rm.slots = 0 ∧ rm.frames + 1 ≤ Rm.frames ∧ 60 + rm.locals ≤ Rm.locals) (IH : ∀ (k : Nat) (av : List Value) (w : zzW) (Q : zzQ) (sz : Nat), CL k av w Q → Met l (zzy k) (zzws k) rm (zzPc D cI cZ al M zs av w sz) (zzQc D cI cZ al M Q sz) 0 0 (zzA al M sz))
    (hi : zr_iret zs CL cc o nL rt Q (zzRW p l e Rm s m args below meth c Z D cI cZ al M A cells slots nL)) (hlr : zr_lret zs CL cc o nL rt Q (zzRW p l e Rm s m args below meth c Z D cI cZ al M A cells slots nL)) (hvr : zr_vret zs CL cc o nL rt Q (zzRW p l e Rm s m args below meth c Z D cI cZ al M A cells slots nL)) : zzC zs CL cc o nL rt Q (zzRW p l e Rm s m args below meth c Z D cI cZ al M A cells slots nL) :=
  ⟨⟨(zs_iconst C), (zs_bipush C), (zs_lconst C), (zs_ldc C), (zs_ldcw C), (zs_ldc2 C), (zs_iload_n C), (zs_iload C)⟩, ⟨(zs_lload_n C), (zs_lload C), (zs_aload_n C), (zs_aload C), (zs_istore_n C), (zs_istore C), (zs_lstore_n C), (zs_lstore C)⟩, ⟨(zs_astore_n C), (zs_astore C), (zs_iinc C), (zs_iadd C), (zs_isub C), (zs_imul C), (zs_iand C), (zs_ior C)⟩, ⟨(zs_ixor C), (zs_ishl C), (zs_ishr C), (zs_iushr C), (zs_idiv C), (zs_irem C), (zs_ineg C), (zs_ladd C)⟩, ⟨(zs_lmul C), (zs_land C), (zs_lcmp C), (zs_i2l C), (zs_l2i C), (zs_dup C), (zs_pop C), (zs_dup2 C)⟩, ⟨(zs_if_eq C), (zs_if_ne C), (zs_if_lt C), (zs_if_ge C), (zs_if_gt C), (zs_if_le C), (zs_icmp_eq C), (zs_icmp_ne C)⟩, ⟨(zs_icmp_lt C), (zs_icmp_ge C), (zs_icmp_gt C), (zs_icmp_le C), (zs_goto C), (zs_tabIn C), (zs_tabOut C), (zs_get C)⟩, ⟨(zs_puti C), (zs_putl C), (zs_gets C), (zs_iald C), (zs_tald C), (zs_zald C), (zs_iast C), (zs_zast C)⟩, ⟨(zs_alen C), (zs_tlen C), (zs_invv C rm hr0 IH), (zs_invs C rm hr0 IH), (zs_acopy C), (zs_mmn C), (zs_mmx C), (zs_weak C)⟩, ⟨hi, hlr, hvr⟩⟩
/-- a method of the system, met: by induction on the depth of the calls -/
theorem zzMet (hinj : ∀ i j, i < M → j < M → al i = al j → i = j) : ∀ (d k : Nat) (av : List Value) (w : zzW) (Q : zzQ) (sz : Nat), zzCL zs d k av w Q → Met l (zzy k) (zzws k) (zzrm d) (zzPc D cI cZ al M zs av w sz) (zzQc D cI cZ al M Q sz) 0 0 (zzA al M sz) := by
  intro d
  induction d with
  | zero => intro k av w Q sz h; exact h.elim
  | succ d ih =>
    intro k av w Q sz h
    obtain ⟨hk, hlen, hall⟩ := h
    obtain ⟨hcode, hini, hpl, hcls, hds, hmx, hstat⟩ := zzcd_ok k hk
    refine Met.ofW (cc := zzc k) (maxL := zzl k) (ret := zzr k) hpl rfl ?_
    intro p e s m args below meth c s₁ B hml hv
    obtain ⟨rfl, hsz, hok, hP, hE⟩ := hv
    have hts0 := atoms_spec (ws := zzws k) B.pre
    have hts : ∀ w ∈ zzT0, w.before ((av.map (zzv al)).toArray) s = true := fun w hw => hts0 w (List.mem_cons_of_mem _ hw)
    have hown0 := findClass_of_methodNamed B.named
    have hown : s.vm.findClass (zzR (zzo k)) = some m.cls := by
      have e0 : (zzy k).cls = zzR (zzo k) := hcls
      rw [← e0]; exact hown0
    subst hsz
    have C : zzcx p (zzrm (d + 1)) s m ((av.map (zzv al)).toArray) c D cI cZ al M (zzA al M s.heap.size) (zzl k) zs (zzc k) (zzo k) 0 0 :=
      ⟨B.exec, B.bytes, hml, hown, hts, hE, hinj, fun k hk => Or.inl ⟨k, hk, rfl⟩, fun q hq => Or.inr hq, by simp [zzrm], by simp only [zzrm]; omega, Nat.le_refl _, Nat.le_refl _⟩
    have hlocks := B.notSynchronized
    have hret := B.returns
    have hcl := zz_closed (l := l) (e := e) (below := below) (meth := meth) (Z := MQ below (zzQc D cI cZ al M Q s.heap.size) ((av.map (zzv al)).toArray) s 0 0 (zzA al M s.heap.size)) (rt := zzr k) (Q := Q) (CL := zzCL zs d) C (zzrm d) ⟨rfl, rfl, Nat.le_refl _, by simp only [zzrm]; omega⟩ ih
      (by
        intro pc ls st w1 ty v hd hrt hn hQ hok1 H locs ls1 hP1 hS1 hl1
        exact W.zret (Qc := zzQc D cI cZ al M Q s.heap.size) (ty := ty) B.exec B.bytes (hret.trans hrt) hn (fun t ht hW => ⟨⟨[.int v], w1, hok1, hQ, Nat.le_refl 1, rfl, by rw [ht]; exact hP1⟩, hS1.F ht⟩) hS1.2.2 hd hlocks)
      (by
        intro pc ls st w1 v hd hrt hQ hok1 H locs ls1 hP1 hS1 hl1
        exact W.lret (Qc := zzQc D cI cZ al M Q s.heap.size) B.exec B.bytes (hret.trans hrt) (fun t ht hW => ⟨⟨[.long v], w1, hok1, hQ, Nat.le_refl 1, rfl, by rw [ht]; exact hP1⟩, hS1.F ht⟩) hS1.2.2 hd hlocks)
      (by
        intro pc ls st w1 hd hrt hQ hok1 H locs ls1 hP1 hS1 hl1
        exact W.vret (Qc := zzQc D cI cZ al M Q s.heap.size) B.exec B.bytes (hret.trans hrt) (fun t ht hW => ⟨⟨[], w1, hok1, hQ, Nat.zero_le 1, rfl, by rw [ht]; exact hP1⟩, hS1.F ht⟩) hS1.2.2 hd hlocks)
    have hstart := hall _ hcl
    have hlen2 : (lg_sl (av.map (zzv al))).length ≤ zzl k := by
      have : (lg_sl (av.map (zzv al))).length = (lg_sl av).length := by
        clear hall hts hts0 C hcl hstart hok hP hE hlen B
        induction av with
        | nil => rfl
        | cons v t iht =>
          simp only [lg_sl, List.map_cons, List.flatMap_cons, List.length_append] at iht ⊢
          rw [iht, zzv_cat]
          split <;> rfl
      rw [this]; exact hlen
    have hl := lv_entry (av.map (zzv al)) (n := zzl k) hlen2
    have hargs : lv_args 0 (av.map (zzv al)) = (lv_args 0 av).map (zzq al) := by
      have : ∀ (i : Nat) (vs : List Value), lv_args i (vs.map (zzv al)) = (lv_args i vs).map (zzq al) := by
        intro i vs
        induction vs generalizing i with
        | nil => rfl
        | cons v t iht =>
          simp only [List.map_cons, lv_args, zzv_cat]
          rw [iht]
          rfl
      exact this 0 av
    rw [hargs] at hl
    rw [lg_entry_eq]
    exact hstart hok s.heap [] _ hP va_S.rf hl
end ZV
end
section
/-! NUMBERS: an int of the machine as an integer -/
def iI (z : Int) : Int32 := Int32.ofInt z
def lI (z : Int) : Int64 := Int64.ofInt z
def rg (z : Int) : Prop := -2147483648 ≤ z ∧ z < 2147483648
def b2i (b : Bool) : Int := cond b 1 0
theorem rg_of (x : Int32) : rg x.toInt := by
  have h1 := Int32.toInt_lt x
  have h2 := Int32.le_toInt x
  unfold rg
  omega
theorem iI_toInt (x : Int32) : iI x.toInt = x := Int32.ofInt_toInt x
theorem toInt_iI {z : Int} (h : rg z) : (iI z).toInt = z := Int32.toInt_ofInt_of_le (by have := h.1; omega) (by have := h.2; omega)
theorem iI_add (a b : Int) : iI a + iI b = iI (a + b) := (Int32.ofInt_add a b).symm
theorem iI_sub (a b : Int) : iI a - iI b = iI (a - b) := (Int32.ofInt_sub a b).symm
theorem iI_mul (a b : Int) : iI a * iI b = iI (a * b) := (Int32.ofInt_mul a b).symm
theorem iI_neg (a : Int) : -iI a = iI (-a) := (Int32.ofInt_neg a).symm
theorem iI_nat (n : Nat) : iI (n : Int) = nI n := Int32.ofInt_eq_ofNat
theorem iI_eq {a b : Int} (ha : rg a) (hb : rg b) : iI a = iI b ↔ a = b := by
  rw [← Int32.toInt_inj, toInt_iI ha, toInt_iI hb]
theorem iI_lt {a b : Int} (ha : rg a) (hb : rg b) : iI a < iI b ↔ a < b := by
  rw [Int32.lt_iff_toInt_lt, toInt_iI ha, toInt_iI hb]
theorem iI_le {a b : Int} (ha : rg a) (hb : rg b) : iI a ≤ iI b ↔ a ≤ b := by
  rw [Int32.le_iff_toInt_le, toInt_iI ha, toInt_iI hb]
theorem iI_clamp {z : Int} (h : rg z) : (iI z).toNatClampNeg = z.toNat := Int32.toNatClampNeg_ofInt_of_le (by have := h.1; omega) (by have := h.2; omega)
theorem iI_in {z : Int} {n : Nat} (h0 : 0 ≤ z) (h1 : z < n) (hn : (n : Int) < 2147483648) : vp_in (iI z) n := by
  rw [vp_in_iff, toInt_iI ⟨by omega, by omega⟩]
  exact ⟨h0, h1⟩
theorem iI_div {a b : Int} (ha : 0 ≤ a) (ha2 : a < 2147483648) (hb : 0 < b) (hb2 : b < 2147483648) : iI a / iI b = iI (a / b) := by
  have h := Int32.ofInt_tdiv (a := a) (b := b) (by show (-2147483648 : Int) ≤ a; omega) (by show a ≤ (2147483647 : Int); omega) (by show (-2147483648 : Int) ≤ b; omega) (by show b ≤ (2147483647 : Int); omega)
  rw [Int.tdiv_eq_ediv_of_nonneg ha] at h
  exact h.symm
theorem iI_rem {a b : Int} (ha : 0 ≤ a) (ha2 : a < 2147483648) (hb : 0 < b) (hb2 : b < 2147483648) : iI a - iI a / iI b * iI b = iI (a % b) := by
  rw [iI_div ha ha2 hb hb2, iI_mul, iI_sub, Int.emod_def, Int.mul_comm b]
theorem iI_ne0 {b : Int} (hb : rg b) (h : b ≠ 0) : ¬ iI b = 0 := by
  intro e
  exact h ((iI_eq hb (by unfold rg; omega)).mp (e.trans rfl))
theorem iI_and (a b : Nat) : iI (a : Int) &&& iI (b : Int) = iI ((a &&& b : Nat) : Int) := by
  rw [iI_nat, iI_nat, iI_nat]
  apply Int32.toBitVec_inj.1
  show BitVec.ofNat 32 a &&& BitVec.ofNat 32 b = BitVec.ofNat 32 (a &&& b)
  apply BitVec.eq_of_getLsbD_eq
  intro i hi
  simp [hi]
theorem iI_or (a b : Nat) : iI (a : Int) ||| iI (b : Int) = iI ((a ||| b : Nat) : Int) := by
  rw [iI_nat, iI_nat, iI_nat]
  apply Int32.toBitVec_inj.1
  show BitVec.ofNat 32 a ||| BitVec.ofNat 32 b = BitVec.ofNat 32 (a ||| b)
  apply BitVec.eq_of_getLsbD_eq
  intro i hi
  simp [hi]
theorem iI_sh {z : Int} (h0 : 0 ≤ z) (h1 : z < 32) : ((iI z &&& 31).toBitVec.smod 32).toNat = z.toNat := by
  obtain ⟨n, rfl⟩ := Int.eq_ofNat_of_zero_le h0
  have key : ∀ n, n < 32 → ((nI n &&& 31).toBitVec.smod 32).toNat = n := by decide +kernel
  rw [iI_nat, key n (by omega)]
  rfl
theorem iI_shl {x z : Int} (hx : 0 ≤ x) (h0 : 0 ≤ z) (h1 : z < 32) (h : x * 2 ^ z.toNat < 2147483648) : iI x <<< (iI z &&& 31) = iI (x * 2 ^ z.toNat) := by
  obtain ⟨n, rfl⟩ := Int.eq_ofNat_of_zero_le hx
  have e : (n : Int) * 2 ^ z.toNat = ((n * 2 ^ z.toNat : Nat) : Int) := by push_cast; rfl
  have h2 : n * 2 ^ z.toNat < 2 ^ 32 := by
    have : ((n * 2 ^ z.toNat : Nat) : Int) < 2147483648 := by rw [← e]; exact h
    omega
  show iI (n : Int) <<< (iI z &&& 31) = iI ((n : Int) * 2 ^ z.toNat)
  rw [e, iI_nat, iI_nat]
  exact pk_shlN _ _ (iI_sh h0 h1) h2
theorem iI_shr {x z : Int} (hx : rg x) (h0 : 0 ≤ z) (h1 : z < 32) : iI x >>> (iI z &&& 31) = iI (x / 2 ^ z.toNat) := by
  apply Int32.toInt_inj.mp
  have hp : (1 : Int) ≤ 2 ^ z.toNat := by
    have := Nat.one_le_two_pow (n := z.toNat)
    exact_mod_cast this
  have hr : rg (x / 2 ^ z.toNat) := by
    obtain ⟨h2, h3⟩ := hx
    constructor
    · rcases Int.le_total 0 x with h | h
      · have := Int.ediv_nonneg h (Int.le_trans (by decide) hp)
        omega
      · have : x ≤ x / 2 ^ z.toNat := by
          rw [Int.le_ediv_iff_mul_le (by omega)]
          have := Int.mul_le_mul_of_nonpos_left (a := x) h hp
          omega
        omega
    · rcases Int.le_total 0 x with h | h
      · have := Int.ediv_le_self (2 ^ z.toNat) h
        omega
      · have := Int.ediv_le_ediv (c := 2 ^ z.toNat) (by omega) h
        simp at this
        omega
  rw [pk_shr _ _ _ (iI_sh h0 h1), toInt_iI hx, toInt_iI hr, Int.shiftRight_eq_div_pow]
  norm_cast
theorem iI_and1 (x : Int) : iI x &&& iI 1 = iI (x % 2) := by
  apply Int32.toBitVec_inj.1
  show BitVec.ofInt 32 x &&& BitVec.ofInt 32 1 = BitVec.ofInt 32 (x % 2)
  have h : (x % 2 = 0) ∨ (x % 2 = 1) := by omega
  apply BitVec.eq_of_getLsbD_eq
  intro i hi
  rw [BitVec.getLsbD_and]
  rcases Nat.eq_zero_or_pos i with rfl | hp
  · rcases h with h | h
    · rw [h]
      have : (BitVec.ofInt 32 x).getLsbD 0 = false := by
        rw [BitVec.getLsbD, BitVec.toNat_ofInt]
        rw [Nat.testBit_zero]
        simp
        omega
      rw [this]
      decide
    · rw [h]
      have : (BitVec.ofInt 32 x).getLsbD 0 = true := by
        rw [BitVec.getLsbD, BitVec.toNat_ofInt]
        rw [Nat.testBit_zero]
        simp
        omega
      rw [this]
      decide
  · have e1 : (BitVec.ofInt 32 1).getLsbD i = false := by
      have : ∀ i, i < 32 → 0 < i → (BitVec.ofInt 32 1).getLsbD i = false := by decide
      exact this i hi hp
    rw [e1]
    rcases h with h | h
    · rw [h]
      have : ∀ i, i < 32 → (BitVec.ofInt 32 0).getLsbD i = false := by decide
      simp [this i hi]
    · rw [h, e1]
      simp
theorem iI_not (x : Int) : iI x ^^^ iI (-1) = iI (-x - 1) := by
  have h : iI x ^^^ iI (-1) = ~~~ (iI x) := Int32.toBitVec_inj.1 (by
    show BitVec.ofInt 32 x ^^^ BitVec.ofInt 32 (-1) = ~~~ (BitVec.ofInt 32 x)
    have e : BitVec.ofInt 32 (-1) = BitVec.allOnes 32 := by decide
    rw [e, BitVec.xor_allOnes])
  rw [h, Int32.not_eq_neg_add, iI_neg]
  exact iI_sub _ 1
theorem iI_andnot (a b : Nat) : iI (a : Int) &&& iI (-(b : Int) - 1) = iI ((a ^^^ (a &&& b) : Nat) : Int) := by
  rw [← iI_not, iI_nat, iI_nat, iI_nat]
  apply Int32.toBitVec_inj.1
  show BitVec.ofNat 32 a &&& (BitVec.ofNat 32 b ^^^ BitVec.ofInt 32 (-1)) = BitVec.ofNat 32 (a ^^^ (a &&& b))
  have e : BitVec.ofInt 32 (-1) = BitVec.allOnes 32 := by decide
  rw [e]
  apply BitVec.eq_of_getLsbD_eq
  intro i hi
  simp only [BitVec.getLsbD_and, BitVec.getLsbD_xor, BitVec.getLsbD_ofNat, BitVec.getLsbD_allOnes, Nat.testBit_xor, Nat.testBit_and, hi, decide_true, Bool.true_and]
  cases a.testBit i <;> cases b.testBit i <;> rfl
theorem lI_i {z : Int} (h : rg z) : (iI z).toInt64 = lI z := Int32.toInt64_ofInt (by show (-2147483648 : Int) ≤ z; exact h.1) (by show z ≤ (2147483647 : Int); have := h.2; omega)
theorem lI_cmp {a b : Int} (ha : rg a) (hb : rg b) : lg_cmp (lI a) (lI b) = iI (if b < a then 1 else if a = b then 0 else -1) := by
  have h1 : (lI a).toInt = a := Int64.toInt_ofInt_of_le (by have := ha.1; omega) (by have := ha.2; omega)
  have h2 : (lI b).toInt = b := Int64.toInt_ofInt_of_le (by have := hb.1; omega) (by have := hb.2; omega)
  unfold lg_cmp
  simp only [gt_iff_lt, Int64.lt_iff_toInt_lt, ← Int64.toInt_inj, h1, h2]
  split
  · rfl
  · split <;> rfl
theorem tb_int (m j : Nat) : ((m : Int) / 2 ^ j) % 2 = b2i (m.testBit j) := by
  have : ((m : Int) / 2 ^ j) % 2 = ((m / 2 ^ j % 2 : Nat) : Int) := by push_cast; rfl
  rw [this, Nat.testBit_eq_decide_div_mod_eq]
  have h : m / 2 ^ j % 2 = 0 ∨ m / 2 ^ j % 2 = 1 := by omega
  rcases h with h | h <;> rw [h] <;> rfl
theorem b2i_rg (b : Bool) : rg (b2i b) := by cases b <;> (unfold rg b2i; decide)
end
section
/-! THE WORLD OF THE TWO SYSTEMS as one table of integers g: address, place; the hash apart -/
def ir (r : Nat → Int) : Nat → Int32 := fun j => iI (r j)
def iu (f : Nat → Int) (k : Nat) (z : Int) : Nat → Int := fun j => if j = k then z else f j
def gr (g : Nat → Nat → Int) (a : Nat) (f : Nat → Int) : Nat → Nat → Int := fun b => if b = a then f else g b
theorem gr_s (g : Nat → Nat → Int) (a : Nat) (f : Nat → Int) : gr g a f a = f := by simp [gr]
theorem gr_n (g : Nat → Nat → Int) {a b : Nat} (f : Nat → Int) (h : b ≠ a) : gr g a f b = g b := by simp [gr, h]
theorem gr_gr (g : Nat → Nat → Int) (a : Nat) (f f1 : Nat → Int) : gr (gr g a f) a f1 = gr g a f1 := by
  funext b
  simp only [gr]
  split <;> rfl
theorem gr_self (g : Nat → Nat → Int) (a : Nat) : gr g a (g a) = g := by
  funext b
  simp only [gr]
  split
  · next h => rw [h]
  · rfl
theorem gr_comm (g : Nat → Nat → Int) {a b : Nat} (f f1 : Nat → Int) (h : a ≠ b) : gr (gr g a f) b f1 = gr (gr g b f1) a f := by
  funext c
  simp only [gr]
  by_cases h1 : c = a
  · by_cases h2 : c = b
    · exact absurd (h1.symm.trans h2) h
    · simp [h1, h]
  · by_cases h2 : c = b
    · simp [h2, Ne.symm h]
    · simp [h1, h2]
theorem iu_s (f : Nat → Int) (k : Nat) (z : Int) : iu f k z k = z := by simp [iu]
theorem iu_n (f : Nat → Int) {k j : Nat} (z : Int) (h : j ≠ k) : iu f k z j = f j := by simp [iu, h]
theorem iu_iu (f : Nat → Int) (k : Nat) (z z1 : Int) : iu (iu f k z) k z1 = iu f k z1 := by
  funext b
  simp only [iu]
  split <;> rfl
theorem ir_iu (f : Nat → Int) {i : Int} (z : Int) (h : rg i) : upd (ir f) (iI i).toNatClampNeg (iI z) = ir (iu f i.toNat z) := by
  funext j
  rw [iI_clamp h]
  simp only [upd, ir, iu]
  split <;> rfl
def xfs (r : Nat → Int) : List Value := [.ref 1, .int (iI (r 1)), .int (iI (r 2)), .int (iI (r 3)), .int (iI (r 4)), .int (iI (r 5)), .ref 2, .ref 9, .ref 16, .ref 23, .ref 28, .ref 33, .ref 34]
def mfs (r : Nat → Int) (hh : Int64) : List Value := [.ref 40, .int (iI (r 1)), .int (iI (r 2)), .int (iI (r 3)), .int (iI (r 4)), .int (iI (r 5)), .int (iI (r 6)), .ref 41, .int (iI (r 8)), .int (iI (r 9)), .ref 42, .ref 43, .ref 44, .int (iI (r 13)), .int (iI (r 14)), .int (iI (r 15)), .int (iI (r 16)), .ref 45, .ref 46, .ref 47, .int (iI (r 20)), .int (iI (r 21)), .int (iI (r 22)), .ref 48, .int (iI (r 24)), .int (iI (r 25)), .int (iI (r 26)), .int (iI (r 27)), .int (iI (r 28)), .int (iI (r 29)), .int (iI (r 30)), .int (iI (r 31)), .ref 49, .ref 50, .ref 51, .long hh]
def wfs (a : Nat) (r : Nat → Int) : List Value := [.ref (a + 1), .ref (a + 2), .ref (a + 3), .ref (a + 4), .ref (a + 5), .ref (a + 6), .int (iI (r 6)), .int (iI (r 7)), .int (iI (r 8)), .int (iI (r 9)), .int (iI (r 10)), .int (iI (r 11))]
def sfs (a : Nat) (r : Nat → Int) : List Value := [.ref (a + 1), .ref (a + 2), .ref (a + 3), .ref (a + 4), .int (iI (r 4))]
def afs (r : Nat → Int) : List Value := [.ref 35, .ref 36, .ref 37, .ref 38, .int (iI (r 4)), .int (iI (r 5)), .int (iI (r 6))]
def wofR (k : Nat) (r : Nat → Int) (hh : Int64) : Option zzE := match k with
  | 0 => some (.inr (3, xfs r))
  | 1 => some (.inl (0, 14, ir r))
  | 2 => some (.inr (2, wfs 2 r))
  | 3 => some (.inl (0, 12, ir r))
  | 4 => some (.inl (0, 5, ir r))
  | 5 => some (.inl (0, 5, ir r))
  | 6 => some (.inl (0, 5, ir r))
  | 7 => some (.inl (0, 5, ir r))
  | 8 => some (.inl (0, 5, ir r))
  | 9 => some (.inr (2, wfs 9 r))
  | 10 => some (.inl (0, 12, ir r))
  | 11 => some (.inl (0, 5, ir r))
  | 12 => some (.inl (0, 5, ir r))
  | 13 => some (.inl (0, 5, ir r))
  | 14 => some (.inl (0, 5, ir r))
  | 15 => some (.inl (0, 5, ir r))
  | 16 => some (.inr (2, wfs 16 r))
  | 17 => some (.inl (0, 12, ir r))
  | 18 => some (.inl (0, 5, ir r))
  | 19 => some (.inl (0, 5, ir r))
  | 20 => some (.inl (0, 5, ir r))
  | 21 => some (.inl (0, 5, ir r))
  | 22 => some (.inl (0, 5, ir r))
  | 23 => some (.inr (1, sfs 23 r))
  | 24 => some (.inl (0, 8, ir r))
  | 25 => some (.inl (0, 8, ir r))
  | 26 => some (.inl (0, 8, ir r))
  | 27 => some (.inl (1, 8, ir r))
  | 28 => some (.inr (1, sfs 28 r))
  | 29 => some (.inl (0, 8, ir r))
  | 30 => some (.inl (0, 8, ir r))
  | 31 => some (.inl (0, 8, ir r))
  | 32 => some (.inl (1, 8, ir r))
  | 33 => some (.inl (0, 25, ir r))
  | 34 => some (.inr (0, afs r))
  | 35 => some (.inl (0, 5, ir r))
  | 36 => some (.inl (0, 5, ir r))
  | 37 => some (.inl (0, 5, ir r))
  | 38 => some (.inl (0, 5, ir r))
  | 39 => some (.inr (4, mfs r hh))
  | 40 => some (.inl (0, 14, ir r))
  | 41 => some (.inl (0, 12, ir r))
  | 42 => some (.inl (0, 20, ir r))
  | 43 => some (.inl (0, 12, ir r))
  | 44 => some (.inl (0, 5, ir r))
  | 45 => some (.inl (0, 25, ir r))
  | 46 => some (.inl (0, 5, ir r))
  | 47 => some (.inl (0, 5, ir r))
  | 48 => some (.inl (0, 32, ir r))
  | 49 => some (.inl (0, 20, ir r))
  | 50 => some (.inl (0, 12, ir r))
  | 51 => some (.inl (0, 32, ir r))
  | _ => none
def wof (g : Nat → Nat → Int) (hh : Int64) : zzW := fun k => wofR k (g k) hh
theorem wof_up {g : Nat → Nat → Int} {hh : Int64} {k : Nat} {r : Nat → Int} {e : zzE} (h : wofR k r hh = some e) : zzup (wof g hh) k e = wof (gr g k r) hh := by
  funext j
  by_cases hj : j = k
  · subst hj
    simp [zzup, wof, gr, h]
  · simp [zzup, wof, gr, hj]
theorem wof_upL {g : Nat → Nat → Int} {hh z : Int64} : zzup (wof g hh) 39 (.inr (4, mfs (g 39) z)) = wof g z := by
  funext j
  by_cases hj : j = 39
  · subst hj
    rfl
  · simp only [zzup, if_neg hj, wof]
    unfold wofR
    split <;> first | rfl | exact absurd rfl hj
theorem wk_0 (hh : Int64) (r : Nat → Int) : wofR 0 r hh = some (.inr (3, xfs r)) := rfl
theorem wk_1 (hh : Int64) (r : Nat → Int) : wofR 1 r hh = some (.inl (0, 14, ir r)) := rfl
theorem wk_2 (hh : Int64) (r : Nat → Int) : wofR 2 r hh = some (.inr (2, wfs 2 r)) := rfl
theorem wk_3 (hh : Int64) (r : Nat → Int) : wofR 3 r hh = some (.inl (0, 12, ir r)) := rfl
theorem wk_4 (hh : Int64) (r : Nat → Int) : wofR 4 r hh = some (.inl (0, 5, ir r)) := rfl
theorem wk_5 (hh : Int64) (r : Nat → Int) : wofR 5 r hh = some (.inl (0, 5, ir r)) := rfl
theorem wk_6 (hh : Int64) (r : Nat → Int) : wofR 6 r hh = some (.inl (0, 5, ir r)) := rfl
theorem wk_7 (hh : Int64) (r : Nat → Int) : wofR 7 r hh = some (.inl (0, 5, ir r)) := rfl
theorem wk_8 (hh : Int64) (r : Nat → Int) : wofR 8 r hh = some (.inl (0, 5, ir r)) := rfl
theorem wk_9 (hh : Int64) (r : Nat → Int) : wofR 9 r hh = some (.inr (2, wfs 9 r)) := rfl
theorem wk_10 (hh : Int64) (r : Nat → Int) : wofR 10 r hh = some (.inl (0, 12, ir r)) := rfl
theorem wk_11 (hh : Int64) (r : Nat → Int) : wofR 11 r hh = some (.inl (0, 5, ir r)) := rfl
theorem wk_12 (hh : Int64) (r : Nat → Int) : wofR 12 r hh = some (.inl (0, 5, ir r)) := rfl
theorem wk_13 (hh : Int64) (r : Nat → Int) : wofR 13 r hh = some (.inl (0, 5, ir r)) := rfl
theorem wk_14 (hh : Int64) (r : Nat → Int) : wofR 14 r hh = some (.inl (0, 5, ir r)) := rfl
theorem wk_15 (hh : Int64) (r : Nat → Int) : wofR 15 r hh = some (.inl (0, 5, ir r)) := rfl
theorem wk_16 (hh : Int64) (r : Nat → Int) : wofR 16 r hh = some (.inr (2, wfs 16 r)) := rfl
theorem wk_17 (hh : Int64) (r : Nat → Int) : wofR 17 r hh = some (.inl (0, 12, ir r)) := rfl
theorem wk_18 (hh : Int64) (r : Nat → Int) : wofR 18 r hh = some (.inl (0, 5, ir r)) := rfl
theorem wk_19 (hh : Int64) (r : Nat → Int) : wofR 19 r hh = some (.inl (0, 5, ir r)) := rfl
theorem wk_20 (hh : Int64) (r : Nat → Int) : wofR 20 r hh = some (.inl (0, 5, ir r)) := rfl
theorem wk_21 (hh : Int64) (r : Nat → Int) : wofR 21 r hh = some (.inl (0, 5, ir r)) := rfl
theorem wk_22 (hh : Int64) (r : Nat → Int) : wofR 22 r hh = some (.inl (0, 5, ir r)) := rfl
theorem wk_23 (hh : Int64) (r : Nat → Int) : wofR 23 r hh = some (.inr (1, sfs 23 r)) := rfl
theorem wk_24 (hh : Int64) (r : Nat → Int) : wofR 24 r hh = some (.inl (0, 8, ir r)) := rfl
theorem wk_25 (hh : Int64) (r : Nat → Int) : wofR 25 r hh = some (.inl (0, 8, ir r)) := rfl
theorem wk_26 (hh : Int64) (r : Nat → Int) : wofR 26 r hh = some (.inl (0, 8, ir r)) := rfl
theorem wk_27 (hh : Int64) (r : Nat → Int) : wofR 27 r hh = some (.inl (1, 8, ir r)) := rfl
theorem wk_28 (hh : Int64) (r : Nat → Int) : wofR 28 r hh = some (.inr (1, sfs 28 r)) := rfl
theorem wk_29 (hh : Int64) (r : Nat → Int) : wofR 29 r hh = some (.inl (0, 8, ir r)) := rfl
theorem wk_30 (hh : Int64) (r : Nat → Int) : wofR 30 r hh = some (.inl (0, 8, ir r)) := rfl
theorem wk_31 (hh : Int64) (r : Nat → Int) : wofR 31 r hh = some (.inl (0, 8, ir r)) := rfl
theorem wk_32 (hh : Int64) (r : Nat → Int) : wofR 32 r hh = some (.inl (1, 8, ir r)) := rfl
theorem wk_33 (hh : Int64) (r : Nat → Int) : wofR 33 r hh = some (.inl (0, 25, ir r)) := rfl
theorem wk_34 (hh : Int64) (r : Nat → Int) : wofR 34 r hh = some (.inr (0, afs r)) := rfl
theorem wk_35 (hh : Int64) (r : Nat → Int) : wofR 35 r hh = some (.inl (0, 5, ir r)) := rfl
theorem wk_36 (hh : Int64) (r : Nat → Int) : wofR 36 r hh = some (.inl (0, 5, ir r)) := rfl
theorem wk_37 (hh : Int64) (r : Nat → Int) : wofR 37 r hh = some (.inl (0, 5, ir r)) := rfl
theorem wk_38 (hh : Int64) (r : Nat → Int) : wofR 38 r hh = some (.inl (0, 5, ir r)) := rfl
theorem wk_39 (hh : Int64) (r : Nat → Int) : wofR 39 r hh = some (.inr (4, mfs r hh)) := rfl
theorem wk_40 (hh : Int64) (r : Nat → Int) : wofR 40 r hh = some (.inl (0, 14, ir r)) := rfl
theorem wk_41 (hh : Int64) (r : Nat → Int) : wofR 41 r hh = some (.inl (0, 12, ir r)) := rfl
theorem wk_42 (hh : Int64) (r : Nat → Int) : wofR 42 r hh = some (.inl (0, 20, ir r)) := rfl
theorem wk_43 (hh : Int64) (r : Nat → Int) : wofR 43 r hh = some (.inl (0, 12, ir r)) := rfl
theorem wk_44 (hh : Int64) (r : Nat → Int) : wofR 44 r hh = some (.inl (0, 5, ir r)) := rfl
theorem wk_45 (hh : Int64) (r : Nat → Int) : wofR 45 r hh = some (.inl (0, 25, ir r)) := rfl
theorem wk_46 (hh : Int64) (r : Nat → Int) : wofR 46 r hh = some (.inl (0, 5, ir r)) := rfl
theorem wk_47 (hh : Int64) (r : Nat → Int) : wofR 47 r hh = some (.inl (0, 5, ir r)) := rfl
theorem wk_48 (hh : Int64) (r : Nat → Int) : wofR 48 r hh = some (.inl (0, 32, ir r)) := rfl
theorem wk_49 (hh : Int64) (r : Nat → Int) : wofR 49 r hh = some (.inl (0, 20, ir r)) := rfl
theorem wk_50 (hh : Int64) (r : Nat → Int) : wofR 50 r hh = some (.inl (0, 12, ir r)) := rfl
theorem wk_51 (hh : Int64) (r : Nat → Int) : wofR 51 r hh = some (.inl (0, 32, ir r)) := rfl
def isW (a : Nat) : Prop := a = 2 ∨ a = 9 ∨ a = 16
def isH (a : Nat) : Prop := a = 23 ∨ a = 28
theorem wW_0 {a : Nat} (h : isW a) (hh : Int64) (r : Nat → Int) : wofR a r hh = some (.inr (2, wfs a r)) := by rcases h with rfl | rfl | rfl <;> rfl
theorem wW_1 {a : Nat} (h : isW a) (hh : Int64) (r : Nat → Int) : wofR (a + 1) r hh = some (.inl (0, 12, ir r)) := by rcases h with rfl | rfl | rfl <;> rfl
theorem wW_2 {a : Nat} (h : isW a) (hh : Int64) (r : Nat → Int) : wofR (a + 2) r hh = some (.inl (0, 5, ir r)) := by rcases h with rfl | rfl | rfl <;> rfl
theorem wW_3 {a : Nat} (h : isW a) (hh : Int64) (r : Nat → Int) : wofR (a + 3) r hh = some (.inl (0, 5, ir r)) := by rcases h with rfl | rfl | rfl <;> rfl
theorem wW_4 {a : Nat} (h : isW a) (hh : Int64) (r : Nat → Int) : wofR (a + 4) r hh = some (.inl (0, 5, ir r)) := by rcases h with rfl | rfl | rfl <;> rfl
theorem wW_5 {a : Nat} (h : isW a) (hh : Int64) (r : Nat → Int) : wofR (a + 5) r hh = some (.inl (0, 5, ir r)) := by rcases h with rfl | rfl | rfl <;> rfl
theorem wW_6 {a : Nat} (h : isW a) (hh : Int64) (r : Nat → Int) : wofR (a + 6) r hh = some (.inl (0, 5, ir r)) := by rcases h with rfl | rfl | rfl <;> rfl
theorem wH_0 {a : Nat} (h : isH a) (hh : Int64) (r : Nat → Int) : wofR a r hh = some (.inr (1, sfs a r)) := by rcases h with rfl | rfl <;> rfl
theorem wH_1 {a : Nat} (h : isH a) (hh : Int64) (r : Nat → Int) : wofR (a + 1) r hh = some (.inl (0, 8, ir r)) := by rcases h with rfl | rfl <;> rfl
theorem wH_2 {a : Nat} (h : isH a) (hh : Int64) (r : Nat → Int) : wofR (a + 2) r hh = some (.inl (0, 8, ir r)) := by rcases h with rfl | rfl <;> rfl
theorem wH_3 {a : Nat} (h : isH a) (hh : Int64) (r : Nat → Int) : wofR (a + 3) r hh = some (.inl (0, 8, ir r)) := by rcases h with rfl | rfl <;> rfl
theorem wH_4 {a : Nat} (h : isH a) (hh : Int64) (r : Nat → Int) : wofR (a + 4) r hh = some (.inl (1, 8, ir r)) := by rcases h with rfl | rfl <;> rfl
theorem wof_ok (g : Nat → Nat → Int) (hh : Int64) : zzok 52 (wof g hh) := by
  intro k
  by_cases h : k < 52
  · simp only [h, iff_true]
    have : ∀ k, k < 52 → ∀ r, (wofR k r hh).isSome = true := by
      intro k h r
      match k, h with
      | 0, _ => rfl
      | 1, _ => rfl
      | 2, _ => rfl
      | 3, _ => rfl
      | 4, _ => rfl
      | 5, _ => rfl
      | 6, _ => rfl
      | 7, _ => rfl
      | 8, _ => rfl
      | 9, _ => rfl
      | 10, _ => rfl
      | 11, _ => rfl
      | 12, _ => rfl
      | 13, _ => rfl
      | 14, _ => rfl
      | 15, _ => rfl
      | 16, _ => rfl
      | 17, _ => rfl
      | 18, _ => rfl
      | 19, _ => rfl
      | 20, _ => rfl
      | 21, _ => rfl
      | 22, _ => rfl
      | 23, _ => rfl
      | 24, _ => rfl
      | 25, _ => rfl
      | 26, _ => rfl
      | 27, _ => rfl
      | 28, _ => rfl
      | 29, _ => rfl
      | 30, _ => rfl
      | 31, _ => rfl
      | 32, _ => rfl
      | 33, _ => rfl
      | 34, _ => rfl
      | 35, _ => rfl
      | 36, _ => rfl
      | 37, _ => rfl
      | 38, _ => rfl
      | 39, _ => rfl
      | 40, _ => rfl
      | 41, _ => rfl
      | 42, _ => rfl
      | 43, _ => rfl
      | 44, _ => rfl
      | 45, _ => rfl
      | 46, _ => rfl
      | 47, _ => rfl
      | 48, _ => rfl
      | 49, _ => rfl
      | 50, _ => rfl
      | 51, _ => rfl
      | n + 52, h => exact absurd h (by omega)
    exact this k h _
  · simp only [h, iff_false]
    have : wofR k (g k) hh = none := by
      unfold wofR
      split <;> first | omega | rfl
    show ¬ (wofR k (g k) hh).isSome = true
    rw [this]
    decide
section GW
variable {zs : zzT} {CL : zzK} {cc : ByteArray} {o nL : Nat} {rt : Option FieldType} {Q : zzQ} {R : zzS} {pc : Nat} {ls : zzL} {st : List Value} {w : zzW} {g : Nat → Nat → Int} {hh : Int64}
theorem g_iconst (h : zzC zs CL cc o nL rt Q R) {n : Int} (hd : decode cc pc = .ok (.iconst n, 1)) (kk : R (pc + 1) ls (.int (iI n) :: st) (w)) : R (pc) ls (st) (w) := z_iconst h hd rfl kk
theorem g_bipush (h : zzC zs CL cc o nL rt Q R) {n : Int} (hd : decode cc pc = .ok (.bipush n, 2)) (kk : R (pc + 2) ls (.int (iI n) :: st) (w)) (hv : (Int8.ofInt n).toInt32 = iI n := by decide) : R (pc) ls (st) (w) := z_bipush h hd hv kk
theorem g_iinc (h : zzC zs CL cc o nL rt Q R) {i : Nat} {n z v : Int} {ls1 : zzL} (hd : decode cc pc = .ok (.iinc i n, 3)) (hg : zzget ls i = some (.int (iI z))) (hv : z + n = v) (hn : i < nL) (hp : zzput ls i (.int (iI v)) = ls1) (kk : R (pc + 3) ls1 (st) (w)) : R (pc) ls (st) (w) := z_iinc h hd hg (by rw [← hv]; exact iI_add z n) hn hp kk
theorem g_iadd (h : zzC zs CL cc o nL rt Q R) {x y v : Int} (hd : decode cc pc = .ok (.iadd, 1)) (hv : x + y = v) (kk : R (pc + 1) ls (.int (iI v) :: st) (w)) : R (pc) ls (.int (iI y) :: .int (iI x) :: st) (w) := z_iadd h hd (by rw [← hv]; exact iI_add x y) kk
theorem g_isub (h : zzC zs CL cc o nL rt Q R) {x y v : Int} (hd : decode cc pc = .ok (.isub, 1)) (hv : x - y = v) (kk : R (pc + 1) ls (.int (iI v) :: st) (w)) : R (pc) ls (.int (iI y) :: .int (iI x) :: st) (w) := z_isub h hd (by rw [← hv]; exact iI_sub x y) kk
theorem g_imul (h : zzC zs CL cc o nL rt Q R) {x y v : Int} (hd : decode cc pc = .ok (.imul, 1)) (hv : x * y = v) (kk : R (pc + 1) ls (.int (iI v) :: st) (w)) : R (pc) ls (.int (iI y) :: .int (iI x) :: st) (w) := z_imul h hd (by rw [← hv]; exact iI_mul x y) kk
theorem g_ineg (h : zzC zs CL cc o nL rt Q R) {x v : Int} (hd : decode cc pc = .ok (.ineg, 1)) (hv : -x = v) (kk : R (pc + 1) ls (.int (iI v) :: st) (w)) : R (pc) ls (.int (iI x) :: st) (w) := z_ineg h hd (by rw [← hv]; exact iI_neg x) kk
theorem g_idiv (h : zzC zs CL cc o nL rt Q R) {x y v : Int} (hd : decode cc pc = .ok (.idiv, 1)) (hv : x / y = v) (kk : R (pc + 1) ls (.int (iI v) :: st) (w)) (hx : 0 ≤ x := by omega) (hx2 : x < 2147483648 := by omega) (hy : 0 < y := by omega) (hy2 : y < 2147483648 := by omega) : R (pc) ls (.int (iI y) :: .int (iI x) :: st) (w) := z_idiv h hd (iI_ne0 ⟨by omega, hy2⟩ (by omega)) (by rw [← hv]; exact iI_div hx hx2 hy hy2) kk
theorem g_irem (h : zzC zs CL cc o nL rt Q R) {x y v : Int} (hd : decode cc pc = .ok (.irem, 1)) (hv : x % y = v) (kk : R (pc + 1) ls (.int (iI v) :: st) (w)) (hx : 0 ≤ x := by omega) (hx2 : x < 2147483648 := by omega) (hy : 0 < y := by omega) (hy2 : y < 2147483648 := by omega) : R (pc) ls (.int (iI y) :: .int (iI x) :: st) (w) := z_irem h hd (iI_ne0 ⟨by omega, hy2⟩ (by omega)) (by rw [← hv]; exact iI_rem hx hx2 hy hy2) kk
theorem g_iand (h : zzC zs CL cc o nL rt Q R) {x y : Nat} (hd : decode cc pc = .ok (.iand, 1)) (kk : R (pc + 1) ls (.int (iI ((x &&& y : Nat) : Int)) :: st) (w)) : R (pc) ls (.int (iI (y : Int)) :: .int (iI (x : Int)) :: st) (w) := z_iand h hd (iI_and x y) kk
theorem g_iandn (h : zzC zs CL cc o nL rt Q R) {x y : Nat} (hd : decode cc pc = .ok (.iand, 1)) (kk : R (pc + 1) ls (.int (iI ((x ^^^ (x &&& y) : Nat) : Int)) :: st) (w)) : R (pc) ls (.int (iI (-(y : Int) - 1)) :: .int (iI (x : Int)) :: st) (w) := z_iand h hd (iI_andnot x y) kk
theorem g_iand1 (h : zzC zs CL cc o nL rt Q R) {x v : Int} (hd : decode cc pc = .ok (.iand, 1)) (hv : x % 2 = v) (kk : R (pc + 1) ls (.int (iI v) :: st) (w)) : R (pc) ls (.int (iI 1) :: .int (iI x) :: st) (w) := z_iand h hd (by rw [← hv]; exact iI_and1 x) kk
theorem g_ior (h : zzC zs CL cc o nL rt Q R) {x y : Nat} (hd : decode cc pc = .ok (.ior, 1)) (kk : R (pc + 1) ls (.int (iI ((x ||| y : Nat) : Int)) :: st) (w)) : R (pc) ls (.int (iI (y : Int)) :: .int (iI (x : Int)) :: st) (w) := z_ior h hd (iI_or x y) kk
theorem g_inot (h : zzC zs CL cc o nL rt Q R) {x v : Int} (hd : decode cc pc = .ok (.ixor, 1)) (hv : -x - 1 = v) (kk : R (pc + 1) ls (.int (iI v) :: st) (w)) : R (pc) ls (.int (iI (-1)) :: .int (iI x) :: st) (w) := z_ixor h hd (by rw [← hv]; exact iI_not x) kk
theorem g_ishl (h : zzC zs CL cc o nL rt Q R) {x z v : Int} (hd : decode cc pc = .ok (.ishl, 1)) (hv : x * 2 ^ z.toNat = v) (h4 : v < 2147483648) (kk : R (pc + 1) ls (.int (iI v) :: st) (w)) (hx : 0 ≤ x := by omega) (h0 : 0 ≤ z := by omega) (h1 : z < 32 := by omega) : R (pc) ls (.int (iI z) :: .int (iI x) :: st) (w) := z_ishl h hd (by rw [iI_shl hx h0 h1 (by rw [hv]; exact h4), hv]) kk
theorem g_ishr (h : zzC zs CL cc o nL rt Q R) {x z v : Int} (hd : decode cc pc = .ok (.ishr, 1)) (hv : x / 2 ^ z.toNat = v) (kk : R (pc + 1) ls (.int (iI v) :: st) (w)) (hx : rg x := by first | assumption | exact b2i_rg _ | (unfold rg; omega)) (h0 : 0 ≤ z := by omega) (h1 : z < 32 := by omega) : R (pc) ls (.int (iI z) :: .int (iI x) :: st) (w) := z_ishr h hd (by rw [iI_shr hx h0 h1, hv]) kk
theorem g_ishrN (h : zzC zs CL cc o nL rt Q R) {x v : Int} {i : Nat} (hd : decode cc pc = .ok (.ishr, 1)) (hv : x / 2 ^ i = v) (kk : R (pc + 1) ls (.int (iI v) :: st) (w)) (hx : rg x := by first | assumption | exact b2i_rg _ | (unfold rg; omega)) (h1 : i < 32 := by omega) : R (pc) ls (.int (iI (i : Int)) :: .int (iI x) :: st) (w) := g_ishr h hd hv kk hx
theorem g_i2l (h : zzC zs CL cc o nL rt Q R) {x : Int} (hd : decode cc pc = .ok (.i2l, 1)) (kk : R (pc + 1) ls (.long (lI x) :: st) (w)) (hx : rg x := by first | assumption | exact b2i_rg _ | (unfold rg; omega)) : R (pc) ls (.int (iI x) :: st) (w) := z_i2l h hd (lI_i hx) kk
theorem g_lcmp (h : zzC zs CL cc o nL rt Q R) {x y v : Int} (hd : decode cc pc = .ok (.lcmp, 1)) (hv : (if y < x then 1 else if x = y then 0 else -1) = v) (kk : R (pc + 1) ls (.int (iI v) :: st) (w)) (hx : rg x := by first | assumption | exact b2i_rg _ | (unfold rg; omega)) (hy : rg y := by first | assumption | exact b2i_rg _ | (unfold rg; omega)) : R (pc) ls (.long (lI y) :: .long (lI x) :: st) (w) := z_lcmp h hd (by rw [lI_cmp hx hy, hv]) kk
theorem g_if_eq (h : zzC zs CL cc o nL rt Q R) {x off : Int} {tgt : Nat} (hd : decode cc pc = .ok (.ifCond .eq off, 3)) (ht : (pc : Int) + off = (tgt : Int)) (kt : x = 0 → R tgt ls st w) (kf : x ≠ 0 → R (pc + 3) ls st w) (hx : rg x := by first | assumption | exact b2i_rg _ | (unfold rg; omega)) : R (pc) ls (.int (iI x) :: st) (w) := z_if_eq h hd ht (fun q => kt ((iI_eq hx (show rg 0 by unfold rg; omega)).mp q)) (fun q => kf (fun q1 => q (congrArg iI q1)))
theorem g_if_ne (h : zzC zs CL cc o nL rt Q R) {x off : Int} {tgt : Nat} (hd : decode cc pc = .ok (.ifCond .ne off, 3)) (ht : (pc : Int) + off = (tgt : Int)) (kt : x ≠ 0 → R tgt ls st w) (kf : x = 0 → R (pc + 3) ls st w) (hx : rg x := by first | assumption | exact b2i_rg _ | (unfold rg; omega)) : R (pc) ls (.int (iI x) :: st) (w) := z_if_ne h hd ht (fun q => kt (fun q1 => q (congrArg iI q1))) (fun q => kf ((iI_eq hx (show rg 0 by unfold rg; omega)).mp q))
theorem g_if_lt (h : zzC zs CL cc o nL rt Q R) {x off : Int} {tgt : Nat} (hd : decode cc pc = .ok (.ifCond .lt off, 3)) (ht : (pc : Int) + off = (tgt : Int)) (kt : x < 0 → R tgt ls st w) (kf : 0 ≤ x → R (pc + 3) ls st w) (hx : rg x := by first | assumption | exact b2i_rg _ | (unfold rg; omega)) : R (pc) ls (.int (iI x) :: st) (w) := z_if_lt h hd ht (fun q => kt ((iI_lt hx (show rg 0 by unfold rg; omega)).mp q)) (fun q => kf (Int.not_lt.mp (fun q1 => q ((iI_lt hx (show rg 0 by unfold rg; omega)).mpr q1))))
theorem g_if_ge (h : zzC zs CL cc o nL rt Q R) {x off : Int} {tgt : Nat} (hd : decode cc pc = .ok (.ifCond .ge off, 3)) (ht : (pc : Int) + off = (tgt : Int)) (kt : 0 ≤ x → R tgt ls st w) (kf : x < 0 → R (pc + 3) ls st w) (hx : rg x := by first | assumption | exact b2i_rg _ | (unfold rg; omega)) : R (pc) ls (.int (iI x) :: st) (w) := z_if_ge h hd ht (fun q => kt ((iI_le (show rg 0 by unfold rg; omega) hx).mp q)) (fun q => kf (Int.not_le.mp (fun q1 => q ((iI_le (show rg 0 by unfold rg; omega) hx).mpr q1))))
theorem g_if_gt (h : zzC zs CL cc o nL rt Q R) {x off : Int} {tgt : Nat} (hd : decode cc pc = .ok (.ifCond .gt off, 3)) (ht : (pc : Int) + off = (tgt : Int)) (kt : 0 < x → R tgt ls st w) (kf : x ≤ 0 → R (pc + 3) ls st w) (hx : rg x := by first | assumption | exact b2i_rg _ | (unfold rg; omega)) : R (pc) ls (.int (iI x) :: st) (w) := z_if_gt h hd ht (fun q => kt ((iI_lt (show rg 0 by unfold rg; omega) hx).mp q)) (fun q => kf (Int.not_lt.mp (fun q1 => q ((iI_lt (show rg 0 by unfold rg; omega) hx).mpr q1))))
theorem g_if_le (h : zzC zs CL cc o nL rt Q R) {x off : Int} {tgt : Nat} (hd : decode cc pc = .ok (.ifCond .le off, 3)) (ht : (pc : Int) + off = (tgt : Int)) (kt : x ≤ 0 → R tgt ls st w) (kf : 0 < x → R (pc + 3) ls st w) (hx : rg x := by first | assumption | exact b2i_rg _ | (unfold rg; omega)) : R (pc) ls (.int (iI x) :: st) (w) := z_if_le h hd ht (fun q => kt ((iI_le hx (show rg 0 by unfold rg; omega)).mp q)) (fun q => kf (Int.not_le.mp (fun q1 => q ((iI_le hx (show rg 0 by unfold rg; omega)).mpr q1))))
theorem g_icmp_eq (h : zzC zs CL cc o nL rt Q R) {x y off : Int} {tgt : Nat} (hd : decode cc pc = .ok (.if_icmp .eq off, 3)) (ht : (pc : Int) + off = (tgt : Int)) (kt : x = y → R tgt ls st w) (kf : x ≠ y → R (pc + 3) ls st w) (hx : rg x := by first | assumption | exact b2i_rg _ | (unfold rg; omega)) (hy : rg y := by first | assumption | exact b2i_rg _ | (unfold rg; omega)) : R (pc) ls (.int (iI y) :: .int (iI x) :: st) (w) := z_icmp_eq h hd ht (fun q => kt ((iI_eq hx hy).mp q)) (fun q => kf (fun q1 => q (congrArg iI q1)))
theorem g_icmp_ne (h : zzC zs CL cc o nL rt Q R) {x y off : Int} {tgt : Nat} (hd : decode cc pc = .ok (.if_icmp .ne off, 3)) (ht : (pc : Int) + off = (tgt : Int)) (kt : x ≠ y → R tgt ls st w) (kf : x = y → R (pc + 3) ls st w) (hx : rg x := by first | assumption | exact b2i_rg _ | (unfold rg; omega)) (hy : rg y := by first | assumption | exact b2i_rg _ | (unfold rg; omega)) : R (pc) ls (.int (iI y) :: .int (iI x) :: st) (w) := z_icmp_ne h hd ht (fun q => kt (fun q1 => q (congrArg iI q1))) (fun q => kf ((iI_eq hx hy).mp q))
theorem g_icmp_lt (h : zzC zs CL cc o nL rt Q R) {x y off : Int} {tgt : Nat} (hd : decode cc pc = .ok (.if_icmp .lt off, 3)) (ht : (pc : Int) + off = (tgt : Int)) (kt : x < y → R tgt ls st w) (kf : y ≤ x → R (pc + 3) ls st w) (hx : rg x := by first | assumption | exact b2i_rg _ | (unfold rg; omega)) (hy : rg y := by first | assumption | exact b2i_rg _ | (unfold rg; omega)) : R (pc) ls (.int (iI y) :: .int (iI x) :: st) (w) := z_icmp_lt h hd ht (fun q => kt ((iI_lt hx hy).mp q)) (fun q => kf (Int.not_lt.mp (fun q1 => q ((iI_lt hx hy).mpr q1))))
theorem g_icmp_ge (h : zzC zs CL cc o nL rt Q R) {x y off : Int} {tgt : Nat} (hd : decode cc pc = .ok (.if_icmp .ge off, 3)) (ht : (pc : Int) + off = (tgt : Int)) (kt : y ≤ x → R tgt ls st w) (kf : x < y → R (pc + 3) ls st w) (hx : rg x := by first | assumption | exact b2i_rg _ | (unfold rg; omega)) (hy : rg y := by first | assumption | exact b2i_rg _ | (unfold rg; omega)) : R (pc) ls (.int (iI y) :: .int (iI x) :: st) (w) := z_icmp_ge h hd ht (fun q => kt ((iI_le hy hx).mp q)) (fun q => kf (Int.not_le.mp (fun q1 => q ((iI_le hy hx).mpr q1))))
theorem g_icmp_gt (h : zzC zs CL cc o nL rt Q R) {x y off : Int} {tgt : Nat} (hd : decode cc pc = .ok (.if_icmp .gt off, 3)) (ht : (pc : Int) + off = (tgt : Int)) (kt : y < x → R tgt ls st w) (kf : x ≤ y → R (pc + 3) ls st w) (hx : rg x := by first | assumption | exact b2i_rg _ | (unfold rg; omega)) (hy : rg y := by first | assumption | exact b2i_rg _ | (unfold rg; omega)) : R (pc) ls (.int (iI y) :: .int (iI x) :: st) (w) := z_icmp_gt h hd ht (fun q => kt ((iI_lt hy hx).mp q)) (fun q => kf (Int.not_lt.mp (fun q1 => q ((iI_lt hy hx).mpr q1))))
theorem g_icmp_le (h : zzC zs CL cc o nL rt Q R) {x y off : Int} {tgt : Nat} (hd : decode cc pc = .ok (.if_icmp .le off, 3)) (ht : (pc : Int) + off = (tgt : Int)) (kt : x ≤ y → R tgt ls st w) (kf : y < x → R (pc + 3) ls st w) (hx : rg x := by first | assumption | exact b2i_rg _ | (unfold rg; omega)) (hy : rg y := by first | assumption | exact b2i_rg _ | (unfold rg; omega)) : R (pc) ls (.int (iI y) :: .int (iI x) :: st) (w) := z_icmp_le h hd ht (fun q => kt ((iI_le hx hy).mp q)) (fun q => kf (Int.not_le.mp (fun q1 => q ((iI_le hx hy).mpr q1))))
theorem b2i_0 {b : Bool} (h : b2i b = 0) : b = false := by
  cases b
  · rfl
  · exact absurd h (by decide)
theorem b2i_1 {b : Bool} (h : b2i b ≠ 0) : b = true := by
  cases b
  · exact absurd rfl h
  · rfl
theorem g_if_eqb (h : zzC zs CL cc o nL rt Q R) {b : Bool} {off : Int} {tgt : Nat} (hd : decode cc pc = .ok (.ifCond .eq off, 3)) (ht : (pc : Int) + off = (tgt : Int)) (kt : b = false → R tgt ls st w) (kf : b = true → R (pc + 3) ls st w) : R (pc) ls (.int (iI (b2i b)) :: st) (w) := g_if_eq h hd ht (fun q => kt (b2i_0 q)) (fun q => kf (b2i_1 q))
theorem g_if_neb (h : zzC zs CL cc o nL rt Q R) {b : Bool} {off : Int} {tgt : Nat} (hd : decode cc pc = .ok (.ifCond .ne off, 3)) (ht : (pc : Int) + off = (tgt : Int)) (kt : b = true → R tgt ls st w) (kf : b = false → R (pc + 3) ls st w) : R (pc) ls (.int (iI (b2i b)) :: st) (w) := g_if_ne h hd ht (fun q => kt (b2i_1 q)) (fun q => kf (b2i_0 q))
theorem g_get (h : zzC zs CL cc o nL rt Q R) {idx ci sl a : Nat} {ne : Bool} {F : (Nat → Int) → List Value} {v : Value} (hd : decode cc pc = .ok (.getfield idx, 3)) (hf : zzf o idx = some (ci, sl, ne)) (hw : ∀ r, wofR a r hh = some (.inr (ci, F r))) (hv : (F (g a))[sl]? = some v) (kk : R (pc + 3) ls (v :: st) (wof g hh)) : R (pc) ls (.ref a :: st) (wof g hh) := z_get h hd hf (hw (g a)) hv kk
theorem g_put (h : zzC zs CL cc o nL rt Q R) {idx ci sl a : Nat} {ne : Bool} {F : (Nat → Int) → List Value} {z : Int} (hd : decode cc pc = .ok (.putfield idx, 3)) (hf : zzf o idx = some (ci, sl, ne)) (hw : ∀ r, wofR a r hh = some (.inr (ci, F r))) (hlt : sl < (F (g a)).length) (hfin : (zzTT ci sl).2.2.2 = false) (hn : narrow (zzty ci sl) (.int (iI z)) = .int (iI z)) (hfit : fits (zzty ci sl) (.int (iI z)) = true) (hs : (F (g a)).set sl (.int (iI z)) = F (iu (g a) sl z)) (kk : R (pc + 3) ls (st) (wof (gr g a (iu (g a) sl z)) hh)) : R (pc) ls (.int (iI z) :: .ref a :: st) (wof g hh) := z_puti h hd hf (hw (g a)) hlt hfin hn hfit (by rw [hs, wof_up (hw (iu (g a) sl z))]; exact kk)
theorem g_iald (h : zzC zs CL cc o nL rt Q R) {a n : Nat} {i v : Int} (hd : decode cc pc = .ok (.iaload, 1)) (hw : ∀ r, wofR a r hh = some (.inl (0, n, ir r))) (hv : g a i.toNat = v) (kk : R (pc + 1) ls (.int (iI v) :: st) (wof g hh)) (h0 : 0 ≤ i := by omega) (h1 : i < n := by omega) (hn : (n : Int) < 2147483648 := by decide) : R (pc) ls (.int (iI i) :: .ref a :: st) (wof g hh) := z_iald h hd (hw (g a)) (iI_in h0 h1 hn) (by rw [iI_clamp ⟨by omega, by omega⟩, ← hv]; rfl) kk
theorem g_zald (h : zzC zs CL cc o nL rt Q R) {a n : Nat} {i v : Int} (hd : decode cc pc = .ok (.baload, 1)) (hw : ∀ r, wofR a r hh = some (.inl (1, n, ir r))) (hv : g a i.toNat = v) (kk : R (pc + 1) ls (.int (iI v) :: st) (wof g hh)) (h0 : 0 ≤ i := by omega) (h1 : i < n := by omega) (hn : (n : Int) < 2147483648 := by decide) : R (pc) ls (.int (iI i) :: .ref a :: st) (wof g hh) := z_zald h hd (hw (g a)) (iI_in h0 h1 hn) (by rw [iI_clamp ⟨by omega, by omega⟩, ← hv]; rfl) kk
theorem g_tald (h : zzC zs CL cc o nL rt Q R) {a n : Nat} {f : Nat → Int} {i v : Int} (hd : decode cc pc = .ok (.iaload, 1)) (hw : zs a = some (n, ir f)) (hv : f i.toNat = v) (kk : R (pc + 1) ls (.int (iI v) :: st) (w)) (h0 : 0 ≤ i := by omega) (h1 : i < n := by omega) (hn : (n : Int) < 2147483648 := by omega) : R (pc) ls (.int (iI i) :: .ref a :: st) (w) := z_tald h hd hw (iI_in h0 h1 hn) (by rw [iI_clamp ⟨by omega, by omega⟩, ← hv]; rfl) kk
theorem g_iast (h : zzC zs CL cc o nL rt Q R) {a n : Nat} {i z : Int} (hd : decode cc pc = .ok (.iastore, 1)) (hw : ∀ r, wofR a r hh = some (.inl (0, n, ir r))) (kk : R (pc + 1) ls (st) (wof (gr g a (iu (g a) i.toNat z)) hh)) (h0 : 0 ≤ i := by omega) (h1 : i < n := by omega) (hn : (n : Int) < 2147483648 := by decide) : R (pc) ls (.int (iI z) :: .int (iI i) :: .ref a :: st) (wof g hh) := z_iast h hd (hw (g a)) (iI_in h0 h1 hn) (by rw [ir_iu _ _ ⟨by omega, by omega⟩, wof_up (hw _)]; exact kk)
theorem g_ialdN (h : zzC zs CL cc o nL rt Q R) {a n i : Nat} {v : Int} (hd : decode cc pc = .ok (.iaload, 1)) (hw : ∀ r, wofR a r hh = some (.inl (0, n, ir r))) (hv : g a i = v) (kk : R (pc + 1) ls (.int (iI v) :: st) (wof g hh)) (h1 : i < n := by omega) (hn : (n : Int) < 2147483648 := by decide) : R (pc) ls (.int (iI (i : Int)) :: .ref a :: st) (wof g hh) := g_iald h hd hw hv kk (hn := hn)
theorem g_zaldN (h : zzC zs CL cc o nL rt Q R) {a n i : Nat} {v : Int} (hd : decode cc pc = .ok (.baload, 1)) (hw : ∀ r, wofR a r hh = some (.inl (1, n, ir r))) (hv : g a i = v) (kk : R (pc + 1) ls (.int (iI v) :: st) (wof g hh)) (h1 : i < n := by omega) (hn : (n : Int) < 2147483648 := by decide) : R (pc) ls (.int (iI (i : Int)) :: .ref a :: st) (wof g hh) := g_zald h hd hw hv kk (hn := hn)
theorem g_taldN (h : zzC zs CL cc o nL rt Q R) {a n i : Nat} {f : Nat → Int} {v : Int} (hd : decode cc pc = .ok (.iaload, 1)) (hw : zs a = some (n, ir f)) (hv : f i = v) (kk : R (pc + 1) ls (.int (iI v) :: st) (w)) (h1 : i < n := by omega) (hn : (n : Int) < 2147483648 := by omega) : R (pc) ls (.int (iI (i : Int)) :: .ref a :: st) (w) := g_tald h hd hw hv kk (hn := hn)
theorem g_iastN (h : zzC zs CL cc o nL rt Q R) {a n i : Nat} {z : Int} (hd : decode cc pc = .ok (.iastore, 1)) (hw : ∀ r, wofR a r hh = some (.inl (0, n, ir r))) (kk : R (pc + 1) ls (st) (wof (gr g a (iu (g a) i z)) hh)) (h1 : i < n := by omega) (hn : (n : Int) < 2147483648 := by decide) : R (pc) ls (.int (iI z) :: .int (iI (i : Int)) :: .ref a :: st) (wof g hh) := g_iast h hd hw kk (hn := hn)
theorem nar_b2i (b : Bool) : vp_nar .boolean (iI (b2i b)) = iI (b2i b) := by cases b <;> decide
theorem g_zast (h : zzC zs CL cc o nL rt Q R) {a n : Nat} {i : Int} {b : Bool} (hd : decode cc pc = .ok (.bastore, 1)) (hw : ∀ r, wofR a r hh = some (.inl (1, n, ir r))) (kk : R (pc + 1) ls (st) (wof (gr g a (iu (g a) i.toNat (b2i b))) hh)) (h0 : 0 ≤ i := by omega) (h1 : i < n := by omega) (hn : (n : Int) < 2147483648 := by decide) : R (pc) ls (.int (iI (b2i b)) :: .int (iI i) :: .ref a :: st) (wof g hh) := z_zast h hd (hw (g a)) (iI_in h0 h1 hn) (by rw [nar_b2i, ir_iu _ _ ⟨by omega, by omega⟩, wof_up (hw _)]; exact kk)
theorem g_iret (h : zzC zs CL cc o nL rt Q R) {v : Int} (hd : decode cc pc = .ok (.ireturn, 1)) (hrt : rt = some .int) (kk : Q [.int (iI v)] w) : R (pc) ls ([.int (iI v)]) (w) := z_iret h (st := []) hd hrt rfl kk
theorem g_zret (h : zzC zs CL cc o nL rt Q R) {b : Bool} (hd : decode cc pc = .ok (.ireturn, 1)) (hrt : rt = some .boolean) (kk : Q [.int (iI (b2i b))] w) : R (pc) ls ([.int (iI (b2i b))]) (w) := z_iret h (st := []) hd hrt (by cases b <;> rfl) kk
theorem g_vret (h : zzC zs CL cc o nL rt Q R) (hd : decode cc pc = .ok (.return_, 1)) (hrt : rt = none) (kk : Q [] w) : R (pc) ls ([]) (w) := z_vret h (st := []) hd hrt kk
theorem g_lret (h : zzC zs CL cc o nL rt Q R) {v : Int64} (hd : decode cc pc = .ok (.lreturn, 1)) (hrt : rt = some .long) (kk : Q [.long v] w) : R (pc) ls ([.long v]) (w) := z_lret h (st := []) hd hrt kk
theorem g_mmn (h : zzC zs CL cc o nL rt Q R) {idx : Nat} {x y v : Int} (hd : decode cc pc = .ok (.invokestatic idx, 3)) (hm : zzmn o idx = true) (hv : (if y < x then y else x) = v) (hst : (st.map fun v => v.category).sum ≤ 8) (kk : R (pc + 3) ls (.int (iI v) :: st) (w)) (hx : rg x := by first | assumption | exact b2i_rg _ | (unfold rg; omega)) (hy : rg y := by first | assumption | exact b2i_rg _ | (unfold rg; omega)) : R (pc) ls (.int (iI y) :: .int (iI x) :: st) (w) := z_mmn h hd hm (by rw [← hv]; by_cases q : y < x <;> simp [iI_lt hy hx, q]) hst kk
theorem g_mmx (h : zzC zs CL cc o nL rt Q R) {idx : Nat} {x y v : Int} (hd : decode cc pc = .ok (.invokestatic idx, 3)) (hm : zzmx o idx = true) (hv : (if x < y then y else x) = v) (hst : (st.map fun v => v.category).sum ≤ 8) (kk : R (pc + 3) ls (.int (iI v) :: st) (w)) (hx : rg x := by first | assumption | exact b2i_rg _ | (unfold rg; omega)) (hy : rg y := by first | assumption | exact b2i_rg _ | (unfold rg; omega)) : R (pc) ls (.int (iI y) :: .int (iI x) :: st) (w) := z_mmx h hd hm (by rw [← hv]; by_cases q : x < y <;> simp [iI_lt hx hy, q]) hst kk
theorem g_zastN (h : zzC zs CL cc o nL rt Q R) {a n i : Nat} {b : Bool} (hd : decode cc pc = .ok (.bastore, 1)) (hw : ∀ r, wofR a r hh = some (.inl (1, n, ir r))) (kk : R (pc + 1) ls (st) (wof (gr g a (iu (g a) i (b2i b))) hh)) (h1 : i < n := by omega) (hn : (n : Int) < 2147483648 := by decide) : R (pc) ls (.int (iI (b2i b)) :: .int (iI (i : Int)) :: .ref a :: st) (wof g hh) := g_zast h hd hw kk (hn := hn)
end GW
end
section
theorem zN_X3_letter : 1 = zzn 0 := by rw [zzn, zc_X3_letter]
theorem zO_X3_letter : 3 = zzo 0 := by rw [zzo, zc_X3_letter]
theorem st_X3_letter {zs : zzT} {d : Nat} {av : List Value} {w : zzW} {Q : zzQ} (hl : (lg_sl av).length ≤ 2) (hk : ∀ R : zzS, zzC zs (zzCL zs d) cX3_letter 3 2 (some .int) Q R → R 0 (lv_args 0 av) [] w) : zzCL zs (d + 1) 0 av w Q := by
  refine ⟨by decide, ?_, fun R hR => hk R ?_⟩
  · rw [zzl, zc_X3_letter]; exact hl
  · rw [zzc, zzo, zzl, zzr, zc_X3_letter] at hR; exact hR
theorem zN_X3_blank : 0 = zzn 1 := by rw [zzn, zc_X3_blank]
theorem zO_X3_blank : 3 = zzo 1 := by rw [zzo, zc_X3_blank]
theorem st_X3_blank {zs : zzT} {d : Nat} {av : List Value} {w : zzW} {Q : zzQ} (hl : (lg_sl av).length ≤ 2) (hk : ∀ R : zzS, zzC zs (zzCL zs d) cX3_blank 3 2 (some .int) Q R → R 0 (lv_args 0 av) [] w) : zzCL zs (d + 1) 1 av w Q := by
  refine ⟨by decide, ?_, fun R hR => hk R ?_⟩
  · rw [zzl, zc_X3_blank]; exact hl
  · rw [zzc, zzo, zzl, zzr, zc_X3_blank] at hR; exact hR
theorem zN_X3_fault : 0 = zzn 2 := by rw [zzn, zc_X3_fault]
theorem zO_X3_fault : 3 = zzo 2 := by rw [zzo, zc_X3_fault]
theorem st_X3_fault {zs : zzT} {d : Nat} {av : List Value} {w : zzW} {Q : zzQ} (hl : (lg_sl av).length ≤ 3) (hk : ∀ R : zzS, zzC zs (zzCL zs d) cX3_fault 3 3 (some .int) Q R → R 0 (lv_args 0 av) [] w) : zzCL zs (d + 1) 2 av w Q := by
  refine ⟨by decide, ?_, fun R hR => hk R ?_⟩
  · rw [zzl, zc_X3_fault]; exact hl
  · rw [zzc, zzo, zzl, zzr, zc_X3_fault] at hR; exact hR
theorem zN_X3_isSign : 1 = zzn 3 := by rw [zzn, zc_X3_isSign]
theorem zO_X3_isSign : 3 = zzo 3 := by rw [zzo, zc_X3_isSign]
theorem st_X3_isSign {zs : zzT} {d : Nat} {av : List Value} {w : zzW} {Q : zzQ} (hl : (lg_sl av).length ≤ 1) (hk : ∀ R : zzS, zzC zs (zzCL zs d) cX3_isSign 3 1 (some .boolean) Q R → R 0 (lv_args 0 av) [] w) : zzCL zs (d + 1) 3 av w Q := by
  refine ⟨by decide, ?_, fun R hR => hk R ?_⟩
  · rw [zzl, zc_X3_isSign]; exact hl
  · rw [zzc, zzo, zzl, zzr, zc_X3_isSign] at hR; exact hR
theorem zN_X3_sea : 0 = zzn 4 := by rw [zzn, zc_X3_sea]
theorem zO_X3_sea : 3 = zzo 4 := by rw [zzo, zc_X3_sea]
theorem st_X3_sea {zs : zzT} {d : Nat} {av : List Value} {w : zzW} {Q : zzQ} (hl : (lg_sl av).length ≤ 2) (hk : ∀ R : zzS, zzC zs (zzCL zs d) cX3_sea 3 2 (some .int) Q R → R 0 (lv_args 0 av) [] w) : zzCL zs (d + 1) 4 av w Q := by
  refine ⟨by decide, ?_, fun R hR => hk R ?_⟩
  · rw [zzl, zc_X3_sea]; exact hl
  · rw [zzc, zzo, zzl, zzr, zc_X3_sea] at hR; exact hR
theorem zN_X2_clear : 0 = zzn 5 := by rw [zzn, zc_X2_clear]
theorem zO_X2_clear : 2 = zzo 5 := by rw [zzo, zc_X2_clear]
theorem st_X2_clear {zs : zzT} {d : Nat} {av : List Value} {w : zzW} {Q : zzQ} (hl : (lg_sl av).length ≤ 1) (hk : ∀ R : zzS, zzC zs (zzCL zs d) cX2_clear 2 1 none Q R → R 0 (lv_args 0 av) [] w) : zzCL zs (d + 1) 5 av w Q := by
  refine ⟨by decide, ?_, fun R hR => hk R ?_⟩
  · rw [zzl, zc_X2_clear]; exact hl
  · rw [zzc, zzo, zzl, zzr, zc_X2_clear] at hR; exact hR
theorem zN_X3_currentOf : 1 = zzn 6 := by rw [zzn, zc_X3_currentOf]
theorem zO_X3_currentOf : 3 = zzo 6 := by rw [zzo, zc_X3_currentOf]
theorem st_X3_currentOf {zs : zzT} {d : Nat} {av : List Value} {w : zzW} {Q : zzQ} (hl : (lg_sl av).length ≤ 1) (hk : ∀ R : zzS, zzC zs (zzCL zs d) cX3_currentOf 3 1 (some .int) Q R → R 0 (lv_args 0 av) [] w) : zzCL zs (d + 1) 6 av w Q := by
  refine ⟨by decide, ?_, fun R hR => hk R ?_⟩
  · rw [zzl, zc_X3_currentOf]; exact hl
  · rw [zzc, zzo, zzl, zzr, zc_X3_currentOf] at hR; exact hR
theorem zN_X2_currents : 0 = zzn 7 := by rw [zzn, zc_X2_currents]
theorem zO_X2_currents : 2 = zzo 7 := by rw [zzo, zc_X2_currents]
theorem st_X2_currents {zs : zzT} {d : Nat} {av : List Value} {w : zzW} {Q : zzQ} (hl : (lg_sl av).length ≤ 3) (hk : ∀ R : zzS, zzC zs (zzCL zs d) cX2_currents 2 3 (some .int) Q R → R 0 (lv_args 0 av) [] w) : zzCL zs (d + 1) 7 av w Q := by
  refine ⟨by decide, ?_, fun R hR => hk R ?_⟩
  · rw [zzl, zc_X2_currents]; exact hl
  · rw [zzc, zzo, zzl, zzr, zc_X2_currents] at hR; exact hR
theorem zN_X3_place : 2 = zzn 8 := by rw [zzn, zc_X3_place]
theorem zO_X3_place : 3 = zzo 8 := by rw [zzo, zc_X3_place]
theorem st_X3_place {zs : zzT} {d : Nat} {av : List Value} {w : zzW} {Q : zzQ} (hl : (lg_sl av).length ≤ 3) (hk : ∀ R : zzS, zzC zs (zzCL zs d) cX3_place 3 3 (some .int) Q R → R 0 (lv_args 0 av) [] w) : zzCL zs (d + 1) 8 av w Q := by
  refine ⟨by decide, ?_, fun R hR => hk R ?_⟩
  · rw [zzl, zc_X3_place]; exact hl
  · rw [zzc, zzo, zzl, zzr, zc_X3_place] at hR; exact hR
theorem zN_X3_isPlace : 1 = zzn 9 := by rw [zzn, zc_X3_isPlace]
theorem zO_X3_isPlace : 3 = zzo 9 := by rw [zzo, zc_X3_isPlace]
theorem st_X3_isPlace {zs : zzT} {d : Nat} {av : List Value} {w : zzW} {Q : zzQ} (hl : (lg_sl av).length ≤ 2) (hk : ∀ R : zzS, zzC zs (zzCL zs d) cX3_isPlace 3 2 (some .boolean) Q R → R 0 (lv_args 0 av) [] w) : zzCL zs (d + 1) 9 av w Q := by
  refine ⟨by decide, ?_, fun R hR => hk R ?_⟩
  · rw [zzl, zc_X3_isPlace]; exact hl
  · rw [zzc, zzo, zzl, zzr, zc_X3_isPlace] at hR; exact hR
theorem zN_X2_islandAt : 1 = zzn 10 := by rw [zzn, zc_X2_islandAt]
theorem zO_X2_islandAt : 2 = zzo 10 := by rw [zzo, zc_X2_islandAt]
theorem st_X2_islandAt {zs : zzT} {d : Nat} {av : List Value} {w : zzW} {Q : zzQ} (hl : (lg_sl av).length ≤ 3) (hk : ∀ R : zzS, zzC zs (zzCL zs d) cX2_islandAt 2 3 (some .int) Q R → R 0 (lv_args 0 av) [] w) : zzCL zs (d + 1) 10 av w Q := by
  refine ⟨by decide, ?_, fun R hR => hk R ?_⟩
  · rw [zzl, zc_X2_islandAt]; exact hl
  · rw [zzc, zzo, zzl, zzr, zc_X2_islandAt] at hR; exact hR
theorem zN_X3_wind : 1 = zzn 11 := by rw [zzn, zc_X3_wind]
theorem zO_X3_wind : 3 = zzo 11 := by rw [zzo, zc_X3_wind]
theorem st_X3_wind {zs : zzT} {d : Nat} {av : List Value} {w : zzW} {Q : zzQ} (hl : (lg_sl av).length ≤ 3) (hk : ∀ R : zzS, zzC zs (zzCL zs d) cX3_wind 3 3 (some .int) Q R → R 0 (lv_args 0 av) [] w) : zzCL zs (d + 1) 11 av w Q := by
  refine ⟨by decide, ?_, fun R hR => hk R ?_⟩
  · rw [zzl, zc_X3_wind]; exact hl
  · rw [zzc, zzo, zzl, zzr, zc_X3_wind] at hR; exact hR
theorem zN_X3_island : 3 = zzn 12 := by rw [zzn, zc_X3_island]
theorem zO_X3_island : 3 = zzo 12 := by rw [zzo, zc_X3_island]
theorem st_X3_island {zs : zzT} {d : Nat} {av : List Value} {w : zzW} {Q : zzQ} (hl : (lg_sl av).length ≤ 4) (hk : ∀ R : zzS, zzC zs (zzCL zs d) cX3_island 3 4 (some .int) Q R → R 0 (lv_args 0 av) [] w) : zzCL zs (d + 1) 12 av w Q := by
  refine ⟨by decide, ?_, fun R hR => hk R ?_⟩
  · rw [zzl, zc_X3_island]; exact hl
  · rw [zzc, zzo, zzl, zzr, zc_X3_island] at hR; exact hR
theorem zN_X3_isKind : 1 = zzn 13 := by rw [zzn, zc_X3_isKind]
theorem zO_X3_isKind : 3 = zzo 13 := by rw [zzo, zc_X3_isKind]
theorem st_X3_isKind {zs : zzT} {d : Nat} {av : List Value} {w : zzW} {Q : zzQ} (hl : (lg_sl av).length ≤ 1) (hk : ∀ R : zzS, zzC zs (zzCL zs d) cX3_isKind 3 1 (some .boolean) Q R → R 0 (lv_args 0 av) [] w) : zzCL zs (d + 1) 13 av w Q := by
  refine ⟨by decide, ?_, fun R hR => hk R ?_⟩
  · rw [zzl, zc_X3_isKind]; exact hl
  · rw [zzc, zzo, zzl, zzr, zc_X3_isKind] at hR; exact hR
theorem zN_X2_add : 3 = zzn 14 := by rw [zzn, zc_X2_add]
theorem zO_X2_add : 2 = zzo 14 := by rw [zzo, zc_X2_add]
theorem st_X2_add {zs : zzT} {d : Nat} {av : List Value} {w : zzW} {Q : zzQ} (hl : (lg_sl av).length ≤ 5) (hk : ∀ R : zzS, zzC zs (zzCL zs d) cX2_add 2 5 (some .int) Q R → R 0 (lv_args 0 av) [] w) : zzCL zs (d + 1) 14 av w Q := by
  refine ⟨by decide, ?_, fun R hR => hk R ?_⟩
  · rw [zzl, zc_X2_add]; exact hl
  · rw [zzc, zzo, zzl, zzr, zc_X2_add] at hR; exact hR
theorem zN_X3_about : 2 = zzn 15 := by rw [zzn, zc_X3_about]
theorem zO_X3_about : 3 = zzo 15 := by rw [zzo, zc_X3_about]
theorem st_X3_about {zs : zzT} {d : Nat} {av : List Value} {w : zzW} {Q : zzQ} (hl : (lg_sl av).length ≤ 3) (hk : ∀ R : zzS, zzC zs (zzCL zs d) cX3_about 3 3 (some .int) Q R → R 0 (lv_args 0 av) [] w) : zzCL zs (d + 1) 15 av w Q := by
  refine ⟨by decide, ?_, fun R hR => hk R ?_⟩
  · rw [zzl, zc_X3_about]; exact hl
  · rw [zzc, zzo, zzl, zzr, zc_X3_about] at hR; exact hR
theorem zN_X3_isIsland : 1 = zzn 16 := by rw [zzn, zc_X3_isIsland]
theorem zO_X3_isIsland : 3 = zzo 16 := by rw [zzo, zc_X3_isIsland]
theorem st_X3_isIsland {zs : zzT} {d : Nat} {av : List Value} {w : zzW} {Q : zzQ} (hl : (lg_sl av).length ≤ 2) (hk : ∀ R : zzS, zzC zs (zzCL zs d) cX3_isIsland 3 2 (some .boolean) Q R → R 0 (lv_args 0 av) [] w) : zzCL zs (d + 1) 16 av w Q := by
  refine ⟨by decide, ?_, fun R hR => hk R ?_⟩
  · rw [zzl, zc_X3_isIsland]; exact hl
  · rw [zzc, zzo, zzl, zzr, zc_X3_isIsland] at hR; exact hR
theorem zN_X2_pushOf : 1 = zzn 17 := by rw [zzn, zc_X2_pushOf]
theorem zO_X2_pushOf : 2 = zzo 17 := by rw [zzo, zc_X2_pushOf]
theorem st_X2_pushOf {zs : zzT} {d : Nat} {av : List Value} {w : zzW} {Q : zzQ} (hl : (lg_sl av).length ≤ 4) (hk : ∀ R : zzS, zzC zs (zzCL zs d) cX2_pushOf 2 4 (some .int) Q R → R 0 (lv_args 0 av) [] w) : zzCL zs (d + 1) 17 av w Q := by
  refine ⟨by decide, ?_, fun R hR => hk R ?_⟩
  · rw [zzl, zc_X2_pushOf]; exact hl
  · rw [zzc, zzo, zzl, zzr, zc_X2_pushOf] at hR; exact hR
theorem zN_X2_isAnchored : 1 = zzn 18 := by rw [zzn, zc_X2_isAnchored]
theorem zO_X2_isAnchored : 2 = zzo 18 := by rw [zzo, zc_X2_isAnchored]
theorem st_X2_isAnchored {zs : zzT} {d : Nat} {av : List Value} {w : zzW} {Q : zzQ} (hl : (lg_sl av).length ≤ 2) (hk : ∀ R : zzS, zzC zs (zzCL zs d) cX2_isAnchored 2 2 (some .boolean) Q R → R 0 (lv_args 0 av) [] w) : zzCL zs (d + 1) 18 av w Q := by
  refine ⟨by decide, ?_, fun R hR => hk R ?_⟩
  · rw [zzl, zc_X2_isAnchored]; exact hl
  · rw [zzc, zzo, zzl, zzr, zc_X2_isAnchored] at hR; exact hR
theorem zN_X2_neighbours : 1 = zzn 19 := by rw [zzn, zc_X2_neighbours]
theorem zO_X2_neighbours : 2 = zzo 19 := by rw [zzo, zc_X2_neighbours]
theorem st_X2_neighbours {zs : zzT} {d : Nat} {av : List Value} {w : zzW} {Q : zzQ} (hl : (lg_sl av).length ≤ 4) (hk : ∀ R : zzS, zzC zs (zzCL zs d) cX2_neighbours 2 4 (some .int) Q R → R 0 (lv_args 0 av) [] w) : zzCL zs (d + 1) 19 av w Q := by
  refine ⟨by decide, ?_, fun R hR => hk R ?_⟩
  · rw [zzl, zc_X2_neighbours]; exact hl
  · rw [zzc, zzo, zzl, zzr, zc_X2_neighbours] at hR; exact hR
theorem zN_X2_areBeside : 2 = zzn 20 := by rw [zzn, zc_X2_areBeside]
theorem zO_X2_areBeside : 2 = zzo 20 := by rw [zzo, zc_X2_areBeside]
theorem st_X2_areBeside {zs : zzT} {d : Nat} {av : List Value} {w : zzW} {Q : zzQ} (hl : (lg_sl av).length ≤ 3) (hk : ∀ R : zzS, zzC zs (zzCL zs d) cX2_areBeside 2 3 (some .boolean) Q R → R 0 (lv_args 0 av) [] w) : zzCL zs (d + 1) 20 av w Q := by
  refine ⟨by decide, ?_, fun R hR => hk R ?_⟩
  · rw [zzl, zc_X2_areBeside]; exact hl
  · rw [zzc, zzo, zzl, zzr, zc_X2_areBeside] at hR; exact hR
theorem zN_X2_stepped : 2 = zzn 21 := by rw [zzn, zc_X2_stepped]
theorem zO_X2_stepped : 2 = zzo 21 := by rw [zzo, zc_X2_stepped]
theorem st_X2_stepped {zs : zzT} {d : Nat} {av : List Value} {w : zzW} {Q : zzQ} (hl : (lg_sl av).length ≤ 3) (hk : ∀ R : zzS, zzC zs (zzCL zs d) cX2_stepped 2 3 (some .int) Q R → R 0 (lv_args 0 av) [] w) : zzCL zs (d + 1) 21 av w Q := by
  refine ⟨by decide, ?_, fun R hR => hk R ?_⟩
  · rw [zzl, zc_X2_stepped]; exact hl
  · rw [zzc, zzo, zzl, zzr, zc_X2_stepped] at hR; exact hR
theorem zN_X3_as : 2 = zzn 22 := by rw [zzn, zc_X3_as]
theorem zO_X3_as : 3 = zzo 22 := by rw [zzo, zc_X3_as]
theorem st_X3_as {zs : zzT} {d : Nat} {av : List Value} {w : zzW} {Q : zzQ} (hl : (lg_sl av).length ≤ 5) (hk : ∀ R : zzS, zzC zs (zzCL zs d) cX3_as 3 5 (some .int) Q R → R 0 (lv_args 0 av) [] w) : zzCL zs (d + 1) 22 av w Q := by
  refine ⟨by decide, ?_, fun R hR => hk R ?_⟩
  · rw [zzl, zc_X3_as]; exact hl
  · rw [zzc, zzo, zzl, zzr, zc_X3_as] at hR; exact hR
theorem zN_X3_anchor : 2 = zzn 23 := by rw [zzn, zc_X3_anchor]
theorem zO_X3_anchor : 3 = zzo 23 := by rw [zzo, zc_X3_anchor]
theorem st_X3_anchor {zs : zzT} {d : Nat} {av : List Value} {w : zzW} {Q : zzQ} (hl : (lg_sl av).length ≤ 4) (hk : ∀ R : zzS, zzC zs (zzCL zs d) cX3_anchor 3 4 (some .int) Q R → R 0 (lv_args 0 av) [] w) : zzCL zs (d + 1) 23 av w Q := by
  refine ⟨by decide, ?_, fun R hR => hk R ?_⟩
  · rw [zzl, zc_X3_anchor]; exact hl
  · rw [zzc, zzo, zzl, zzr, zc_X3_anchor] at hR; exact hR
theorem zN_X3_wed : 2 = zzn 24 := by rw [zzn, zc_X3_wed]
theorem zO_X3_wed : 3 = zzo 24 := by rw [zzo, zc_X3_wed]
theorem st_X3_wed {zs : zzT} {d : Nat} {av : List Value} {w : zzW} {Q : zzQ} (hl : (lg_sl av).length ≤ 3) (hk : ∀ R : zzS, zzC zs (zzCL zs d) cX3_wed 3 3 (some .int) Q R → R 0 (lv_args 0 av) [] w) : zzCL zs (d + 1) 24 av w Q := by
  refine ⟨by decide, ?_, fun R hR => hk R ?_⟩
  · rw [zzl, zc_X3_wed]; exact hl
  · rw [zzc, zzo, zzl, zzr, zc_X3_wed] at hR; exact hR
theorem zN_X3_areTwo : 2 = zzn 25 := by rw [zzn, zc_X3_areTwo]
theorem zO_X3_areTwo : 3 = zzo 25 := by rw [zzo, zc_X3_areTwo]
theorem st_X3_areTwo {zs : zzT} {d : Nat} {av : List Value} {w : zzW} {Q : zzQ} (hl : (lg_sl av).length ≤ 3) (hk : ∀ R : zzS, zzC zs (zzCL zs d) cX3_areTwo 3 3 (some .boolean) Q R → R 0 (lv_args 0 av) [] w) : zzCL zs (d + 1) 25 av w Q := by
  refine ⟨by decide, ?_, fun R hR => hk R ?_⟩
  · rw [zzl, zc_X3_areTwo]; exact hl
  · rw [zzc, zzo, zzl, zzr, zc_X3_areTwo] at hR; exact hR
theorem zN_X2_areRoped : 2 = zzn 26 := by rw [zzn, zc_X2_areRoped]
theorem zO_X2_areRoped : 2 = zzo 26 := by rw [zzo, zc_X2_areRoped]
theorem st_X2_areRoped {zs : zzT} {d : Nat} {av : List Value} {w : zzW} {Q : zzQ} (hl : (lg_sl av).length ≤ 3) (hk : ∀ R : zzS, zzC zs (zzCL zs d) cX2_areRoped 2 3 (some .boolean) Q R → R 0 (lv_args 0 av) [] w) : zzCL zs (d + 1) 26 av w Q := by
  refine ⟨by decide, ?_, fun R hR => hk R ?_⟩
  · rw [zzl, zc_X2_areRoped]; exact hl
  · rw [zzc, zzo, zzl, zzr, zc_X2_areRoped] at hR; exact hR
theorem zN_X2_tie : 2 = zzn 27 := by rw [zzn, zc_X2_tie]
theorem zO_X2_tie : 2 = zzo 27 := by rw [zzo, zc_X2_tie]
theorem st_X2_tie {zs : zzT} {d : Nat} {av : List Value} {w : zzW} {Q : zzQ} (hl : (lg_sl av).length ≤ 3) (hk : ∀ R : zzS, zzC zs (zzCL zs d) cX2_tie 2 3 none Q R → R 0 (lv_args 0 av) [] w) : zzCL zs (d + 1) 27 av w Q := by
  refine ⟨by decide, ?_, fun R hR => hk R ?_⟩
  · rw [zzl, zc_X2_tie]; exact hl
  · rw [zzc, zzo, zzl, zzr, zc_X2_tie] at hR; exact hR
theorem zN_X2_findParties : 0 = zzn 28 := by rw [zzn, zc_X2_findParties]
theorem zO_X2_findParties : 2 = zzo 28 := by rw [zzo, zc_X2_findParties]
theorem st_X2_findParties {zs : zzT} {d : Nat} {av : List Value} {w : zzW} {Q : zzQ} (hl : (lg_sl av).length ≤ 2) (hk : ∀ R : zzS, zzC zs (zzCL zs d) cX2_findParties 2 2 none Q R → R 0 (lv_args 0 av) [] w) : zzCL zs (d + 1) 28 av w Q := by
  refine ⟨by decide, ?_, fun R hR => hk R ?_⟩
  · rw [zzl, zc_X2_findParties]; exact hl
  · rw [zzc, zzo, zzl, zzr, zc_X2_findParties] at hR; exact hR
theorem zN_X2_tiedTo : 1 = zzn 29 := by rw [zzn, zc_X2_tiedTo]
theorem zO_X2_tiedTo : 2 = zzo 29 := by rw [zzo, zc_X2_tiedTo]
theorem st_X2_tiedTo {zs : zzT} {d : Nat} {av : List Value} {w : zzW} {Q : zzQ} (hl : (lg_sl av).length ≤ 5) (hk : ∀ R : zzS, zzC zs (zzCL zs d) cX2_tiedTo 2 5 (some .int) Q R → R 0 (lv_args 0 av) [] w) : zzCL zs (d + 1) 29 av w Q := by
  refine ⟨by decide, ?_, fun R hR => hk R ?_⟩
  · rw [zzl, zc_X2_tiedTo]; exact hl
  · rw [zzc, zzo, zzl, zzr, zc_X2_tiedTo] at hR; exact hR
theorem zN_X3_axe : 2 = zzn 30 := by rw [zzn, zc_X3_axe]
theorem zO_X3_axe : 3 = zzo 30 := by rw [zzo, zc_X3_axe]
theorem st_X3_axe {zs : zzT} {d : Nat} {av : List Value} {w : zzW} {Q : zzQ} (hl : (lg_sl av).length ≤ 3) (hk : ∀ R : zzS, zzC zs (zzCL zs d) cX3_axe 3 3 (some .int) Q R → R 0 (lv_args 0 av) [] w) : zzCL zs (d + 1) 30 av w Q := by
  refine ⟨by decide, ?_, fun R hR => hk R ?_⟩
  · rw [zzl, zc_X3_axe]; exact hl
  · rw [zzc, zzo, zzl, zzr, zc_X3_axe] at hR; exact hR
theorem zN_X2_cut : 2 = zzn 31 := by rw [zzn, zc_X2_cut]
theorem zO_X2_cut : 2 = zzo 31 := by rw [zzo, zc_X2_cut]
theorem st_X2_cut {zs : zzT} {d : Nat} {av : List Value} {w : zzW} {Q : zzQ} (hl : (lg_sl av).length ≤ 3) (hk : ∀ R : zzS, zzC zs (zzCL zs d) cX2_cut 2 3 none Q R → R 0 (lv_args 0 av) [] w) : zzCL zs (d + 1) 31 av w Q := by
  refine ⟨by decide, ?_, fun R hR => hk R ?_⟩
  · rw [zzl, zc_X2_cut]; exact hl
  · rw [zzc, zzo, zzl, zzr, zc_X2_cut] at hR; exact hR
theorem zN_X3_day : 0 = zzn 32 := by rw [zzn, zc_X3_day]
theorem zO_X3_day : 3 = zzo 32 := by rw [zzo, zc_X3_day]
theorem st_X3_day {zs : zzT} {d : Nat} {av : List Value} {w : zzW} {Q : zzQ} (hl : (lg_sl av).length ≤ 1) (hk : ∀ R : zzS, zzC zs (zzCL zs d) cX3_day 3 1 (some .int) Q R → R 0 (lv_args 0 av) [] w) : zzCL zs (d + 1) 32 av w Q := by
  refine ⟨by decide, ?_, fun R hR => hk R ?_⟩
  · rw [zzl, zc_X3_day]; exact hl
  · rw [zzc, zzo, zzl, zzr, zc_X3_day] at hR; exact hR
theorem zN_X2_drift : 0 = zzn 33 := by rw [zzn, zc_X2_drift]
theorem zO_X2_drift : 2 = zzo 33 := by rw [zzo, zc_X2_drift]
theorem st_X2_drift {zs : zzT} {d : Nat} {av : List Value} {w : zzW} {Q : zzQ} (hl : (lg_sl av).length ≤ 3) (hk : ∀ R : zzS, zzC zs (zzCL zs d) cX2_drift 2 3 (some .int) Q R → R 0 (lv_args 0 av) [] w) : zzCL zs (d + 1) 33 av w Q := by
  refine ⟨by decide, ?_, fun R hR => hk R ?_⟩
  · rw [zzl, zc_X2_drift]; exact hl
  · rw [zzc, zzo, zzl, zzr, zc_X2_drift] at hR; exact hR
theorem zN_X2_leads : 1 = zzn 34 := by rw [zzn, zc_X2_leads]
theorem zO_X2_leads : 2 = zzo 34 := by rw [zzo, zc_X2_leads]
theorem st_X2_leads {zs : zzT} {d : Nat} {av : List Value} {w : zzW} {Q : zzQ} (hl : (lg_sl av).length ≤ 2) (hk : ∀ R : zzS, zzC zs (zzCL zs d) cX2_leads 2 2 (some .boolean) Q R → R 0 (lv_args 0 av) [] w) : zzCL zs (d + 1) 34 av w Q := by
  refine ⟨by decide, ?_, fun R hR => hk R ?_⟩
  · rw [zzl, zc_X2_leads]; exact hl
  · rw [zzc, zzo, zzl, zzr, zc_X2_leads] at hR; exact hR
theorem zN_X2_moves : 1 = zzn 35 := by rw [zzn, zc_X2_moves]
theorem zO_X2_moves : 2 = zzo 35 := by rw [zzo, zc_X2_moves]
theorem st_X2_moves {zs : zzT} {d : Nat} {av : List Value} {w : zzW} {Q : zzQ} (hl : (lg_sl av).length ≤ 4) (hk : ∀ R : zzS, zzC zs (zzCL zs d) cX2_moves 2 4 (some .boolean) Q R → R 0 (lv_args 0 av) [] w) : zzCL zs (d + 1) 35 av w Q := by
  refine ⟨by decide, ?_, fun R hR => hk R ?_⟩
  · rw [zzl, zc_X2_moves]; exact hl
  · rw [zzc, zzo, zzl, zzr, zc_X2_moves] at hR; exact hR
theorem zN_X2_stepOf : 1 = zzn 36 := by rw [zzn, zc_X2_stepOf]
theorem zO_X2_stepOf : 2 = zzo 36 := by rw [zzo, zc_X2_stepOf]
theorem st_X2_stepOf {zs : zzT} {d : Nat} {av : List Value} {w : zzW} {Q : zzQ} (hl : (lg_sl av).length ≤ 4) (hk : ∀ R : zzS, zzC zs (zzCL zs d) cX2_stepOf 2 4 (some .int) Q R → R 0 (lv_args 0 av) [] w) : zzCL zs (d + 1) 36 av w Q := by
  refine ⟨by decide, ?_, fun R hR => hk R ?_⟩
  · rw [zzl, zc_X2_stepOf]; exact hl
  · rw [zzc, zzo, zzl, zzr, zc_X2_stepOf] at hR; exact hR
theorem zN_J6_compare_7cf53 : 2 = zzn 37 := by rw [zzn, zc_J6_compare_7cf53]
theorem zO_J6_compare_7cf53 : 6 = zzo 37 := by rw [zzo, zc_J6_compare_7cf53]
theorem st_J6_compare_7cf53 {zs : zzT} {d : Nat} {av : List Value} {w : zzW} {Q : zzQ} (hl : (lg_sl av).length ≤ 2) (hk : ∀ R : zzS, zzC zs (zzCL zs d) cJ6_compare_7cf53 6 2 (some .int) Q R → R 0 (lv_args 0 av) [] w) : zzCL zs (d + 1) 37 av w Q := by
  refine ⟨by decide, ?_, fun R hR => hk R ?_⟩
  · rw [zzl, zc_J6_compare_7cf53]; exact hl
  · rw [zzc, zzo, zzl, zzr, zc_J6_compare_7cf53] at hR; exact hR
theorem zN_X2_isBarred : 2 = zzn 38 := by rw [zzn, zc_X2_isBarred]
theorem zO_X2_isBarred : 2 = zzo 38 := by rw [zzo, zc_X2_isBarred]
theorem st_X2_isBarred {zs : zzT} {d : Nat} {av : List Value} {w : zzW} {Q : zzQ} (hl : (lg_sl av).length ≤ 6) (hk : ∀ R : zzS, zzC zs (zzCL zs d) cX2_isBarred 2 6 (some .boolean) Q R → R 0 (lv_args 0 av) [] w) : zzCL zs (d + 1) 38 av w Q := by
  refine ⟨by decide, ?_, fun R hR => hk R ?_⟩
  · rw [zzl, zc_X2_isBarred]; exact hl
  · rw [zzc, zzo, zzl, zzr, zc_X2_isBarred] at hR; exact hR
theorem zN_X3_meet : 2 = zzn 39 := by rw [zzn, zc_X3_meet]
theorem zO_X3_meet : 3 = zzo 39 := by rw [zzo, zc_X3_meet]
theorem st_X3_meet {zs : zzT} {d : Nat} {av : List Value} {w : zzW} {Q : zzQ} (hl : (lg_sl av).length ≤ 3) (hk : ∀ R : zzS, zzC zs (zzCL zs d) cX3_meet 3 3 (some .int) Q R → R 0 (lv_args 0 av) [] w) : zzCL zs (d + 1) 39 av w Q := by
  refine ⟨by decide, ?_, fun R hR => hk R ?_⟩
  · rw [zzl, zc_X3_meet]; exact hl
  · rw [zzc, zzo, zzl, zzr, zc_X3_meet] at hR; exact hR
theorem zN_X3_firstMeeting : 4 = zzn 40 := by rw [zzn, zc_X3_firstMeeting]
theorem zO_X3_firstMeeting : 3 = zzo 40 := by rw [zzo, zc_X3_firstMeeting]
theorem st_X3_firstMeeting {zs : zzT} {d : Nat} {av : List Value} {w : zzW} {Q : zzQ} (hl : (lg_sl av).length ≤ 6) (hk : ∀ R : zzS, zzC zs (zzCL zs d) cX3_firstMeeting 3 6 (some .int) Q R → R 0 (lv_args 0 av) [] w) : zzCL zs (d + 1) 40 av w Q := by
  refine ⟨by decide, ?_, fun R hR => hk R ?_⟩
  · rw [zzl, zc_X3_firstMeeting]; exact hl
  · rw [zzc, zzo, zzl, zzr, zc_X3_firstMeeting] at hR; exact hR
theorem zN_X2_copy : 1 = zzn 41 := by rw [zzn, zc_X2_copy]
theorem zO_X2_copy : 2 = zzo 41 := by rw [zzo, zc_X2_copy]
theorem st_X2_copy {zs : zzT} {d : Nat} {av : List Value} {w : zzW} {Q : zzQ} (hl : (lg_sl av).length ≤ 2) (hk : ∀ R : zzS, zzC zs (zzCL zs d) cX2_copy 2 2 none Q R → R 0 (lv_args 0 av) [] w) : zzCL zs (d + 1) 41 av w Q := by
  refine ⟨by decide, ?_, fun R hR => hk R ?_⟩
  · rw [zzl, zc_X2_copy]; exact hl
  · rw [zzc, zzo, zzl, zzr, zc_X2_copy] at hR; exact hR
theorem zN_X3_anchors : 4 = zzn 42 := by rw [zzn, zc_X3_anchors]
theorem zO_X3_anchors : 3 = zzo 42 := by rw [zzo, zc_X3_anchors]
theorem st_X3_anchors {zs : zzT} {d : Nat} {av : List Value} {w : zzW} {Q : zzQ} (hl : (lg_sl av).length ≤ 6) (hk : ∀ R : zzS, zzC zs (zzCL zs d) cX3_anchors 3 6 (some .int) Q R → R 0 (lv_args 0 av) [] w) : zzCL zs (d + 1) 42 av w Q := by
  refine ⟨by decide, ?_, fun R hR => hk R ?_⟩
  · rw [zzl, zc_X3_anchors]; exact hl
  · rw [zzc, zzo, zzl, zzr, zc_X3_anchors] at hR; exact hR
theorem zN_X3_fewestAnchors : 3 = zzn 43 := by rw [zzn, zc_X3_fewestAnchors]
theorem zO_X3_fewestAnchors : 3 = zzo 43 := by rw [zzo, zc_X3_fewestAnchors]
theorem st_X3_fewestAnchors {zs : zzT} {d : Nat} {av : List Value} {w : zzW} {Q : zzQ} (hl : (lg_sl av).length ≤ 7) (hk : ∀ R : zzS, zzC zs (zzCL zs d) cX3_fewestAnchors 3 7 (some .int) Q R → R 0 (lv_args 0 av) [] w) : zzCL zs (d + 1) 43 av w Q := by
  refine ⟨by decide, ?_, fun R hR => hk R ?_⟩
  · rw [zzl, zc_X3_fewestAnchors]; exact hl
  · rw [zzc, zzo, zzl, zzr, zc_X3_fewestAnchors] at hR; exact hR
theorem zN_J6_bitCount_0f7a4 : 1 = zzn 44 := by rw [zzn, zc_J6_bitCount_0f7a4]
theorem zO_J6_bitCount_0f7a4 : 6 = zzo 44 := by rw [zzo, zc_J6_bitCount_0f7a4]
theorem st_J6_bitCount_0f7a4 {zs : zzT} {d : Nat} {av : List Value} {w : zzW} {Q : zzQ} (hl : (lg_sl av).length ≤ 1) (hk : ∀ R : zzS, zzC zs (zzCL zs d) cJ6_bitCount_0f7a4 6 1 (some .int) Q R → R 0 (lv_args 0 av) [] w) : zzCL zs (d + 1) 44 av w Q := by
  refine ⟨by decide, ?_, fun R hR => hk R ?_⟩
  · rw [zzl, zc_J6_bitCount_0f7a4]; exact hl
  · rw [zzc, zzo, zzl, zzr, zc_J6_bitCount_0f7a4] at hR; exact hR
theorem zN_X3_stable : 1 = zzn 45 := by rw [zzn, zc_X3_stable]
theorem zO_X3_stable : 3 = zzo 45 := by rw [zzo, zc_X3_stable]
theorem st_X3_stable {zs : zzT} {d : Nat} {av : List Value} {w : zzW} {Q : zzQ} (hl : (lg_sl av).length ≤ 3) (hk : ∀ R : zzS, zzC zs (zzCL zs d) cX3_stable 3 3 (some .int) Q R → R 0 (lv_args 0 av) [] w) : zzCL zs (d + 1) 45 av w Q := by
  refine ⟨by decide, ?_, fun R hR => hk R ?_⟩
  · rw [zzl, zc_X3_stable]; exact hl
  · rw [zzc, zzo, zzl, zzr, zc_X3_stable] at hR; exact hR
theorem zN_X3_meetAll : 1 = zzn 46 := by rw [zzn, zc_X3_meetAll]
theorem zO_X3_meetAll : 3 = zzo 46 := by rw [zzo, zc_X3_meetAll]
theorem st_X3_meetAll {zs : zzT} {d : Nat} {av : List Value} {w : zzW} {Q : zzQ} (hl : (lg_sl av).length ≤ 3) (hk : ∀ R : zzS, zzC zs (zzCL zs d) cX3_meetAll 3 3 none Q R → R 0 (lv_args 0 av) [] w) : zzCL zs (d + 1) 46 av w Q := by
  refine ⟨by decide, ?_, fun R hR => hk R ?_⟩
  · rw [zzl, zc_X3_meetAll]; exact hl
  · rw [zzc, zzo, zzl, zzr, zc_X3_meetAll] at hR; exact hR
theorem zN_J7_fill_53178 : 2 = zzn 47 := by rw [zzn, zc_J7_fill_53178]
theorem zO_J7_fill_53178 : 7 = zzo 47 := by rw [zzo, zc_J7_fill_53178]
theorem st_J7_fill_53178 {zs : zzT} {d : Nat} {av : List Value} {w : zzW} {Q : zzQ} (hl : (lg_sl av).length ≤ 4) (hk : ∀ R : zzS, zzC zs (zzCL zs d) cJ7_fill_53178 7 4 none Q R → R 0 (lv_args 0 av) [] w) : zzCL zs (d + 1) 47 av w Q := by
  refine ⟨by decide, ?_, fun R hR => hk R ?_⟩
  · rw [zzl, zc_J7_fill_53178]; exact hl
  · rw [zzc, zzo, zzl, zzr, zc_J7_fill_53178] at hR; exact hR
theorem zN_X2_noteMeetings : 2 = zzn 48 := by rw [zzn, zc_X2_noteMeetings]
theorem zO_X2_noteMeetings : 2 = zzo 48 := by rw [zzo, zc_X2_noteMeetings]
theorem st_X2_noteMeetings {zs : zzT} {d : Nat} {av : List Value} {w : zzW} {Q : zzQ} (hl : (lg_sl av).length ≤ 5) (hk : ∀ R : zzS, zzC zs (zzCL zs d) cX2_noteMeetings 2 5 none Q R → R 0 (lv_args 0 av) [] w) : zzCL zs (d + 1) 48 av w Q := by
  refine ⟨by decide, ?_, fun R hR => hk R ?_⟩
  · rw [zzl, zc_X2_noteMeetings]; exact hl
  · rw [zzc, zzo, zzl, zzr, zc_X2_noteMeetings] at hR; exact hR
theorem zN_X0_solve : 2 = zzn 49 := by rw [zzn, zc_X0_solve]
theorem zO_X0_solve : 0 = zzo 49 := by rw [zzo, zc_X0_solve]
theorem st_X0_solve {zs : zzT} {d : Nat} {av : List Value} {w : zzW} {Q : zzQ} (hl : (lg_sl av).length ≤ 6) (hk : ∀ R : zzS, zzC zs (zzCL zs d) cX0_solve 0 6 none Q R → R 0 (lv_args 0 av) [] w) : zzCL zs (d + 1) 49 av w Q := by
  refine ⟨by decide, ?_, fun R hR => hk R ?_⟩
  · rw [zzl, zc_X0_solve]; exact hl
  · rw [zzc, zzo, zzl, zzr, zc_X0_solve] at hR; exact hR
theorem zN_X0_goThrough : 2 = zzn 50 := by rw [zzn, zc_X0_goThrough]
theorem zO_X0_goThrough : 0 = zzo 50 := by rw [zzo, zc_X0_goThrough]
theorem st_X0_goThrough {zs : zzT} {d : Nat} {av : List Value} {w : zzW} {Q : zzQ} (hl : (lg_sl av).length ≤ 4) (hk : ∀ R : zzS, zzC zs (zzCL zs d) cX0_goThrough 0 4 none Q R → R 0 (lv_args 0 av) [] w) : zzCL zs (d + 1) 50 av w Q := by
  refine ⟨by decide, ?_, fun R hR => hk R ?_⟩
  · rw [zzl, zc_X0_goThrough]; exact hl
  · rw [zzc, zzo, zzl, zzr, zc_X0_goThrough] at hR; exact hR
theorem zN_X0_weigh : 1 = zzn 51 := by rw [zzn, zc_X0_weigh]
theorem zO_X0_weigh : 0 = zzo 51 := by rw [zzo, zc_X0_weigh]
theorem st_X0_weigh {zs : zzT} {d : Nat} {av : List Value} {w : zzW} {Q : zzQ} (hl : (lg_sl av).length ≤ 2) (hk : ∀ R : zzS, zzC zs (zzCL zs d) cX0_weigh 0 2 none Q R → R 0 (lv_args 0 av) [] w) : zzCL zs (d + 1) 51 av w Q := by
  refine ⟨by decide, ?_, fun R hR => hk R ?_⟩
  · rw [zzl, zc_X0_weigh]; exact hl
  · rw [zzc, zzo, zzl, zzr, zc_X0_weigh] at hR; exact hR
theorem zN_X0_isStable : 0 = zzn 52 := by rw [zzn, zc_X0_isStable]
theorem zO_X0_isStable : 0 = zzo 52 := by rw [zzo, zc_X0_isStable]
theorem st_X0_isStable {zs : zzT} {d : Nat} {av : List Value} {w : zzW} {Q : zzQ} (hl : (lg_sl av).length ≤ 4) (hk : ∀ R : zzS, zzC zs (zzCL zs d) cX0_isStable 0 4 (some .boolean) Q R → R 0 (lv_args 0 av) [] w) : zzCL zs (d + 1) 52 av w Q := by
  refine ⟨by decide, ?_, fun R hR => hk R ?_⟩
  · rw [zzl, zc_X0_isStable]; exact hl
  · rw [zzc, zzo, zzl, zzr, zc_X0_isStable] at hR; exact hR
theorem zN_X0_likesBetter : 2 = zzn 53 := by rw [zzn, zc_X0_likesBetter]
theorem zO_X0_likesBetter : 0 = zzo 53 := by rw [zzo, zc_X0_likesBetter]
theorem st_X0_likesBetter {zs : zzT} {d : Nat} {av : List Value} {w : zzW} {Q : zzQ} (hl : (lg_sl av).length ≤ 3) (hk : ∀ R : zzS, zzC zs (zzCL zs d) cX0_likesBetter 0 3 (some .boolean) Q R → R 0 (lv_args 0 av) [] w) : zzCL zs (d + 1) 53 av w Q := by
  refine ⟨by decide, ?_, fun R hR => hk R ?_⟩
  · rw [zzl, zc_X0_likesBetter]; exact hl
  · rw [zzc, zzo, zzl, zzr, zc_X0_likesBetter] at hR; exact hR
theorem zN_X3_matchesTell : 1 = zzn 54 := by rw [zzn, zc_X3_matchesTell]
theorem zO_X3_matchesTell : 3 = zzo 54 := by rw [zzo, zc_X3_matchesTell]
theorem st_X3_matchesTell {zs : zzT} {d : Nat} {av : List Value} {w : zzW} {Q : zzQ} (hl : (lg_sl av).length ≤ 3) (hk : ∀ R : zzS, zzC zs (zzCL zs d) cX3_matchesTell 3 3 (some .int) Q R → R 0 (lv_args 0 av) [] w) : zzCL zs (d + 1) 54 av w Q := by
  refine ⟨by decide, ?_, fun R hR => hk R ?_⟩
  · rw [zzl, zc_X3_matchesTell]; exact hl
  · rw [zzc, zzo, zzl, zzr, zc_X3_matchesTell] at hR; exact hR
theorem zN_X3_parting : 2 = zzn 55 := by rw [zzn, zc_X3_parting]
theorem zO_X3_parting : 3 = zzo 55 := by rw [zzo, zc_X3_parting]
theorem st_X3_parting {zs : zzT} {d : Nat} {av : List Value} {w : zzW} {Q : zzQ} (hl : (lg_sl av).length ≤ 3) (hk : ∀ R : zzS, zzC zs (zzCL zs d) cX3_parting 3 3 (some .int) Q R → R 0 (lv_args 0 av) [] w) : zzCL zs (d + 1) 55 av w Q := by
  refine ⟨by decide, ?_, fun R hR => hk R ?_⟩
  · rw [zzl, zc_X3_parting]; exact hl
  · rw [zzc, zzo, zzl, zzr, zc_X3_parting] at hR; exact hR
theorem zN_X2_fewestCuts : 2 = zzn 56 := by rw [zzn, zc_X2_fewestCuts]
theorem zO_X2_fewestCuts : 2 = zzo 56 := by rw [zzo, zc_X2_fewestCuts]
theorem st_X2_fewestCuts {zs : zzT} {d : Nat} {av : List Value} {w : zzW} {Q : zzQ} (hl : (lg_sl av).length ≤ 6) (hk : ∀ R : zzS, zzC zs (zzCL zs d) cX2_fewestCuts 2 6 (some .int) Q R → R 0 (lv_args 0 av) [] w) : zzCL zs (d + 1) 56 av w Q := by
  refine ⟨by decide, ?_, fun R hR => hk R ?_⟩
  · rw [zzl, zc_X2_fewestCuts]; exact hl
  · rw [zzc, zzo, zzl, zzr, zc_X2_fewestCuts] at hR; exact hR
theorem zN_X2_ropesOutOf : 1 = zzn 57 := by rw [zzn, zc_X2_ropesOutOf]
theorem zO_X2_ropesOutOf : 2 = zzo 57 := by rw [zzo, zc_X2_ropesOutOf]
theorem st_X2_ropesOutOf {zs : zzT} {d : Nat} {av : List Value} {w : zzW} {Q : zzQ} (hl : (lg_sl av).length ≤ 4) (hk : ∀ R : zzS, zzC zs (zzCL zs d) cX2_ropesOutOf 2 4 (some .int) Q R → R 0 (lv_args 0 av) [] w) : zzCL zs (d + 1) 57 av w Q := by
  refine ⟨by decide, ?_, fun R hR => hk R ?_⟩
  · rw [zzl, zc_X2_ropesOutOf]; exact hl
  · rw [zzc, zzo, zzl, zzr, zc_X2_ropesOutOf] at hR; exact hR
theorem zN_X3_shell : 4 = zzn 58 := by rw [zzn, zc_X3_shell]
theorem zO_X3_shell : 3 = zzo 58 := by rw [zzo, zc_X3_shell]
theorem st_X3_shell {zs : zzT} {d : Nat} {av : List Value} {w : zzW} {Q : zzQ} (hl : (lg_sl av).length ≤ 5) (hk : ∀ R : zzS, zzC zs (zzCL zs d) cX3_shell 3 5 (some .int) Q R → R 0 (lv_args 0 av) [] w) : zzCL zs (d + 1) 58 av w Q := by
  refine ⟨by decide, ?_, fun R hR => hk R ?_⟩
  · rw [zzl, zc_X3_shell]; exact hl
  · rw [zzc, zzo, zzl, zzr, zc_X3_shell] at hR; exact hR
theorem zN_X1_add : 4 = zzn 59 := by rw [zzn, zc_X1_add]
theorem zO_X1_add : 1 = zzo 59 := by rw [zzo, zc_X1_add]
theorem st_X1_add {zs : zzT} {d : Nat} {av : List Value} {w : zzW} {Q : zzQ} (hl : (lg_sl av).length ≤ 5) (hk : ∀ R : zzS, zzC zs (zzCL zs d) cX1_add 1 5 (some .int) Q R → R 0 (lv_args 0 av) [] w) : zzCL zs (d + 1) 59 av w Q := by
  refine ⟨by decide, ?_, fun R hR => hk R ?_⟩
  · rw [zzl, zc_X1_add]; exact hl
  · rw [zzc, zzo, zzl, zzr, zc_X1_add] at hR; exact hR
theorem zN_X3_forget : 0 = zzn 60 := by rw [zzn, zc_X3_forget]
theorem zO_X3_forget : 3 = zzo 60 := by rw [zzo, zc_X3_forget]
theorem st_X3_forget {zs : zzT} {d : Nat} {av : List Value} {w : zzW} {Q : zzQ} (hl : (lg_sl av).length ≤ 2) (hk : ∀ R : zzS, zzC zs (zzCL zs d) cX3_forget 3 2 (some .int) Q R → R 0 (lv_args 0 av) [] w) : zzCL zs (d + 1) 60 av w Q := by
  refine ⟨by decide, ?_, fun R hR => hk R ?_⟩
  · rw [zzl, zc_X3_forget]; exact hl
  · rw [zzc, zzo, zzl, zzr, zc_X3_forget] at hR; exact hR
theorem zN_X3_guess : 2 = zzn 61 := by rw [zzn, zc_X3_guess]
theorem zO_X3_guess : 3 = zzo 61 := by rw [zzo, zc_X3_guess]
theorem st_X3_guess {zs : zzT} {d : Nat} {av : List Value} {w : zzW} {Q : zzQ} (hl : (lg_sl av).length ≤ 8) (hk : ∀ R : zzS, zzC zs (zzCL zs d) cX3_guess 3 8 (some .int) Q R → R 0 (lv_args 0 av) [] w) : zzCL zs (d + 1) 61 av w Q := by
  refine ⟨by decide, ?_, fun R hR => hk R ?_⟩
  · rw [zzl, zc_X3_guess]; exact hl
  · rw [zzc, zzo, zzl, zzr, zc_X3_guess] at hR; exact hR
theorem zN_X3_shellsWouldHold : 3 = zzn 62 := by rw [zzn, zc_X3_shellsWouldHold]
theorem zO_X3_shellsWouldHold : 3 = zzo 62 := by rw [zzo, zc_X3_shellsWouldHold]
theorem st_X3_shellsWouldHold {zs : zzT} {d : Nat} {av : List Value} {w : zzW} {Q : zzQ} (hl : (lg_sl av).length ≤ 6) (hk : ∀ R : zzS, zzC zs (zzCL zs d) cX3_shellsWouldHold 3 6 (some .boolean) Q R → R 0 (lv_args 0 av) [] w) : zzCL zs (d + 1) 62 av w Q := by
  refine ⟨by decide, ?_, fun R hR => hk R ?_⟩
  · rw [zzl, zc_X3_shellsWouldHold]; exact hl
  · rw [zzc, zzo, zzl, zzr, zc_X3_shellsWouldHold] at hR; exact hR
theorem zN_X1_lastDay : 0 = zzn 63 := by rw [zzn, zc_X1_lastDay]
theorem zO_X1_lastDay : 1 = zzo 63 := by rw [zzo, zc_X1_lastDay]
theorem st_X1_lastDay {zs : zzT} {d : Nat} {av : List Value} {w : zzW} {Q : zzQ} (hl : (lg_sl av).length ≤ 3) (hk : ∀ R : zzS, zzC zs (zzCL zs d) cX1_lastDay 1 3 (some .int) Q R → R 0 (lv_args 0 av) [] w) : zzCL zs (d + 1) 63 av w Q := by
  refine ⟨by decide, ?_, fun R hR => hk R ?_⟩
  · rw [zzl, zc_X1_lastDay]; exact hl
  · rw [zzc, zzo, zzl, zzr, zc_X1_lastDay] at hR; exact hR
theorem zN_X1_holdOn : 2 = zzn 64 := by rw [zzn, zc_X1_holdOn]
theorem zO_X1_holdOn : 1 = zzo 64 := by rw [zzo, zc_X1_holdOn]
theorem st_X1_holdOn {zs : zzT} {d : Nat} {av : List Value} {w : zzW} {Q : zzQ} (hl : (lg_sl av).length ≤ 4) (hk : ∀ R : zzS, zzC zs (zzCL zs d) cX1_holdOn 1 4 (some .boolean) Q R → R 0 (lv_args 0 av) [] w) : zzCL zs (d + 1) 64 av w Q := by
  refine ⟨by decide, ?_, fun R hR => hk R ?_⟩
  · rw [zzl, zc_X1_holdOn]; exact hl
  · rw [zzc, zzo, zzl, zzr, zc_X1_holdOn] at hR; exact hR
theorem zN_X3_seasons : 3 = zzn 65 := by rw [zzn, zc_X3_seasons]
theorem zO_X3_seasons : 3 = zzo 65 := by rw [zzo, zc_X3_seasons]
theorem st_X3_seasons {zs : zzT} {d : Nat} {av : List Value} {w : zzW} {Q : zzQ} (hl : (lg_sl av).length ≤ 7) (hk : ∀ R : zzS, zzC zs (zzCL zs d) cX3_seasons 3 7 (some .int) Q R → R 0 (lv_args 0 av) [] w) : zzCL zs (d + 1) 65 av w Q := by
  refine ⟨by decide, ?_, fun R hR => hk R ?_⟩
  · rw [zzl, zc_X3_seasons]; exact hl
  · rw [zzc, zzo, zzl, zzr, zc_X3_seasons] at hR; exact hR
theorem zN_X3_nextSeed : 1 = zzn 66 := by rw [zzn, zc_X3_nextSeed]
theorem zO_X3_nextSeed : 3 = zzo 66 := by rw [zzo, zc_X3_nextSeed]
theorem st_X3_nextSeed {zs : zzT} {d : Nat} {av : List Value} {w : zzW} {Q : zzQ} (hl : (lg_sl av).length ≤ 1) (hk : ∀ R : zzS, zzC zs (zzCL zs d) cX3_nextSeed 3 1 (some .int) Q R → R 0 (lv_args 0 av) [] w) : zzCL zs (d + 1) 66 av w Q := by
  refine ⟨by decide, ?_, fun R hR => hk R ?_⟩
  · rw [zzl, zc_X3_nextSeed]; exact hl
  · rw [zzc, zzo, zzl, zzr, zc_X3_nextSeed] at hR; exact hR
theorem zN_X2_pairsBeside : 0 = zzn 67 := by rw [zzn, zc_X2_pairsBeside]
theorem zO_X2_pairsBeside : 2 = zzo 67 := by rw [zzo, zc_X2_pairsBeside]
theorem st_X2_pairsBeside {zs : zzT} {d : Nat} {av : List Value} {w : zzW} {Q : zzQ} (hl : (lg_sl av).length ≤ 3) (hk : ∀ R : zzS, zzC zs (zzCL zs d) cX2_pairsBeside 2 3 (some .int) Q R → R 0 (lv_args 0 av) [] w) : zzCL zs (d + 1) 67 av w Q := by
  refine ⟨by decide, ?_, fun R hR => hk R ?_⟩
  · rw [zzl, zc_X2_pairsBeside]; exact hl
  · rw [zzc, zzo, zzl, zzr, zc_X2_pairsBeside] at hR; exact hR
theorem zN_X3_image : 0 = zzn 68 := by rw [zzn, zc_X3_image]
theorem zO_X3_image : 3 = zzo 68 := by rw [zzo, zc_X3_image]
theorem st_X3_image {zs : zzT} {d : Nat} {av : List Value} {w : zzW} {Q : zzQ} (hl : (lg_sl av).length ≤ 1) (hk : ∀ R : zzS, zzC zs (zzCL zs d) cX3_image 3 1 (some .int) Q R → R 0 (lv_args 0 av) [] w) : zzCL zs (d + 1) 68 av w Q := by
  refine ⟨by decide, ?_, fun R hR => hk R ?_⟩
  · rw [zzl, zc_X3_image]; exact hl
  · rw [zzc, zzo, zzl, zzr, zc_X3_image] at hR; exact hR
theorem zN_X1_copy : 1 = zzn 69 := by rw [zzn, zc_X1_copy]
theorem zO_X1_copy : 1 = zzo 69 := by rw [zzo, zc_X1_copy]
theorem st_X1_copy {zs : zzT} {d : Nat} {av : List Value} {w : zzW} {Q : zzQ} (hl : (lg_sl av).length ≤ 3) (hk : ∀ R : zzS, zzC zs (zzCL zs d) cX1_copy 1 3 none Q R → R 0 (lv_args 0 av) [] w) : zzCL zs (d + 1) 69 av w Q := by
  refine ⟨by decide, ?_, fun R hR => hk R ?_⟩
  · rw [zzl, zc_X1_copy]; exact hl
  · rw [zzc, zzo, zzl, zzr, zc_X1_copy] at hR; exact hR
theorem zN_X3_restore : 0 = zzn 70 := by rw [zzn, zc_X3_restore]
theorem zO_X3_restore : 3 = zzo 70 := by rw [zzo, zc_X3_restore]
theorem st_X3_restore {zs : zzT} {d : Nat} {av : List Value} {w : zzW} {Q : zzQ} (hl : (lg_sl av).length ≤ 1) (hk : ∀ R : zzS, zzC zs (zzCL zs d) cX3_restore 3 1 (some .int) Q R → R 0 (lv_args 0 av) [] w) : zzCL zs (d + 1) 70 av w Q := by
  refine ⟨by decide, ?_, fun R hR => hk R ?_⟩
  · rw [zzl, zc_X3_restore]; exact hl
  · rw [zzc, zzo, zzl, zzr, zc_X3_restore] at hR; exact hR
theorem zN_X3_count : 1 = zzn 71 := by rw [zzn, zc_X3_count]
theorem zO_X3_count : 3 = zzo 71 := by rw [zzo, zc_X3_count]
theorem st_X3_count {zs : zzT} {d : Nat} {av : List Value} {w : zzW} {Q : zzQ} (hl : (lg_sl av).length ≤ 2) (hk : ∀ R : zzS, zzC zs (zzCL zs d) cX3_count 3 2 (some .int) Q R → R 0 (lv_args 0 av) [] w) : zzCL zs (d + 1) 71 av w Q := by
  refine ⟨by decide, ?_, fun R hR => hk R ?_⟩
  · rw [zzl, zc_X3_count]; exact hl
  · rw [zzc, zzo, zzl, zzr, zc_X3_count] at hR; exact hR
theorem zN_X2_parties : 0 = zzn 72 := by rw [zzn, zc_X2_parties]
theorem zO_X2_parties : 2 = zzo 72 := by rw [zzo, zc_X2_parties]
theorem st_X2_parties {zs : zzT} {d : Nat} {av : List Value} {w : zzW} {Q : zzQ} (hl : (lg_sl av).length ≤ 3) (hk : ∀ R : zzS, zzC zs (zzCL zs d) cX2_parties 2 3 (some .int) Q R → R 0 (lv_args 0 av) [] w) : zzCL zs (d + 1) 72 av w Q := by
  refine ⟨by decide, ?_, fun R hR => hk R ?_⟩
  · rw [zzl, zc_X2_parties]; exact hl
  · rw [zzc, zzo, zzl, zzr, zc_X2_parties] at hR; exact hR
theorem zN_X3_digest : 0 = zzn 73 := by rw [zzn, zc_X3_digest]
theorem zO_X3_digest : 3 = zzo 73 := by rw [zzo, zc_X3_digest]
theorem st_X3_digest {zs : zzT} {d : Nat} {av : List Value} {w : zzW} {Q : zzQ} (hl : (lg_sl av).length ≤ 4) (hk : ∀ R : zzS, zzC zs (zzCL zs d) cX3_digest 3 4 (some .long) Q R → R 0 (lv_args 0 av) [] w) : zzCL zs (d + 1) 73 av w Q := by
  refine ⟨by decide, ?_, fun R hR => hk R ?_⟩
  · rw [zzl, zc_X3_digest]; exact hl
  · rw [zzc, zzo, zzl, zzr, zc_X3_digest] at hR; exact hR
theorem zN_X3_digestIslands : 1 = zzn 74 := by rw [zzn, zc_X3_digestIslands]
theorem zO_X3_digestIslands : 3 = zzo 74 := by rw [zzo, zc_X3_digestIslands]
theorem st_X3_digestIslands {zs : zzT} {d : Nat} {av : List Value} {w : zzW} {Q : zzQ} (hl : (lg_sl av).length ≤ 7) (hk : ∀ R : zzS, zzC zs (zzCL zs d) cX3_digestIslands 3 7 (some .long) Q R → R 0 (lv_args 0 av) [] w) : zzCL zs (d + 1) 74 av w Q := by
  refine ⟨by decide, ?_, fun R hR => hk R ?_⟩
  · rw [zzl, zc_X3_digestIslands]; exact hl
  · rw [zzc, zzo, zzl, zzr, zc_X3_digestIslands] at hR; exact hR
theorem zN_X3_digestMatches : 1 = zzn 75 := by rw [zzn, zc_X3_digestMatches]
theorem zO_X3_digestMatches : 3 = zzo 75 := by rw [zzo, zc_X3_digestMatches]
theorem st_X3_digestMatches {zs : zzT} {d : Nat} {av : List Value} {w : zzW} {Q : zzQ} (hl : (lg_sl av).length ≤ 6) (hk : ∀ R : zzS, zzC zs (zzCL zs d) cX3_digestMatches 3 6 (some .long) Q R → R 0 (lv_args 0 av) [] w) : zzCL zs (d + 1) 75 av w Q := by
  refine ⟨by decide, ?_, fun R hR => hk R ?_⟩
  · rw [zzl, zc_X3_digestMatches]; exact hl
  · rw [zzc, zzo, zzl, zzr, zc_X3_digestMatches] at hR; exact hR
theorem zN_X4_letter : 1 = zzn 76 := by rw [zzn, zc_X4_letter]
theorem zO_X4_letter : 4 = zzo 76 := by rw [zzo, zc_X4_letter]
theorem st_X4_letter {zs : zzT} {d : Nat} {av : List Value} {w : zzW} {Q : zzQ} (hl : (lg_sl av).length ≤ 2) (hk : ∀ R : zzS, zzC zs (zzCL zs d) cX4_letter 4 2 (some .int) Q R → R 0 (lv_args 0 av) [] w) : zzCL zs (d + 1) 76 av w Q := by
  refine ⟨by decide, ?_, fun R hR => hk R ?_⟩
  · rw [zzl, zc_X4_letter]; exact hl
  · rw [zzc, zzo, zzl, zzr, zc_X4_letter] at hR; exact hR
theorem zN_X4_in : 3 = zzn 77 := by rw [zzn, zc_X4_in]
theorem zO_X4_in : 4 = zzo 77 := by rw [zzo, zc_X4_in]
theorem st_X4_in {zs : zzT} {d : Nat} {av : List Value} {w : zzW} {Q : zzQ} (hl : (lg_sl av).length ≤ 6) (hk : ∀ R : zzS, zzC zs (zzCL zs d) cX4_in 4 6 (some .boolean) Q R → R 0 (lv_args 0 av) [] w) : zzCL zs (d + 1) 77 av w Q := by
  refine ⟨by decide, ?_, fun R hR => hk R ?_⟩
  · rw [zzl, zc_X4_in]; exact hl
  · rw [zzc, zzo, zzl, zzr, zc_X4_in] at hR; exact hR
theorem zN_X4_blank : 0 = zzn 78 := by rw [zzn, zc_X4_blank]
theorem zO_X4_blank : 4 = zzo 78 := by rw [zzo, zc_X4_blank]
theorem st_X4_blank {zs : zzT} {d : Nat} {av : List Value} {w : zzW} {Q : zzQ} (hl : (lg_sl av).length ≤ 2) (hk : ∀ R : zzS, zzC zs (zzCL zs d) cX4_blank 4 2 (some .int) Q R → R 0 (lv_args 0 av) [] w) : zzCL zs (d + 1) 78 av w Q := by
  refine ⟨by decide, ?_, fun R hR => hk R ?_⟩
  · rw [zzl, zc_X4_blank]; exact hl
  · rw [zzc, zzo, zzl, zzr, zc_X4_blank] at hR; exact hR
theorem zN_X4_fault : 0 = zzn 79 := by rw [zzn, zc_X4_fault]
theorem zO_X4_fault : 4 = zzo 79 := by rw [zzo, zc_X4_fault]
theorem st_X4_fault {zs : zzT} {d : Nat} {av : List Value} {w : zzW} {Q : zzQ} (hl : (lg_sl av).length ≤ 1) (hk : ∀ R : zzS, zzC zs (zzCL zs d) cX4_fault 4 1 (some .int) Q R → R 0 (lv_args 0 av) [] w) : zzCL zs (d + 1) 79 av w Q := by
  refine ⟨by decide, ?_, fun R hR => hk R ?_⟩
  · rw [zzl, zc_X4_fault]; exact hl
  · rw [zzc, zzo, zzl, zzr, zc_X4_fault] at hR; exact hR
theorem zN_X4_faultOf : 0 = zzn 80 := by rw [zzn, zc_X4_faultOf]
theorem zO_X4_faultOf : 4 = zzo 80 := by rw [zzo, zc_X4_faultOf]
theorem st_X4_faultOf {zs : zzT} {d : Nat} {av : List Value} {w : zzW} {Q : zzQ} (hl : (lg_sl av).length ≤ 2) (hk : ∀ R : zzS, zzC zs (zzCL zs d) cX4_faultOf 4 2 (some .int) Q R → R 0 (lv_args 0 av) [] w) : zzCL zs (d + 1) 80 av w Q := by
  refine ⟨by decide, ?_, fun R hR => hk R ?_⟩
  · rw [zzl, zc_X4_faultOf]; exact hl
  · rw [zzc, zzo, zzl, zzr, zc_X4_faultOf] at hR; exact hR
theorem zN_X4_sea : 0 = zzn 81 := by rw [zzn, zc_X4_sea]
theorem zO_X4_sea : 4 = zzo 81 := by rw [zzo, zc_X4_sea]
theorem st_X4_sea {zs : zzT} {d : Nat} {av : List Value} {w : zzW} {Q : zzQ} (hl : (lg_sl av).length ≤ 2) (hk : ∀ R : zzS, zzC zs (zzCL zs d) cX4_sea 4 2 (some .int) Q R → R 0 (lv_args 0 av) [] w) : zzCL zs (d + 1) 81 av w Q := by
  refine ⟨by decide, ?_, fun R hR => hk R ?_⟩
  · rw [zzl, zc_X4_sea]; exact hl
  · rw [zzc, zzo, zzl, zzr, zc_X4_sea] at hR; exact hR
theorem zN_X4_currentMany : 0 = zzn 82 := by rw [zzn, zc_X4_currentMany]
theorem zO_X4_currentMany : 4 = zzo 82 := by rw [zzo, zc_X4_currentMany]
theorem st_X4_currentMany {zs : zzT} {d : Nat} {av : List Value} {w : zzW} {Q : zzQ} (hl : (lg_sl av).length ≤ 3) (hk : ∀ R : zzS, zzC zs (zzCL zs d) cX4_currentMany 4 3 (some .int) Q R → R 0 (lv_args 0 av) [] w) : zzCL zs (d + 1) 82 av w Q := by
  refine ⟨by decide, ?_, fun R hR => hk R ?_⟩
  · rw [zzl, zc_X4_currentMany]; exact hl
  · rw [zzc, zzo, zzl, zzr, zc_X4_currentMany] at hR; exact hR
theorem zN_X4_place : 2 = zzn 83 := by rw [zzn, zc_X4_place]
theorem zO_X4_place : 4 = zzo 83 := by rw [zzo, zc_X4_place]
theorem st_X4_place {zs : zzT} {d : Nat} {av : List Value} {w : zzW} {Q : zzQ} (hl : (lg_sl av).length ≤ 3) (hk : ∀ R : zzS, zzC zs (zzCL zs d) cX4_place 4 3 (some .int) Q R → R 0 (lv_args 0 av) [] w) : zzCL zs (d + 1) 83 av w Q := by
  refine ⟨by decide, ?_, fun R hR => hk R ?_⟩
  · rw [zzl, zc_X4_place]; exact hl
  · rw [zzc, zzo, zzl, zzr, zc_X4_place] at hR; exact hR
theorem zN_X4_whoIsAt : 1 = zzn 84 := by rw [zzn, zc_X4_whoIsAt]
theorem zO_X4_whoIsAt : 4 = zzo 84 := by rw [zzo, zc_X4_whoIsAt]
theorem st_X4_whoIsAt {zs : zzT} {d : Nat} {av : List Value} {w : zzW} {Q : zzQ} (hl : (lg_sl av).length ≤ 4) (hk : ∀ R : zzS, zzC zs (zzCL zs d) cX4_whoIsAt 4 4 (some .int) Q R → R 0 (lv_args 0 av) [] w) : zzCL zs (d + 1) 84 av w Q := by
  refine ⟨by decide, ?_, fun R hR => hk R ?_⟩
  · rw [zzl, zc_X4_whoIsAt]; exact hl
  · rw [zzc, zzo, zzl, zzr, zc_X4_whoIsAt] at hR; exact hR
theorem zN_X4_wind : 1 = zzn 85 := by rw [zzn, zc_X4_wind]
theorem zO_X4_wind : 4 = zzo 85 := by rw [zzo, zc_X4_wind]
theorem st_X4_wind {zs : zzT} {d : Nat} {av : List Value} {w : zzW} {Q : zzQ} (hl : (lg_sl av).length ≤ 3) (hk : ∀ R : zzS, zzC zs (zzCL zs d) cX4_wind 4 3 (some .int) Q R → R 0 (lv_args 0 av) [] w) : zzCL zs (d + 1) 85 av w Q := by
  refine ⟨by decide, ?_, fun R hR => hk R ?_⟩
  · rw [zzl, zc_X4_wind]; exact hl
  · rw [zzc, zzo, zzl, zzr, zc_X4_wind] at hR; exact hR
theorem zN_X4_island : 3 = zzn 86 := by rw [zzn, zc_X4_island]
theorem zO_X4_island : 4 = zzo 86 := by rw [zzo, zc_X4_island]
theorem st_X4_island {zs : zzT} {d : Nat} {av : List Value} {w : zzW} {Q : zzQ} (hl : (lg_sl av).length ≤ 4) (hk : ∀ R : zzS, zzC zs (zzCL zs d) cX4_island 4 4 (some .int) Q R → R 0 (lv_args 0 av) [] w) : zzCL zs (d + 1) 86 av w Q := by
  refine ⟨by decide, ?_, fun R hR => hk R ?_⟩
  · rw [zzl, zc_X4_island]; exact hl
  · rw [zzc, zzo, zzl, zzr, zc_X4_island] at hR; exact hR
theorem zN_X4_about : 2 = zzn 87 := by rw [zzn, zc_X4_about]
theorem zO_X4_about : 4 = zzo 87 := by rw [zzo, zc_X4_about]
theorem st_X4_about {zs : zzT} {d : Nat} {av : List Value} {w : zzW} {Q : zzQ} (hl : (lg_sl av).length ≤ 3) (hk : ∀ R : zzS, zzC zs (zzCL zs d) cX4_about 4 3 (some .int) Q R → R 0 (lv_args 0 av) [] w) : zzCL zs (d + 1) 87 av w Q := by
  refine ⟨by decide, ?_, fun R hR => hk R ?_⟩
  · rw [zzl, zc_X4_about]; exact hl
  · rw [zzc, zzo, zzl, zzr, zc_X4_about] at hR; exact hR
theorem zN_X4_isIsland : 1 = zzn 88 := by rw [zzn, zc_X4_isIsland]
theorem zO_X4_isIsland : 4 = zzo 88 := by rw [zzo, zc_X4_isIsland]
theorem st_X4_isIsland {zs : zzT} {d : Nat} {av : List Value} {w : zzW} {Q : zzQ} (hl : (lg_sl av).length ≤ 2) (hk : ∀ R : zzS, zzC zs (zzCL zs d) cX4_isIsland 4 2 (some .boolean) Q R → R 0 (lv_args 0 av) [] w) : zzCL zs (d + 1) 88 av w Q := by
  refine ⟨by decide, ?_, fun R hR => hk R ?_⟩
  · rw [zzl, zc_X4_isIsland]; exact hl
  · rw [zzc, zzo, zzl, zzr, zc_X4_isIsland] at hR; exact hR
theorem zN_X4_tell : 2 = zzn 89 := by rw [zzn, zc_X4_tell]
theorem zO_X4_tell : 4 = zzo 89 := by rw [zzo, zc_X4_tell]
theorem st_X4_tell {zs : zzT} {d : Nat} {av : List Value} {w : zzW} {Q : zzQ} (hl : (lg_sl av).length ≤ 3) (hk : ∀ R : zzS, zzC zs (zzCL zs d) cX4_tell 4 3 (some .int) Q R → R 0 (lv_args 0 av) [] w) : zzCL zs (d + 1) 89 av w Q := by
  refine ⟨by decide, ?_, fun R hR => hk R ?_⟩
  · rw [zzl, zc_X4_tell]; exact hl
  · rw [zzc, zzo, zzl, zzr, zc_X4_tell] at hR; exact hR
theorem zN_X4_asItIs : 0 = zzn 90 := by rw [zzn, zc_X4_asItIs]
theorem zO_X4_asItIs : 4 = zzo 90 := by rw [zzo, zc_X4_asItIs]
theorem st_X4_asItIs {zs : zzT} {d : Nat} {av : List Value} {w : zzW} {Q : zzQ} (hl : (lg_sl av).length ≤ 2) (hk : ∀ R : zzS, zzC zs (zzCL zs d) cX4_asItIs 4 2 none Q R → R 0 (lv_args 0 av) [] w) : zzCL zs (d + 1) 90 av w Q := by
  refine ⟨by decide, ?_, fun R hR => hk R ?_⟩
  · rw [zzl, zc_X4_asItIs]; exact hl
  · rw [zzc, zzo, zzl, zzr, zc_X4_asItIs] at hR; exact hR
theorem zN_X4_pushOf : 1 = zzn 91 := by rw [zzn, zc_X4_pushOf]
theorem zO_X4_pushOf : 4 = zzo 91 := by rw [zzo, zc_X4_pushOf]
theorem st_X4_pushOf {zs : zzT} {d : Nat} {av : List Value} {w : zzW} {Q : zzQ} (hl : (lg_sl av).length ≤ 3) (hk : ∀ R : zzS, zzC zs (zzCL zs d) cX4_pushOf 4 3 (some .int) Q R → R 0 (lv_args 0 av) [] w) : zzCL zs (d + 1) 91 av w Q := by
  refine ⟨by decide, ?_, fun R hR => hk R ?_⟩
  · rw [zzl, zc_X4_pushOf]; exact hl
  · rw [zzc, zzo, zzl, zzr, zc_X4_pushOf] at hR; exact hR
theorem zN_X4_partyOf : 1 = zzn 92 := by rw [zzn, zc_X4_partyOf]
theorem zO_X4_partyOf : 4 = zzo 92 := by rw [zzo, zc_X4_partyOf]
theorem st_X4_partyOf {zs : zzT} {d : Nat} {av : List Value} {w : zzW} {Q : zzQ} (hl : (lg_sl av).length ≤ 2) (hk : ∀ R : zzS, zzC zs (zzCL zs d) cX4_partyOf 4 2 (some .int) Q R → R 0 (lv_args 0 av) [] w) : zzCL zs (d + 1) 92 av w Q := by
  refine ⟨by decide, ?_, fun R hR => hk R ?_⟩
  · rw [zzl, zc_X4_partyOf]; exact hl
  · rw [zzc, zzo, zzl, zzr, zc_X4_partyOf] at hR; exact hR
theorem zN_X4_partyBy : 2 = zzn 93 := by rw [zzn, zc_X4_partyBy]
theorem zO_X4_partyBy : 4 = zzo 93 := by rw [zzo, zc_X4_partyBy]
theorem st_X4_partyBy {zs : zzT} {d : Nat} {av : List Value} {w : zzW} {Q : zzQ} (hl : (lg_sl av).length ≤ 7) (hk : ∀ R : zzS, zzC zs (zzCL zs d) cX4_partyBy 4 7 (some .int) Q R → R 0 (lv_args 0 av) [] w) : zzCL zs (d + 1) 93 av w Q := by
  refine ⟨by decide, ?_, fun R hR => hk R ?_⟩
  · rw [zzl, zc_X4_partyBy]; exact hl
  · rw [zzc, zzo, zzl, zzr, zc_X4_partyBy] at hR; exact hR
theorem zN_X4_besideBits : 1 = zzn 94 := by rw [zzn, zc_X4_besideBits]
theorem zO_X4_besideBits : 4 = zzo 94 := by rw [zzo, zc_X4_besideBits]
theorem st_X4_besideBits {zs : zzT} {d : Nat} {av : List Value} {w : zzW} {Q : zzQ} (hl : (lg_sl av).length ≤ 4) (hk : ∀ R : zzS, zzC zs (zzCL zs d) cX4_besideBits 4 4 (some .int) Q R → R 0 (lv_args 0 av) [] w) : zzCL zs (d + 1) 94 av w Q := by
  refine ⟨by decide, ?_, fun R hR => hk R ?_⟩
  · rw [zzl, zc_X4_besideBits]; exact hl
  · rw [zzc, zzo, zzl, zzr, zc_X4_besideBits] at hR; exact hR
theorem zN_X4_areBeside : 2 = zzn 95 := by rw [zzn, zc_X4_areBeside]
theorem zO_X4_areBeside : 4 = zzo 95 := by rw [zzo, zc_X4_areBeside]
theorem st_X4_areBeside {zs : zzT} {d : Nat} {av : List Value} {w : zzW} {Q : zzQ} (hl : (lg_sl av).length ≤ 2) (hk : ∀ R : zzS, zzC zs (zzCL zs d) cX4_areBeside 4 2 (some .boolean) Q R → R 0 (lv_args 0 av) [] w) : zzCL zs (d + 1) 95 av w Q := by
  refine ⟨by decide, ?_, fun R hR => hk R ?_⟩
  · rw [zzl, zc_X4_areBeside]; exact hl
  · rw [zzc, zzo, zzl, zzr, zc_X4_areBeside] at hR; exact hR
theorem zN_X4_ropedBits : 1 = zzn 96 := by rw [zzn, zc_X4_ropedBits]
theorem zO_X4_ropedBits : 4 = zzo 96 := by rw [zzo, zc_X4_ropedBits]
theorem st_X4_ropedBits {zs : zzT} {d : Nat} {av : List Value} {w : zzW} {Q : zzQ} (hl : (lg_sl av).length ≤ 4) (hk : ∀ R : zzS, zzC zs (zzCL zs d) cX4_ropedBits 4 4 (some .int) Q R → R 0 (lv_args 0 av) [] w) : zzCL zs (d + 1) 96 av w Q := by
  refine ⟨by decide, ?_, fun R hR => hk R ?_⟩
  · rw [zzl, zc_X4_ropedBits]; exact hl
  · rw [zzc, zzo, zzl, zzr, zc_X4_ropedBits] at hR; exact hR
theorem zN_X4_areRoped : 2 = zzn 97 := by rw [zzn, zc_X4_areRoped]
theorem zO_X4_areRoped : 4 = zzo 97 := by rw [zzo, zc_X4_areRoped]
theorem st_X4_areRoped {zs : zzT} {d : Nat} {av : List Value} {w : zzW} {Q : zzQ} (hl : (lg_sl av).length ≤ 5) (hk : ∀ R : zzS, zzC zs (zzCL zs d) cX4_areRoped 4 5 (some .boolean) Q R → R 0 (lv_args 0 av) [] w) : zzCL zs (d + 1) 97 av w Q := by
  refine ⟨by decide, ?_, fun R hR => hk R ?_⟩
  · rw [zzl, zc_X4_areRoped]; exact hl
  · rw [zzc, zzo, zzl, zzr, zc_X4_areRoped] at hR; exact hR
theorem zN_X4_as : 2 = zzn 98 := by rw [zzn, zc_X4_as]
theorem zO_X4_as : 4 = zzo 98 := by rw [zzo, zc_X4_as]
theorem st_X4_as {zs : zzT} {d : Nat} {av : List Value} {w : zzW} {Q : zzQ} (hl : (lg_sl av).length ≤ 5) (hk : ∀ R : zzS, zzC zs (zzCL zs d) cX4_as 4 5 (some .int) Q R → R 0 (lv_args 0 av) [] w) : zzCL zs (d + 1) 98 av w Q := by
  refine ⟨by decide, ?_, fun R hR => hk R ?_⟩
  · rw [zzl, zc_X4_as]; exact hl
  · rw [zzc, zzo, zzl, zzr, zc_X4_as] at hR; exact hR
theorem zN_X4_anchor : 2 = zzn 99 := by rw [zzn, zc_X4_anchor]
theorem zO_X4_anchor : 4 = zzo 99 := by rw [zzo, zc_X4_anchor]
theorem st_X4_anchor {zs : zzT} {d : Nat} {av : List Value} {w : zzW} {Q : zzQ} (hl : (lg_sl av).length ≤ 4) (hk : ∀ R : zzS, zzC zs (zzCL zs d) cX4_anchor 4 4 (some .int) Q R → R 0 (lv_args 0 av) [] w) : zzCL zs (d + 1) 99 av w Q := by
  refine ⟨by decide, ?_, fun R hR => hk R ?_⟩
  · rw [zzl, zc_X4_anchor]; exact hl
  · rw [zzc, zzo, zzl, zzr, zc_X4_anchor] at hR; exact hR
theorem zN_X4_wed : 2 = zzn 100 := by rw [zzn, zc_X4_wed]
theorem zO_X4_wed : 4 = zzo 100 := by rw [zzo, zc_X4_wed]
theorem st_X4_wed {zs : zzT} {d : Nat} {av : List Value} {w : zzW} {Q : zzQ} (hl : (lg_sl av).length ≤ 3) (hk : ∀ R : zzS, zzC zs (zzCL zs d) cX4_wed 4 3 (some .int) Q R → R 0 (lv_args 0 av) [] w) : zzCL zs (d + 1) 100 av w Q := by
  refine ⟨by decide, ?_, fun R hR => hk R ?_⟩
  · rw [zzl, zc_X4_wed]; exact hl
  · rw [zzc, zzo, zzl, zzr, zc_X4_wed] at hR; exact hR
theorem zN_X4_arePair : 2 = zzn 101 := by rw [zzn, zc_X4_arePair]
theorem zO_X4_arePair : 4 = zzo 101 := by rw [zzo, zc_X4_arePair]
theorem st_X4_arePair {zs : zzT} {d : Nat} {av : List Value} {w : zzW} {Q : zzQ} (hl : (lg_sl av).length ≤ 3) (hk : ∀ R : zzS, zzC zs (zzCL zs d) cX4_arePair 4 3 (some .boolean) Q R → R 0 (lv_args 0 av) [] w) : zzCL zs (d + 1) 101 av w Q := by
  refine ⟨by decide, ?_, fun R hR => hk R ?_⟩
  · rw [zzl, zc_X4_arePair]; exact hl
  · rw [zzc, zzo, zzl, zzr, zc_X4_arePair] at hR; exact hR
theorem zN_X4_axe : 2 = zzn 102 := by rw [zzn, zc_X4_axe]
theorem zO_X4_axe : 4 = zzo 102 := by rw [zzo, zc_X4_axe]
theorem st_X4_axe {zs : zzT} {d : Nat} {av : List Value} {w : zzW} {Q : zzQ} (hl : (lg_sl av).length ≤ 8) (hk : ∀ R : zzS, zzC zs (zzCL zs d) cX4_axe 4 8 (some .int) Q R → R 0 (lv_args 0 av) [] w) : zzCL zs (d + 1) 102 av w Q := by
  refine ⟨by decide, ?_, fun R hR => hk R ?_⟩
  · rw [zzl, zc_X4_axe]; exact hl
  · rw [zzc, zzo, zzl, zzr, zc_X4_axe] at hR; exact hR
theorem zN_X4_day : 0 = zzn 103 := by rw [zzn, zc_X4_day]
theorem zO_X4_day : 4 = zzo 103 := by rw [zzo, zc_X4_day]
theorem st_X4_day {zs : zzT} {d : Nat} {av : List Value} {w : zzW} {Q : zzQ} (hl : (lg_sl av).length ≤ 3) (hk : ∀ R : zzS, zzC zs (zzCL zs d) cX4_day 4 3 (some .int) Q R → R 0 (lv_args 0 av) [] w) : zzCL zs (d + 1) 103 av w Q := by
  refine ⟨by decide, ?_, fun R hR => hk R ?_⟩
  · rw [zzl, zc_X4_day]; exact hl
  · rw [zzc, zzo, zzl, zzr, zc_X4_day] at hR; exact hR
theorem zN_X4_passes : 0 = zzn 104 := by rw [zzn, zc_X4_passes]
theorem zO_X4_passes : 4 = zzo 104 := by rw [zzo, zc_X4_passes]
theorem st_X4_passes {zs : zzT} {d : Nat} {av : List Value} {w : zzW} {Q : zzQ} (hl : (lg_sl av).length ≤ 3) (hk : ∀ R : zzS, zzC zs (zzCL zs d) cX4_passes 4 3 (some .int) Q R → R 0 (lv_args 0 av) [] w) : zzCL zs (d + 1) 104 av w Q := by
  refine ⟨by decide, ?_, fun R hR => hk R ?_⟩
  · rw [zzl, zc_X4_passes]; exact hl
  · rw [zzc, zzo, zzl, zzr, zc_X4_passes] at hR; exact hR
theorem zN_X4_isFirst : 1 = zzn 105 := by rw [zzn, zc_X4_isFirst]
theorem zO_X4_isFirst : 4 = zzo 105 := by rw [zzo, zc_X4_isFirst]
theorem st_X4_isFirst {zs : zzT} {d : Nat} {av : List Value} {w : zzW} {Q : zzQ} (hl : (lg_sl av).length ≤ 2) (hk : ∀ R : zzS, zzC zs (zzCL zs d) cX4_isFirst 4 2 (some .boolean) Q R → R 0 (lv_args 0 av) [] w) : zzCL zs (d + 1) 105 av w Q := by
  refine ⟨by decide, ?_, fun R hR => hk R ?_⟩
  · rw [zzl, zc_X4_isFirst]; exact hl
  · rw [zzc, zzo, zzl, zzr, zc_X4_isFirst] at hR; exact hR
theorem zN_X4_drifts : 1 = zzn 106 := by rw [zzn, zc_X4_drifts]
theorem zO_X4_drifts : 4 = zzo 106 := by rw [zzo, zc_X4_drifts]
theorem st_X4_drifts {zs : zzT} {d : Nat} {av : List Value} {w : zzW} {Q : zzQ} (hl : (lg_sl av).length ≤ 7) (hk : ∀ R : zzS, zzC zs (zzCL zs d) cX4_drifts 4 7 (some .int) Q R → R 0 (lv_args 0 av) [] w) : zzCL zs (d + 1) 106 av w Q := by
  refine ⟨by decide, ?_, fun R hR => hk R ?_⟩
  · rw [zzl, zc_X4_drifts]; exact hl
  · rw [zzc, zzo, zzl, zzr, zc_X4_drifts] at hR; exact hR
theorem zN_X4_meet : 2 = zzn 107 := by rw [zzn, zc_X4_meet]
theorem zO_X4_meet : 4 = zzo 107 := by rw [zzo, zc_X4_meet]
theorem st_X4_meet {zs : zzT} {d : Nat} {av : List Value} {w : zzW} {Q : zzQ} (hl : (lg_sl av).length ≤ 3) (hk : ∀ R : zzS, zzC zs (zzCL zs d) cX4_meet 4 3 (some .int) Q R → R 0 (lv_args 0 av) [] w) : zzCL zs (d + 1) 107 av w Q := by
  refine ⟨by decide, ?_, fun R hR => hk R ?_⟩
  · rw [zzl, zc_X4_meet]; exact hl
  · rw [zzc, zzo, zzl, zzr, zc_X4_meet] at hR; exact hR
theorem zN_X4_meetBy : 4 = zzn 108 := by rw [zzn, zc_X4_meetBy]
theorem zO_X4_meetBy : 4 = zzo 108 := by rw [zzo, zc_X4_meetBy]
theorem st_X4_meetBy {zs : zzT} {d : Nat} {av : List Value} {w : zzW} {Q : zzQ} (hl : (lg_sl av).length ≤ 7) (hk : ∀ R : zzS, zzC zs (zzCL zs d) cX4_meetBy 4 7 (some .int) Q R → R 0 (lv_args 0 av) [] w) : zzCL zs (d + 1) 108 av w Q := by
  refine ⟨by decide, ?_, fun R hR => hk R ?_⟩
  · rw [zzl, zc_X4_meetBy]; exact hl
  · rw [zzc, zzo, zzl, zzr, zc_X4_meetBy] at hR; exact hR
theorem zN_X4_anchors : 4 = zzn 109 := by rw [zzn, zc_X4_anchors]
theorem zO_X4_anchors : 4 = zzo 109 := by rw [zzo, zc_X4_anchors]
theorem st_X4_anchors {zs : zzT} {d : Nat} {av : List Value} {w : zzW} {Q : zzQ} (hl : (lg_sl av).length ≤ 6) (hk : ∀ R : zzS, zzC zs (zzCL zs d) cX4_anchors 4 6 (some .int) Q R → R 0 (lv_args 0 av) [] w) : zzCL zs (d + 1) 109 av w Q := by
  refine ⟨by decide, ?_, fun R hR => hk R ?_⟩
  · rw [zzl, zc_X4_anchors]; exact hl
  · rw [zzc, zzo, zzl, zzr, zc_X4_anchors] at hR; exact hR
theorem zN_X4_anchorsOf : 3 = zzn 110 := by rw [zzn, zc_X4_anchorsOf]
theorem zO_X4_anchorsOf : 4 = zzo 110 := by rw [zzo, zc_X4_anchorsOf]
theorem st_X4_anchorsOf {zs : zzT} {d : Nat} {av : List Value} {w : zzW} {Q : zzQ} (hl : (lg_sl av).length ≤ 7) (hk : ∀ R : zzS, zzC zs (zzCL zs d) cX4_anchorsOf 4 7 (some .int) Q R → R 0 (lv_args 0 av) [] w) : zzCL zs (d + 1) 110 av w Q := by
  refine ⟨by decide, ?_, fun R hR => hk R ?_⟩
  · rw [zzl, zc_X4_anchorsOf]; exact hl
  · rw [zzc, zzo, zzl, zzr, zc_X4_anchorsOf] at hR; exact hR
theorem zN_X4_ones : 1 = zzn 111 := by rw [zzn, zc_X4_ones]
theorem zO_X4_ones : 4 = zzo 111 := by rw [zzo, zc_X4_ones]
theorem st_X4_ones {zs : zzT} {d : Nat} {av : List Value} {w : zzW} {Q : zzQ} (hl : (lg_sl av).length ≤ 3) (hk : ∀ R : zzS, zzC zs (zzCL zs d) cX4_ones 4 3 (some .int) Q R → R 0 (lv_args 0 av) [] w) : zzCL zs (d + 1) 111 av w Q := by
  refine ⟨by decide, ?_, fun R hR => hk R ?_⟩
  · rw [zzl, zc_X4_ones]; exact hl
  · rw [zzc, zzo, zzl, zzr, zc_X4_ones] at hR; exact hR
theorem zN_X4_stable : 1 = zzn 112 := by rw [zzn, zc_X4_stable]
theorem zO_X4_stable : 4 = zzo 112 := by rw [zzo, zc_X4_stable]
theorem st_X4_stable {zs : zzT} {d : Nat} {av : List Value} {w : zzW} {Q : zzQ} (hl : (lg_sl av).length ≤ 2) (hk : ∀ R : zzS, zzC zs (zzCL zs d) cX4_stable 4 2 (some .int) Q R → R 0 (lv_args 0 av) [] w) : zzCL zs (d + 1) 112 av w Q := by
  refine ⟨by decide, ?_, fun R hR => hk R ?_⟩
  · rw [zzl, zc_X4_stable]; exact hl
  · rw [zzc, zzo, zzl, zzr, zc_X4_stable] at hR; exact hR
theorem zN_X4_layStable : 0 = zzn 113 := by rw [zzn, zc_X4_layStable]
theorem zO_X4_layStable : 4 = zzo 113 := by rw [zzo, zc_X4_layStable]
theorem st_X4_layStable {zs : zzT} {d : Nat} {av : List Value} {w : zzW} {Q : zzQ} (hl : (lg_sl av).length ≤ 5) (hk : ∀ R : zzS, zzC zs (zzCL zs d) cX4_layStable 4 5 none Q R → R 0 (lv_args 0 av) [] w) : zzCL zs (d + 1) 113 av w Q := by
  refine ⟨by decide, ?_, fun R hR => hk R ?_⟩
  · rw [zzl, zc_X4_layStable]; exact hl
  · rw [zzc, zzo, zzl, zzr, zc_X4_layStable] at hR; exact hR
theorem zN_X4_isMatch : 1 = zzn 114 := by rw [zzn, zc_X4_isMatch]
theorem zO_X4_isMatch : 4 = zzo 114 := by rw [zzo, zc_X4_isMatch]
theorem st_X4_isMatch {zs : zzT} {d : Nat} {av : List Value} {w : zzW} {Q : zzQ} (hl : (lg_sl av).length ≤ 5) (hk : ∀ R : zzS, zzC zs (zzCL zs d) cX4_isMatch 4 5 (some .boolean) Q R → R 0 (lv_args 0 av) [] w) : zzCL zs (d + 1) 114 av w Q := by
  refine ⟨by decide, ?_, fun R hR => hk R ?_⟩
  · rw [zzl, zc_X4_isMatch]; exact hl
  · rw [zzc, zzo, zzl, zzr, zc_X4_isMatch] at hR; exact hR
theorem zN_X4_isStable : 0 = zzn 115 := by rw [zzn, zc_X4_isStable]
theorem zO_X4_isStable : 4 = zzo 115 := by rw [zzo, zc_X4_isStable]
theorem st_X4_isStable {zs : zzT} {d : Nat} {av : List Value} {w : zzW} {Q : zzQ} (hl : (lg_sl av).length ≤ 5) (hk : ∀ R : zzS, zzC zs (zzCL zs d) cX4_isStable 4 5 (some .boolean) Q R → R 0 (lv_args 0 av) [] w) : zzCL zs (d + 1) 115 av w Q := by
  refine ⟨by decide, ?_, fun R hR => hk R ?_⟩
  · rw [zzl, zc_X4_isStable]; exact hl
  · rw [zzc, zzo, zzl, zzr, zc_X4_isStable] at hR; exact hR
theorem zN_X4_likes : 2 = zzn 116 := by rw [zzn, zc_X4_likes]
theorem zO_X4_likes : 4 = zzo 116 := by rw [zzo, zc_X4_likes]
theorem st_X4_likes {zs : zzT} {d : Nat} {av : List Value} {w : zzW} {Q : zzQ} (hl : (lg_sl av).length ≤ 3) (hk : ∀ R : zzS, zzC zs (zzCL zs d) cX4_likes 4 3 (some .boolean) Q R → R 0 (lv_args 0 av) [] w) : zzCL zs (d + 1) 116 av w Q := by
  refine ⟨by decide, ?_, fun R hR => hk R ?_⟩
  · rw [zzl, zc_X4_likes]; exact hl
  · rw [zzc, zzo, zzl, zzr, zc_X4_likes] at hR; exact hR
theorem zN_X4_copy : 2 = zzn 117 := by rw [zzn, zc_X4_copy]
theorem zO_X4_copy : 4 = zzo 117 := by rw [zzo, zc_X4_copy]
theorem st_X4_copy {zs : zzT} {d : Nat} {av : List Value} {w : zzW} {Q : zzQ} (hl : (lg_sl av).length ≤ 3) (hk : ∀ R : zzS, zzC zs (zzCL zs d) cX4_copy 4 3 none Q R → R 0 (lv_args 0 av) [] w) : zzCL zs (d + 1) 117 av w Q := by
  refine ⟨by decide, ?_, fun R hR => hk R ?_⟩
  · rw [zzl, zc_X4_copy]; exact hl
  · rw [zzc, zzo, zzl, zzr, zc_X4_copy] at hR; exact hR
theorem zN_X4_tellStable : 1 = zzn 118 := by rw [zzn, zc_X4_tellStable]
theorem zO_X4_tellStable : 4 = zzo 118 := by rw [zzo, zc_X4_tellStable]
theorem st_X4_tellStable {zs : zzT} {d : Nat} {av : List Value} {w : zzW} {Q : zzQ} (hl : (lg_sl av).length ≤ 2) (hk : ∀ R : zzS, zzC zs (zzCL zs d) cX4_tellStable 4 2 (some .int) Q R → R 0 (lv_args 0 av) [] w) : zzCL zs (d + 1) 118 av w Q := by
  refine ⟨by decide, ?_, fun R hR => hk R ?_⟩
  · rw [zzl, zc_X4_tellStable]; exact hl
  · rw [zzc, zzo, zzl, zzr, zc_X4_tellStable] at hR; exact hR
theorem zN_X4_parting : 2 = zzn 119 := by rw [zzn, zc_X4_parting]
theorem zO_X4_parting : 4 = zzo 119 := by rw [zzo, zc_X4_parting]
theorem st_X4_parting {zs : zzT} {d : Nat} {av : List Value} {w : zzW} {Q : zzQ} (hl : (lg_sl av).length ≤ 6) (hk : ∀ R : zzS, zzC zs (zzCL zs d) cX4_parting 4 6 (some .int) Q R → R 0 (lv_args 0 av) [] w) : zzCL zs (d + 1) 119 av w Q := by
  refine ⟨by decide, ?_, fun R hR => hk R ?_⟩
  · rw [zzl, zc_X4_parting]; exact hl
  · rw [zzc, zzo, zzl, zzr, zc_X4_parting] at hR; exact hR
theorem zN_X4_shell : 4 = zzn 120 := by rw [zzn, zc_X4_shell]
theorem zO_X4_shell : 4 = zzo 120 := by rw [zzo, zc_X4_shell]
theorem st_X4_shell {zs : zzT} {d : Nat} {av : List Value} {w : zzW} {Q : zzQ} (hl : (lg_sl av).length ≤ 5) (hk : ∀ R : zzS, zzC zs (zzCL zs d) cX4_shell 4 5 (some .int) Q R → R 0 (lv_args 0 av) [] w) : zzCL zs (d + 1) 120 av w Q := by
  refine ⟨by decide, ?_, fun R hR => hk R ?_⟩
  · rw [zzl, zc_X4_shell]; exact hl
  · rw [zzc, zzo, zzl, zzr, zc_X4_shell] at hR; exact hR
theorem zN_X4_forget : 0 = zzn 121 := by rw [zzn, zc_X4_forget]
theorem zO_X4_forget : 4 = zzo 121 := by rw [zzo, zc_X4_forget]
theorem st_X4_forget {zs : zzT} {d : Nat} {av : List Value} {w : zzW} {Q : zzQ} (hl : (lg_sl av).length ≤ 2) (hk : ∀ R : zzS, zzC zs (zzCL zs d) cX4_forget 4 2 (some .int) Q R → R 0 (lv_args 0 av) [] w) : zzCL zs (d + 1) 121 av w Q := by
  refine ⟨by decide, ?_, fun R hR => hk R ?_⟩
  · rw [zzl, zc_X4_forget]; exact hl
  · rw [zzc, zzo, zzl, zzr, zc_X4_forget] at hR; exact hR
theorem zN_X4_guess : 2 = zzn 122 := by rw [zzn, zc_X4_guess]
theorem zO_X4_guess : 4 = zzo 122 := by rw [zzo, zc_X4_guess]
theorem st_X4_guess {zs : zzT} {d : Nat} {av : List Value} {w : zzW} {Q : zzQ} (hl : (lg_sl av).length ≤ 3) (hk : ∀ R : zzS, zzC zs (zzCL zs d) cX4_guess 4 3 (some .int) Q R → R 0 (lv_args 0 av) [] w) : zzCL zs (d + 1) 122 av w Q := by
  refine ⟨by decide, ?_, fun R hR => hk R ?_⟩
  · rw [zzl, zc_X4_guess]; exact hl
  · rw [zzc, zzo, zzl, zzr, zc_X4_guess] at hR; exact hR
theorem zN_X4_guessOf : 2 = zzn 123 := by rw [zzn, zc_X4_guessOf]
theorem zO_X4_guessOf : 4 = zzo 123 := by rw [zzo, zc_X4_guessOf]
theorem st_X4_guessOf {zs : zzT} {d : Nat} {av : List Value} {w : zzW} {Q : zzQ} (hl : (lg_sl av).length ≤ 7) (hk : ∀ R : zzS, zzC zs (zzCL zs d) cX4_guessOf 4 7 (some .int) Q R → R 0 (lv_args 0 av) [] w) : zzCL zs (d + 1) 123 av w Q := by
  refine ⟨by decide, ?_, fun R hR => hk R ?_⟩
  · rw [zzl, zc_X4_guessOf]; exact hl
  · rw [zzc, zzo, zzl, zzr, zc_X4_guessOf] at hR; exact hR
theorem zN_X4_isSo : 3 = zzn 124 := by rw [zzn, zc_X4_isSo]
theorem zO_X4_isSo : 4 = zzo 124 := by rw [zzo, zc_X4_isSo]
theorem st_X4_isSo {zs : zzT} {d : Nat} {av : List Value} {w : zzW} {Q : zzQ} (hl : (lg_sl av).length ≤ 8) (hk : ∀ R : zzS, zzC zs (zzCL zs d) cX4_isSo 4 8 (some .boolean) Q R → R 0 (lv_args 0 av) [] w) : zzCL zs (d + 1) 124 av w Q := by
  refine ⟨by decide, ?_, fun R hR => hk R ?_⟩
  · rw [zzl, zc_X4_isSo]; exact hl
  · rw [zzc, zzo, zzl, zzr, zc_X4_isSo] at hR; exact hR
theorem zN_X4_seasons : 3 = zzn 125 := by rw [zzn, zc_X4_seasons]
theorem zO_X4_seasons : 4 = zzo 125 := by rw [zzo, zc_X4_seasons]
theorem st_X4_seasons {zs : zzT} {d : Nat} {av : List Value} {w : zzW} {Q : zzQ} (hl : (lg_sl av).length ≤ 8) (hk : ∀ R : zzS, zzC zs (zzCL zs d) cX4_seasons 4 8 (some .int) Q R → R 0 (lv_args 0 av) [] w) : zzCL zs (d + 1) 125 av w Q := by
  refine ⟨by decide, ?_, fun R hR => hk R ?_⟩
  · rw [zzl, zc_X4_seasons]; exact hl
  · rw [zzc, zzo, zzl, zzr, zc_X4_seasons] at hR; exact hR
theorem zN_X4_draw : 1 = zzn 126 := by rw [zzn, zc_X4_draw]
theorem zO_X4_draw : 4 = zzo 126 := by rw [zzo, zc_X4_draw]
theorem st_X4_draw {zs : zzT} {d : Nat} {av : List Value} {w : zzW} {Q : zzQ} (hl : (lg_sl av).length ≤ 2) (hk : ∀ R : zzS, zzC zs (zzCL zs d) cX4_draw 4 2 (some .int) Q R → R 0 (lv_args 0 av) [] w) : zzCL zs (d + 1) 126 av w Q := by
  refine ⟨by decide, ?_, fun R hR => hk R ?_⟩
  · rw [zzl, zc_X4_draw]; exact hl
  · rw [zzc, zzo, zzl, zzr, zc_X4_draw] at hR; exact hR
theorem zN_X4_image : 0 = zzn 127 := by rw [zzn, zc_X4_image]
theorem zO_X4_image : 4 = zzo 127 := by rw [zzo, zc_X4_image]
theorem st_X4_image {zs : zzT} {d : Nat} {av : List Value} {w : zzW} {Q : zzQ} (hl : (lg_sl av).length ≤ 1) (hk : ∀ R : zzS, zzC zs (zzCL zs d) cX4_image 4 1 (some .int) Q R → R 0 (lv_args 0 av) [] w) : zzCL zs (d + 1) 127 av w Q := by
  refine ⟨by decide, ?_, fun R hR => hk R ?_⟩
  · rw [zzl, zc_X4_image]; exact hl
  · rw [zzc, zzo, zzl, zzr, zc_X4_image] at hR; exact hR
theorem zN_X4_restore : 0 = zzn 128 := by rw [zzn, zc_X4_restore]
theorem zO_X4_restore : 4 = zzo 128 := by rw [zzo, zc_X4_restore]
theorem st_X4_restore {zs : zzT} {d : Nat} {av : List Value} {w : zzW} {Q : zzQ} (hl : (lg_sl av).length ≤ 1) (hk : ∀ R : zzS, zzC zs (zzCL zs d) cX4_restore 4 1 (some .int) Q R → R 0 (lv_args 0 av) [] w) : zzCL zs (d + 1) 128 av w Q := by
  refine ⟨by decide, ?_, fun R hR => hk R ?_⟩
  · rw [zzl, zc_X4_restore]; exact hl
  · rw [zzc, zzo, zzl, zzr, zc_X4_restore] at hR; exact hR
theorem zN_X4_count : 1 = zzn 129 := by rw [zzn, zc_X4_count]
theorem zO_X4_count : 4 = zzo 129 := by rw [zzo, zc_X4_count]
theorem st_X4_count {zs : zzT} {d : Nat} {av : List Value} {w : zzW} {Q : zzQ} (hl : (lg_sl av).length ≤ 2) (hk : ∀ R : zzS, zzC zs (zzCL zs d) cX4_count 4 2 (some .int) Q R → R 0 (lv_args 0 av) [] w) : zzCL zs (d + 1) 129 av w Q := by
  refine ⟨by decide, ?_, fun R hR => hk R ?_⟩
  · rw [zzl, zc_X4_count]; exact hl
  · rw [zzc, zzo, zzl, zzr, zc_X4_count] at hR; exact hR
theorem zN_X4_countOf : 1 = zzn 130 := by rw [zzn, zc_X4_countOf]
theorem zO_X4_countOf : 4 = zzo 130 := by rw [zzo, zc_X4_countOf]
theorem st_X4_countOf {zs : zzT} {d : Nat} {av : List Value} {w : zzW} {Q : zzQ} (hl : (lg_sl av).length ≤ 2) (hk : ∀ R : zzS, zzC zs (zzCL zs d) cX4_countOf 4 2 (some .int) Q R → R 0 (lv_args 0 av) [] w) : zzCL zs (d + 1) 130 av w Q := by
  refine ⟨by decide, ?_, fun R hR => hk R ?_⟩
  · rw [zzl, zc_X4_countOf]; exact hl
  · rw [zzc, zzo, zzl, zzr, zc_X4_countOf] at hR; exact hR
theorem zN_X4_partyMany : 0 = zzn 131 := by rw [zzn, zc_X4_partyMany]
theorem zO_X4_partyMany : 4 = zzo 131 := by rw [zzo, zc_X4_partyMany]
theorem st_X4_partyMany {zs : zzT} {d : Nat} {av : List Value} {w : zzW} {Q : zzQ} (hl : (lg_sl av).length ≤ 3) (hk : ∀ R : zzS, zzC zs (zzCL zs d) cX4_partyMany 4 3 (some .int) Q R → R 0 (lv_args 0 av) [] w) : zzCL zs (d + 1) 131 av w Q := by
  refine ⟨by decide, ?_, fun R hR => hk R ?_⟩
  · rw [zzl, zc_X4_partyMany]; exact hl
  · rw [zzc, zzo, zzl, zzr, zc_X4_partyMany] at hR; exact hR
theorem zN_X4_digest : 0 = zzn 132 := by rw [zzn, zc_X4_digest]
theorem zO_X4_digest : 4 = zzo 132 := by rw [zzo, zc_X4_digest]
theorem st_X4_digest {zs : zzT} {d : Nat} {av : List Value} {w : zzW} {Q : zzQ} (hl : (lg_sl av).length ≤ 2) (hk : ∀ R : zzS, zzC zs (zzCL zs d) cX4_digest 4 2 (some .long) Q R → R 0 (lv_args 0 av) [] w) : zzCL zs (d + 1) 132 av w Q := by
  refine ⟨by decide, ?_, fun R hR => hk R ?_⟩
  · rw [zzl, zc_X4_digest]; exact hl
  · rw [zzc, zzo, zzl, zzr, zc_X4_digest] at hR; exact hR
theorem zN_X4_say : 1 = zzn 133 := by rw [zzn, zc_X4_say]
theorem zO_X4_say : 4 = zzo 133 := by rw [zzo, zc_X4_say]
theorem st_X4_say {zs : zzT} {d : Nat} {av : List Value} {w : zzW} {Q : zzQ} (hl : (lg_sl av).length ≤ 3) (hk : ∀ R : zzS, zzC zs (zzCL zs d) cX4_say 4 3 none Q R → R 0 (lv_args 0 av) [] w) : zzCL zs (d + 1) 133 av w Q := by
  refine ⟨by decide, ?_, fun R hR => hk R ?_⟩
  · rw [zzl, zc_X4_say]; exact hl
  · rw [zzc, zzo, zzl, zzr, zc_X4_say] at hR; exact hR
theorem zN_X4_sayIsland : 1 = zzn 134 := by rw [zzn, zc_X4_sayIsland]
theorem zO_X4_sayIsland : 4 = zzo 134 := by rw [zzo, zc_X4_sayIsland]
theorem st_X4_sayIsland {zs : zzT} {d : Nat} {av : List Value} {w : zzW} {Q : zzQ} (hl : (lg_sl av).length ≤ 3) (hk : ∀ R : zzS, zzC zs (zzCL zs d) cX4_sayIsland 4 3 none Q R → R 0 (lv_args 0 av) [] w) : zzCL zs (d + 1) 134 av w Q := by
  refine ⟨by decide, ?_, fun R hR => hk R ?_⟩
  · rw [zzl, zc_X4_sayIsland]; exact hl
  · rw [zzc, zzo, zzl, zzr, zc_X4_sayIsland] at hR; exact hR
theorem g_inv0 {zs : zzT} {CL : zzK} {cc : ByteArray} {o nL : Nat} {rt : Option FieldType} {Q : zzQ} {R : zzS} {pc : Nat} {ls : zzL} {st : List Value} {w : zzW} (h : zzC zs CL cc o nL rt Q R) {idx kd k b ci : Nat} {fs : List Value} (hd : decode cc pc = .ok (.invokevirtual idx, 3)) (hm : zzmt o idx = some (kd, k)) (hkd : kd < 2) (hn : 0 = zzn k) (hw : w b = some (.inr (ci, fs))) (hc : ci = zzo k) (hst : (st.map fun v => v.category).sum ≤ 8) (kk : CL k [.ref b] w (fun r w1 => R (pc + 3) ls (r ++ st) w1)) : R pc ls (.ref b :: st) w := z_invv h (As := []) hd hm hkd rfl hn hw hc hst kk
theorem g_sta0 {zs : zzT} {CL : zzK} {cc : ByteArray} {o nL : Nat} {rt : Option FieldType} {Q : zzQ} {R : zzS} {pc : Nat} {ls : zzL} {st : List Value} {w : zzW} (h : zzC zs CL cc o nL rt Q R) {idx k : Nat} (hd : decode cc pc = .ok (.invokestatic idx, 3)) (hm : zzmt o idx = some (2, k)) (hn : 0 = zzn k) (hst : (st.map fun v => v.category).sum ≤ 8) (kk : CL k [] w (fun r w1 => R (pc + 3) ls (r ++ st) w1)) : R pc ls (st) w := z_invs h (As := []) hd hm rfl hn hst kk
theorem g_inv1 {zs : zzT} {CL : zzK} {cc : ByteArray} {o nL : Nat} {rt : Option FieldType} {Q : zzQ} {R : zzS} {pc : Nat} {ls : zzL} {st : List Value} {w : zzW} (h : zzC zs CL cc o nL rt Q R) {idx kd k b ci : Nat} {fs : List Value} {v1 : Value} (hd : decode cc pc = .ok (.invokevirtual idx, 3)) (hm : zzmt o idx = some (kd, k)) (hkd : kd < 2) (hn : 1 = zzn k) (hw : w b = some (.inr (ci, fs))) (hc : ci = zzo k) (hst : (st.map fun v => v.category).sum ≤ 8) (kk : CL k [.ref b, v1] w (fun r w1 => R (pc + 3) ls (r ++ st) w1)) : R pc ls (v1 :: .ref b :: st) w := z_invv h (As := [v1]) hd hm hkd rfl hn hw hc hst kk
theorem g_sta1 {zs : zzT} {CL : zzK} {cc : ByteArray} {o nL : Nat} {rt : Option FieldType} {Q : zzQ} {R : zzS} {pc : Nat} {ls : zzL} {st : List Value} {w : zzW} (h : zzC zs CL cc o nL rt Q R) {idx k : Nat} {v1 : Value} (hd : decode cc pc = .ok (.invokestatic idx, 3)) (hm : zzmt o idx = some (2, k)) (hn : 1 = zzn k) (hst : (st.map fun v => v.category).sum ≤ 8) (kk : CL k [v1] w (fun r w1 => R (pc + 3) ls (r ++ st) w1)) : R pc ls (v1 :: st) w := z_invs h (As := [v1]) hd hm rfl hn hst kk
theorem g_inv2 {zs : zzT} {CL : zzK} {cc : ByteArray} {o nL : Nat} {rt : Option FieldType} {Q : zzQ} {R : zzS} {pc : Nat} {ls : zzL} {st : List Value} {w : zzW} (h : zzC zs CL cc o nL rt Q R) {idx kd k b ci : Nat} {fs : List Value} {v1 v2 : Value} (hd : decode cc pc = .ok (.invokevirtual idx, 3)) (hm : zzmt o idx = some (kd, k)) (hkd : kd < 2) (hn : 2 = zzn k) (hw : w b = some (.inr (ci, fs))) (hc : ci = zzo k) (hst : (st.map fun v => v.category).sum ≤ 8) (kk : CL k [.ref b, v1, v2] w (fun r w1 => R (pc + 3) ls (r ++ st) w1)) : R pc ls (v2 :: v1 :: .ref b :: st) w := z_invv h (As := [v1, v2]) hd hm hkd rfl hn hw hc hst kk
theorem g_sta2 {zs : zzT} {CL : zzK} {cc : ByteArray} {o nL : Nat} {rt : Option FieldType} {Q : zzQ} {R : zzS} {pc : Nat} {ls : zzL} {st : List Value} {w : zzW} (h : zzC zs CL cc o nL rt Q R) {idx k : Nat} {v1 v2 : Value} (hd : decode cc pc = .ok (.invokestatic idx, 3)) (hm : zzmt o idx = some (2, k)) (hn : 2 = zzn k) (hst : (st.map fun v => v.category).sum ≤ 8) (kk : CL k [v1, v2] w (fun r w1 => R (pc + 3) ls (r ++ st) w1)) : R pc ls (v2 :: v1 :: st) w := z_invs h (As := [v1, v2]) hd hm rfl hn hst kk
theorem g_inv3 {zs : zzT} {CL : zzK} {cc : ByteArray} {o nL : Nat} {rt : Option FieldType} {Q : zzQ} {R : zzS} {pc : Nat} {ls : zzL} {st : List Value} {w : zzW} (h : zzC zs CL cc o nL rt Q R) {idx kd k b ci : Nat} {fs : List Value} {v1 v2 v3 : Value} (hd : decode cc pc = .ok (.invokevirtual idx, 3)) (hm : zzmt o idx = some (kd, k)) (hkd : kd < 2) (hn : 3 = zzn k) (hw : w b = some (.inr (ci, fs))) (hc : ci = zzo k) (hst : (st.map fun v => v.category).sum ≤ 8) (kk : CL k [.ref b, v1, v2, v3] w (fun r w1 => R (pc + 3) ls (r ++ st) w1)) : R pc ls (v3 :: v2 :: v1 :: .ref b :: st) w := z_invv h (As := [v1, v2, v3]) hd hm hkd rfl hn hw hc hst kk
theorem g_sta3 {zs : zzT} {CL : zzK} {cc : ByteArray} {o nL : Nat} {rt : Option FieldType} {Q : zzQ} {R : zzS} {pc : Nat} {ls : zzL} {st : List Value} {w : zzW} (h : zzC zs CL cc o nL rt Q R) {idx k : Nat} {v1 v2 v3 : Value} (hd : decode cc pc = .ok (.invokestatic idx, 3)) (hm : zzmt o idx = some (2, k)) (hn : 3 = zzn k) (hst : (st.map fun v => v.category).sum ≤ 8) (kk : CL k [v1, v2, v3] w (fun r w1 => R (pc + 3) ls (r ++ st) w1)) : R pc ls (v3 :: v2 :: v1 :: st) w := z_invs h (As := [v1, v2, v3]) hd hm rfl hn hst kk
theorem g_inv4 {zs : zzT} {CL : zzK} {cc : ByteArray} {o nL : Nat} {rt : Option FieldType} {Q : zzQ} {R : zzS} {pc : Nat} {ls : zzL} {st : List Value} {w : zzW} (h : zzC zs CL cc o nL rt Q R) {idx kd k b ci : Nat} {fs : List Value} {v1 v2 v3 v4 : Value} (hd : decode cc pc = .ok (.invokevirtual idx, 3)) (hm : zzmt o idx = some (kd, k)) (hkd : kd < 2) (hn : 4 = zzn k) (hw : w b = some (.inr (ci, fs))) (hc : ci = zzo k) (hst : (st.map fun v => v.category).sum ≤ 8) (kk : CL k [.ref b, v1, v2, v3, v4] w (fun r w1 => R (pc + 3) ls (r ++ st) w1)) : R pc ls (v4 :: v3 :: v2 :: v1 :: .ref b :: st) w := z_invv h (As := [v1, v2, v3, v4]) hd hm hkd rfl hn hw hc hst kk
theorem g_sta4 {zs : zzT} {CL : zzK} {cc : ByteArray} {o nL : Nat} {rt : Option FieldType} {Q : zzQ} {R : zzS} {pc : Nat} {ls : zzL} {st : List Value} {w : zzW} (h : zzC zs CL cc o nL rt Q R) {idx k : Nat} {v1 v2 v3 v4 : Value} (hd : decode cc pc = .ok (.invokestatic idx, 3)) (hm : zzmt o idx = some (2, k)) (hn : 4 = zzn k) (hst : (st.map fun v => v.category).sum ≤ 8) (kk : CL k [v1, v2, v3, v4] w (fun r w1 => R (pc + 3) ls (r ++ st) w1)) : R pc ls (v4 :: v3 :: v2 :: v1 :: st) w := z_invs h (As := [v1, v2, v3, v4]) hd hm rfl hn hst kk
end
section
/-! helpers of the walks -/
theorem gi {x y : Int} (h : x = y) : some (Value.int (iI x)) = some (Value.int (iI y)) := by rw [h]
theorem qi {Q : zzQ} {w : zzW} {v v1 : Int} (h : Q [.int (iI v)] w) (e : v1 = v) : Q [.int (iI v1)] w := e ▸ h
theorem qz {Q : zzQ} {w : zzW} {b b1 : Bool} (h : Q [.int (iI (b2i b))] w) (e : b1 = b) : Q [.int (iI (b2i b1))] w := e ▸ h
theorem qw {Q : zzQ} {r : List Value} {w w1 : zzW} (h : Q r w) (e : w1 = w) : Q r w1 := e ▸ h
theorem wofg {g g1 : Nat → Nat → Int} {hh : Int64} (e : g1 = g) : wof g1 hh = wof g hh := e ▸ rfl
/-! WHAT THE TWO SYSTEMS COMPUTE: the words -/
/-- beside each other in the ring -/
def bs (p q : Int) : Bool := decide ((p + 1) % 12 = q) || decide ((q + 1) % 12 = p)
/-- who is on a place: an answer r -/
def isAt (pl : Nat → Int) (n : Nat) (q r : Int) : Prop := (∃ j : Nat, j < n ∧ pl j = q ∧ r = j) ∨ ((∀ j, j < n → pl j ≠ q) ∧ r = -1)
/-- the places of n islands -/
def plok (n : Nat) (pl : Nat → Int) : Prop := ∀ j, j < n → 0 ≤ pl j ∧ pl j < 12
theorem p2n (i : Nat) : (1 : Int) * 2 ^ ((i : Int)).toNat = ((2 ^ i : Nat) : Int) := by simp
theorem p2z (z : Int) : (1 : Int) * 2 ^ z.toNat = ((2 ^ z.toNat : Nat) : Int) := by simp
theorem p2b {k : Nat} (h : k < 31) : ((2 ^ k : Nat) : Int) < 2147483648 := by
  have h1 : 2 ^ k ≤ 2 ^ 30 := Nat.pow_le_pow_right (by decide) (by omega)
  have h2 : (2 : Nat) ^ 30 = 1073741824 := by decide
  omega
theorem b2i_t {b : Bool} (h : b2i b = 1) : b = true := by cases b <;> first | rfl | exact absurd h (by decide)
theorem b2i_f {b : Bool} (h : b2i b ≠ 1) : b = false := by cases b <;> first | rfl | exact absurd rfl h
theorem g_icmp_neb {zs : zzT} {CL : zzK} {cc : ByteArray} {o nL : Nat} {rt : Option FieldType} {Q : zzQ} {R : zzS} {pc : Nat} {ls : zzL} {st : List Value} {w : zzW} (h : zzC zs CL cc o nL rt Q R) {b : Bool} {off : Int} {tgt : Nat} (hd : decode cc pc = .ok (.if_icmp .ne off, 3)) (ht : (pc : Int) + off = (tgt : Int)) (kt : b = false → R tgt ls st w) (kf : b = true → R (pc + 3) ls st w) : R pc ls (.int (iI 1) :: .int (iI (b2i b)) :: st) w :=
  g_icmp_ne h hd ht (fun q => kt (b2i_f q)) (fun q => kf (b2i_t q))
theorem g_icmp_eqb {zs : zzT} {CL : zzK} {cc : ByteArray} {o nL : Nat} {rt : Option FieldType} {Q : zzQ} {R : zzS} {pc : Nat} {ls : zzL} {st : List Value} {w : zzW} (h : zzC zs CL cc o nL rt Q R) {b : Bool} {off : Int} {tgt : Nat} (hd : decode cc pc = .ok (.if_icmp .eq off, 3)) (ht : (pc : Int) + off = (tgt : Int)) (kt : b = true → R tgt ls st w) (kf : b = false → R (pc + 3) ls st w) : R pc ls (.int (iI 1) :: .int (iI (b2i b)) :: st) w :=
  g_icmp_eq h hd ht (fun q => kt (b2i_t q)) (fun q => kf (b2i_f q))
/-- the two tables of shares -/
def csh : Nat → Int := fun j => if j = 1 then 0 else 1
def wsh : Nat → Int := fun j => if j = 2 then 1 else if j = 4 then 2 else 0
def zsok (zs : zzT) : Prop := zs zzSA = some (5, ir csh) ∧ zs zzSB = some (5, ir wsh)
abbrev FI : Type := Nat → Int
/-- the push of one -/
def psh (kd cur : FI) (an : Nat) (wi da : Int) (pl : FI) (i : Nat) : Int :=
  if an.testBit i = true then 0 else if kd i = 0 then cur (pl i).toNat else if kd i = 1 then 0 else if kd i = 2 then cur (pl i).toNat + wi else if kd i = 3 then (if da % 2 = 0 then -cur (pl i).toNat else cur (pl i).toNat) else cur (pl i).toNat + 2 * wi
def smu (f : Nat → Int) : Nat → Int
  | 0 => 0
  | k + 1 => smu f k + f k
def sg (z : Int) : Int := if 0 < z then 1 else if z < 0 then -1 else 0
/-- the weighed push of one, if it is of the party -/
def wpu (kd sz cur : FI) (an : Nat) (wi da : Int) (pt : Nat) (pl : FI) (i : Nat) : Int := if pt.testBit i = true then psh kd cur an wi da pl i * sz i else 0
/-- which way a party goes -/
def way (n : Nat) (kd sz cur : FI) (an : Nat) (wi da : Int) (pt : Nat) (pl : FI) : Int := sg (smu (wpu kd sz cur an wi da pt pl) n)
/-- whether another party stands in its way -/
def brd (n : Nat) (pl : FI) (pt : Nat) (s : Int) : Bool := (List.range n).any fun i => (List.range n).any fun k => pt.testBit i && (!pt.testBit k && decide ((pl i + s) % 12 = pl k))
def mvp (n : Nat) (pl : FI) (pt : Nat) (s : Int) : FI := if s = 0 ∨ brd n pl pt s = true then pl else fun i => if pt.testBit i = true then (pl i + s) % 12 else pl i
def bmp (n : Nat) (pl : FI) (pt : Nat) (s : Int) : Int := if s ≠ 0 ∧ brd n pl pt s = true then 1 else 0
def lead (pt : Nat → Nat) (i : Nat) : Bool := decide (pt i % 2 ^ i = 0)
/-- the parties below i have drifted: the places, the bumps -/
def drf (n : Nat) (kd sz cur : FI) (pt : Nat → Nat) (an : Nat) (wi da : Int) : Nat → FI → FI × Int
  | 0, pl => (pl, 0)
  | i + 1, pl => if lead pt i = true then (mvp n (drf n kd sz cur pt an wi da i pl).1 (pt i) (way n kd sz cur an wi da (pt i) (drf n kd sz cur pt an wi da i pl).1), (drf n kd sz cur pt an wi da i pl).2 + bmp n (drf n kd sz cur pt an wi da i pl).1 (pt i) (way n kd sz cur an wi da (pt i) (drf n kd sz cur pt an wi da i pl).1)) else drf n kd sz cur pt an wi da i pl
theorem sg_rg (z : Int) : -1 ≤ sg z ∧ sg z ≤ 1 := by unfold sg; split <;> (try split) <;> omega
theorem brd_iff {n : Nat} {pl : FI} {pt : Nat} {s : Int} : brd n pl pt s = true ↔ ∃ i k, i < n ∧ k < n ∧ pt.testBit i = true ∧ pt.testBit k = false ∧ (pl i + s) % 12 = pl k := by
  unfold brd
  simp only [List.any_eq_true, List.mem_range, Bool.and_eq_true, Bool.not_eq_true', decide_eq_true_eq]
  constructor
  · rintro ⟨i, hi, k, hk, a, b, c⟩
    exact ⟨i, k, hi, hk, a, b, c⟩
  · rintro ⟨i, k, hi, hk, a, b, c⟩
    exact ⟨i, hi, k, hk, a, b, c⟩
theorem mvp_ok {n : Nat} {pl : FI} {pt : Nat} {s : Int} (h : plok n pl) : plok n (mvp n pl pt s) := by
  intro j hj
  unfold mvp
  split
  · exact h j hj
  · dsimp only
    split
    · omega
    · exact h j hj
theorem drf_ok {n : Nat} {kd sz cur : FI} {pt : Nat → Nat} {an : Nat} {wi da : Int} {pl : FI} (h : plok n pl) : ∀ i, plok n (drf n kd sz cur pt an wi da i pl).1
  | 0 => h
  | i + 1 => by
    unfold drf
    split
    · exact mvp_ok (drf_ok h i)
    · exact drf_ok h i
theorem psh_rg {kd cur : FI} {an : Nat} {wi da : Int} {pl : FI} {i : Nat} (hc : ∀ j, j < 12 → -1 ≤ cur j ∧ cur j ≤ 1) (hw : -1 ≤ wi ∧ wi ≤ 1) (hp : 0 ≤ pl i ∧ pl i < 12) : -3 ≤ psh kd cur an wi da pl i ∧ psh kd cur an wi da pl i ≤ 3 := by
  have h := hc (pl i).toNat (by omega)
  unfold psh
  repeat' split
  all_goals omega
theorem wpu_rg {kd sz cur : FI} {an : Nat} {wi da : Int} {pt : Nat} {pl : FI} {i : Nat} (hc : ∀ j, j < 12 → -1 ≤ cur j ∧ cur j ≤ 1) (hw : -1 ≤ wi ∧ wi ≤ 1) (hp : 0 ≤ pl i ∧ pl i < 12) (hs : 1 ≤ sz i ∧ sz i ≤ 9) : -27 ≤ wpu kd sz cur an wi da pt pl i ∧ wpu kd sz cur an wi da pt pl i ≤ 27 := by
  have h := psh_rg (kd := kd) (an := an) (da := da) hc hw hp
  unfold wpu
  split
  · generalize psh kd cur an wi da pl i = x at h
    generalize sz i = y at hs
    have : x = -3 ∨ x = -2 ∨ x = -1 ∨ x = 0 ∨ x = 1 ∨ x = 2 ∨ x = 3 := by omega
    rcases this with rfl | rfl | rfl | rfl | rfl | rfl | rfl <;> omega
  · omega
theorem smu_rg {f : Nat → Int} {b : Int} : ∀ (n : Nat), (∀ i, i < n → -b ≤ f i ∧ f i ≤ b) → -(b * n) ≤ smu f n ∧ smu f n ≤ b * n
  | 0, _ => by simp [smu]
  | n + 1, h => by
    have h1 := smu_rg n (fun i hi => h i (by omega))
    have h2 := h n (by omega)
    simp only [smu]
    have e : b * ((n + 1 : Nat) : Int) = b * n + b := by rw [Int.natCast_add, Int.mul_add]; simp
    rw [e]
    omega
/-- bits that a loop sets -/
def bor (f : Nat → Nat) (c : Nat → Bool) : Nat → Nat
  | 0 => 0
  | k + 1 => if c k = true then bor f c k ||| 2 ^ f k else bor f c k
theorem bor_bit {f : Nat → Nat} {c : Nat → Bool} {t : Nat} : ∀ {n : Nat}, (bor f c n).testBit t = true ↔ ∃ j, j < n ∧ c j = true ∧ f j = t
  | 0 => by simp [bor]
  | n + 1 => by
    unfold bor
    split
    · next h =>
      rw [Nat.testBit_or, Bool.or_eq_true, bor_bit, Nat.testBit_two_pow]
      constructor
      · rintro (⟨j, a, b, e⟩ | e)
        · exact ⟨j, by omega, b, e⟩
        · exact ⟨n, by omega, h, by simpa using e⟩
      · rintro ⟨j, a, b, e⟩
        rcases Nat.lt_or_eq_of_le (Nat.le_of_lt_succ a) with q | q
        · exact Or.inl ⟨j, q, b, e⟩
        · subst q
          exact Or.inr (by simpa using e)
    · next h =>
      rw [bor_bit]
      constructor
      · rintro ⟨j, a, b, e⟩
        exact ⟨j, by omega, b, e⟩
      · rintro ⟨j, a, b, e⟩
        rcases Nat.lt_or_eq_of_le (Nat.le_of_lt_succ a) with q | q
        · exact ⟨j, q, b, e⟩
        · subst q
          exact absurd b h
theorem bor_lt {f : Nat → Nat} {c : Nat → Bool} {m : Nat} : ∀ {n : Nat}, (∀ j, j < n → f j < m) → bor f c n < 2 ^ m
  | 0, _ => by simp only [bor]; exact Nat.two_pow_pos m
  | n + 1, h => by
    have h1 := bor_lt (c := c) (n := n) (fun j hj => h j (by omega))
    unfold bor
    split
    · exact Nat.or_lt_two_pow h1 (Nat.pow_lt_pow_right (by decide) (h n (by omega)))
    · exact h1
end
section
theorem c_X2_stepped {zs : zzT} {d : Nat} {Q : zzQ} {w : zzW} {p s : Int} (hp : 0 ≤ p ∧ p < 12) (hs : -1 ≤ s ∧ s ≤ 1) (hQ : Q [.int (iI ((p + s) % 12))] w) : zzCL zs (d + 1) 21 [.int (iI p), .int (iI s)] w Q := by
  refine st_X2_stepped (Nat.le_of_ble_eq_true rfl) (fun R hR => ?_)
  show R 0 [(0, .int (iI p)), (1, .int (iI s))] [] _
  refine z_iload_n hR dX2_stepped_0 rfl rfl ?_
  refine z_iload_n hR dX2_stepped_1 rfl rfl ?_
  refine g_iadd hR dX2_stepped_2 rfl ?_
  refine z_istore_n hR dX2_stepped_3 rfl (by decide) rfl ?_
  refine z_iload_n hR dX2_stepped_4 rfl rfl ?_
  refine g_if_ge hR (tgt := 11) dX2_stepped_5 (by decide) (fun c5 => ?_) (fun c5 => ?_)
  · refine z_iload_n hR dX2_stepped_11 rfl rfl ?_
    refine g_bipush hR dX2_stepped_12 ?_
    refine g_icmp_ge hR (tgt := 21) dX2_stepped_14 (by decide) (fun c14 => ?_) (fun c14 => ?_)
    · refine g_iconst hR dX2_stepped_21 ?_
      refine g_iret hR dX2_stepped_22 rfl ?_
      exact qi hQ (by omega)
    · refine z_iload_n hR dX2_stepped_17 rfl rfl ?_
      refine z_goto hR (tgt := 22) dX2_stepped_18 (by decide) ?_
      refine g_iret hR dX2_stepped_22 rfl ?_
      exact qi hQ (by omega)
  · refine g_bipush hR dX2_stepped_8 ?_
    refine g_iret hR dX2_stepped_10 rfl ?_
    exact qi hQ (by omega)
theorem c_X2_areBeside {zs : zzT} {d : Nat} {Q : zzQ} {g : Nat → Nat → Int} {hh : Int64} {a : Nat} (ha : isW a) {i j : Nat} (hi : i < 5) (hj : j < 5) (hpi : 0 ≤ g (a + 4) i ∧ g (a + 4) i < 12) (hpj : 0 ≤ g (a + 4) j ∧ g (a + 4) j < 12) (hQ : Q [.int (iI (b2i (bs (g (a + 4) i) (g (a + 4) j))))] (wof g hh)) : zzCL zs (d + 2) 20 [.ref a, .int (iI (i : Int)), .int (iI (j : Int))] (wof g hh) Q := by
  refine st_X2_areBeside (Nat.le_of_ble_eq_true rfl) (fun R hR => ?_)
  show R 0 [(0, .ref a), (1, .int (iI (i : Int))), (2, .int (iI (j : Int)))] [] _
  refine z_aload_n hR dX2_areBeside_0 rfl rfl ?_
  refine g_get hR dX2_areBeside_1 zf_2_21 (wW_0 ha _) rfl ?_
  refine z_iload_n hR dX2_areBeside_4 rfl rfl ?_
  refine g_ialdN hR dX2_areBeside_5 (wW_4 ha _) rfl ?_
  refine g_iconst hR dX2_areBeside_6 ?_
  refine g_sta2 hR dX2_areBeside_7 zm_2_61 zN_X2_stepped (Nat.le_of_ble_eq_true rfl) ?_
  refine c_X2_stepped (by omega) (by omega) ?_
  show R 10 _ (.int _ :: _) _
  refine z_aload_n hR dX2_areBeside_10 rfl rfl ?_
  refine g_get hR dX2_areBeside_11 zf_2_21 (wW_0 ha _) rfl ?_
  refine z_iload_n hR dX2_areBeside_14 rfl rfl ?_
  refine g_ialdN hR dX2_areBeside_15 (wW_4 ha _) rfl ?_
  refine g_icmp_eq hR (tgt := 38) dX2_areBeside_16 (by decide) (fun c16 => ?_) (fun c16 => ?_)
  · refine g_iconst hR dX2_areBeside_38 ?_
    refine z_goto hR (tgt := 43) dX2_areBeside_39 (by decide) ?_
    refine g_zret (b := true) hR dX2_areBeside_43 rfl ?_
    refine qz hQ ?_
    simp only [bs]
    simp [*]
  · refine z_aload_n hR dX2_areBeside_19 rfl rfl ?_
    refine g_get hR dX2_areBeside_20 zf_2_21 (wW_0 ha _) rfl ?_
    refine z_iload_n hR dX2_areBeside_23 rfl rfl ?_
    refine g_ialdN hR dX2_areBeside_24 (wW_4 ha _) rfl ?_
    refine g_iconst hR dX2_areBeside_25 ?_
    refine g_sta2 hR dX2_areBeside_26 zm_2_61 zN_X2_stepped (Nat.le_of_ble_eq_true rfl) ?_
    refine c_X2_stepped (by omega) (by omega) ?_
    show R 29 _ (.int _ :: _) _
    refine z_aload_n hR dX2_areBeside_29 rfl rfl ?_
    refine g_get hR dX2_areBeside_30 zf_2_21 (wW_0 ha _) rfl ?_
    refine z_iload_n hR dX2_areBeside_33 rfl rfl ?_
    refine g_ialdN hR dX2_areBeside_34 (wW_4 ha _) rfl ?_
    refine g_icmp_ne hR (tgt := 42) dX2_areBeside_35 (by decide) (fun c35 => ?_) (fun c35 => ?_)
    · refine g_iconst hR dX2_areBeside_42 ?_
      refine g_zret (b := false) hR dX2_areBeside_43 rfl ?_
      refine qz hQ ?_
      simp only [bs]
      simp [*]
    · refine g_iconst hR dX2_areBeside_38 ?_
      refine z_goto hR (tgt := 43) dX2_areBeside_39 (by decide) ?_
      refine g_zret (b := true) hR dX2_areBeside_43 rfl ?_
      refine qz hQ ?_
      simp only [bs]
      simp [*]
theorem c_X2_islandAt {zs : zzT} {d : Nat} {Q : zzQ} {g : Nat → Nat → Int} {hh : Int64} {a : Nat} (ha : isW a) {n : Nat} (hn : g a 6 = (n : Int)) (hn5 : n ≤ 5) (hpl : plok n (g (a + 4))) {q : Int} (hq : rg q) (hQ : ∀ r, isAt (g (a + 4)) n q r → Q [.int (iI r)] (wof g hh)) : zzCL zs (d + 1) 10 [.ref a, .int (iI q)] (wof g hh) Q := by
  refine st_X2_islandAt (Nat.le_of_ble_eq_true rfl) (fun R hR => ?_)
  show R 0 [(0, .ref a), (1, .int (iI q))] [] _
  have loop : ∀ (k i : Nat), i ≤ n → n < i + k → (∀ j, j < i → g (a + 4) j ≠ q) → R 2 [(0, .ref a), (1, .int (iI q)), (2, .int (iI (i : Int)))] [] (wof g hh) := by
    intro k
    induction k with
    | zero => intro i; intros; omega
    | succ k ih =>
      intro i  hi1 hi2 hno
      refine z_iload_n hR dX2_islandAt_2 rfl rfl ?_
      refine z_aload_n hR dX2_islandAt_3 rfl rfl ?_
      refine g_get hR dX2_islandAt_4 zf_2_30 (wW_0 ha _) (gi hn) ?_
      refine g_icmp_ge hR (tgt := 28) dX2_islandAt_7 (by decide) (fun c7 => ?_) (fun c7 => ?_)
      · refine g_iconst hR dX2_islandAt_28 ?_
        refine g_iret hR dX2_islandAt_29 rfl ?_
        exact hQ _ (Or.inr ⟨fun j hj => hno j (by omega), rfl⟩)
      · have hp := hpl i (by omega)
        refine z_aload_n hR dX2_islandAt_10 rfl rfl ?_
        refine g_get hR dX2_islandAt_11 zf_2_21 (wW_0 ha _) rfl ?_
        refine z_iload_n hR dX2_islandAt_14 rfl rfl ?_
        refine g_ialdN hR dX2_islandAt_15 (wW_4 ha _) rfl ?_
        refine z_iload_n hR dX2_islandAt_16 rfl rfl ?_
        refine g_icmp_ne hR (tgt := 22) dX2_islandAt_17 (by decide) (fun c17 => ?_) (fun c17 => ?_)
        · refine g_iinc hR dX2_islandAt_22 rfl rfl (by decide) rfl ?_
          refine z_goto hR (tgt := 2) dX2_islandAt_25 (by decide) ?_
          refine ih (i + 1) (by omega) (by omega) (fun j hj => ?_)
          rcases Nat.lt_or_eq_of_le (Nat.le_of_lt_succ hj) with h | h
          · exact hno j h
          · rw [h]; exact c17
        · refine z_iload_n hR dX2_islandAt_20 rfl rfl ?_
          refine g_iret hR dX2_islandAt_21 rfl ?_
          exact hQ _ (Or.inl ⟨i, by omega, c17, rfl⟩)
  refine g_iconst hR dX2_islandAt_0 ?_
  refine z_istore_n hR dX2_islandAt_1 rfl (by decide) rfl ?_
  exact loop (n + 1) 0 (by omega) (by omega) (fun j hj => absurd hj (by omega))
end
section
/-- what a drift needs of a Waters at a -/
def WD (g : Nat → Nat → Int) (a n an : Nat) : Prop := g a 6 = (n : Int) ∧ n ≤ 5 ∧ (∀ j, j < 12 → -1 ≤ g (a + 1) j ∧ g (a + 1) j ≤ 1) ∧ (∀ j, j < n → 0 ≤ g (a + 2) j ∧ g (a + 2) j ≤ 4) ∧ (∀ j, j < n → 1 ≤ g (a + 3) j ∧ g (a + 3) j ≤ 9) ∧ plok n (g (a + 4)) ∧ g a 8 = (an : Int) ∧ an < 32 ∧ (-1 ≤ g a 9 ∧ g a 9 ≤ 1) ∧ (0 ≤ g a 10 ∧ g a 10 < 2147483648)
theorem c_J6_compare {zs : zzT} {d : Nat} {Q : zzQ} {w : zzW} {x : Int} (hx : rg x) (hQ : Q [.int (iI (sg x))] w) : zzCL zs (d + 1) 37 [.int (iI x), .int (iI 0)] w Q := by
  refine st_J6_compare_7cf53 (Nat.le_of_ble_eq_true rfl) (fun R hR => ?_)
  show R 0 [(0, .int (iI x)), (1, .int (iI 0))] [] _
  refine z_iload_n hR dJ6_compare_7cf53_0 rfl rfl ?_
  refine z_iload_n hR dJ6_compare_7cf53_1 rfl rfl ?_
  refine g_icmp_ge hR (tgt := 9) dJ6_compare_7cf53_2 (by decide) (fun c2 => ?_) (fun c2 => ?_)
  · refine z_iload_n hR dJ6_compare_7cf53_9 rfl rfl ?_
    refine z_iload_n hR dJ6_compare_7cf53_10 rfl rfl ?_
    refine g_icmp_ne hR (tgt := 18) dJ6_compare_7cf53_11 (by decide) (fun c11 => ?_) (fun c11 => ?_)
    · refine g_iconst hR dJ6_compare_7cf53_18 ?_
      refine g_iret hR dJ6_compare_7cf53_19 rfl ?_
      refine qi hQ ?_
      unfold sg
      repeat' split
      all_goals omega
    · refine g_iconst hR dJ6_compare_7cf53_14 ?_
      refine z_goto hR (tgt := 19) dJ6_compare_7cf53_15 (by decide) ?_
      refine g_iret hR dJ6_compare_7cf53_19 rfl ?_
      refine qi hQ ?_
      unfold sg
      repeat' split
      all_goals omega
  · refine g_iconst hR dJ6_compare_7cf53_5 ?_
    refine z_goto hR (tgt := 19) dJ6_compare_7cf53_6 (by decide) ?_
    refine g_iret hR dJ6_compare_7cf53_19 rfl ?_
    refine qi hQ ?_
    unfold sg
    repeat' split
    all_goals omega
theorem c_X2_isAnchored {zs : zzT} {d : Nat} {Q : zzQ} {g : Nat → Nat → Int} {hh : Int64} {a : Nat} (ha : isW a) {an i : Nat} (han : g a 8 = (an : Int)) (han2 : an < 32) (hi : i < 5) (hQ : Q [.int (iI (b2i (an.testBit i)))] (wof g hh)) : zzCL zs (d + 1) 18 [.ref a, .int (iI (i : Int))] (wof g hh) Q := by
  refine st_X2_isAnchored (Nat.le_of_ble_eq_true rfl) (fun R hR => ?_)
  show R 0 [(0, .ref a), (1, .int (iI (i : Int)))] [] _
  refine z_aload_n hR dX2_isAnchored_0 rfl rfl ?_
  refine g_get hR dX2_isAnchored_1 zf_2_37 (wW_0 ha _) (gi han) ?_
  refine z_iload_n hR dX2_isAnchored_4 rfl rfl ?_
  refine g_ishrN hR dX2_isAnchored_5 rfl ?_
  refine g_iconst hR dX2_isAnchored_6 ?_
  refine g_iand1 hR dX2_isAnchored_7 (tb_int _ _) ?_
  refine g_iconst hR dX2_isAnchored_8 ?_
  refine g_icmp_neb hR (tgt := 16) dX2_isAnchored_9 (by decide) (fun c9 => ?_) (fun c9 => ?_)
  · refine g_iconst hR dX2_isAnchored_16 ?_
    refine g_zret (b := false) hR dX2_isAnchored_17 rfl ?_
    exact qz hQ (by simp [*])
  · refine g_iconst hR dX2_isAnchored_12 ?_
    refine z_goto hR (tgt := 17) dX2_isAnchored_13 (by decide) ?_
    refine g_zret (b := true) hR dX2_isAnchored_17 rfl ?_
    exact qz hQ (by simp [*])
theorem c_X2_leads {zs : zzT} {d : Nat} {Q : zzQ} {g : Nat → Nat → Int} {hh : Int64} {a : Nat} (ha : isW a) {pt : Nat → Nat} {i : Nat} (hi : i < 5) (hpt : g (a + 6) i = ((pt i : Nat) : Int)) (hQ : Q [.int (iI (b2i (lead pt i)))] (wof g hh)) : zzCL zs (d + 1) 34 [.ref a, .int (iI (i : Int))] (wof g hh) Q := by
  refine st_X2_leads (Nat.le_of_ble_eq_true rfl) (fun R hR => ?_)
  show R 0 [(0, .ref a), (1, .int (iI (i : Int)))] [] _
  refine z_aload_n hR dX2_leads_0 rfl rfl ?_
  refine g_get hR dX2_leads_1 zf_2_27 (wW_0 ha _) rfl ?_
  refine z_iload_n hR dX2_leads_4 rfl rfl ?_
  refine g_ialdN hR dX2_leads_5 (wW_6 ha _) hpt ?_
  refine g_iconst hR dX2_leads_6 ?_
  refine z_iload_n hR dX2_leads_7 rfl rfl ?_
  refine g_ishl hR dX2_leads_8 (p2n _) (p2b (by omega)) ?_
  refine g_iconst hR dX2_leads_9 ?_
  refine g_isub hR dX2_leads_10 (show ((2 ^ i : Nat) : Int) - 1 = ((2 ^ i - 1 : Nat) : Int) by have := Nat.two_pow_pos i; omega) ?_
  refine g_iand hR dX2_leads_11 ?_
  rw [Nat.and_two_pow_sub_one_eq_mod]
  refine g_if_ne hR (tgt := 19) dX2_leads_12 (by decide) (fun c12 => ?_) (fun c12 => ?_) (hx := by have := Nat.mod_lt (pt i) (Nat.two_pow_pos i); have := p2b (show i < 31 by omega); unfold rg; omega)
  · refine g_iconst hR dX2_leads_19 ?_
    refine g_zret (b := false) hR dX2_leads_20 rfl ?_
    refine qz hQ ?_
    unfold lead
    simp only [decide_eq_true_eq, decide_eq_false_iff_not, eq_comm (a := true), eq_comm (a := false)]
    omega
  · refine g_iconst hR dX2_leads_15 ?_
    refine z_goto hR (tgt := 20) dX2_leads_16 (by decide) ?_
    refine g_zret (b := true) hR dX2_leads_20 rfl ?_
    refine qz hQ ?_
    unfold lead
    simp only [decide_eq_true_eq, decide_eq_false_iff_not, eq_comm (a := true), eq_comm (a := false)]
    omega
theorem c_X2_pushOf {zs : zzT} {d : Nat} {Q : zzQ} {g : Nat → Nat → Int} {hh : Int64} {a : Nat} (ha : isW a) {n an : Nat} (hw : WD g a n an) (hz : zsok zs) {i : Nat} (hi : i < n) (hQ : Q [.int (iI (psh (g (a + 2)) (g (a + 1)) an (g a 9) (g a 10) (g (a + 4)) i))] (wof g hh)) : zzCL zs (d + 1) 17 [.ref a, .int (iI (i : Int))] (wof g hh) Q := by
  refine st_X2_pushOf (Nat.le_of_ble_eq_true rfl) (fun R hR => ?_)
  show R 0 [(0, .ref a), (1, .int (iI (i : Int)))] [] _
  obtain ⟨hn, hn5, hcu, hkd, hsz, hpl, han, han2, hwi, hda⟩ := hw
  have hki := hkd i hi
  have hpi := hpl i hi
  have hci := hcu (g (a + 4) i).toNat (by omega)
  refine z_aload_n hR dX2_pushOf_0 rfl rfl ?_
  refine g_get hR dX2_pushOf_1 zf_2_37 (wW_0 ha _) (gi han) ?_
  refine z_iload_n hR dX2_pushOf_4 rfl rfl ?_
  refine g_ishrN hR dX2_pushOf_5 rfl ?_
  refine g_iconst hR dX2_pushOf_6 ?_
  refine g_iand1 hR dX2_pushOf_7 (tb_int _ _) ?_
  refine g_iconst hR dX2_pushOf_8 ?_
  refine g_icmp_neb hR (tgt := 14) dX2_pushOf_9 (by decide) (fun c9 => ?_) (fun c9 => ?_)
  · refine z_aload_n hR dX2_pushOf_14 rfl rfl ?_
    refine g_get hR dX2_pushOf_15 zf_2_15 (wW_0 ha _) rfl ?_
    refine z_iload_n hR dX2_pushOf_18 rfl rfl ?_
    refine g_ialdN hR dX2_pushOf_19 (wW_2 ha _) rfl ?_
    refine z_istore_n hR dX2_pushOf_20 rfl (by decide) rfl ?_
    refine z_aload_n hR dX2_pushOf_21 rfl rfl ?_
    refine g_get hR dX2_pushOf_22 zf_2_9 (wW_0 ha _) rfl ?_
    refine z_aload_n hR dX2_pushOf_25 rfl rfl ?_
    refine g_get hR dX2_pushOf_26 zf_2_21 (wW_0 ha _) rfl ?_
    refine z_iload_n hR dX2_pushOf_29 rfl rfl ?_
    refine g_ialdN hR dX2_pushOf_30 (wW_4 ha _) rfl ?_
    refine g_iald hR dX2_pushOf_31 (wW_1 ha _) rfl ?_
    refine z_istore_n hR dX2_pushOf_32 rfl (by decide) rfl ?_
    refine z_iload_n hR dX2_pushOf_33 rfl rfl ?_
    refine g_iconst hR dX2_pushOf_34 ?_
    refine g_icmp_ne hR (tgt := 50) dX2_pushOf_35 (by decide) (fun c35 => ?_) (fun c35 => ?_)
    · refine z_gets hR dX2_pushOf_50 rfl ?_
      refine z_iload_n hR dX2_pushOf_53 rfl rfl ?_
      refine g_tald hR dX2_pushOf_54 hz.1 rfl ?_
      refine z_iload_n hR dX2_pushOf_55 rfl rfl ?_
      refine g_imul hR dX2_pushOf_56 rfl ?_
      refine z_gets hR dX2_pushOf_57 rfl ?_
      refine z_iload_n hR dX2_pushOf_60 rfl rfl ?_
      refine g_tald hR dX2_pushOf_61 hz.2 rfl ?_
      refine z_aload_n hR dX2_pushOf_62 rfl rfl ?_
      refine g_get hR dX2_pushOf_63 zf_2_40 (wW_0 ha _) rfl ?_
      refine g_imul hR dX2_pushOf_66 rfl ?_
      refine g_iadd hR dX2_pushOf_67 rfl ?_
      refine g_iret hR dX2_pushOf_68 rfl ?_
      refine qi hQ ?_
      unfold psh
      have hk : g (a + 2) i = 0 ∨ g (a + 2) i = 1 ∨ g (a + 2) i = 2 ∨ g (a + 2) i = 3 ∨ g (a + 2) i = 4 := by omega
      rcases hk with hk | hk | hk | hk | hk <;> simp_all [csh, wsh]
      all_goals omega
    · refine z_aload_n hR dX2_pushOf_38 rfl rfl ?_
      refine g_get hR dX2_pushOf_39 zf_2_43 (wW_0 ha _) rfl ?_
      refine g_iconst hR dX2_pushOf_42 ?_
      refine g_irem hR dX2_pushOf_43 rfl ?_
      refine g_if_ne hR (tgt := 50) dX2_pushOf_44 (by decide) (fun c44 => ?_) (fun c44 => ?_)
      · refine z_gets hR dX2_pushOf_50 rfl ?_
        refine z_iload_n hR dX2_pushOf_53 rfl rfl ?_
        refine g_tald hR dX2_pushOf_54 hz.1 rfl ?_
        refine z_iload_n hR dX2_pushOf_55 rfl rfl ?_
        refine g_imul hR dX2_pushOf_56 rfl ?_
        refine z_gets hR dX2_pushOf_57 rfl ?_
        refine z_iload_n hR dX2_pushOf_60 rfl rfl ?_
        refine g_tald hR dX2_pushOf_61 hz.2 rfl ?_
        refine z_aload_n hR dX2_pushOf_62 rfl rfl ?_
        refine g_get hR dX2_pushOf_63 zf_2_40 (wW_0 ha _) rfl ?_
        refine g_imul hR dX2_pushOf_66 rfl ?_
        refine g_iadd hR dX2_pushOf_67 rfl ?_
        refine g_iret hR dX2_pushOf_68 rfl ?_
        refine qi hQ ?_
        unfold psh
        have hk : g (a + 2) i = 0 ∨ g (a + 2) i = 1 ∨ g (a + 2) i = 2 ∨ g (a + 2) i = 3 ∨ g (a + 2) i = 4 := by omega
        rcases hk with hk | hk | hk | hk | hk <;> simp_all [csh, wsh]
        all_goals omega
      · refine z_iload_n hR dX2_pushOf_47 rfl rfl ?_
        refine g_ineg hR dX2_pushOf_48 rfl ?_
        refine z_istore_n hR dX2_pushOf_49 rfl (by decide) rfl ?_
        refine z_gets hR dX2_pushOf_50 rfl ?_
        refine z_iload_n hR dX2_pushOf_53 rfl rfl ?_
        refine g_tald hR dX2_pushOf_54 hz.1 rfl ?_
        refine z_iload_n hR dX2_pushOf_55 rfl rfl ?_
        refine g_imul hR dX2_pushOf_56 rfl ?_
        refine z_gets hR dX2_pushOf_57 rfl ?_
        refine z_iload_n hR dX2_pushOf_60 rfl rfl ?_
        refine g_tald hR dX2_pushOf_61 hz.2 rfl ?_
        refine z_aload_n hR dX2_pushOf_62 rfl rfl ?_
        refine g_get hR dX2_pushOf_63 zf_2_40 (wW_0 ha _) rfl ?_
        refine g_imul hR dX2_pushOf_66 rfl ?_
        refine g_iadd hR dX2_pushOf_67 rfl ?_
        refine g_iret hR dX2_pushOf_68 rfl ?_
        refine qi hQ ?_
        unfold psh
        have hk : g (a + 2) i = 0 ∨ g (a + 2) i = 1 ∨ g (a + 2) i = 2 ∨ g (a + 2) i = 3 ∨ g (a + 2) i = 4 := by omega
        rcases hk with hk | hk | hk | hk | hk <;> simp_all [csh, wsh]
        all_goals omega
  · refine g_iconst hR dX2_pushOf_12 ?_
    refine g_iret hR dX2_pushOf_13 rfl ?_
    exact qi hQ (by unfold psh; rw [if_pos c9])
theorem c_X2_stepOf {zs : zzT} {d : Nat} {Q : zzQ} {g : Nat → Nat → Int} {hh : Int64} {a : Nat} (ha : isW a) {n an : Nat} (hw : WD g a n an) (hz : zsok zs) {pt : Nat} (hpt : pt < 32) (hQ : Q [.int (iI (way n (g (a + 2)) (g (a + 3)) (g (a + 1)) an (g a 9) (g a 10) pt (g (a + 4))))] (wof g hh)) : zzCL zs (d + 2) 36 [.ref a, .int (iI (pt : Int))] (wof g hh) Q := by
  refine st_X2_stepOf (Nat.le_of_ble_eq_true rfl) (fun R hR => ?_)
  show R 0 [(0, .ref a), (1, .int (iI (pt : Int)))] [] _
  have hw0 := hw
  obtain ⟨hn, hn5, hcu, hkd, hsz, hpl, han, han2, hwi, hda⟩ := hw
  have hsr : ∀ i, i ≤ n → -(27 * (i : Int)) ≤ smu (wpu (g (a + 2)) (g (a + 3)) (g (a + 1)) an (g a 9) (g a 10) pt (g (a + 4))) i ∧ smu (wpu (g (a + 2)) (g (a + 3)) (g (a + 1)) an (g a 9) (g a 10) pt (g (a + 4))) i ≤ 27 * (i : Int) := fun i hi => smu_rg i (fun j hj => wpu_rg hcu hwi (hpl j (by omega)) (hsz j (by omega)))
  have loop : ∀ (k i : Nat) (sm : Int), i ≤ n → n < i + k → (sm = smu (wpu (g (a + 2)) (g (a + 3)) (g (a + 1)) an (g a 9) (g a 10) pt (g (a + 4))) i) → R 4 [(0, .ref a), (1, .int (iI (pt : Int))), (2, .int (iI sm)), (3, .int (iI (i : Int)))] [] (wof g hh) := by
    intro k
    induction k with
    | zero => intro i; intros; omega
    | succ k ih =>
      intro i sm hi1 hi2 hsm
      refine z_iload_n hR dX2_stepOf_4 rfl rfl ?_
      refine z_aload_n hR dX2_stepOf_5 rfl rfl ?_
      refine g_get hR dX2_stepOf_6 zf_2_30 (wW_0 ha _) (gi hn) ?_
      refine g_icmp_ge hR (tgt := 42) dX2_stepOf_9 (by decide) (fun c9 => ?_) (fun c9 => ?_)
      · refine z_iload_n hR dX2_stepOf_42 rfl rfl ?_
        refine g_iconst hR dX2_stepOf_43 ?_
        refine g_sta2 hR dX2_stepOf_44 zm_2_108 zN_J6_compare_7cf53 (Nat.le_of_ble_eq_true rfl) ?_
        have hb := hsr i (by omega)
        refine c_J6_compare (by unfold rg; omega) ?_
        show R 47 _ (.int _ :: _) _
        refine g_iret hR dX2_stepOf_47 rfl ?_
        have e : i = n := by omega
        subst e
        rw [hsm]
        exact hQ
      · have hin : i < n := by omega
        refine z_iload_n hR dX2_stepOf_12 rfl rfl ?_
        refine z_iload_n hR dX2_stepOf_13 rfl rfl ?_
        refine g_ishrN hR dX2_stepOf_14 rfl ?_
        refine g_iconst hR dX2_stepOf_15 ?_
        refine g_iand1 hR dX2_stepOf_16 (tb_int _ _) ?_
        refine g_iconst hR dX2_stepOf_17 ?_
        refine g_icmp_neb hR (tgt := 36) dX2_stepOf_18 (by decide) (fun c18 => ?_) (fun c18 => ?_)
        · refine g_iinc hR dX2_stepOf_36 rfl rfl (by decide) rfl ?_
          refine z_goto hR (tgt := 4) dX2_stepOf_39 (by decide) ?_
          refine ih (i + 1) _ (by omega) (by omega) ?_
          simp [smu, wpu, c18, hsm]
        · refine z_iload_n hR dX2_stepOf_21 rfl rfl ?_
          refine z_aload_n hR dX2_stepOf_22 rfl rfl ?_
          refine z_iload_n hR dX2_stepOf_23 rfl rfl ?_
          refine g_inv1 hR dX2_stepOf_24 zm_2_105 (by decide) zN_X2_pushOf ((wW_0 ha _) _) zO_X2_pushOf (Nat.le_of_ble_eq_true rfl) ?_
          refine c_X2_pushOf ha hw0 hz hin ?_
          show R 27 _ (.int _ :: _) _
          refine z_aload_n hR dX2_stepOf_27 rfl rfl ?_
          refine g_get hR dX2_stepOf_28 zf_2_18 (wW_0 ha _) rfl ?_
          refine z_iload_n hR dX2_stepOf_31 rfl rfl ?_
          refine g_ialdN hR dX2_stepOf_32 (wW_3 ha _) rfl ?_
          refine g_imul hR dX2_stepOf_33 rfl ?_
          refine g_iadd hR dX2_stepOf_34 rfl ?_
          refine z_istore_n hR dX2_stepOf_35 rfl (by decide) rfl ?_
          refine g_iinc hR dX2_stepOf_36 rfl rfl (by decide) rfl ?_
          refine z_goto hR (tgt := 4) dX2_stepOf_39 (by decide) ?_
          refine ih (i + 1) _ (by omega) (by omega) ?_
          simp [smu, wpu, c18, hsm]
  refine g_iconst hR dX2_stepOf_0 ?_
  refine z_istore_n hR dX2_stepOf_1 rfl (by decide) rfl ?_
  refine g_iconst hR dX2_stepOf_2 ?_
  refine z_istore_n hR dX2_stepOf_3 rfl (by decide) rfl ?_
  exact loop (n + 1) 0 0 (by omega) (by omega) rfl
end
section
theorem brd_bits {n : Nat} {pl : FI} {pt : Nat} {s : Int} (hp : plok n pl) : (bor (fun j => ((pl j + s) % 12).toNat) (fun j => pt.testBit j) n &&& bor (fun j => (pl j).toNat) (fun j => !pt.testBit j) n) ≠ 0 ↔ brd n pl pt s = true := by
  rw [brd_iff]
  constructor
  · intro h
    have : ∃ t, (bor (fun j => ((pl j + s) % 12).toNat) (fun j => pt.testBit j) n &&& bor (fun j => (pl j).toNat) (fun j => !pt.testBit j) n).testBit t = true := by
      rcases Classical.em (∃ t, (bor (fun j => ((pl j + s) % 12).toNat) (fun j => pt.testBit j) n &&& bor (fun j => (pl j).toNat) (fun j => !pt.testBit j) n).testBit t = true) with q | q
      · exact q
      · exfalso
        apply h
        apply Nat.eq_of_testBit_eq
        intro t
        rw [Nat.zero_testBit]
        cases e : (bor (fun j => ((pl j + s) % 12).toNat) (fun j => pt.testBit j) n &&& bor (fun j => (pl j).toNat) (fun j => !pt.testBit j) n).testBit t with
        | false => rfl
        | true => exact absurd ⟨t, e⟩ q
    obtain ⟨t, ht⟩ := this
    rw [Nat.testBit_and, Bool.and_eq_true, bor_bit, bor_bit] at ht
    obtain ⟨⟨i, hi, ci, ei⟩, ⟨k, hk, ck, ek⟩⟩ := ht
    have := hp k hk
    refine ⟨i, k, hi, hk, ci, by simpa using ck, ?_⟩
    omega
  · rintro ⟨i, k, hi, hk, ci, ck, e⟩ h
    have h1 : (bor (fun j => ((pl j + s) % 12).toNat) (fun j => pt.testBit j) n).testBit ((pl i + s) % 12).toNat = true := bor_bit.mpr ⟨i, hi, ci, rfl⟩
    have h2 : (bor (fun j => (pl j).toNat) (fun j => !pt.testBit j) n).testBit ((pl i + s) % 12).toNat = true := bor_bit.mpr ⟨k, hk, by simp [ck], by rw [e]⟩
    have h3 : (bor (fun j => ((pl j + s) % 12).toNat) (fun j => pt.testBit j) n &&& bor (fun j => (pl j).toNat) (fun j => !pt.testBit j) n).testBit ((pl i + s) % 12).toNat = true := by rw [Nat.testBit_and, h1, h2]; rfl
    rw [h] at h3
    simp at h3
/-- the first i of a party have moved -/
def mvi (pl : FI) (pt : Nat) (s : Int) (i : Nat) : FI := fun j => if j < i ∧ pt.testBit j = true then (pl j + s) % 12 else pl j
theorem mvi_0 (pl : FI) (pt : Nat) (s : Int) : mvi pl pt s 0 = pl := by funext j; simp [mvi]
theorem mvi_t {pl : FI} {pt : Nat} {s : Int} {i : Nat} (h : pt.testBit i = true) : iu (mvi pl pt s i) i ((pl i + s) % 12) = mvi pl pt s (i + 1) := by
  funext j
  simp only [iu, mvi]
  by_cases e : j = i
  · subst e
    simp [h]
  · simp only [if_neg e]
    by_cases h2 : j < i
    · have : j < i + 1 := by omega
      simp [h2, this]
    · have : ¬ j < i + 1 := by omega
      simp [h2, this]
theorem mvi_f {pl : FI} {pt : Nat} {s : Int} {i : Nat} (h : pt.testBit i = false) : mvi pl pt s i = mvi pl pt s (i + 1) := by
  funext j
  simp only [mvi]
  by_cases e : j = i
  · subst e
    simp [h]
  · by_cases h2 : j < i
    · have : j < i + 1 := by omega
      simp [h2, this]
    · have : ¬ j < i + 1 := by omega
      simp [h2, this]
theorem bit_lt {pt n j : Nat} (h : pt < 2 ^ n) (hb : pt.testBit j = true) : j < n := by
  rcases Nat.lt_or_ge j n with q | q
  · exact q
  · have := Nat.testBit_lt_two_pow (Nat.lt_of_lt_of_le h (Nat.pow_le_pow_right (by decide) q))
    rw [this] at hb
    cases hb
theorem mvi_n {n : Nat} {pl : FI} {pt : Nat} {s : Int} (hpt : pt < 2 ^ n) (h0 : s ≠ 0) (hb : brd n pl pt s = false) : mvi pl pt s n = mvp n pl pt s := by
  funext j
  unfold mvp
  rw [if_neg (by rw [hb]; simp [h0])]
  unfold mvi
  by_cases q : pt.testBit j = true
  · simp [q, bit_lt hpt q]
  · simp [q]
theorem WD_pl {g : Nat → Nat → Int} {a n an : Nat} {q : FI} (h : WD g a n an) (hq : plok n q) : WD (gr g (a + 4) q) a n an := by
  obtain ⟨hn, hn5, hcu, hkd, hsz, hpl, han, han2, hwi, hda⟩ := h
  have e0 : gr g (a + 4) q a = g a := gr_n _ _ (by omega)
  have e1 : gr g (a + 4) q (a + 1) = g (a + 1) := gr_n _ _ (by omega)
  have e2 : gr g (a + 4) q (a + 2) = g (a + 2) := gr_n _ _ (by omega)
  have e3 : gr g (a + 4) q (a + 3) = g (a + 3) := gr_n _ _ (by omega)
  unfold WD
  rw [e0, e1, e2, e3, gr_s]
  exact ⟨hn, hn5, hcu, hkd, hsz, hq, han, han2, hwi, hda⟩
theorem c_X2_isBarred {zs : zzT} {d : Nat} {Q : zzQ} {g : Nat → Nat → Int} {hh : Int64} {a : Nat} (ha : isW a) {n an : Nat} (hw : WD g a n an) {pt : Nat} (hpt : pt < 32) {s : Int} (hs : -1 ≤ s ∧ s ≤ 1) (hQ : Q [.int (iI (b2i (brd n (g (a + 4)) pt s)))] (wof g hh)) : zzCL zs (d + 2) 38 [.ref a, .int (iI (pt : Int)), .int (iI s)] (wof g hh) Q := by
  refine st_X2_isBarred (Nat.le_of_ble_eq_true rfl) (fun R hR => ?_)
  show R 0 [(0, .ref a), (1, .int (iI (pt : Int))), (2, .int (iI s))] [] _
  obtain ⟨hn, hn5, hcu, hkd, hsz, hpl, han, han2, hwi, hda⟩ := hw
  have loop : ∀ (k i : Nat) (wt tk : Nat), i ≤ n → n < i + k → (wt = bor (fun j => ((g (a + 4) j + s) % 12).toNat) (fun j => pt.testBit j) i) → (tk = bor (fun j => (g (a + 4) j).toNat) (fun j => !pt.testBit j) i) → R 8 [(0, .ref a), (1, .int (iI (pt : Int))), (2, .int (iI s)), (3, .int (iI ((wt : Nat) : Int))), (4, .int (iI ((tk : Nat) : Int))), (5, .int (iI (i : Int)))] [] (wof g hh) := by
    intro k
    induction k with
    | zero => intro i; intros; omega
    | succ k ih =>
      intro i wt tk hi1 hi2 hwt htk
      refine z_iload hR dX2_isBarred_8 rfl ?_
      refine z_aload_n hR dX2_isBarred_10 rfl rfl ?_
      refine g_get hR dX2_isBarred_11 zf_2_30 (wW_0 ha _) (gi hn) ?_
      refine g_icmp_ge hR (tgt := 66) dX2_isBarred_14 (by decide) (fun c14 => ?_) (fun c14 => ?_)
      · have e : i = n := by omega
        subst e
        have b1 : wt < 2 ^ 12 := by rw [hwt]; exact bor_lt (fun j hj => by have := hpl j hj; omega)
        have b2 : wt &&& tk ≤ wt := Nat.and_le_left
        have b3 := brd_bits (pt := pt) (s := s) hpl
        rw [← hwt, ← htk] at b3
        refine z_iload_n hR dX2_isBarred_66 rfl rfl ?_
        refine z_iload hR dX2_isBarred_67 rfl ?_
        refine g_iand hR dX2_isBarred_69 ?_
        refine g_if_eq hR (tgt := 77) dX2_isBarred_70 (by decide) (fun c70 => ?_) (fun c70 => ?_) (hx := by unfold rg; omega)
        · refine g_iconst hR dX2_isBarred_77 ?_
          refine g_zret (b := false) hR dX2_isBarred_78 rfl ?_
          refine qz hQ ?_
          rw [eq_comm]
          first | exact b3.mp (by omega) | (cases e : brd i (g (a + 4)) pt s with
      | false => rfl
      | true => exact absurd (b3.mpr e) (by omega))
        · refine g_iconst hR dX2_isBarred_73 ?_
          refine z_goto hR (tgt := 78) dX2_isBarred_74 (by decide) ?_
          refine g_zret (b := true) hR dX2_isBarred_78 rfl ?_
          refine qz hQ ?_
          rw [eq_comm]
          first | exact b3.mp (by omega) | (cases e : brd i (g (a + 4)) pt s with
      | false => rfl
      | true => exact absurd (b3.mpr e) (by omega))
      · have hin : i < n := by omega
        have hpi := hpl i hin
        refine z_iload_n hR dX2_isBarred_17 rfl rfl ?_
        refine z_iload hR dX2_isBarred_18 rfl ?_
        refine g_ishrN hR dX2_isBarred_20 rfl ?_
        refine g_iconst hR dX2_isBarred_21 ?_
        refine g_iand1 hR dX2_isBarred_22 (tb_int _ _) ?_
        refine g_iconst hR dX2_isBarred_23 ?_
        refine g_icmp_neb hR (tgt := 46) dX2_isBarred_24 (by decide) (fun c24 => ?_) (fun c24 => ?_)
        · refine z_iload hR dX2_isBarred_46 rfl ?_
          refine g_iconst hR dX2_isBarred_48 ?_
          refine z_aload_n hR dX2_isBarred_49 rfl rfl ?_
          refine g_get hR dX2_isBarred_50 zf_2_21 (wW_0 ha _) rfl ?_
          refine z_iload hR dX2_isBarred_53 rfl ?_
          refine g_ialdN hR dX2_isBarred_55 (wW_4 ha _) rfl ?_
          refine g_ishl hR dX2_isBarred_56 (p2z _) (p2b (by omega)) ?_
          refine g_ior hR dX2_isBarred_57 ?_
          refine z_istore hR dX2_isBarred_58 (by decide) rfl ?_
          refine g_iinc hR dX2_isBarred_60 rfl rfl (by decide) rfl ?_
          refine z_goto hR (tgt := 8) dX2_isBarred_63 (by decide) ?_
          refine ih (i + 1) _ _ (by omega) (by omega) ?_ ?_
          · simp [bor, c24, hwt]
          · simp [bor, c24, htk]
        · refine z_iload_n hR dX2_isBarred_27 rfl rfl ?_
          refine g_iconst hR dX2_isBarred_28 ?_
          refine z_aload_n hR dX2_isBarred_29 rfl rfl ?_
          refine g_get hR dX2_isBarred_30 zf_2_21 (wW_0 ha _) rfl ?_
          refine z_iload hR dX2_isBarred_33 rfl ?_
          refine g_ialdN hR dX2_isBarred_35 (wW_4 ha _) rfl ?_
          refine z_iload_n hR dX2_isBarred_36 rfl rfl ?_
          refine g_sta2 hR dX2_isBarred_37 zm_2_61 zN_X2_stepped (Nat.le_of_ble_eq_true rfl) ?_
          refine c_X2_stepped hpi hs ?_
          show R 40 _ (.int _ :: _) _
          refine g_ishl hR dX2_isBarred_40 (p2z _) (p2b (by omega)) ?_
          refine g_ior hR dX2_isBarred_41 ?_
          refine z_istore_n hR dX2_isBarred_42 rfl (by decide) rfl ?_
          refine z_goto hR (tgt := 60) dX2_isBarred_43 (by decide) ?_
          refine g_iinc hR dX2_isBarred_60 rfl rfl (by decide) rfl ?_
          refine z_goto hR (tgt := 8) dX2_isBarred_63 (by decide) ?_
          refine ih (i + 1) _ _ (by omega) (by omega) ?_ ?_
          · simp [bor, c24, hwt]
          · simp [bor, c24, htk]
  refine g_iconst hR dX2_isBarred_0 ?_
  refine z_istore_n hR dX2_isBarred_1 rfl (by decide) rfl ?_
  refine g_iconst hR dX2_isBarred_2 ?_
  refine z_istore hR dX2_isBarred_3 (by decide) rfl ?_
  refine g_iconst hR dX2_isBarred_5 ?_
  refine z_istore hR dX2_isBarred_6 (by decide) rfl ?_
  exact loop (n + 1) 0 0 0 (by omega) (by omega) rfl rfl
theorem c_X2_moves {zs : zzT} {d : Nat} {Q : zzQ} {g : Nat → Nat → Int} {hh : Int64} {a : Nat} (ha : isW a) {n an : Nat} (hw : WD g a n an) (hz : zsok zs) {pt : Nat} (hpt2 : pt < 2 ^ n) (hQ : Q [.int (iI (b2i (decide (bmp n (g (a + 4)) pt (way n (g (a + 2)) (g (a + 3)) (g (a + 1)) an (g a 9) (g a 10) pt (g (a + 4))) = 0))))] (wof (gr g (a + 4) (mvp n (g (a + 4)) pt (way n (g (a + 2)) (g (a + 3)) (g (a + 1)) an (g a 9) (g a 10) pt (g (a + 4))))) hh)) : zzCL zs (d + 3) 35 [.ref a, .int (iI (pt : Int))] (wof g hh) Q := by
  refine st_X2_moves (Nat.le_of_ble_eq_true rfl) (fun R hR => ?_)
  show R 0 [(0, .ref a), (1, .int (iI (pt : Int)))] [] _
  have hw0 := hw
  obtain ⟨hn, hn5, hcu, hkd, hsz, hpl, han, han2, hwi, hda⟩ := hw
  have hpt : pt < 32 := Nat.lt_of_lt_of_le hpt2 (Nat.pow_le_pow_right (n := 2) (by decide) hn5)
  refine z_aload_n hR dX2_moves_0 rfl rfl ?_
  refine z_iload_n hR dX2_moves_1 rfl rfl ?_
  refine g_inv1 hR dX2_moves_2 zm_2_99 (by decide) zN_X2_stepOf ((wW_0 ha _) _) zO_X2_stepOf (Nat.le_of_ble_eq_true rfl) ?_
  refine c_X2_stepOf ha hw0 hz hpt ?_
  show R 5 _ (.int _ :: _) _
  generalize hse : way n (g (a + 2)) (g (a + 3)) (g (a + 1)) an (g a 9) (g a 10) pt (g (a + 4)) = s at hQ ⊢
  have hs : -1 ≤ s ∧ s ≤ 1 := by rw [← hse]; exact sg_rg _
  refine z_istore_n hR dX2_moves_5 rfl (by decide) rfl ?_
  refine z_iload_n hR dX2_moves_6 rfl rfl ?_
  refine g_if_ne hR (tgt := 12) dX2_moves_7 (by decide) (fun c7 => ?_) (fun c7 => ?_)
  · refine z_aload_n hR dX2_moves_12 rfl rfl ?_
    refine z_iload_n hR dX2_moves_13 rfl rfl ?_
    refine z_iload_n hR dX2_moves_14 rfl rfl ?_
    refine g_inv2 hR dX2_moves_15 zm_2_102 (by decide) zN_X2_isBarred ((wW_0 ha _) _) zO_X2_isBarred (Nat.le_of_ble_eq_true rfl) ?_
    refine c_X2_isBarred ha hw0 hpt hs ?_
    show R 18 _ (.int _ :: _) _
    refine g_if_eqb hR (tgt := 23) dX2_moves_18 (by decide) (fun c18 => ?_) (fun c18 => ?_)
    · refine g_iconst hR dX2_moves_23 ?_
      refine z_istore_n hR dX2_moves_24 rfl (by decide) rfl ?_
      have hb : brd n (g (a + 4)) pt s = false := c18
      have h0 : s ≠ 0 := c7
      have loop : ∀ (k i : Nat) (row : FI), i ≤ n → n < i + k → (row = mvi (g (a + 4)) pt s i) → R 25 [(0, .ref a), (1, .int (iI (pt : Int))), (2, .int (iI s)), (3, .int (iI (i : Int)))] [] (wof (gr g (a + 4) row) hh) := by
        intro k
        induction k with
        | zero => intro i; intros; omega
        | succ k ih =>
          intro i row hi1 hi2 hrow
          refine z_iload_n hR dX2_moves_25 rfl rfl ?_
          refine z_aload_n hR dX2_moves_26 rfl rfl ?_
          refine g_get hR dX2_moves_27 zf_2_30 (wW_0 ha _) (gi (show gr g (a + 4) row a 6 = (n : Int) by rw [gr_n _ _ (show a ≠ a + 4 by omega)]; exact hn)) ?_
          refine g_icmp_ge hR (tgt := 64) dX2_moves_30 (by decide) (fun c30 => ?_) (fun c30 => ?_)
          · refine g_iconst hR dX2_moves_64 ?_
            refine g_zret (b := true) hR dX2_moves_65 rfl ?_
            have e : i = n := by omega
            subst e
            rw [hrow, mvi_n hpt2 h0 hb]
            refine qz hQ ?_
            simp [bmp, hb]
          · have hin : i < n := by omega
            have hpi := hpl i hin
            have hri : gr g (a + 4) row (a + 4) i = g (a + 4) i := by rw [gr_s, hrow]; simp [mvi]
            refine z_iload_n hR dX2_moves_33 rfl rfl ?_
            refine z_iload_n hR dX2_moves_34 rfl rfl ?_
            refine g_ishrN hR dX2_moves_35 rfl ?_
            refine g_iconst hR dX2_moves_36 ?_
            refine g_iand1 hR dX2_moves_37 (tb_int _ _) ?_
            refine g_iconst hR dX2_moves_38 ?_
            refine g_icmp_neb hR (tgt := 58) dX2_moves_39 (by decide) (fun c39 => ?_) (fun c39 => ?_)
            · refine g_iinc hR dX2_moves_58 rfl rfl (by decide) rfl ?_
              refine z_goto hR (tgt := 25) dX2_moves_61 (by decide) ?_
              first | exact ih (i + 1) row (by omega) (by omega) (by rw [hrow]; exact mvi_f c39) | (rw [gr_s, gr_gr]; exact ih (i + 1) _ (by omega) (by omega) (by rw [hrow]; exact mvi_t c39))
            · refine z_aload_n hR dX2_moves_42 rfl rfl ?_
              refine g_get hR dX2_moves_43 zf_2_21 (wW_0 ha _) rfl ?_
              refine z_iload_n hR dX2_moves_46 rfl rfl ?_
              refine z_aload_n hR dX2_moves_47 rfl rfl ?_
              refine g_get hR dX2_moves_48 zf_2_21 (wW_0 ha _) rfl ?_
              refine z_iload_n hR dX2_moves_51 rfl rfl ?_
              refine g_ialdN hR dX2_moves_52 (wW_4 ha _) hri ?_
              refine z_iload_n hR dX2_moves_53 rfl rfl ?_
              refine g_sta2 hR dX2_moves_54 zm_2_61 zN_X2_stepped (Nat.le_of_ble_eq_true rfl) ?_
              refine c_X2_stepped hpi hs ?_
              show R 57 _ (.int _ :: _) _
              refine g_iastN hR dX2_moves_57 (wW_4 ha _) ?_
              refine g_iinc hR dX2_moves_58 rfl rfl (by decide) rfl ?_
              refine z_goto hR (tgt := 25) dX2_moves_61 (by decide) ?_
              first | exact ih (i + 1) row (by omega) (by omega) (by rw [hrow]; exact mvi_f c39) | (rw [gr_s, gr_gr]; exact ih (i + 1) _ (by omega) (by omega) (by rw [hrow]; exact mvi_t c39))
      have hl := loop (n + 1) 0 (g (a + 4)) (by omega) (by omega) (mvi_0 _ _ _).symm
      rw [gr_self] at hl
      exact hl
    · refine g_iconst hR dX2_moves_21 ?_
      refine g_zret (b := false) hR dX2_moves_22 rfl ?_
      refine qw (qz hQ ?_) (wofg ?_)
      · simp [bmp, c7, c18]
      · rw [show mvp n (g (a + 4)) pt s = g (a + 4) by simp [mvp, c18], gr_self]
  · refine g_iconst hR dX2_moves_10 ?_
    refine g_zret (b := true) hR dX2_moves_11 rfl ?_
    refine qw (qz hQ ?_) (wofg ?_)
    · simp [bmp, c7]
    · rw [show mvp n (g (a + 4)) pt s = g (a + 4) by simp [mvp, c7], gr_self]
theorem drf_t {n : Nat} {kd sz cur : FI} {pt : Nat → Nat} {an : Nat} {wi da : Int} {i : Nat} {pl : FI} (h : lead pt i = true) : drf n kd sz cur pt an wi da (i + 1) pl = (mvp n (drf n kd sz cur pt an wi da i pl).1 (pt i) (way n kd sz cur an wi da (pt i) (drf n kd sz cur pt an wi da i pl).1), (drf n kd sz cur pt an wi da i pl).2 + bmp n (drf n kd sz cur pt an wi da i pl).1 (pt i) (way n kd sz cur an wi da (pt i) (drf n kd sz cur pt an wi da i pl).1)) := by
  rw [drf, if_pos h]
theorem drf_f {n : Nat} {kd sz cur : FI} {pt : Nat → Nat} {an : Nat} {wi da : Int} {i : Nat} {pl : FI} (h : lead pt i = false) : drf n kd sz cur pt an wi da (i + 1) pl = drf n kd sz cur pt an wi da i pl := by
  rw [drf, if_neg (by rw [h]; decide)]
theorem bmp_01 {n : Nat} {pl : FI} {pt : Nat} {s : Int} (h : ¬ bmp n pl pt s = 0) : bmp n pl pt s = 1 := by
  unfold bmp at h ⊢
  split
  · rfl
  · next q => rw [if_neg q] at h; exact absurd rfl h
theorem c_X2_drift {zs : zzT} {d : Nat} {Q : zzQ} {g : Nat → Nat → Int} {hh : Int64} {a : Nat} (ha : isW a) {n an : Nat} (hw : WD g a n an) (hz : zsok zs) {pt : Nat → Nat} (hpt : ∀ j, j < n → g (a + 6) j = ((pt j : Nat) : Int) ∧ pt j < 2 ^ n) (hQ : Q [.int (iI (drf n (g (a + 2)) (g (a + 3)) (g (a + 1)) pt an (g a 9) (g a 10) n (g (a + 4))).2)] (wof (gr (gr g (a + 4) (drf n (g (a + 2)) (g (a + 3)) (g (a + 1)) pt an (g a 9) (g a 10) n (g (a + 4))).1) a (iu (iu (g a) 11 (g a 11 + (drf n (g (a + 2)) (g (a + 3)) (g (a + 1)) pt an (g a 9) (g a 10) n (g (a + 4))).2)) 10 (g a 10 + 1))) hh)) : zzCL zs (d + 4) 33 [.ref a] (wof g hh) Q := by
  refine st_X2_drift (Nat.le_of_ble_eq_true rfl) (fun R hR => ?_)
  show R 0 [(0, .ref a)] [] _
  have hw0 := hw
  obtain ⟨hn, hn5, hcu, hkd, hsz, hpl, han, han2, hwi, hda⟩ := hw
  have loop : ∀ (k i : Nat) (q : FI) (b : Int), i ≤ n → n < i + k → (plok n q) → ((q, b) = drf n (g (a + 2)) (g (a + 3)) (g (a + 1)) pt an (g a 9) (g a 10) i (g (a + 4))) → R 4 [(0, .ref a), (1, .int (iI b)), (2, .int (iI (i : Int)))] [] (wof (gr g (a + 4) q) hh) := by
    intro k
    induction k with
    | zero => intro i; intros; omega
    | succ k ih =>
      intro i q b hi1 hi2 hq hqb
      refine z_iload_n hR dX2_drift_4 rfl rfl ?_
      refine z_aload_n hR dX2_drift_5 rfl rfl ?_
      refine g_get hR dX2_drift_6 zf_2_30 (wW_0 ha _) (gi (show gr g (a + 4) q a 6 = (n : Int) by rw [gr_n _ _ (show a ≠ a + 4 by omega)]; exact hn)) ?_
      refine g_icmp_ge hR (tgt := 42) dX2_drift_9 (by decide) (fun c9 => ?_) (fun c9 => ?_)
      · have e : i = n := by omega
        subst e
        refine z_aload_n hR dX2_drift_42 rfl rfl ?_
        refine z_dup hR dX2_drift_43 rfl ?_
        refine g_get hR dX2_drift_44 zf_2_46 (wW_0 ha _) rfl ?_
        refine z_iload_n hR dX2_drift_47 rfl rfl ?_
        refine g_iadd hR dX2_drift_48 rfl ?_
        refine g_put hR dX2_drift_49 zf_2_46 (wW_0 ha _) (Nat.le_of_ble_eq_true rfl) rfl rfl rfl rfl ?_
        refine z_aload_n hR dX2_drift_52 rfl rfl ?_
        refine z_dup hR dX2_drift_53 rfl ?_
        refine g_get hR dX2_drift_54 zf_2_43 (wW_0 ha _) rfl ?_
        refine g_iconst hR dX2_drift_57 ?_
        refine g_iadd hR dX2_drift_58 rfl ?_
        refine g_put hR dX2_drift_59 zf_2_43 (wW_0 ha _) (Nat.le_of_ble_eq_true rfl) rfl rfl rfl rfl ?_
        refine z_iload_n hR dX2_drift_62 rfl rfl ?_
        refine g_iret hR dX2_drift_63 rfl ?_
        simp only [gr_n _ _ (show a ≠ a + 4 by omega), gr_s, gr_gr] at hQ ⊢
        rw [← hqb] at hQ
        exact hQ
      · have hin : i < n := by omega
        refine z_aload_n hR dX2_drift_12 rfl rfl ?_
        refine z_iload_n hR dX2_drift_13 rfl rfl ?_
        refine g_inv1 hR dX2_drift_14 zm_2_84 (by decide) zN_X2_leads ((wW_0 ha _) _) zO_X2_leads (Nat.le_of_ble_eq_true rfl) ?_
        refine c_X2_leads ha (pt := pt) (by omega) (by rw [gr_n _ _ (show a + 6 ≠ a + 4 by omega)]; exact (hpt i hin).1) ?_
        show R 17 _ (.int _ :: _) _
        refine g_if_eqb hR (tgt := 36) dX2_drift_17 (by decide) (fun c17 => ?_) (fun c17 => ?_)
        · refine g_iinc hR dX2_drift_36 rfl rfl (by decide) rfl ?_
          refine z_goto hR (tgt := 4) dX2_drift_39 (by decide) ?_
          first | exact ih (i + 1) q b (by omega) (by omega) hq (by rw [drf_f c17]; exact hqb) | (refine ih (i + 1) _ _ (by omega) (by omega) (mvp_ok hq) ?_; rw [drf_t c17, ← hqb]; simp [c30])
        · refine z_aload_n hR dX2_drift_20 rfl rfl ?_
          refine z_aload_n hR dX2_drift_21 rfl rfl ?_
          refine g_get hR dX2_drift_22 zf_2_27 (wW_0 ha _) rfl ?_
          refine z_iload_n hR dX2_drift_25 rfl rfl ?_
          refine g_ialdN hR dX2_drift_26 (wW_6 ha _) (show gr g (a + 4) q (a + 6) i = ((pt i : Nat) : Int) by rw [gr_n _ _ (show a + 6 ≠ a + 4 by omega)]; exact (hpt i hin).1) ?_
          refine g_inv1 hR dX2_drift_27 zm_2_96 (by decide) zN_X2_moves ((wW_0 ha _) _) zO_X2_moves (Nat.le_of_ble_eq_true rfl) ?_
          refine c_X2_moves ha (WD_pl hw0 hq) hz (hpt i hin).2 ?_
          simp only [gr_n _ q (show a ≠ a + 4 by omega), gr_n _ q (show a + 1 ≠ a + 4 by omega), gr_n _ q (show a + 2 ≠ a + 4 by omega), gr_n _ q (show a + 3 ≠ a + 4 by omega), gr_s, gr_gr]
          show R 30 _ (.int _ :: _) _
          refine g_if_neb hR (tgt := 36) dX2_drift_30 (by decide) (fun c30 => ?_) (fun c30 => ?_)
          · have c30 := of_decide_eq_true c30
            refine g_iinc hR dX2_drift_36 rfl rfl (by decide) rfl ?_
            refine z_goto hR (tgt := 4) dX2_drift_39 (by decide) ?_
            first | exact ih (i + 1) q b (by omega) (by omega) hq (by rw [drf_f c17]; exact hqb) | (refine ih (i + 1) _ _ (by omega) (by omega) (mvp_ok hq) ?_; rw [drf_t c17, ← hqb]; simp [c30])
          · have c30 := bmp_01 (of_decide_eq_false c30)
            refine g_iinc hR dX2_drift_33 rfl rfl (by decide) rfl ?_
            refine g_iinc hR dX2_drift_36 rfl rfl (by decide) rfl ?_
            refine z_goto hR (tgt := 4) dX2_drift_39 (by decide) ?_
            first | exact ih (i + 1) q b (by omega) (by omega) hq (by rw [drf_f c17]; exact hqb) | (refine ih (i + 1) _ _ (by omega) (by omega) (mvp_ok hq) ?_; rw [drf_t c17, ← hqb]; simp [c30])
  refine g_iconst hR dX2_drift_0 ?_
  refine z_istore_n hR dX2_drift_1 rfl (by decide) rfl ?_
  refine g_iconst hR dX2_drift_2 ?_
  refine z_istore_n hR dX2_drift_3 rfl (by decide) rfl ?_
  have hl := loop (n + 1) 0 (g (a + 4)) 0 (by omega) (by omega) hpl rfl
  rw [gr_self] at hl
  exact hl
end
