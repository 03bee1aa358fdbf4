section
-- ===== PART A: goes FIRST, ahead of the names: the tables' words, and 'selects' of the private methods out of them =====
/-- a private method of a class that the tables say can be made, by its rows of tables_1 -/
def lw_okq (q : MethodName × Nat) : Prop := (q.1.cls ≠ "java/lang/invoke/MethodHandle" ∧ q.1.cls ≠ "java/lang/invoke/VarHandle") ∧ Cond.instantiable q.1.cls q.2 ∈ tables_1 ∧ Cond.privateMethod q.1 ∈ tables_1 ∧ Cond.instanceMethod q.1 ∈ tables_1
theorem lw_p0 : lw_okq (⟨"BishopsPeace$Roads", "settle", "()V"⟩, 8) := ⟨⟨by decide +kernel, by decide +kernel⟩, List.mem_of_getElem? (i := 23) (by decide +kernel), List.mem_of_getElem? (i := 271) (by decide +kernel), List.mem_of_getElem? (i := 272) (by decide +kernel)⟩
theorem lw_p1 : lw_okq (⟨"BishopsPeace$Roads", "firstFault", "()I"⟩, 8) := ⟨⟨by decide +kernel, by decide +kernel⟩, List.mem_of_getElem? (i := 23) (by decide +kernel), List.mem_of_getElem? (i := 275) (by decide +kernel), List.mem_of_getElem? (i := 276) (by decide +kernel)⟩
theorem lw_p2 : lw_okq (⟨"BishopsPeace$Roads", "goesOn", "(I)Z"⟩, 8) := ⟨⟨by decide +kernel, by decide +kernel⟩, List.mem_of_getElem? (i := 23) (by decide +kernel), List.mem_of_getElem? (i := 279) (by decide +kernel), List.mem_of_getElem? (i := 280) (by decide +kernel)⟩
theorem lw_p3 : lw_okq (⟨"BishopsPeace$Roads", "measure", "()V"⟩, 8) := ⟨⟨by decide +kernel, by decide +kernel⟩, List.mem_of_getElem? (i := 23) (by decide +kernel), List.mem_of_getElem? (i := 283) (by decide +kernel), List.mem_of_getElem? (i := 284) (by decide +kernel)⟩
theorem lw_p4 : lw_okq (⟨"BishopsPeace$Roads", "shortenWay", "(III)V"⟩, 8) := ⟨⟨by decide +kernel, by decide +kernel⟩, List.mem_of_getElem? (i := 23) (by decide +kernel), List.mem_of_getElem? (i := 287) (by decide +kernel), List.mem_of_getElem? (i := 288) (by decide +kernel)⟩
theorem lw_p5 : lw_okq (⟨"BishopsPeace", "found", "(I)I"⟩, 9) := ⟨⟨by decide +kernel, by decide +kernel⟩, List.mem_of_getElem? (i := 15) (by decide +kernel), List.mem_of_getElem? (i := 358) (by decide +kernel), List.mem_of_getElem? (i := 359) (by decide +kernel)⟩
theorem lw_p6 : lw_okq (⟨"BishopsPeace$Peace", "gatherFeasts", "()V"⟩, 6) := ⟨⟨by decide +kernel, by decide +kernel⟩, List.mem_of_getElem? (i := 75) (by decide +kernel), List.mem_of_getElem? (i := 371) (by decide +kernel), List.mem_of_getElem? (i := 372) (by decide +kernel)⟩
theorem lw_p7 : lw_okq (⟨"BishopsPeace$Peace", "isOpenDay", "(II)Z"⟩, 6) := ⟨⟨by decide +kernel, by decide +kernel⟩, List.mem_of_getElem? (i := 75) (by decide +kernel), List.mem_of_getElem? (i := 398) (by decide +kernel), List.mem_of_getElem? (i := 399) (by decide +kernel)⟩
theorem lw_p8 : lw_okq (⟨"BishopsPeace$Peace", "bellOf", "(II)I"⟩, 6) := ⟨⟨by decide +kernel, by decide +kernel⟩, List.mem_of_getElem? (i := 75) (by decide +kernel), List.mem_of_getElem? (i := 402) (by decide +kernel), List.mem_of_getElem? (i := 403) (by decide +kernel)⟩
theorem lw_p9 : lw_okq (⟨"BishopsPeace$March", "goBetween", "(III)V"⟩, 5) := ⟨⟨by decide +kernel, by decide +kernel⟩, List.mem_of_getElem? (i := 102) (by decide +kernel), List.mem_of_getElem? (i := 477) (by decide +kernel), List.mem_of_getElem? (i := 478) (by decide +kernel)⟩
theorem lw_p10 : lw_okq (⟨"BishopsPeace$March", "need", "(II)V"⟩, 5) := ⟨⟨by decide +kernel, by decide +kernel⟩, List.mem_of_getElem? (i := 102) (by decide +kernel), List.mem_of_getElem? (i := 482) (by decide +kernel), List.mem_of_getElem? (i := 483) (by decide +kernel)⟩
theorem lw_p11 : lw_okq (⟨"BishopsPeace$March", "isAllowed", "(I)Z"⟩, 5) := ⟨⟨by decide +kernel, by decide +kernel⟩, List.mem_of_getElem? (i := 102) (by decide +kernel), List.mem_of_getElem? (i := 486) (by decide +kernel), List.mem_of_getElem? (i := 487) (by decide +kernel)⟩
theorem lw_p12 : lw_okq (⟨"BishopsPeace$Homeward", "walk", "(III)V"⟩, 10) := ⟨⟨by decide +kernel, by decide +kernel⟩, List.mem_of_getElem? (i := 146) (by decide +kernel), List.mem_of_getElem? (i := 526) (by decide +kernel), List.mem_of_getElem? (i := 527) (by decide +kernel)⟩
theorem lw_p13 : lw_okq (⟨"BishopsPeace$Homeward", "arrive", "(III)V"⟩, 10) := ⟨⟨by decide +kernel, by decide +kernel⟩, List.mem_of_getElem? (i := 146) (by decide +kernel), List.mem_of_getElem? (i := 530) (by decide +kernel), List.mem_of_getElem? (i := 531) (by decide +kernel)⟩
theorem lw_p14 : lw_okq (⟨"BishopsPeace$Homeward", "isBetter", "(II)Z"⟩, 10) := ⟨⟨by decide +kernel, by decide +kernel⟩, List.mem_of_getElem? (i := 146) (by decide +kernel), List.mem_of_getElem? (i := 534) (by decide +kernel), List.mem_of_getElem? (i := 535) (by decide +kernel)⟩
theorem lw_p15 : lw_okq (⟨"BishopsPeace$Homeward", "freeOf", "(I)I"⟩, 10) := ⟨⟨by decide +kernel, by decide +kernel⟩, List.mem_of_getElem? (i := 146) (by decide +kernel), List.mem_of_getElem? (i := 543) (by decide +kernel), List.mem_of_getElem? (i := 544) (by decide +kernel)⟩
def lw_privs_1 : List (MethodName × Nat) := [(⟨"BishopsPeace$Roads", "settle", "()V"⟩, 8), (⟨"BishopsPeace$Roads", "firstFault", "()I"⟩, 8), (⟨"BishopsPeace$Roads", "goesOn", "(I)Z"⟩, 8), (⟨"BishopsPeace$Roads", "measure", "()V"⟩, 8), (⟨"BishopsPeace$Roads", "shortenWay", "(III)V"⟩, 8), (⟨"BishopsPeace", "found", "(I)I"⟩, 9), (⟨"BishopsPeace$Peace", "gatherFeasts", "()V"⟩, 6), (⟨"BishopsPeace$Peace", "isOpenDay", "(II)Z"⟩, 6), (⟨"BishopsPeace$Peace", "bellOf", "(II)I"⟩, 6), (⟨"BishopsPeace$March", "goBetween", "(III)V"⟩, 5), (⟨"BishopsPeace$March", "need", "(II)V"⟩, 5), (⟨"BishopsPeace$March", "isAllowed", "(I)Z"⟩, 5), (⟨"BishopsPeace$Homeward", "walk", "(III)V"⟩, 10), (⟨"BishopsPeace$Homeward", "arrive", "(III)V"⟩, 10), (⟨"BishopsPeace$Homeward", "isBetter", "(II)Z"⟩, 10), (⟨"BishopsPeace$Homeward", "freeOf", "(I)I"⟩, 10)]
theorem lw_r1 : ∀ q ∈ lw_privs_1, lw_okq q := List.forall_mem_cons.mpr ⟨lw_p0, List.forall_mem_cons.mpr ⟨lw_p1, List.forall_mem_cons.mpr ⟨lw_p2, List.forall_mem_cons.mpr ⟨lw_p3, List.forall_mem_cons.mpr ⟨lw_p4, List.forall_mem_cons.mpr ⟨lw_p5, List.forall_mem_cons.mpr ⟨lw_p6, List.forall_mem_cons.mpr ⟨lw_p7, List.forall_mem_cons.mpr ⟨lw_p8, List.forall_mem_cons.mpr ⟨lw_p9, List.forall_mem_cons.mpr ⟨lw_p10, List.forall_mem_cons.mpr ⟨lw_p11, List.forall_mem_cons.mpr ⟨lw_p12, List.forall_mem_cons.mpr ⟨lw_p13, List.forall_mem_cons.mpr ⟨lw_p14, List.forall_mem_cons.mpr ⟨lw_p15, fun _ h => absurd h List.not_mem_nil⟩⟩⟩⟩⟩⟩⟩⟩⟩⟩⟩⟩⟩⟩⟩⟩
theorem lw_p16 : lw_okq (⟨"BishopsPeace$Homeward", "commonBits", "()I"⟩, 10) := ⟨⟨by decide +kernel, by decide +kernel⟩, List.mem_of_getElem? (i := 146) (by decide +kernel), List.mem_of_getElem? (i := 552) (by decide +kernel), List.mem_of_getElem? (i := 553) (by decide +kernel)⟩
theorem lw_p17 : lw_okq (⟨"BishopsPeace$Bells", "rank", "(I)I"⟩, 1) := ⟨⟨by decide +kernel, by decide +kernel⟩, List.mem_of_getElem? (i := 64) (by decide +kernel), List.mem_of_getElem? (i := 577) (by decide +kernel), List.mem_of_getElem? (i := 578) (by decide +kernel)⟩
theorem lw_p18 : lw_okq (⟨"BishopsPeace", "wrongItem", "(III)I"⟩, 9) := ⟨⟨by decide +kernel, by decide +kernel⟩, List.mem_of_getElem? (i := 15) (by decide +kernel), List.mem_of_getElem? (i := 643) (by decide +kernel), List.mem_of_getElem? (i := 644) (by decide +kernel)⟩
theorem lw_p19 : lw_okq (⟨"BishopsPeace", "digestOfRoads", "(J)J"⟩, 9) := ⟨⟨by decide +kernel, by decide +kernel⟩, List.mem_of_getElem? (i := 15) (by decide +kernel), List.mem_of_getElem? (i := 689) (by decide +kernel), List.mem_of_getElem? (i := 690) (by decide +kernel)⟩
theorem lw_p20 : lw_okq (⟨"BishopsPeace", "digestOfLands", "(J)J"⟩, 9) := ⟨⟨by decide +kernel, by decide +kernel⟩, List.mem_of_getElem? (i := 15) (by decide +kernel), List.mem_of_getElem? (i := 694) (by decide +kernel), List.mem_of_getElem? (i := 695) (by decide +kernel)⟩
theorem lw_p21 : lw_okq (⟨"BishopsPeace", "digestOfJourneys", "(J)J"⟩, 9) := ⟨⟨by decide +kernel, by decide +kernel⟩, List.mem_of_getElem? (i := 15) (by decide +kernel), List.mem_of_getElem? (i := 704) (by decide +kernel), List.mem_of_getElem? (i := 705) (by decide +kernel)⟩
theorem lw_p22 : lw_okq (⟨"BishopsPeace", "digestOfKinds", "(J)J"⟩, 9) := ⟨⟨by decide +kernel, by decide +kernel⟩, List.mem_of_getElem? (i := 15) (by decide +kernel), List.mem_of_getElem? (i := 711) (by decide +kernel), List.mem_of_getElem? (i := 712) (by decide +kernel)⟩
theorem lw_p23 : lw_okq (⟨"BishopsPeace", "digestOfParishes", "(J)J"⟩, 9) := ⟨⟨by decide +kernel, by decide +kernel⟩, List.mem_of_getElem? (i := 15) (by decide +kernel), List.mem_of_getElem? (i := 716) (by decide +kernel), List.mem_of_getElem? (i := 717) (by decide +kernel)⟩
theorem lw_p24 : lw_okq (⟨"BishopsPeaceModel", "finds", "(I)I"⟩, 29) := ⟨⟨by decide +kernel, by decide +kernel⟩, List.mem_of_getElem? (i := 724) (by decide +kernel), List.mem_of_getElem? (i := 830) (by decide +kernel), List.mem_of_getElem? (i := 831) (by decide +kernel)⟩
theorem lw_p25 : lw_okq (⟨"BishopsPeaceModel", "lacks", "(III)I"⟩, 29) := ⟨⟨by decide +kernel, by decide +kernel⟩, List.mem_of_getElem? (i := 724) (by decide +kernel), List.mem_of_getElem? (i := 842) (by decide +kernel), List.mem_of_getElem? (i := 843) (by decide +kernel)⟩
theorem lw_p26 : lw_okq (⟨"BishopsPeaceModel", "reads", "()I"⟩, 29) := ⟨⟨by decide +kernel, by decide +kernel⟩, List.mem_of_getElem? (i := 724) (by decide +kernel), List.mem_of_getElem? (i := 875) (by decide +kernel), List.mem_of_getElem? (i := 876) (by decide +kernel)⟩
theorem lw_p27 : lw_okq (⟨"BishopsPeaceModel", "readsRoad", "()Z"⟩, 29) := ⟨⟨by decide +kernel, by decide +kernel⟩, List.mem_of_getElem? (i := 724) (by decide +kernel), List.mem_of_getElem? (i := 879) (by decide +kernel), List.mem_of_getElem? (i := 880) (by decide +kernel)⟩
theorem lw_p28 : lw_okq (⟨"BishopsPeaceModel", "tellsOf", "(II)I"⟩, 29) := ⟨⟨by decide +kernel, by decide +kernel⟩, List.mem_of_getElem? (i := 724) (by decide +kernel), List.mem_of_getElem? (i := 883) (by decide +kernel), List.mem_of_getElem? (i := 884) (by decide +kernel)⟩
theorem lw_p29 : lw_okq (⟨"BishopsPeaceModel", "isWar", "(II)Z"⟩, 29) := ⟨⟨by decide +kernel, by decide +kernel⟩, List.mem_of_getElem? (i := 724) (by decide +kernel), List.mem_of_getElem? (i := 945) (by decide +kernel), List.mem_of_getElem? (i := 946) (by decide +kernel)⟩
theorem lw_p30 : lw_okq (⟨"BishopsPeaceModel", "isWarBy", "(II)Z"⟩, 29) := ⟨⟨by decide +kernel, by decide +kernel⟩, List.mem_of_getElem? (i := 724) (by decide +kernel), List.mem_of_getElem? (i := 952) (by decide +kernel), List.mem_of_getElem? (i := 953) (by decide +kernel)⟩
theorem lw_p31 : lw_okq (⟨"BishopsPeaceModel", "isFeast", "(I)Z"⟩, 29) := ⟨⟨by decide +kernel, by decide +kernel⟩, List.mem_of_getElem? (i := 724) (by decide +kernel), List.mem_of_getElem? (i := 956) (by decide +kernel), List.mem_of_getElem? (i := 957) (by decide +kernel)⟩
def lw_privs_2 : List (MethodName × Nat) := [(⟨"BishopsPeace$Homeward", "commonBits", "()I"⟩, 10), (⟨"BishopsPeace$Bells", "rank", "(I)I"⟩, 1), (⟨"BishopsPeace", "wrongItem", "(III)I"⟩, 9), (⟨"BishopsPeace", "digestOfRoads", "(J)J"⟩, 9), (⟨"BishopsPeace", "digestOfLands", "(J)J"⟩, 9), (⟨"BishopsPeace", "digestOfJourneys", "(J)J"⟩, 9), (⟨"BishopsPeace", "digestOfKinds", "(J)J"⟩, 9), (⟨"BishopsPeace", "digestOfParishes", "(J)J"⟩, 9), (⟨"BishopsPeaceModel", "finds", "(I)I"⟩, 29), (⟨"BishopsPeaceModel", "lacks", "(III)I"⟩, 29), (⟨"BishopsPeaceModel", "reads", "()I"⟩, 29), (⟨"BishopsPeaceModel", "readsRoad", "()Z"⟩, 29), (⟨"BishopsPeaceModel", "tellsOf", "(II)I"⟩, 29), (⟨"BishopsPeaceModel", "isWar", "(II)Z"⟩, 29), (⟨"BishopsPeaceModel", "isWarBy", "(II)Z"⟩, 29), (⟨"BishopsPeaceModel", "isFeast", "(I)Z"⟩, 29)]
theorem lw_r2 : ∀ q ∈ lw_privs_2, lw_okq q := List.forall_mem_cons.mpr ⟨lw_p16, List.forall_mem_cons.mpr ⟨lw_p17, List.forall_mem_cons.mpr ⟨lw_p18, List.forall_mem_cons.mpr ⟨lw_p19, List.forall_mem_cons.mpr ⟨lw_p20, List.forall_mem_cons.mpr ⟨lw_p21, List.forall_mem_cons.mpr ⟨lw_p22, List.forall_mem_cons.mpr ⟨lw_p23, List.forall_mem_cons.mpr ⟨lw_p24, List.forall_mem_cons.mpr ⟨lw_p25, List.forall_mem_cons.mpr ⟨lw_p26, List.forall_mem_cons.mpr ⟨lw_p27, List.forall_mem_cons.mpr ⟨lw_p28, List.forall_mem_cons.mpr ⟨lw_p29, List.forall_mem_cons.mpr ⟨lw_p30, List.forall_mem_cons.mpr ⟨lw_p31, fun _ h => absurd h List.not_mem_nil⟩⟩⟩⟩⟩⟩⟩⟩⟩⟩⟩⟩⟩⟩⟩⟩
theorem lw_p32 : lw_okq (⟨"BishopsPeaceModel", "strikesNow", "(IIII)Z"⟩, 29) := ⟨⟨by decide +kernel, by decide +kernel⟩, List.mem_of_getElem? (i := 724) (by decide +kernel), List.mem_of_getElem? (i := 964) (by decide +kernel), List.mem_of_getElem? (i := 965) (by decide +kernel)⟩
theorem lw_p33 : lw_okq (⟨"BishopsPeaceModel", "nextOf", "(III)I"⟩, 29) := ⟨⟨by decide +kernel, by decide +kernel⟩, List.mem_of_getElem? (i := 724) (by decide +kernel), List.mem_of_getElem? (i := 972) (by decide +kernel), List.mem_of_getElem? (i := 973) (by decide +kernel)⟩
theorem lw_p34 : lw_okq (⟨"BishopsPeaceModel", "leftIn", "(II)I"⟩, 29) := ⟨⟨by decide +kernel, by decide +kernel⟩, List.mem_of_getElem? (i := 724) (by decide +kernel), List.mem_of_getElem? (i := 980) (by decide +kernel), List.mem_of_getElem? (i := 981) (by decide +kernel)⟩
theorem lw_p35 : lw_okq (⟨"BishopsPeaceModel", "bestOf", "(I)I"⟩, 29) := ⟨⟨by decide +kernel, by decide +kernel⟩, List.mem_of_getElem? (i := 724) (by decide +kernel), List.mem_of_getElem? (i := 988) (by decide +kernel), List.mem_of_getElem? (i := 989) (by decide +kernel)⟩
theorem lw_p36 : lw_okq (⟨"BishopsPeaceModel", "unlikeOf", "(II)I"⟩, 29) := ⟨⟨by decide +kernel, by decide +kernel⟩, List.mem_of_getElem? (i := 724) (by decide +kernel), List.mem_of_getElem? (i := 996) (by decide +kernel), List.mem_of_getElem? (i := 997) (by decide +kernel)⟩
theorem lw_p37 : lw_okq (⟨"BishopsPeaceModel", "wayOf", "(III)I"⟩, 29) := ⟨⟨by decide +kernel, by decide +kernel⟩, List.mem_of_getElem? (i := 724) (by decide +kernel), List.mem_of_getElem? (i := 1007) (by decide +kernel), List.mem_of_getElem? (i := 1008) (by decide +kernel)⟩
theorem lw_p38 : lw_okq (⟨"BishopsPeaceModel", "findFar", "(I)V"⟩, 29) := ⟨⟨by decide +kernel, by decide +kernel⟩, List.mem_of_getElem? (i := 724) (by decide +kernel), List.mem_of_getElem? (i := 1011) (by decide +kernel), List.mem_of_getElem? (i := 1012) (by decide +kernel)⟩
theorem lw_p39 : lw_okq (⟨"BishopsPeaceModel", "nextLand", "(I)I"⟩, 29) := ⟨⟨by decide +kernel, by decide +kernel⟩, List.mem_of_getElem? (i := 724) (by decide +kernel), List.mem_of_getElem? (i := 1015) (by decide +kernel), List.mem_of_getElem? (i := 1016) (by decide +kernel)⟩
theorem lw_p40 : lw_okq (⟨"BishopsPeaceModel", "hoursOf", "(II)I"⟩, 29) := ⟨⟨by decide +kernel, by decide +kernel⟩, List.mem_of_getElem? (i := 724) (by decide +kernel), List.mem_of_getElem? (i := 1019) (by decide +kernel), List.mem_of_getElem? (i := 1020) (by decide +kernel)⟩
theorem lw_p41 : lw_okq (⟨"BishopsPeaceModel", "raidOf", "(IIII)I"⟩, 29) := ⟨⟨by decide +kernel, by decide +kernel⟩, List.mem_of_getElem? (i := 724) (by decide +kernel), List.mem_of_getElem? (i := 1028) (by decide +kernel), List.mem_of_getElem? (i := 1029) (by decide +kernel)⟩
theorem lw_p42 : lw_okq (⟨"BishopsPeaceModel", "isRaid", "(IIII)Z"⟩, 29) := ⟨⟨by decide +kernel, by decide +kernel⟩, List.mem_of_getElem? (i := 724) (by decide +kernel), List.mem_of_getElem? (i := 1032) (by decide +kernel), List.mem_of_getElem? (i := 1033) (by decide +kernel)⟩
theorem lw_p43 : lw_okq (⟨"BishopsPeaceModel", "goes", "(IIIZ)I"⟩, 29) := ⟨⟨by decide +kernel, by decide +kernel⟩, List.mem_of_getElem? (i := 724) (by decide +kernel), List.mem_of_getElem? (i := 1036) (by decide +kernel), List.mem_of_getElem? (i := 1037) (by decide +kernel)⟩
theorem lw_p44 : lw_okq (⟨"BishopsPeaceModel", "siegeOf", "(IIII)I"⟩, 29) := ⟨⟨by decide +kernel, by decide +kernel⟩, List.mem_of_getElem? (i := 724) (by decide +kernel), List.mem_of_getElem? (i := 1050) (by decide +kernel), List.mem_of_getElem? (i := 1051) (by decide +kernel)⟩
theorem lw_p45 : lw_okq (⟨"BishopsPeaceModel", "falls", "(IIII)I"⟩, 29) := ⟨⟨by decide +kernel, by decide +kernel⟩, List.mem_of_getElem? (i := 724) (by decide +kernel), List.mem_of_getElem? (i := 1054) (by decide +kernel), List.mem_of_getElem? (i := 1055) (by decide +kernel)⟩
theorem lw_p46 : lw_okq (⟨"BishopsPeaceModel", "holdsBy", "(III)I"⟩, 29) := ⟨⟨by decide +kernel, by decide +kernel⟩, List.mem_of_getElem? (i := 724) (by decide +kernel), List.mem_of_getElem? (i := 1062) (by decide +kernel), List.mem_of_getElem? (i := 1063) (by decide +kernel)⟩
theorem lw_p47 : lw_okq (⟨"BishopsPeaceModel", "findHome", "(III)V"⟩, 29) := ⟨⟨by decide +kernel, by decide +kernel⟩, List.mem_of_getElem? (i := 724) (by decide +kernel), List.mem_of_getElem? (i := 1071) (by decide +kernel), List.mem_of_getElem? (i := 1072) (by decide +kernel)⟩
def lw_privs_3 : List (MethodName × Nat) := [(⟨"BishopsPeaceModel", "strikesNow", "(IIII)Z"⟩, 29), (⟨"BishopsPeaceModel", "nextOf", "(III)I"⟩, 29), (⟨"BishopsPeaceModel", "leftIn", "(II)I"⟩, 29), (⟨"BishopsPeaceModel", "bestOf", "(I)I"⟩, 29), (⟨"BishopsPeaceModel", "unlikeOf", "(II)I"⟩, 29), (⟨"BishopsPeaceModel", "wayOf", "(III)I"⟩, 29), (⟨"BishopsPeaceModel", "findFar", "(I)V"⟩, 29), (⟨"BishopsPeaceModel", "nextLand", "(I)I"⟩, 29), (⟨"BishopsPeaceModel", "hoursOf", "(II)I"⟩, 29), (⟨"BishopsPeaceModel", "raidOf", "(IIII)I"⟩, 29), (⟨"BishopsPeaceModel", "isRaid", "(IIII)Z"⟩, 29), (⟨"BishopsPeaceModel", "goes", "(IIIZ)I"⟩, 29), (⟨"BishopsPeaceModel", "siegeOf", "(IIII)I"⟩, 29), (⟨"BishopsPeaceModel", "falls", "(IIII)I"⟩, 29), (⟨"BishopsPeaceModel", "holdsBy", "(III)I"⟩, 29), (⟨"BishopsPeaceModel", "findHome", "(III)V"⟩, 29)]
theorem lw_r3 : ∀ q ∈ lw_privs_3, lw_okq q := List.forall_mem_cons.mpr ⟨lw_p32, List.forall_mem_cons.mpr ⟨lw_p33, List.forall_mem_cons.mpr ⟨lw_p34, List.forall_mem_cons.mpr ⟨lw_p35, List.forall_mem_cons.mpr ⟨lw_p36, List.forall_mem_cons.mpr ⟨lw_p37, List.forall_mem_cons.mpr ⟨lw_p38, List.forall_mem_cons.mpr ⟨lw_p39, List.forall_mem_cons.mpr ⟨lw_p40, List.forall_mem_cons.mpr ⟨lw_p41, List.forall_mem_cons.mpr ⟨lw_p42, List.forall_mem_cons.mpr ⟨lw_p43, List.forall_mem_cons.mpr ⟨lw_p44, List.forall_mem_cons.mpr ⟨lw_p45, List.forall_mem_cons.mpr ⟨lw_p46, List.forall_mem_cons.mpr ⟨lw_p47, fun _ h => absurd h List.not_mem_nil⟩⟩⟩⟩⟩⟩⟩⟩⟩⟩⟩⟩⟩⟩⟩⟩
theorem lw_p48 : lw_okq (⟨"BishopsPeaceModel", "otherEnd", "(II)I"⟩, 29) := ⟨⟨by decide +kernel, by decide +kernel⟩, List.mem_of_getElem? (i := 724) (by decide +kernel), List.mem_of_getElem? (i := 1076) (by decide +kernel), List.mem_of_getElem? (i := 1077) (by decide +kernel)⟩
theorem lw_p49 : lw_okq (⟨"BishopsPeaceModel", "wasAt", "(II)Z"⟩, 29) := ⟨⟨by decide +kernel, by decide +kernel⟩, List.mem_of_getElem? (i := 724) (by decide +kernel), List.mem_of_getElem? (i := 1080) (by decide +kernel), List.mem_of_getElem? (i := 1081) (by decide +kernel)⟩
theorem lw_p50 : lw_okq (⟨"BishopsPeaceModel", "comes", "(I)V"⟩, 29) := ⟨⟨by decide +kernel, by decide +kernel⟩, List.mem_of_getElem? (i := 724) (by decide +kernel), List.mem_of_getElem? (i := 1084) (by decide +kernel), List.mem_of_getElem? (i := 1085) (by decide +kernel)⟩
theorem lw_p51 : lw_okq (⟨"BishopsPeaceModel", "isLess", "(I)Z"⟩, 29) := ⟨⟨by decide +kernel, by decide +kernel⟩, List.mem_of_getElem? (i := 724) (by decide +kernel), List.mem_of_getElem? (i := 1088) (by decide +kernel), List.mem_of_getElem? (i := 1089) (by decide +kernel)⟩
theorem lw_p52 : lw_okq (⟨"BishopsPeaceModel", "tellsHome", "(I)I"⟩, 29) := ⟨⟨by decide +kernel, by decide +kernel⟩, List.mem_of_getElem? (i := 724) (by decide +kernel), List.mem_of_getElem? (i := 1092) (by decide +kernel), List.mem_of_getElem? (i := 1093) (by decide +kernel)⟩
theorem lw_p53 : lw_okq (⟨"BishopsPeaceModel", "agreeOf", "(I)I"⟩, 29) := ⟨⟨by decide +kernel, by decide +kernel⟩, List.mem_of_getElem? (i := 724) (by decide +kernel), List.mem_of_getElem? (i := 1103) (by decide +kernel), List.mem_of_getElem? (i := 1104) (by decide +kernel)⟩
theorem lw_p54 : lw_okq (⟨"BishopsPeaceModel", "pairOf", "(I)I"⟩, 29) := ⟨⟨by decide +kernel, by decide +kernel⟩, List.mem_of_getElem? (i := 724) (by decide +kernel), List.mem_of_getElem? (i := 1107) (by decide +kernel), List.mem_of_getElem? (i := 1108) (by decide +kernel)⟩
theorem lw_p55 : lw_okq (⟨"BishopsPeaceModel", "middleOf", "(I)I"⟩, 29) := ⟨⟨by decide +kernel, by decide +kernel⟩, List.mem_of_getElem? (i := 724) (by decide +kernel), List.mem_of_getElem? (i := 1115) (by decide +kernel), List.mem_of_getElem? (i := 1116) (by decide +kernel)⟩
theorem lw_p56 : lw_okq (⟨"BishopsPeaceModel", "middleBell", "(I)I"⟩, 29) := ⟨⟨by decide +kernel, by decide +kernel⟩, List.mem_of_getElem? (i := 724) (by decide +kernel), List.mem_of_getElem? (i := 1119) (by decide +kernel), List.mem_of_getElem? (i := 1120) (by decide +kernel)⟩
theorem lw_p57 : lw_okq (⟨"BishopsPeaceModel", "changesBy", "(II)I"⟩, 29) := ⟨⟨by decide +kernel, by decide +kernel⟩, List.mem_of_getElem? (i := 724) (by decide +kernel), List.mem_of_getElem? (i := 1123) (by decide +kernel), List.mem_of_getElem? (i := 1124) (by decide +kernel)⟩
theorem lw_p58 : lw_okq (⟨"BishopsPeaceModel", "whichNow", "()I"⟩, 29) := ⟨⟨by decide +kernel, by decide +kernel⟩, List.mem_of_getElem? (i := 724) (by decide +kernel), List.mem_of_getElem? (i := 1142) (by decide +kernel), List.mem_of_getElem? (i := 1143) (by decide +kernel)⟩
theorem lw_p59 : lw_okq (⟨"BishopsPeaceModel", "seasonOf", "(II)I"⟩, 29) := ⟨⟨by decide +kernel, by decide +kernel⟩, List.mem_of_getElem? (i := 724) (by decide +kernel), List.mem_of_getElem? (i := 1150) (by decide +kernel), List.mem_of_getElem? (i := 1151) (by decide +kernel)⟩
theorem lw_p60 : lw_okq (⟨"BishopsPeaceModel", "tellsLand", "(JI)J"⟩, 29) := ⟨⟨by decide +kernel, by decide +kernel⟩, List.mem_of_getElem? (i := 724) (by decide +kernel), List.mem_of_getElem? (i := 1170) (by decide +kernel), List.mem_of_getElem? (i := 1171) (by decide +kernel)⟩
theorem lw_p61 : lw_okq (⟨"BishopsPeaceModel", "tellsWays", "(JI)J"⟩, 29) := ⟨⟨by decide +kernel, by decide +kernel⟩, List.mem_of_getElem? (i := 724) (by decide +kernel), List.mem_of_getElem? (i := 1174) (by decide +kernel), List.mem_of_getElem? (i := 1175) (by decide +kernel)⟩
def lw_privs_4 : List (MethodName × Nat) := [(⟨"BishopsPeaceModel", "otherEnd", "(II)I"⟩, 29), (⟨"BishopsPeaceModel", "wasAt", "(II)Z"⟩, 29), (⟨"BishopsPeaceModel", "comes", "(I)V"⟩, 29), (⟨"BishopsPeaceModel", "isLess", "(I)Z"⟩, 29), (⟨"BishopsPeaceModel", "tellsHome", "(I)I"⟩, 29), (⟨"BishopsPeaceModel", "agreeOf", "(I)I"⟩, 29), (⟨"BishopsPeaceModel", "pairOf", "(I)I"⟩, 29), (⟨"BishopsPeaceModel", "middleOf", "(I)I"⟩, 29), (⟨"BishopsPeaceModel", "middleBell", "(I)I"⟩, 29), (⟨"BishopsPeaceModel", "changesBy", "(II)I"⟩, 29), (⟨"BishopsPeaceModel", "whichNow", "()I"⟩, 29), (⟨"BishopsPeaceModel", "seasonOf", "(II)I"⟩, 29), (⟨"BishopsPeaceModel", "tellsLand", "(JI)J"⟩, 29), (⟨"BishopsPeaceModel", "tellsWays", "(JI)J"⟩, 29)]
theorem lw_r4 : ∀ q ∈ lw_privs_4, lw_okq q := List.forall_mem_cons.mpr ⟨lw_p48, List.forall_mem_cons.mpr ⟨lw_p49, List.forall_mem_cons.mpr ⟨lw_p50, List.forall_mem_cons.mpr ⟨lw_p51, List.forall_mem_cons.mpr ⟨lw_p52, List.forall_mem_cons.mpr ⟨lw_p53, List.forall_mem_cons.mpr ⟨lw_p54, List.forall_mem_cons.mpr ⟨lw_p55, List.forall_mem_cons.mpr ⟨lw_p56, List.forall_mem_cons.mpr ⟨lw_p57, List.forall_mem_cons.mpr ⟨lw_p58, List.forall_mem_cons.mpr ⟨lw_p59, List.forall_mem_cons.mpr ⟨lw_p60, List.forall_mem_cons.mpr ⟨lw_p61, fun _ h => absurd h List.not_mem_nil⟩⟩⟩⟩⟩⟩⟩⟩⟩⟩⟩⟩⟩⟩
def lw_privs : List (MethodName × Nat) := lw_privs_1 ++ (lw_privs_2 ++ (lw_privs_3 ++ (lw_privs_4)))
def lw_tbl : List Cond := k2_sels lw_privs ++ tables_1
theorem lw_privs_ok : ∀ q ∈ lw_privs, lw_okq q := by
  show ∀ q ∈ lw_privs_1 ++ (lw_privs_2 ++ (lw_privs_3 ++ (lw_privs_4))), lw_okq q
  exact List.forall_mem_append.mpr ⟨lw_r1, List.forall_mem_append.mpr ⟨lw_r2, List.forall_mem_append.mpr ⟨lw_r3, lw_r4⟩⟩⟩
end
section
/-! names of classes, fields and methods, out of the printed names (a starting text), and a record of each method -/
def RX0 : String := "BishopsPeace$Bells"
def TX0 : u_T := fun k => match k with
  | _ => ("BishopsPeace$Bells", "rung", "[I", true)
def tyX0 : Nat → FieldType := fun k => match k with
  | _ => .array .int
theorem nmX0 : ∀ a, a < 1 → ∀ b, b < 1 → a ≠ b → (TX0 a).2.1 ≠ (TX0 b).2.1 := by decide +kernel
theorem tyX0_ok : ∀ k, k < 1 → parseFieldDescriptor (TX0 k).2.2.1 = some (tyX0 k) := by decide +kernel
abbrev cX0_init : ByteArray := prog_2_method_1_code
def yX0_init : MethodName := ⟨RX0, "<init>", "()V"⟩
abbrev cX0_at : ByteArray := prog_2_method_2_code
def yX0_at : MethodName := ⟨RX0, "at", "(II)I"⟩
abbrev cX0_put : ByteArray := prog_2_method_3_code
def yX0_put : MethodName := ⟨RX0, "put", "(II)I"⟩
abbrev cX0_hoursUnlike : ByteArray := prog_2_method_4_code
def yX0_hoursUnlike : MethodName := ⟨RX0, "hoursUnlike", "(II)I"⟩
abbrev cX0_likeOnes : ByteArray := prog_2_method_5_code
def yX0_likeOnes : MethodName := ⟨RX0, "likeOnes", "(I)I"⟩
abbrev cX0_commonest : ByteArray := prog_2_method_6_code
def yX0_commonest : MethodName := ⟨RX0, "commonest", "()I"⟩
abbrev cX0_rank : ByteArray := prog_2_method_7_code
def yX0_rank : MethodName := ⟨RX0, "rank", "(I)I"⟩
abbrev cX0_middleOf : ByteArray := prog_2_method_8_code
def yX0_middleOf : MethodName := ⟨RX0, "middleOf", "(I)I"⟩
abbrev cX0_change : ByteArray := prog_2_method_9_code
def yX0_change : MethodName := ⟨RX0, "change", "(II)I"⟩
def RX1 : String := "BishopsPeace$Castle"
def TX1 : u_T := fun k => match k with
  | 0 => ("BishopsPeace$Castle", "peace", "LBishopsPeace$Peace;", true)
  | 1 => ("BishopsPeace$Castle", "breaks", "I", false)
  | 2 => ("BishopsPeace$Castle", "mends", "I", false)
  | _ => ("BishopsPeace$Castle", "stonesLeft", "I", false)
def tyX1 : Nat → FieldType := fun k => match k with
  | 0 => .object "BishopsPeace$Peace"
  | 1 => .int
  | 2 => .int
  | _ => .int
theorem nmX1 : ∀ a, a < 4 → ∀ b, b < 4 → a ≠ b → (TX1 a).2.1 ≠ (TX1 b).2.1 := by decide +kernel
theorem tyX1_ok : ∀ k, k < 4 → parseFieldDescriptor (TX1 k).2.2.1 = some (tyX1 k) := by decide +kernel
abbrev cX1_init : ByteArray := prog_3_method_1_code
def yX1_init : MethodName := ⟨RX1, "<init>", "(LBishopsPeace$Peace;)V"⟩
abbrev cX1_batter : ByteArray := prog_3_method_2_code
def yX1_batter : MethodName := ⟨RX1, "batter", "(IIII)I"⟩
abbrev cX1_leastMends : ByteArray := prog_3_method_3_code
def yX1_leastMends : MethodName := ⟨RX1, "leastMends", "(III)I"⟩
def RX2 : String := "BishopsPeace$Homeward"
def TX2 : u_T := fun k => match k with
  | 0 => ("BishopsPeace$Homeward", "roads", "LBishopsPeace$Roads;", true)
  | 1 => ("BishopsPeace$Homeward", "peace", "LBishopsPeace$Peace;", true)
  | 2 => ("BishopsPeace$Homeward", "row", "[I", true)
  | 3 => ("BishopsPeace$Homeward", "bestRow", "[I", true)
  | 4 => ("BishopsPeace$Homeward", "goal", "I", false)
  | 5 => ("BishopsPeace$Homeward", "start", "I", false)
  | 6 => ("BishopsPeace$Homeward", "been", "I", false)
  | 7 => ("BishopsPeace$Homeward", "bestSteps", "I", false)
  | 8 => ("BishopsPeace$Homeward", "bestHours", "I", false)
  | _ => ("BishopsPeace$Homeward", "bestChance", "I", false)
def tyX2 : Nat → FieldType := fun k => match k with
  | 0 => .object "BishopsPeace$Roads"
  | 1 => .object "BishopsPeace$Peace"
  | 2 => .array .int
  | 3 => .array .int
  | 4 => .int
  | 5 => .int
  | 6 => .int
  | 7 => .int
  | 8 => .int
  | _ => .int
theorem nmX2 : ∀ a, a < 10 → ∀ b, b < 10 → a ≠ b → (TX2 a).2.1 ≠ (TX2 b).2.1 := by decide +kernel
theorem tyX2_ok : ∀ k, k < 10 → parseFieldDescriptor (TX2 k).2.2.1 = some (tyX2 k) := by decide +kernel
abbrev cX2_init : ByteArray := prog_4_method_1_code
def yX2_init : MethodName := ⟨RX2, "<init>", "(LBishopsPeace$Roads;LBishopsPeace$Peace;)V"⟩
abbrev cX2_seek : ByteArray := prog_4_method_2_code
def yX2_seek : MethodName := ⟨RX2, "seek", "(III)V"⟩
abbrev cX2_walk : ByteArray := prog_4_method_3_code
def yX2_walk : MethodName := ⟨RX2, "walk", "(III)V"⟩
abbrev cX2_freeOf : ByteArray := prog_4_method_4_code
def yX2_freeOf : MethodName := ⟨RX2, "freeOf", "(I)I"⟩
abbrev cX2_arrive : ByteArray := prog_4_method_5_code
def yX2_arrive : MethodName := ⟨RX2, "arrive", "(III)V"⟩
abbrev cX2_isBetter : ByteArray := prog_4_method_6_code
def yX2_isBetter : MethodName := ⟨RX2, "isBetter", "(II)Z"⟩
abbrev cX2_commonBits : ByteArray := prog_4_method_7_code
def yX2_commonBits : MethodName := ⟨RX2, "commonBits", "()I"⟩
abbrev cX2_above : ByteArray := prog_4_method_8_code
def yX2_above : MethodName := ⟨RX2, "above", "()I"⟩
abbrev cX2_below : ByteArray := prog_4_method_9_code
def yX2_below : MethodName := ⟨RX2, "below", "()I"⟩
abbrev cX2_landAt : ByteArray := prog_4_method_10_code
def yX2_landAt : MethodName := ⟨RX2, "landAt", "(I)I"⟩
def RX3 : String := "BishopsPeace$March"
def TX3 : u_T := fun k => match k with
  | 0 => ("BishopsPeace$March", "roads", "LBishopsPeace$Roads;", true)
  | 1 => ("BishopsPeace$March", "peace", "LBishopsPeace$Peace;", true)
  | 2 => ("BishopsPeace$March", "lands", "[I", true)
  | 3 => ("BishopsPeace$March", "behind", "[I", true)
  | _ => ("BishopsPeace$March", "needs", "I", false)
def tyX3 : Nat → FieldType := fun k => match k with
  | 0 => .object "BishopsPeace$Roads"
  | 1 => .object "BishopsPeace$Peace"
  | 2 => .array .int
  | 3 => .array .int
  | _ => .int
theorem nmX3 : ∀ a, a < 5 → ∀ b, b < 5 → a ≠ b → (TX3 a).2.1 ≠ (TX3 b).2.1 := by decide +kernel
theorem tyX3_ok : ∀ k, k < 5 → parseFieldDescriptor (TX3 k).2.2.1 = some (tyX3 k) := by decide +kernel
abbrev cX3_init : ByteArray := prog_5_method_1_code
def yX3_init : MethodName := ⟨RX3, "<init>", "(LBishopsPeace$Roads;LBishopsPeace$Peace;)V"⟩
abbrev cX3_firstStart : ByteArray := prog_5_method_2_code
def yX3_firstStart : MethodName := ⟨RX3, "firstStart", "(IIII)I"⟩
abbrev cX3_goBetween : ByteArray := prog_5_method_3_code
def yX3_goBetween : MethodName := ⟨RX3, "goBetween", "(III)V"⟩
abbrev cX3_need : ByteArray := prog_5_method_4_code
def yX3_need : MethodName := ⟨RX3, "need", "(II)V"⟩
abbrev cX3_isAllowed : ByteArray := prog_5_method_5_code
def yX3_isAllowed : MethodName := ⟨RX3, "isAllowed", "(I)Z"⟩
def RX4 : String := "BishopsPeace$Memory"
def TX4 : u_T := fun k => match k with
  | 0 => ("BishopsPeace$Memory", "peace", "LBishopsPeace$Peace;", true)
  | 1 => ("BishopsPeace$Memory", "hours", "[I", true)
  | 2 => ("BishopsPeace$Memory", "lands", "[I", true)
  | 3 => ("BishopsPeace$Memory", "wars", "[Z", true)
  | _ => ("BishopsPeace$Memory", "number", "I", false)
def tyX4 : Nat → FieldType := fun k => match k with
  | 0 => .object "BishopsPeace$Peace"
  | 1 => .array .int
  | 2 => .array .int
  | 3 => .array .boolean
  | _ => .int
theorem nmX4 : ∀ a, a < 5 → ∀ b, b < 5 → a ≠ b → (TX4 a).2.1 ≠ (TX4 b).2.1 := by decide +kernel
theorem tyX4_ok : ∀ k, k < 5 → parseFieldDescriptor (TX4 k).2.2.1 = some (tyX4 k) := by decide +kernel
abbrev cX4_init : ByteArray := prog_6_method_1_code
def yX4_init : MethodName := ⟨RX4, "<init>", "(LBishopsPeace$Peace;)V"⟩
abbrev cX4_keep : ByteArray := prog_6_method_2_code
def yX4_keep : MethodName := ⟨RX4, "keep", "(IIZ)Z"⟩
abbrev cX4_fits : ByteArray := prog_6_method_3_code
def yX4_fits : MethodName := ⟨RX4, "fits", "(I)Z"⟩
def RX5 : String := "BishopsPeace$Peace"
def TX5 : u_T := fun k => match k with
  | 0 => ("BishopsPeace$Peace", "bells", "LBishopsPeace$Bells;", true)
  | 1 => ("BishopsPeace$Peace", "facts", "[I", true)
  | 2 => ("BishopsPeace$Peace", "feasts", "[I", true)
  | 3 => ("BishopsPeace$Peace", "feastCount", "I", false)
  | 4 => ("BishopsPeace$Peace", "feastDays", "I", false)
  | _ => ("BishopsPeace$Peace", "lentWeeks", "I", false)
def tyX5 : Nat → FieldType := fun k => match k with
  | 0 => .object "BishopsPeace$Bells"
  | 1 => .array .int
  | 2 => .array .int
  | 3 => .int
  | 4 => .int
  | _ => .int
theorem nmX5 : ∀ a, a < 6 → ∀ b, b < 6 → a ≠ b → (TX5 a).2.1 ≠ (TX5 b).2.1 := by decide +kernel
theorem tyX5_ok : ∀ k, k < 6 → parseFieldDescriptor (TX5 k).2.2.1 = some (tyX5 k) := by decide +kernel
abbrev cX5_init : ByteArray := prog_7_method_1_code
def yX5_init : MethodName := ⟨RX5, "<init>", "(LBishopsPeace$Bells;)V"⟩
abbrev cX5_mostOf : ByteArray := prog_7_method_2_code
def yX5_mostOf : MethodName := ⟨RX5, "mostOf", "(I)I"⟩
abbrev cX5_at : ByteArray := prog_7_method_3_code
def yX5_at : MethodName := ⟨RX5, "at", "(II)I"⟩
abbrev cX5_put : ByteArray := prog_7_method_4_code
def yX5_put : MethodName := ⟨RX5, "put", "(III)I"⟩
abbrev cX5_swornLands : ByteArray := prog_7_method_5_code
def yX5_swornLands : MethodName := ⟨RX5, "swornLands", "()I"⟩
abbrev cX5_addFeast : ByteArray := prog_7_method_6_code
def yX5_addFeast : MethodName := ⟨RX5, "addFeast", "(I)Z"⟩
abbrev cX5_dropFeast : ByteArray := prog_7_method_7_code
def yX5_dropFeast : MethodName := ⟨RX5, "dropFeast", "()Z"⟩
abbrev cX5_gatherFeasts : ByteArray := prog_7_method_8_code
def yX5_gatherFeasts : MethodName := ⟨RX5, "gatherFeasts", "()V"⟩
abbrev cX5_isOpenDay : ByteArray := prog_7_method_9_code
def yX5_isOpenDay : MethodName := ⟨RX5, "isOpenDay", "(II)Z"⟩
abbrev cX5_bellOf : ByteArray := prog_7_method_10_code
def yX5_bellOf : MethodName := ⟨RX5, "bellOf", "(II)I"⟩
abbrev cX5_isWar : ByteArray := prog_7_method_11_code
def yX5_isWar : MethodName := ⟨RX5, "isWar", "(II)Z"⟩
abbrev cX5_warInDay : ByteArray := prog_7_method_12_code
def yX5_warInDay : MethodName := ⟨RX5, "warInDay", "(II)I"⟩
abbrev cX5_warInWeek : ByteArray := prog_7_method_13_code
def yX5_warInWeek : MethodName := ⟨RX5, "warInWeek", "(II)I"⟩
def RX6 : String := "BishopsPeace$Roads"
def TX6 : u_T := fun k => match k with
  | 0 => ("BishopsPeace$Roads", "text", "[I", true)
  | 1 => ("BishopsPeace$Roads", "one", "[I", true)
  | 2 => ("BishopsPeace$Roads", "other", "[I", true)
  | 3 => ("BishopsPeace$Roads", "hours", "[I", true)
  | 4 => ("BishopsPeace$Roads", "ways", "[I", true)
  | 5 => ("BishopsPeace$Roads", "bytes", "I", false)
  | 6 => ("BishopsPeace$Roads", "number", "I", false)
  | _ => ("BishopsPeace$Roads", "faultAt", "I", false)
def tyX6 : Nat → FieldType := fun k => match k with
  | 0 => .array .int
  | 1 => .array .int
  | 2 => .array .int
  | 3 => .array .int
  | 4 => .array .int
  | 5 => .int
  | 6 => .int
  | _ => .int
theorem nmX6 : ∀ a, a < 8 → ∀ b, b < 8 → a ≠ b → (TX6 a).2.1 ≠ (TX6 b).2.1 := by decide +kernel
theorem tyX6_ok : ∀ k, k < 8 → parseFieldDescriptor (TX6 k).2.2.1 = some (tyX6 k) := by decide +kernel
abbrev cX6_init : ByteArray := prog_8_method_1_code
def yX6_init : MethodName := ⟨RX6, "<init>", "()V"⟩
abbrev cX6_append : ByteArray := prog_8_method_2_code
def yX6_append : MethodName := ⟨RX6, "append", "(I)Z"⟩
abbrev cX6_shorten : ByteArray := prog_8_method_3_code
def yX6_shorten : MethodName := ⟨RX6, "shorten", "(I)V"⟩
abbrev cX6_settle : ByteArray := prog_8_method_4_code
def yX6_settle : MethodName := ⟨RX6, "settle", "()V"⟩
abbrev cX6_firstFault : ByteArray := prog_8_method_5_code
def yX6_firstFault : MethodName := ⟨RX6, "firstFault", "()I"⟩
abbrev cX6_goesOn : ByteArray := prog_8_method_6_code
def yX6_goesOn : MethodName := ⟨RX6, "goesOn", "(I)Z"⟩
abbrev cX6_measure : ByteArray := prog_8_method_7_code
def yX6_measure : MethodName := ⟨RX6, "measure", "()V"⟩
abbrev cX6_shortenWay : ByteArray := prog_8_method_8_code
def yX6_shortenWay : MethodName := ⟨RX6, "shortenWay", "(III)V"⟩
abbrev cX6_shortest : ByteArray := prog_8_method_9_code
def yX6_shortest : MethodName := ⟨RX6, "shortest", "(II)I"⟩
abbrev cX6_reaches : ByteArray := prog_8_method_10_code
def yX6_reaches : MethodName := ⟨RX6, "reaches", "(II)Z"⟩
abbrev cX6_end : ByteArray := prog_8_method_11_code
def yX6_end : MethodName := ⟨RX6, "end", "(II)I"⟩
abbrev cX6_across : ByteArray := prog_8_method_12_code
def yX6_across : MethodName := ⟨RX6, "across", "(II)I"⟩
abbrev cX6_nextLand : ByteArray := prog_8_method_13_code
def yX6_nextLand : MethodName := ⟨RX6, "nextLand", "(II)I"⟩
abbrev cX6_allHours : ByteArray := prog_8_method_14_code
def yX6_allHours : MethodName := ⟨RX6, "allHours", "()I"⟩
def RX7 : String := "BishopsPeace$Sheet"
def TX7 : u_T := fun k => match k with
  | 0 => ("BishopsPeace$Sheet", "items", "[I", true)
  | 1 => ("BishopsPeace$Sheet", "form", "I", false)
  | 2 => ("BishopsPeace$Sheet", "length", "I", false)
  | _ => ("BishopsPeace$Sheet", "lost", "Z", false)
def tyX7 : Nat → FieldType := fun k => match k with
  | 0 => .array .int
  | 1 => .int
  | 2 => .int
  | _ => .boolean
theorem nmX7 : ∀ a, a < 4 → ∀ b, b < 4 → a ≠ b → (TX7 a).2.1 ≠ (TX7 b).2.1 := by decide +kernel
theorem tyX7_ok : ∀ k, k < 4 → parseFieldDescriptor (TX7 k).2.2.1 = some (tyX7 k) := by decide +kernel
abbrev cX7_init : ByteArray := prog_9_method_1_code
def yX7_init : MethodName := ⟨RX7, "<init>", "()V"⟩
abbrev cX7_renew : ByteArray := prog_9_method_2_code
def yX7_renew : MethodName := ⟨RX7, "renew", "(II)V"⟩
abbrev cX7_put : ByteArray := prog_9_method_3_code
def yX7_put : MethodName := ⟨RX7, "put", "(II)V"⟩
abbrev cX7_holdsRun : ByteArray := prog_9_method_4_code
def yX7_holdsRun : MethodName := ⟨RX7, "holdsRun", "(II)Z"⟩
def RX8 : String := "BishopsPeace"
def TX8 : u_T := fun k => match k with
  | 0 => ("BishopsPeace", "roads", "LBishopsPeace$Roads;", true)
  | 1 => ("BishopsPeace", "bells", "LBishopsPeace$Bells;", true)
  | 2 => ("BishopsPeace", "peace", "LBishopsPeace$Peace;", true)
  | 3 => ("BishopsPeace", "march", "LBishopsPeace$March;", true)
  | 4 => ("BishopsPeace", "castle", "LBishopsPeace$Castle;", true)
  | 5 => ("BishopsPeace", "homeward", "LBishopsPeace$Homeward;", true)
  | 6 => ("BishopsPeace", "memory", "LBishopsPeace$Memory;", true)
  | 7 => ("BishopsPeace", "sheets", "[LBishopsPeace$Sheet;", true)
  | _ => ("BishopsPeace", "finding", "I", false)
def tyX8 : Nat → FieldType := fun k => match k with
  | 0 => .object "BishopsPeace$Roads"
  | 1 => .object "BishopsPeace$Bells"
  | 2 => .object "BishopsPeace$Peace"
  | 3 => .object "BishopsPeace$March"
  | 4 => .object "BishopsPeace$Castle"
  | 5 => .object "BishopsPeace$Homeward"
  | 6 => .object "BishopsPeace$Memory"
  | 7 => .array (.object "BishopsPeace$Sheet")
  | _ => .int
theorem nmX8 : ∀ a, a < 9 → ∀ b, b < 9 → a ≠ b → (TX8 a).2.1 ≠ (TX8 b).2.1 := by decide +kernel
theorem tyX8_ok : ∀ k, k < 9 → parseFieldDescriptor (TX8 k).2.2.1 = some (tyX8 k) := by decide +kernel
abbrev cX8_init : ByteArray := prog_1_method_1_code
def yX8_init : MethodName := ⟨RX8, "<init>", "()V"⟩
abbrev cX8_type : ByteArray := prog_1_method_2_code
def yX8_type : MethodName := ⟨RX8, "type", "(I)I"⟩
abbrev cX8_wipe : ByteArray := prog_1_method_3_code
def yX8_wipe : MethodName := ⟨RX8, "wipe", "()I"⟩
abbrev cX8_undo : ByteArray := prog_1_method_4_code
def yX8_undo : MethodName := ⟨RX8, "undo", "()I"⟩
abbrev cX8_fault : ByteArray := prog_1_method_5_code
def yX8_fault : MethodName := ⟨RX8, "fault", "()I"⟩
abbrev cX8_road : ByteArray := prog_1_method_6_code
def yX8_road : MethodName := ⟨RX8, "road", "(II)I"⟩
abbrev cX8_land : ByteArray := prog_1_method_7_code
def yX8_land : MethodName := ⟨RX8, "land", "(III)I"⟩
abbrev cX8_bell : ByteArray := prog_1_method_8_code
def yX8_bell : MethodName := ⟨RX8, "bell", "(III)I"⟩
abbrev cX8_read : ByteArray := prog_1_method_9_code
def yX8_read : MethodName := ⟨RX8, "read", "(I)I"⟩
abbrev cX8_feast : ByteArray := prog_1_method_10_code
def yX8_feast : MethodName := ⟨RX8, "feast", "(I)I"⟩
abbrev cX8_back : ByteArray := prog_1_method_11_code
def yX8_back : MethodName := ⟨RX8, "back", "()I"⟩
abbrev cX8_lent : ByteArray := prog_1_method_12_code
def yX8_lent : MethodName := ⟨RX8, "lent", "(I)I"⟩
abbrev cX8_war : ByteArray := prog_1_method_13_code
def yX8_war : MethodName := ⟨RX8, "war", "(II)I"⟩
abbrev cX8_strikes : ByteArray := prog_1_method_14_code
def yX8_strikes : MethodName := ⟨RX8, "strikes", "(IIII)I"⟩
abbrev cX8_next : ByteArray := prog_1_method_15_code
def yX8_next : MethodName := ⟨RX8, "next", "(III)I"⟩
abbrev cX8_left : ByteArray := prog_1_method_16_code
def yX8_left : MethodName := ⟨RX8, "left", "(II)I"⟩
abbrev cX8_best : ByteArray := prog_1_method_17_code
def yX8_best : MethodName := ⟨RX8, "best", "(I)I"⟩
abbrev cX8_unlike : ByteArray := prog_1_method_18_code
def yX8_unlike : MethodName := ⟨RX8, "unlike", "(II)I"⟩
abbrev cX8_way : ByteArray := prog_1_method_19_code
def yX8_way : MethodName := ⟨RX8, "way", "(III)I"⟩
abbrev cX8_raid : ByteArray := prog_1_method_20_code
def yX8_raid : MethodName := ⟨RX8, "raid", "(IIII)I"⟩
abbrev cX8_set : ByteArray := prog_1_method_21_code
def yX8_set : MethodName := ⟨RX8, "set", "(II)I"⟩
abbrev cX8_siege : ByteArray := prog_1_method_22_code
def yX8_siege : MethodName := ⟨RX8, "siege", "(IIII)I"⟩
abbrev cX8_holds : ByteArray := prog_1_method_23_code
def yX8_holds : MethodName := ⟨RX8, "holds", "(III)I"⟩
abbrev cX8_home : ByteArray := prog_1_method_24_code
def yX8_home : MethodName := ⟨RX8, "home", "(IIII)I"⟩
abbrev cX8_agree : ByteArray := prog_1_method_25_code
def yX8_agree : MethodName := ⟨RX8, "agree", "(I)I"⟩
abbrev cX8_middle : ByteArray := prog_1_method_26_code
def yX8_middle : MethodName := ⟨RX8, "middle", "(I)I"⟩
abbrev cX8_seen : ByteArray := prog_1_method_27_code
def yX8_seen : MethodName := ⟨RX8, "seen", "(III)I"⟩
abbrev cX8_forget : ByteArray := prog_1_method_28_code
def yX8_forget : MethodName := ⟨RX8, "forget", "()I"⟩
abbrev cX8_which : ByteArray := prog_1_method_29_code
def yX8_which : MethodName := ⟨RX8, "which", "()I"⟩
abbrev cX8_season : ByteArray := prog_1_method_30_code
def yX8_season : MethodName := ⟨RX8, "season", "(II)I"⟩
abbrev cX8_sheet : ByteArray := prog_1_method_31_code
def yX8_sheet : MethodName := ⟨RX8, "sheet", "(III)I"⟩
abbrev cX8_lose : ByteArray := prog_1_method_32_code
def yX8_lose : MethodName := ⟨RX8, "lose", "(I)I"⟩
abbrev cX8_lay : ByteArray := prog_1_method_33_code
def yX8_lay : MethodName := ⟨RX8, "lay", "(IIII)I"⟩
abbrev cX8_get : ByteArray := prog_1_method_34_code
def yX8_get : MethodName := ⟨RX8, "get", "(III)I"⟩
abbrev cX8_copy : ByteArray := prog_1_method_35_code
def yX8_copy : MethodName := ⟨RX8, "copy", "(IIIII)I"⟩
abbrev cX8_write : ByteArray := prog_1_method_36_code
def yX8_write : MethodName := ⟨RX8, "write", "(III)I"⟩
abbrev cX8_count : ByteArray := prog_1_method_37_code
def yX8_count : MethodName := ⟨RX8, "count", "(I)I"⟩
abbrev cX8_digest : ByteArray := prog_1_method_38_code
def yX8_digest : MethodName := ⟨RX8, "digest", "()J"⟩
abbrev cX8_digestOfRoads : ByteArray := prog_1_method_39_code
def yX8_digestOfRoads : MethodName := ⟨RX8, "digestOfRoads", "(J)J"⟩
abbrev cX8_digestOfLands : ByteArray := prog_1_method_40_code
def yX8_digestOfLands : MethodName := ⟨RX8, "digestOfLands", "(J)J"⟩
abbrev cX8_digestOfJourneys : ByteArray := prog_1_method_41_code
def yX8_digestOfJourneys : MethodName := ⟨RX8, "digestOfJourneys", "(J)J"⟩
abbrev cX8_digestOfKinds : ByteArray := prog_1_method_42_code
def yX8_digestOfKinds : MethodName := ⟨RX8, "digestOfKinds", "(J)J"⟩
abbrev cX8_digestOfParishes : ByteArray := prog_1_method_43_code
def yX8_digestOfParishes : MethodName := ⟨RX8, "digestOfParishes", "(J)J"⟩
abbrev cX8_found : ByteArray := prog_1_method_44_code
def yX8_found : MethodName := ⟨RX8, "found", "(I)I"⟩
abbrev cX8_wrongItem : ByteArray := prog_1_method_45_code
def yX8_wrongItem : MethodName := ⟨RX8, "wrongItem", "(III)I"⟩
abbrev cX8_upTo : ByteArray := prog_1_method_46_code
def yX8_upTo : MethodName := ⟨RX8, "upTo", "(II)Z"⟩
abbrev cX8_isLand : ByteArray := prog_1_method_47_code
def yX8_isLand : MethodName := ⟨RX8, "isLand", "(I)Z"⟩
abbrev cX8_areTwoLands : ByteArray := prog_1_method_48_code
def yX8_areTwoLands : MethodName := ⟨RX8, "areTwoLands", "(II)Z"⟩
abbrev cX8_isParish : ByteArray := prog_1_method_49_code
def yX8_isParish : MethodName := ⟨RX8, "isParish", "(I)Z"⟩
abbrev cX8_isKind : ByteArray := prog_1_method_50_code
def yX8_isKind : MethodName := ⟨RX8, "isKind", "(I)Z"⟩
abbrev cX8_isHour : ByteArray := prog_1_method_51_code
def yX8_isHour : MethodName := ⟨RX8, "isHour", "(I)Z"⟩
abbrev cX8_isSheet : ByteArray := prog_1_method_52_code
def yX8_isSheet : MethodName := ⟨RX8, "isSheet", "(I)Z"⟩
abbrev cX8_isForm : ByteArray := prog_1_method_53_code
def yX8_isForm : MethodName := ⟨RX8, "isForm", "(I)Z"⟩
abbrev cX8_isSiege : ByteArray := prog_1_method_54_code
def yX8_isSiege : MethodName := ⟨RX8, "isSiege", "(III)Z"⟩
def RX9 : String := "BishopsPeaceModel"
def TX9 : u_T := fun k => match k with
  | 0 => ("BishopsPeaceModel", "forms", "[I", true)
  | 1 => ("BishopsPeaceModel", "sizes", "[I", true)
  | 2 => ("BishopsPeaceModel", "items", "[I", true)
  | 3 => ("BishopsPeaceModel", "moved", "[I", true)
  | 4 => ("BishopsPeaceModel", "latest", "I", false)
  | 5 => ("BishopsPeaceModel", "text", "[I", true)
  | 6 => ("BishopsPeaceModel", "typed", "I", false)
  | 7 => ("BishopsPeaceModel", "at", "I", false)
  | 8 => ("BishopsPeaceModel", "roads", "I", false)
  | 9 => ("BishopsPeaceModel", "road", "[I", true)
  | 10 => ("BishopsPeaceModel", "land", "[I", true)
  | 11 => ("BishopsPeaceModel", "bells", "[I", true)
  | 12 => ("BishopsPeaceModel", "feasts", "I", false)
  | 13 => ("BishopsPeaceModel", "feast", "[I", true)
  | 14 => ("BishopsPeaceModel", "lents", "I", false)
  | 15 => ("BishopsPeaceModel", "settings", "[I", true)
  | 16 => ("BishopsPeaceModel", "far", "[I", true)
  | 17 => ("BishopsPeaceModel", "left", "I", false)
  | 18 => ("BishopsPeaceModel", "tried", "[I", true)
  | 19 => ("BishopsPeaceModel", "step", "[I", true)
  | 20 => ("BishopsPeaceModel", "spent", "[I", true)
  | 21 => ("BishopsPeaceModel", "luck", "[I", true)
  | 22 => ("BishopsPeaceModel", "bestSteps", "I", false)
  | 23 => ("BishopsPeaceModel", "bestLuck", "I", false)
  | 24 => ("BishopsPeaceModel", "bestSpent", "I", false)
  | 25 => ("BishopsPeaceModel", "bestStep", "[I", true)
  | 26 => ("BishopsPeaceModel", "sights", "I", false)
  | 27 => ("BishopsPeaceModel", "sight", "[I", true)
  | _ => ("BishopsPeaceModel", "more", "I", false)
def tyX9 : Nat → FieldType := fun k => match k with
  | 0 => .array .int
  | 1 => .array .int
  | 2 => .array .int
  | 3 => .array .int
  | 4 => .int
  | 5 => .array .int
  | 6 => .int
  | 7 => .int
  | 8 => .int
  | 9 => .array .int
  | 10 => .array .int
  | 11 => .array .int
  | 12 => .int
  | 13 => .array .int
  | 14 => .int
  | 15 => .array .int
  | 16 => .array .int
  | 17 => .int
  | 18 => .array .int
  | 19 => .array .int
  | 20 => .array .int
  | 21 => .array .int
  | 22 => .int
  | 23 => .int
  | 24 => .int
  | 25 => .array .int
  | 26 => .int
  | 27 => .array .int
  | _ => .int
theorem nmX9 : ∀ a, a < 29 → ∀ b, b < 29 → a ≠ b → (TX9 a).2.1 ≠ (TX9 b).2.1 := by decide +kernel
theorem tyX9_ok : ∀ k, k < 29 → parseFieldDescriptor (TX9 k).2.2.1 = some (tyX9 k) := by decide +kernel
abbrev cX9_init : ByteArray := prog_11_method_1_code
def yX9_init : MethodName := ⟨RX9, "<init>", "()V"⟩
abbrev cX9_in : ByteArray := prog_11_method_3_code
def yX9_in : MethodName := ⟨RX9, "in", "(JJJ)Z"⟩
abbrev cX9_isTwo : ByteArray := prog_11_method_4_code
def yX9_isTwo : MethodName := ⟨RX9, "isTwo", "(I)Z"⟩
abbrev cX9_isIn : ByteArray := prog_11_method_5_code
def yX9_isIn : MethodName := ⟨RX9, "isIn", "(II)Z"⟩
abbrev cX9_lesser : ByteArray := prog_11_method_6_code
def yX9_lesser : MethodName := ⟨RX9, "lesser", "(II)I"⟩
abbrev cX9_amount : ByteArray := prog_11_method_7_code
def yX9_amount : MethodName := ⟨RX9, "amount", "(I)I"⟩
abbrev cX9_common : ByteArray := prog_11_method_8_code
def yX9_common : MethodName := ⟨RX9, "common", "(II)I"⟩
abbrev cX9_finds : ByteArray := prog_11_method_9_code
def yX9_finds : MethodName := ⟨RX9, "finds", "(I)I"⟩
abbrev cX9_isSheet : ByteArray := prog_11_method_10_code
def yX9_isSheet : MethodName := ⟨RX9, "isSheet", "(I)Z"⟩
abbrev cX9_sheet : ByteArray := prog_11_method_11_code
def yX9_sheet : MethodName := ⟨RX9, "sheet", "(III)I"⟩
abbrev cX9_lose : ByteArray := prog_11_method_12_code
def yX9_lose : MethodName := ⟨RX9, "lose", "(I)I"⟩
abbrev cX9_lacks : ByteArray := prog_11_method_13_code
def yX9_lacks : MethodName := ⟨RX9, "lacks", "(III)I"⟩
abbrev cX9_cut : ByteArray := prog_11_method_14_code
def yX9_cut : MethodName := ⟨RX9, "cut", "(II)I"⟩
abbrev cX9_lay : ByteArray := prog_11_method_15_code
def yX9_lay : MethodName := ⟨RX9, "lay", "(IIII)I"⟩
abbrev cX9_get : ByteArray := prog_11_method_16_code
def yX9_get : MethodName := ⟨RX9, "get", "(III)I"⟩
abbrev cX9_copy : ByteArray := prog_11_method_17_code
def yX9_copy : MethodName := ⟨RX9, "copy", "(IIIII)I"⟩
abbrev cX9_type : ByteArray := prog_11_method_18_code
def yX9_type : MethodName := ⟨RX9, "type", "(I)I"⟩
abbrev cX9_wipe : ByteArray := prog_11_method_19_code
def yX9_wipe : MethodName := ⟨RX9, "wipe", "()I"⟩
abbrev cX9_undo : ByteArray := prog_11_method_20_code
def yX9_undo : MethodName := ⟨RX9, "undo", "()I"⟩
abbrev cX9_tellsOf : ByteArray := prog_11_method_21_code
def yX9_tellsOf : MethodName := ⟨RX9, "tellsOf", "(II)I"⟩
abbrev cX9_readsRoad : ByteArray := prog_11_method_22_code
def yX9_readsRoad : MethodName := ⟨RX9, "readsRoad", "()Z"⟩
abbrev cX9_reads : ByteArray := prog_11_method_23_code
def yX9_reads : MethodName := ⟨RX9, "reads", "()I"⟩
abbrev cX9_fault : ByteArray := prog_11_method_24_code
def yX9_fault : MethodName := ⟨RX9, "fault", "()I"⟩
abbrev cX9_road : ByteArray := prog_11_method_25_code
def yX9_road : MethodName := ⟨RX9, "road", "(II)I"⟩
abbrev cX9_isLand : ByteArray := prog_11_method_26_code
def yX9_isLand : MethodName := ⟨RX9, "isLand", "(I)Z"⟩
abbrev cX9_isParish : ByteArray := prog_11_method_27_code
def yX9_isParish : MethodName := ⟨RX9, "isParish", "(I)Z"⟩
abbrev cX9_isHour : ByteArray := prog_11_method_28_code
def yX9_isHour : MethodName := ⟨RX9, "isHour", "(I)Z"⟩
abbrev cX9_land : ByteArray := prog_11_method_29_code
def yX9_land : MethodName := ⟨RX9, "land", "(III)I"⟩
abbrev cX9_bell : ByteArray := prog_11_method_30_code
def yX9_bell : MethodName := ⟨RX9, "bell", "(III)I"⟩
abbrev cX9_read : ByteArray := prog_11_method_31_code
def yX9_read : MethodName := ⟨RX9, "read", "(I)I"⟩
abbrev cX9_feast : ByteArray := prog_11_method_32_code
def yX9_feast : MethodName := ⟨RX9, "feast", "(I)I"⟩
abbrev cX9_back : ByteArray := prog_11_method_33_code
def yX9_back : MethodName := ⟨RX9, "back", "()I"⟩
abbrev cX9_lent : ByteArray := prog_11_method_34_code
def yX9_lent : MethodName := ⟨RX9, "lent", "(I)I"⟩
abbrev cX9_isWarBy : ByteArray := prog_11_method_35_code
def yX9_isWarBy : MethodName := ⟨RX9, "isWarBy", "(II)Z"⟩
abbrev cX9_isFeast : ByteArray := prog_11_method_36_code
def yX9_isFeast : MethodName := ⟨RX9, "isFeast", "(I)Z"⟩
abbrev cX9_isWar : ByteArray := prog_11_method_37_code
def yX9_isWar : MethodName := ⟨RX9, "isWar", "(II)Z"⟩
abbrev cX9_war : ByteArray := prog_11_method_38_code
def yX9_war : MethodName := ⟨RX9, "war", "(II)I"⟩
abbrev cX9_strikesNow : ByteArray := prog_11_method_39_code
def yX9_strikesNow : MethodName := ⟨RX9, "strikesNow", "(IIII)Z"⟩
abbrev cX9_strikes : ByteArray := prog_11_method_40_code
def yX9_strikes : MethodName := ⟨RX9, "strikes", "(IIII)I"⟩
abbrev cX9_nextOf : ByteArray := prog_11_method_41_code
def yX9_nextOf : MethodName := ⟨RX9, "nextOf", "(III)I"⟩
abbrev cX9_next : ByteArray := prog_11_method_42_code
def yX9_next : MethodName := ⟨RX9, "next", "(III)I"⟩
abbrev cX9_leftIn : ByteArray := prog_11_method_43_code
def yX9_leftIn : MethodName := ⟨RX9, "leftIn", "(II)I"⟩
abbrev cX9_left : ByteArray := prog_11_method_44_code
def yX9_left : MethodName := ⟨RX9, "left", "(II)I"⟩
abbrev cX9_bestOf : ByteArray := prog_11_method_45_code
def yX9_bestOf : MethodName := ⟨RX9, "bestOf", "(I)I"⟩
abbrev cX9_best : ByteArray := prog_11_method_46_code
def yX9_best : MethodName := ⟨RX9, "best", "(I)I"⟩
abbrev cX9_unlikeOf : ByteArray := prog_11_method_47_code
def yX9_unlikeOf : MethodName := ⟨RX9, "unlikeOf", "(II)I"⟩
abbrev cX9_unlike : ByteArray := prog_11_method_48_code
def yX9_unlike : MethodName := ⟨RX9, "unlike", "(II)I"⟩
abbrev cX9_hoursOf : ByteArray := prog_11_method_49_code
def yX9_hoursOf : MethodName := ⟨RX9, "hoursOf", "(II)I"⟩
abbrev cX9_findFar : ByteArray := prog_11_method_50_code
def yX9_findFar : MethodName := ⟨RX9, "findFar", "(I)V"⟩
abbrev cX9_nextLand : ByteArray := prog_11_method_51_code
def yX9_nextLand : MethodName := ⟨RX9, "nextLand", "(I)I"⟩
abbrev cX9_wayOf : ByteArray := prog_11_method_52_code
def yX9_wayOf : MethodName := ⟨RX9, "wayOf", "(III)I"⟩
abbrev cX9_areTwo : ByteArray := prog_11_method_53_code
def yX9_areTwo : MethodName := ⟨RX9, "areTwo", "(II)Z"⟩
abbrev cX9_way : ByteArray := prog_11_method_54_code
def yX9_way : MethodName := ⟨RX9, "way", "(III)I"⟩
abbrev cX9_goes : ByteArray := prog_11_method_55_code
def yX9_goes : MethodName := ⟨RX9, "goes", "(IIIZ)I"⟩
abbrev cX9_isRaid : ByteArray := prog_11_method_56_code
def yX9_isRaid : MethodName := ⟨RX9, "isRaid", "(IIII)Z"⟩
abbrev cX9_raidOf : ByteArray := prog_11_method_57_code
def yX9_raidOf : MethodName := ⟨RX9, "raidOf", "(IIII)I"⟩
abbrev cX9_raid : ByteArray := prog_11_method_58_code
def yX9_raid : MethodName := ⟨RX9, "raid", "(IIII)I"⟩
abbrev cX9_set : ByteArray := prog_11_method_59_code
def yX9_set : MethodName := ⟨RX9, "set", "(II)I"⟩
abbrev cX9_falls : ByteArray := prog_11_method_60_code
def yX9_falls : MethodName := ⟨RX9, "falls", "(IIII)I"⟩
abbrev cX9_siegeOf : ByteArray := prog_11_method_61_code
def yX9_siegeOf : MethodName := ⟨RX9, "siegeOf", "(IIII)I"⟩
abbrev cX9_siege : ByteArray := prog_11_method_62_code
def yX9_siege : MethodName := ⟨RX9, "siege", "(IIII)I"⟩
abbrev cX9_holdsBy : ByteArray := prog_11_method_63_code
def yX9_holdsBy : MethodName := ⟨RX9, "holdsBy", "(III)I"⟩
abbrev cX9_holds : ByteArray := prog_11_method_64_code
def yX9_holds : MethodName := ⟨RX9, "holds", "(III)I"⟩
abbrev cX9_otherEnd : ByteArray := prog_11_method_65_code
def yX9_otherEnd : MethodName := ⟨RX9, "otherEnd", "(II)I"⟩
abbrev cX9_wasAt : ByteArray := prog_11_method_66_code
def yX9_wasAt : MethodName := ⟨RX9, "wasAt", "(II)Z"⟩
abbrev cX9_isLess : ByteArray := prog_11_method_67_code
def yX9_isLess : MethodName := ⟨RX9, "isLess", "(I)Z"⟩
abbrev cX9_comes : ByteArray := prog_11_method_68_code
def yX9_comes : MethodName := ⟨RX9, "comes", "(I)V"⟩
abbrev cX9_findHome : ByteArray := prog_11_method_69_code
def yX9_findHome : MethodName := ⟨RX9, "findHome", "(III)V"⟩
abbrev cX9_tellsHome : ByteArray := prog_11_method_70_code
def yX9_tellsHome : MethodName := ⟨RX9, "tellsHome", "(I)I"⟩
abbrev cX9_home : ByteArray := prog_11_method_71_code
def yX9_home : MethodName := ⟨RX9, "home", "(IIII)I"⟩
abbrev cX9_pairOf : ByteArray := prog_11_method_72_code
def yX9_pairOf : MethodName := ⟨RX9, "pairOf", "(I)I"⟩
abbrev cX9_agreeOf : ByteArray := prog_11_method_73_code
def yX9_agreeOf : MethodName := ⟨RX9, "agreeOf", "(I)I"⟩
abbrev cX9_agree : ByteArray := prog_11_method_74_code
def yX9_agree : MethodName := ⟨RX9, "agree", "(I)I"⟩
abbrev cX9_changesBy : ByteArray := prog_11_method_75_code
def yX9_changesBy : MethodName := ⟨RX9, "changesBy", "(II)I"⟩
abbrev cX9_middleBell : ByteArray := prog_11_method_76_code
def yX9_middleBell : MethodName := ⟨RX9, "middleBell", "(I)I"⟩
abbrev cX9_middleOf : ByteArray := prog_11_method_77_code
def yX9_middleOf : MethodName := ⟨RX9, "middleOf", "(I)I"⟩
abbrev cX9_middle : ByteArray := prog_11_method_78_code
def yX9_middle : MethodName := ⟨RX9, "middle", "(I)I"⟩
abbrev cX9_seen : ByteArray := prog_11_method_79_code
def yX9_seen : MethodName := ⟨RX9, "seen", "(III)I"⟩
abbrev cX9_forget : ByteArray := prog_11_method_80_code
def yX9_forget : MethodName := ⟨RX9, "forget", "()I"⟩
abbrev cX9_whichNow : ByteArray := prog_11_method_81_code
def yX9_whichNow : MethodName := ⟨RX9, "whichNow", "()I"⟩
abbrev cX9_which : ByteArray := prog_11_method_82_code
def yX9_which : MethodName := ⟨RX9, "which", "()I"⟩
abbrev cX9_seasonOf : ByteArray := prog_11_method_83_code
def yX9_seasonOf : MethodName := ⟨RX9, "seasonOf", "(II)I"⟩
abbrev cX9_season : ByteArray := prog_11_method_84_code
def yX9_season : MethodName := ⟨RX9, "season", "(II)I"⟩
abbrev cX9_write : ByteArray := prog_11_method_85_code
def yX9_write : MethodName := ⟨RX9, "write", "(III)I"⟩
abbrev cX9_count : ByteArray := prog_11_method_86_code
def yX9_count : MethodName := ⟨RX9, "count", "(I)I"⟩
abbrev cX9_tellsLand : ByteArray := prog_11_method_87_code
def yX9_tellsLand : MethodName := ⟨RX9, "tellsLand", "(JI)J"⟩
abbrev cX9_tellsWays : ByteArray := prog_11_method_88_code
def yX9_tellsWays : MethodName := ⟨RX9, "tellsWays", "(JI)J"⟩
abbrev cX9_digest : ByteArray := prog_11_method_89_code
def yX9_digest : MethodName := ⟨RX9, "digest", "()J"⟩
def RJ9 : String := "java/lang/Math"
def TJ9 : u_T := fun k => match k with
  | _ => ("", "", "", false)
def tyJ9 : Nat → FieldType := fun k => match k with
  | _ => .int
theorem nmJ9 : ∀ a, a < 0 → ∀ b, b < 0 → a ≠ b → (TJ9 a).2.1 ≠ (TJ9 b).2.1 := by decide +kernel
theorem tyJ9_ok : ∀ k, k < 0 → parseFieldDescriptor (TJ9 k).2.2.1 = some (tyJ9 k) := by decide +kernel
abbrev cJ9_abs_0f7a4 : ByteArray := prog_12_method_59_code
def yJ9_abs_0f7a4 : MethodName := ⟨RJ9, "abs", "(I)I"⟩
abbrev cJ9_min_7cf53 : ByteArray := prog_12_method_69_code
def yJ9_min_7cf53 : MethodName := ⟨RJ9, "min", "(II)I"⟩
def RJ10 : String := "java/lang/System"
def TJ10 : u_T := fun k => match k with
  | _ => ("", "", "", false)
def tyJ10 : Nat → FieldType := fun k => match k with
  | _ => .int
theorem nmJ10 : ∀ a, a < 0 → ∀ b, b < 0 → a ≠ b → (TJ10 a).2.1 ≠ (TJ10 b).2.1 := by decide +kernel
theorem tyJ10_ok : ∀ k, k < 0 → parseFieldDescriptor (TJ10 k).2.2.1 = some (tyJ10 k) := by decide +kernel
def RJ7 : String := "java/util/Arrays"
def TJ7 : u_T := fun k => match k with
  | _ => ("", "", "", false)
def tyJ7 : Nat → FieldType := fun k => match k with
  | _ => .int
theorem nmJ7 : ∀ a, a < 0 → ∀ b, b < 0 → a ≠ b → (TJ7 a).2.1 ≠ (TJ7 b).2.1 := by decide +kernel
theorem tyJ7_ok : ∀ k, k < 0 → parseFieldDescriptor (TJ7 k).2.2.1 = some (tyJ7 k) := by decide +kernel
abbrev cJ7_fill_53178 : ByteArray := prog_14_method_103_code
def yJ7_fill_53178 : MethodName := ⟨RJ7, "fill", "([II)V"⟩
def RL : String := "BishopsPeaceLaw"
abbrev cL_law : ByteArray := code
def yL_law : MethodName := ⟨RL, "law", "([I)Z"⟩
abbrev vwCl : List vw_C := [(RX0, TX0, 1), (RX1, TX1, 4), (RX2, TX2, 10), (RX3, TX3, 5), (RX4, TX4, 5), (RX5, TX5, 6), (RX6, TX6, 8), (RX7, TX7, 4), (RX8, TX8, 9), (RX9, TX9, 29)]
abbrev MI : Type := MethodName × ByteArray × Nat × Option FieldType
def iX0_init : MI := (yX0_init, cX0_init, 2, none)
def iX0_at : MI := (yX0_at, cX0_at, 3, (some .int))
def iX0_put : MI := (yX0_put, cX0_put, 4, (some .int))
def iX0_hoursUnlike : MI := (yX0_hoursUnlike, cX0_hoursUnlike, 3, (some .int))
def iX0_likeOnes : MI := (yX0_likeOnes, cX0_likeOnes, 4, (some .int))
def iX0_commonest : MI := (yX0_commonest, cX0_commonest, 4, (some .int))
def iX0_rank : MI := (yX0_rank, cX0_rank, 2, (some .int))
def iX0_middleOf : MI := (yX0_middleOf, cX0_middleOf, 4, (some .int))
def iX0_change : MI := (yX0_change, cX0_change, 5, (some .int))
def iX1_init : MI := (yX1_init, cX1_init, 2, none)
def iX1_batter : MI := (yX1_batter, cX1_batter, 7, (some .int))
def iX1_leastMends : MI := (yX1_leastMends, cX1_leastMends, 8, (some .int))
def iX2_init : MI := (yX2_init, cX2_init, 3, none)
def iX2_seek : MI := (yX2_seek, cX2_seek, 4, none)
def iX2_walk : MI := (yX2_walk, cX2_walk, 8, none)
def iX2_freeOf : MI := (yX2_freeOf, cX2_freeOf, 2, (some .int))
def iX2_arrive : MI := (yX2_arrive, cX2_arrive, 4, none)
def iX2_isBetter : MI := (yX2_isBetter, cX2_isBetter, 4, (some .boolean))
def iX2_commonBits : MI := (yX2_commonBits, cX2_commonBits, 2, (some .int))
def iX2_above : MI := (yX2_above, cX2_above, 1, (some .int))
def iX2_below : MI := (yX2_below, cX2_below, 1, (some .int))
def iX2_landAt : MI := (yX2_landAt, cX2_landAt, 2, (some .int))
def iX3_init : MI := (yX3_init, cX3_init, 3, none)
def iX3_firstStart : MI := (yX3_firstStart, cX3_firstStart, 8, (some .int))
def iX3_goBetween : MI := (yX3_goBetween, cX3_goBetween, 7, none)
def iX3_need : MI := (yX3_need, cX3_need, 3, none)
def iX3_isAllowed : MI := (yX3_isAllowed, cX3_isAllowed, 3, (some .boolean))
def iX4_init : MI := (yX4_init, cX4_init, 2, none)
def iX4_keep : MI := (yX4_keep, cX4_keep, 4, (some .boolean))
def iX4_fits : MI := (yX4_fits, cX4_fits, 3, (some .boolean))
def iX5_init : MI := (yX5_init, cX5_init, 3, none)
def iX5_mostOf : MI := (yX5_mostOf, cX5_mostOf, 1, (some .int))
def iX5_at : MI := (yX5_at, cX5_at, 3, (some .int))
def iX5_put : MI := (yX5_put, cX5_put, 5, (some .int))
def iX5_swornLands : MI := (yX5_swornLands, cX5_swornLands, 3, (some .int))
def iX5_addFeast : MI := (yX5_addFeast, cX5_addFeast, 2, (some .boolean))
def iX5_dropFeast : MI := (yX5_dropFeast, cX5_dropFeast, 1, (some .boolean))
def iX5_gatherFeasts : MI := (yX5_gatherFeasts, cX5_gatherFeasts, 2, none)
def iX5_isOpenDay : MI := (yX5_isOpenDay, cX5_isOpenDay, 5, (some .boolean))
def iX5_bellOf : MI := (yX5_bellOf, cX5_bellOf, 3, (some .int))
def iX5_isWar : MI := (yX5_isWar, cX5_isWar, 4, (some .boolean))
def iX5_warInDay : MI := (yX5_warInDay, cX5_warInDay, 3, (some .int))
def iX5_warInWeek : MI := (yX5_warInWeek, cX5_warInWeek, 5, (some .int))
def iX6_init : MI := (yX6_init, cX6_init, 1, none)
def iX6_append : MI := (yX6_append, cX6_append, 2, (some .boolean))
def iX6_shorten : MI := (yX6_shorten, cX6_shorten, 2, none)
def iX6_settle : MI := (yX6_settle, cX6_settle, 2, none)
def iX6_firstFault : MI := (yX6_firstFault, cX6_firstFault, 2, (some .int))
def iX6_goesOn : MI := (yX6_goesOn, cX6_goesOn, 3, (some .boolean))
def iX6_measure : MI := (yX6_measure, cX6_measure, 4, none)
def iX6_shortenWay : MI := (yX6_shortenWay, cX6_shortenWay, 4, none)
def iX6_shortest : MI := (yX6_shortest, cX6_shortest, 3, (some .int))
def iX6_reaches : MI := (yX6_reaches, cX6_reaches, 3, (some .boolean))
def iX6_end : MI := (yX6_end, cX6_end, 3, (some .int))
def iX6_across : MI := (yX6_across, cX6_across, 3, (some .int))
def iX6_nextLand : MI := (yX6_nextLand, cX6_nextLand, 7, (some .int))
def iX6_allHours : MI := (yX6_allHours, cX6_allHours, 3, (some .int))
def iX7_init : MI := (yX7_init, cX7_init, 1, none)
def iX7_renew : MI := (yX7_renew, cX7_renew, 3, none)
def iX7_put : MI := (yX7_put, cX7_put, 3, none)
def iX7_holdsRun : MI := (yX7_holdsRun, cX7_holdsRun, 3, (some .boolean))
def iX8_init : MI := (yX8_init, cX8_init, 2, none)
def iX8_type : MI := (yX8_type, cX8_type, 2, (some .int))
def iX8_wipe : MI := (yX8_wipe, cX8_wipe, 2, (some .int))
def iX8_undo : MI := (yX8_undo, cX8_undo, 1, (some .int))
def iX8_fault : MI := (yX8_fault, cX8_fault, 1, (some .int))
def iX8_road : MI := (yX8_road, cX8_road, 3, (some .int))
def iX8_land : MI := (yX8_land, cX8_land, 4, (some .int))
def iX8_bell : MI := (yX8_bell, cX8_bell, 4, (some .int))
def iX8_read : MI := (yX8_read, cX8_read, 5, (some .int))
def iX8_feast : MI := (yX8_feast, cX8_feast, 2, (some .int))
def iX8_back : MI := (yX8_back, cX8_back, 1, (some .int))
def iX8_lent : MI := (yX8_lent, cX8_lent, 3, (some .int))
def iX8_war : MI := (yX8_war, cX8_war, 3, (some .int))
def iX8_strikes : MI := (yX8_strikes, cX8_strikes, 6, (some .int))
def iX8_next : MI := (yX8_next, cX8_next, 5, (some .int))
def iX8_left : MI := (yX8_left, cX8_left, 3, (some .int))
def iX8_best : MI := (yX8_best, cX8_best, 4, (some .int))
def iX8_unlike : MI := (yX8_unlike, cX8_unlike, 3, (some .int))
def iX8_way : MI := (yX8_way, cX8_way, 4, (some .int))
def iX8_raid : MI := (yX8_raid, cX8_raid, 5, (some .int))
def iX8_set : MI := (yX8_set, cX8_set, 4, (some .int))
def iX8_siege : MI := (yX8_siege, cX8_siege, 6, (some .int))
def iX8_holds : MI := (yX8_holds, cX8_holds, 4, (some .int))
def iX8_home : MI := (yX8_home, cX8_home, 5, (some .int))
def iX8_agree : MI := (yX8_agree, cX8_agree, 3, (some .int))
def iX8_middle : MI := (yX8_middle, cX8_middle, 4, (some .int))
def iX8_seen : MI := (yX8_seen, cX8_seen, 4, (some .int))
def iX8_forget : MI := (yX8_forget, cX8_forget, 2, (some .int))
def iX8_which : MI := (yX8_which, cX8_which, 3, (some .int))
def iX8_season : MI := (yX8_season, cX8_season, 7, (some .int))
def iX8_sheet : MI := (yX8_sheet, cX8_sheet, 4, (some .int))
def iX8_lose : MI := (yX8_lose, cX8_lose, 2, (some .int))
def iX8_lay : MI := (yX8_lay, cX8_lay, 6, (some .int))
def iX8_get : MI := (yX8_get, cX8_get, 5, (some .int))
def iX8_copy : MI := (yX8_copy, cX8_copy, 8, (some .int))
def iX8_write : MI := (yX8_write, cX8_write, 6, (some .int))
def iX8_count : MI := (yX8_count, cX8_count, 2, (some .int))
def iX8_digest : MI := (yX8_digest, cX8_digest, 4, (some .long))
def iX8_digestOfRoads : MI := (yX8_digestOfRoads, cX8_digestOfRoads, 7, (some .long))
def iX8_digestOfLands : MI := (yX8_digestOfLands, cX8_digestOfLands, 6, (some .long))
def iX8_digestOfJourneys : MI := (yX8_digestOfJourneys, cX8_digestOfJourneys, 7, (some .long))
def iX8_digestOfKinds : MI := (yX8_digestOfKinds, cX8_digestOfKinds, 7, (some .long))
def iX8_digestOfParishes : MI := (yX8_digestOfParishes, cX8_digestOfParishes, 6, (some .long))
def iX8_found : MI := (yX8_found, cX8_found, 2, (some .int))
def iX8_wrongItem : MI := (yX8_wrongItem, cX8_wrongItem, 4, (some .int))
def iX8_upTo : MI := (yX8_upTo, cX8_upTo, 2, (some .boolean))
def iX8_isLand : MI := (yX8_isLand, cX8_isLand, 1, (some .boolean))
def iX8_areTwoLands : MI := (yX8_areTwoLands, cX8_areTwoLands, 2, (some .boolean))
def iX8_isParish : MI := (yX8_isParish, cX8_isParish, 1, (some .boolean))
def iX8_isKind : MI := (yX8_isKind, cX8_isKind, 1, (some .boolean))
def iX8_isHour : MI := (yX8_isHour, cX8_isHour, 1, (some .boolean))
def iX8_isSheet : MI := (yX8_isSheet, cX8_isSheet, 1, (some .boolean))
def iX8_isForm : MI := (yX8_isForm, cX8_isForm, 1, (some .boolean))
def iX8_isSiege : MI := (yX8_isSiege, cX8_isSiege, 3, (some .boolean))
def iX9_init : MI := (yX9_init, cX9_init, 2, none)
def iX9_in : MI := (yX9_in, cX9_in, 6, (some .boolean))
def iX9_isTwo : MI := (yX9_isTwo, cX9_isTwo, 1, (some .boolean))
def iX9_isIn : MI := (yX9_isIn, cX9_isIn, 2, (some .boolean))
def iX9_lesser : MI := (yX9_lesser, cX9_lesser, 2, (some .int))
def iX9_amount : MI := (yX9_amount, cX9_amount, 1, (some .int))
def iX9_common : MI := (yX9_common, cX9_common, 5, (some .int))
def iX9_finds : MI := (yX9_finds, cX9_finds, 2, (some .int))
def iX9_isSheet : MI := (yX9_isSheet, cX9_isSheet, 1, (some .boolean))
def iX9_sheet : MI := (yX9_sheet, cX9_sheet, 5, (some .int))
def iX9_lose : MI := (yX9_lose, cX9_lose, 2, (some .int))
def iX9_lacks : MI := (yX9_lacks, cX9_lacks, 4, (some .int))
def iX9_cut : MI := (yX9_cut, cX9_cut, 2, (some .int))
def iX9_lay : MI := (yX9_lay, cX9_lay, 6, (some .int))
def iX9_get : MI := (yX9_get, cX9_get, 4, (some .int))
def iX9_copy : MI := (yX9_copy, cX9_copy, 7, (some .int))
def iX9_type : MI := (yX9_type, cX9_type, 2, (some .int))
def iX9_wipe : MI := (yX9_wipe, cX9_wipe, 2, (some .int))
def iX9_undo : MI := (yX9_undo, cX9_undo, 1, (some .int))
def iX9_tellsOf : MI := (yX9_tellsOf, cX9_tellsOf, 3, (some .int))
def iX9_readsRoad : MI := (yX9_readsRoad, cX9_readsRoad, 3, (some .boolean))
def iX9_reads : MI := (yX9_reads, cX9_reads, 3, (some .int))
def iX9_fault : MI := (yX9_fault, cX9_fault, 1, (some .int))
def iX9_road : MI := (yX9_road, cX9_road, 3, (some .int))
def iX9_isLand : MI := (yX9_isLand, cX9_isLand, 1, (some .boolean))
def iX9_isParish : MI := (yX9_isParish, cX9_isParish, 1, (some .boolean))
def iX9_isHour : MI := (yX9_isHour, cX9_isHour, 1, (some .boolean))
def iX9_land : MI := (yX9_land, cX9_land, 5, (some .int))
def iX9_bell : MI := (yX9_bell, cX9_bell, 5, (some .int))
def iX9_read : MI := (yX9_read, cX9_read, 3, (some .int))
def iX9_feast : MI := (yX9_feast, cX9_feast, 2, (some .int))
def iX9_back : MI := (yX9_back, cX9_back, 1, (some .int))
def iX9_lent : MI := (yX9_lent, cX9_lent, 3, (some .int))
def iX9_isWarBy : MI := (yX9_isWarBy, cX9_isWarBy, 3, (some .boolean))
def iX9_isFeast : MI := (yX9_isFeast, cX9_isFeast, 4, (some .boolean))
def iX9_isWar : MI := (yX9_isWar, cX9_isWar, 4, (some .boolean))
def iX9_war : MI := (yX9_war, cX9_war, 3, (some .int))
def iX9_strikesNow : MI := (yX9_strikesNow, cX9_strikesNow, 6, (some .boolean))
def iX9_strikes : MI := (yX9_strikes, cX9_strikes, 6, (some .int))
def iX9_nextOf : MI := (yX9_nextOf, cX9_nextOf, 5, (some .int))
def iX9_next : MI := (yX9_next, cX9_next, 4, (some .int))
def iX9_leftIn : MI := (yX9_leftIn, cX9_leftIn, 5, (some .int))
def iX9_left : MI := (yX9_left, cX9_left, 3, (some .int))
def iX9_bestOf : MI := (yX9_bestOf, cX9_bestOf, 4, (some .int))
def iX9_best : MI := (yX9_best, cX9_best, 2, (some .int))
def iX9_unlikeOf : MI := (yX9_unlikeOf, cX9_unlikeOf, 5, (some .int))
def iX9_unlike : MI := (yX9_unlike, cX9_unlike, 3, (some .int))
def iX9_hoursOf : MI := (yX9_hoursOf, cX9_hoursOf, 6, (some .int))
def iX9_findFar : MI := (yX9_findFar, cX9_findFar, 6, none)
def iX9_nextLand : MI := (yX9_nextLand, cX9_nextLand, 5, (some .int))
def iX9_wayOf : MI := (yX9_wayOf, cX9_wayOf, 4, (some .int))
def iX9_areTwo : MI := (yX9_areTwo, cX9_areTwo, 2, (some .boolean))
def iX9_way : MI := (yX9_way, cX9_way, 4, (some .int))
def iX9_goes : MI := (yX9_goes, cX9_goes, 9, (some .int))
def iX9_isRaid : MI := (yX9_isRaid, cX9_isRaid, 8, (some .boolean))
def iX9_raidOf : MI := (yX9_raidOf, cX9_raidOf, 6, (some .int))
def iX9_raid : MI := (yX9_raid, cX9_raid, 5, (some .int))
def iX9_set : MI := (yX9_set, cX9_set, 4, (some .int))
def iX9_falls : MI := (yX9_falls, cX9_falls, 6, (some .int))
def iX9_siegeOf : MI := (yX9_siegeOf, cX9_siegeOf, 6, (some .int))
def iX9_siege : MI := (yX9_siege, cX9_siege, 5, (some .int))
def iX9_holdsBy : MI := (yX9_holdsBy, cX9_holdsBy, 5, (some .int))
def iX9_holds : MI := (yX9_holds, cX9_holds, 4, (some .int))
def iX9_otherEnd : MI := (yX9_otherEnd, cX9_otherEnd, 3, (some .int))
def iX9_wasAt : MI := (yX9_wasAt, cX9_wasAt, 5, (some .boolean))
def iX9_isLess : MI := (yX9_isLess, cX9_isLess, 3, (some .boolean))
def iX9_comes : MI := (yX9_comes, cX9_comes, 4, none)
def iX9_findHome : MI := (yX9_findHome, cX9_findHome, 8, none)
def iX9_tellsHome : MI := (yX9_tellsHome, cX9_tellsHome, 4, (some .int))
def iX9_home : MI := (yX9_home, cX9_home, 5, (some .int))
def iX9_pairOf : MI := (yX9_pairOf, cX9_pairOf, 2, (some .int))
def iX9_agreeOf : MI := (yX9_agreeOf, cX9_agreeOf, 7, (some .int))
def iX9_agree : MI := (yX9_agree, cX9_agree, 2, (some .int))
def iX9_changesBy : MI := (yX9_changesBy, cX9_changesBy, 5, (some .int))
def iX9_middleBell : MI := (yX9_middleBell, cX9_middleBell, 4, (some .int))
def iX9_middleOf : MI := (yX9_middleOf, cX9_middleOf, 4, (some .int))
def iX9_middle : MI := (yX9_middle, cX9_middle, 2, (some .int))
def iX9_seen : MI := (yX9_seen, cX9_seen, 4, (some .int))
def iX9_forget : MI := (yX9_forget, cX9_forget, 2, (some .int))
def iX9_whichNow : MI := (yX9_whichNow, cX9_whichNow, 5, (some .int))
def iX9_which : MI := (yX9_which, cX9_which, 1, (some .int))
def iX9_seasonOf : MI := (yX9_seasonOf, cX9_seasonOf, 7, (some .int))
def iX9_season : MI := (yX9_season, cX9_season, 3, (some .int))
def iX9_write : MI := (yX9_write, cX9_write, 6, (some .int))
def iX9_count : MI := (yX9_count, cX9_count, 4, (some .int))
def iX9_tellsLand : MI := (yX9_tellsLand, cX9_tellsLand, 6, (some .long))
def iX9_tellsWays : MI := (yX9_tellsWays, cX9_tellsWays, 7, (some .long))
def iX9_digest : MI := (yX9_digest, cX9_digest, 5, (some .long))
def iJ9_abs_0f7a4 : MI := (yJ9_abs_0f7a4, cJ9_abs_0f7a4, 1, (some .int))
def iJ9_min_7cf53 : MI := (yJ9_min_7cf53, cJ9_min_7cf53, 2, (some .int))
def iJ7_fill_53178 : MI := (yJ7_fill_53178, cJ7_fill_53178, 4, none)
end
section
/-! THE PICTURE OF THE MACHINE: whole numbers for ints and longs, places 0, 1, 2 .. for the cells that the run has made (place k lies at address base + k), a world: what each place holds -/
abbrev AV : Type := Int ⊕ (Int ⊕ Option Nat)
abbrev vI (z : Int) : AV := Sum.inl z
abbrev vL (z : Int) : AV := Sum.inr (Sum.inl z)
abbrev vR (k : Nat) : AV := Sum.inr (Sum.inr (some k))
abbrev vN : AV := Sum.inr (Sum.inr none)
abbrev AC : Type := (Nat × Nat × (Int → Int)) ⊕ ((Nat × (Int → Option Nat)) ⊕ (Nat × List AV))
abbrev cI (n : Nat) (f : Int → Int) : AC := Sum.inl (0, n, f)
abbrev cZ (n : Nat) (f : Int → Int) : AC := Sum.inl (1, n, f)
abbrev cR (n : Nat) (f : Int → Option Nat) : AC := Sum.inr (Sum.inl (n, f))
abbrev cO (ci : Nat) (fs : List AV) : AC := Sum.inr (Sum.inr (ci, fs))
abbrev AW : Type := Nat → AC
def upw (w : AW) (k : Nat) (c : AC) : AW := fun j => if j = k then c else w j
def upf (f : Int → Int) (i v : Int) : Int → Int := fun j => if j = i then v else f j
def upr (f : Int → Option Nat) (i : Int) (v : Option Nat) : Int → Option Nat := fun j => if j = i then v else f j
theorem upw_s {w : AW} {k : Nat} {c : AC} : upw w k c k = c := by simp [upw]
theorem upw_o {w : AW} {k j : Nat} {c c2 : AC} (h : j ≠ k) (e : w j = c2) : upw w k c j = c2 := by simp [upw, h, e]
abbrev Cx : Type := Nat × va_G × (ClassId × ClassId × ClassId)
def iZ (z : Int) : Int32 := Int32.ofInt z
def lZ (z : Int) : Int64 := Int64.ofInt z
abbrev R32 (z : Int) : Prop := -2147483648 ≤ z ∧ z ≤ 2147483647
abbrev R64 (z : Int) : Prop := -9223372036854775808 ≤ z ∧ z ≤ 9223372036854775807
theorem iZ_toInt {z : Int} (h : R32 z) : (iZ z).toInt = z := Int32.toInt_ofInt_of_le (by omega) (by omega)
theorem iZ_of (v : Int32) : iZ v.toInt = v := Int32.ofInt_toInt v
theorem iZ_R (v : Int32) : R32 v.toInt := ⟨by have := v.le_toInt; omega, by have := v.toInt_lt; omega⟩
theorem iZ_add (a b : Int) : iZ a + iZ b = iZ (a + b) := (Int32.ofInt_add a b).symm
theorem iZ_sub (a b : Int) : iZ a - iZ b = iZ (a - b) := (Int32.ofInt_sub a b).symm
theorem iZ_mul (a b : Int) : iZ a * iZ b = iZ (a * b) := (Int32.ofInt_mul a b).symm
theorem iZ_neg (a : Int) : -iZ a = iZ (-a) := (Int32.ofInt_neg a).symm
theorem iZ_lt {a b : Int} (ha : R32 a) (hb : R32 b) : iZ a < iZ b ↔ a < b := by rw [Int32.lt_iff_toInt_lt, iZ_toInt ha, iZ_toInt hb]
theorem iZ_le {a b : Int} (ha : R32 a) (hb : R32 b) : iZ a ≤ iZ b ↔ a ≤ b := by rw [Int32.le_iff_toInt_le, iZ_toInt ha, iZ_toInt hb]
theorem iZ_eq {a b : Int} (ha : R32 a) (hb : R32 b) : iZ a = iZ b ↔ a = b := by rw [← Int32.toInt_inj, iZ_toInt ha, iZ_toInt hb]
theorem iZ_0 : iZ 0 = 0 := by decide
theorem iZ_1 : iZ 1 = 1 := by decide
theorem iZ_clamp {z : Int} (h : R32 z) : (iZ z).toNatClampNeg = z.toNat := by
  show (iZ z).toInt.toNat = _
  rw [iZ_toInt h]
theorem iZ_in {i : Int} {n : Nat} (hi : 0 ≤ i ∧ i < (n : Int)) (hn : Nat.ble n 4096 = true) : vp_in (iZ i) n := by
  have hn := Nat.le_of_ble_eq_true hn
  rw [vp_in_iff, iZ_toInt (by omega)]
  exact hi
theorem lZ_toInt {z : Int} (h : R64 z) : (lZ z).toInt = z := Int64.toInt_ofInt_of_le (by omega) (by omega)
theorem lZ_add (a b : Int) : lZ a + lZ b = lZ (a + b) := (Int64.ofInt_add a b).symm
theorem lZ_mul (a b : Int) : lZ a * lZ b = lZ (a * b) := (Int64.ofInt_mul a b).symm
theorem lZ_i {z : Int} (h : R32 z) : (iZ z).toInt64 = lZ z := by
  rw [← Int64.toInt_inj, Int32.toInt_toInt64, iZ_toInt h, lZ_toInt (by omega)]
theorem lZ_lt {a b : Int} (ha : R64 a) (hb : R64 b) : lZ a < lZ b ↔ a < b := by rw [Int64.lt_iff_toInt_lt, lZ_toInt ha, lZ_toInt hb]
theorem lZ_eq {a b : Int} (ha : R64 a) (hb : R64 b) : lZ a = lZ b ↔ a = b := by rw [← Int64.toInt_inj, lZ_toInt ha, lZ_toInt hb]
theorem iZ_div {a b : Int} (ha : 0 ≤ a ∧ a ≤ 2147483647) (hb : 0 < b ∧ b ≤ 2147483647) : iZ a / iZ b = iZ (a / b) := by
  have hR : R32 (a / b) := ⟨by have := Int.ediv_nonneg ha.1 (Int.le_of_lt hb.1); omega, by have := Int.ediv_le_self b ha.1; omega⟩
  rw [← Int32.toInt_inj, iZ_toInt hR, Int32.toInt_div_of_ne_right _ _ (fun h => by
    have := congrArg Int32.toInt h
    rw [iZ_toInt (by omega)] at this
    have e : (-1 : Int32).toInt = -1 := by decide
    omega), iZ_toInt (by omega), iZ_toInt (by omega), Int.tdiv_eq_ediv_of_nonneg ha.1]
theorem iZ_rem {a b : Int} (ha : 0 ≤ a ∧ a ≤ 2147483647) (hb : 0 < b ∧ b ≤ 2147483647) : iZ a - iZ a / iZ b * iZ b = iZ (a % b) := by
  rw [iZ_div ha hb, iZ_mul, iZ_sub, Int.emod_def, Int.mul_comm]
theorem iZ_b {z : Int} (h : -128 ≤ z ∧ z ≤ 127) : (Int8.ofInt z).toInt32 = iZ z := by
  rw [← Int32.toInt_inj, Int8.toInt_toInt32, iZ_toInt (by omega), Int8.toInt_ofInt_of_le (by omega) (by omega)]
theorem iZ_s {z : Int} (h : -32768 ≤ z ∧ z ≤ 32767) : (Int16.ofInt z).toInt32 = iZ z := by
  rw [← Int32.toInt_inj, Int16.toInt_toInt32, iZ_toInt (by omega), Int16.toInt_ofInt_of_le (by omega) (by omega)]
/-! bits, as the machine has them: whole numbers out of its answers -/
def bAnd (a b : Int) : Int := (iZ a &&& iZ b).toInt
def bOr (a b : Int) : Int := (iZ a ||| iZ b).toInt
def bXor (a b : Int) : Int := (iZ a ^^^ iZ b).toInt
def bShl (a b : Int) : Int := (iZ a <<< (iZ b &&& 31)).toInt
def bShr (a b : Int) : Int := (iZ a >>> (iZ b &&& 31)).toInt
def bUshr (a b : Int) : Int := ((iZ a).toUInt32 >>> ((iZ b).toUInt32 &&& Int32.toUInt32 31)).toInt32.toInt
def bB (a : Int) : Int := (iZ a).toInt8.toInt32.toInt
def bS (a : Int) : Int := (iZ a).toInt16.toInt32.toInt
def bW (a : Int) : Int := (iZ a).toInt
def cmpL (a b : Int) : Int := if b < a then 1 else if a = b then 0 else -1
def b2i (P : Prop) [Decidable P] : Int := if P then 1 else 0
theorem b2i_t {P : Prop} [Decidable P] (h : P) : b2i P = 1 := if_pos h
theorem b2i_f {P : Prop} [Decidable P] (h : ¬ P) : b2i P = 0 := if_neg h
theorem b2i_R (P : Prop) [Decidable P] : b2i P = 0 ∨ b2i P = 1 := by unfold b2i; split <;> simp
/-! from the picture to the machine -/
def cv (b : Nat) (v : AV) : Value := match v with
  | .inl z => .int (iZ z)
  | .inr (.inl z) => .long (lZ z)
  | .inr (.inr o) => va_rf (o.map (fun k => b + k))
def cE (x : Cx) (c : AC) : va_E := match c with
  | .inl (t, n, f) => .inl (if t = 0 then x.2.2.1 else x.2.2.2.1, n, .inl (fun j => iZ (f (j : Int))))
  | .inr (.inl (n, f)) => .inl (x.2.2.2.2, n, .inr (.inr (.inr (.inr (fun j => (f (j : Int)).map (fun k => x.1 + k))))))
  | .inr (.inr (ci, fs)) => .inr (ci, fs.map (cv x.1))
def cw (x : Cx) (n : Nat) (w : AW) : va_W := (List.range n).map (fun k => (x.1 + k, cE x (w k)))
abbrev tysX (x : Cx) : List (ClassId × FieldType) := [(x.2.2.1, .int), (x.2.2.2.1, .boolean), (x.2.2.2.2, .object "BishopsPeace$Sheet")]
abbrev AX (x : Cx) : Nat → Prop := fun q => x.1 ≤ q
theorem cw_at {x : Cx} {n k : Nat} {w : AW} (h : k < n) : (cw x n w)[k]? = some (x.1 + k, cE x (w k)) := by simp [cw, h]
theorem cw_is {x : Cx} {n k : Nat} {w : AW} {q : Nat × va_E} (h : (cw x n w)[k]? = some q) : k < n ∧ q = (x.1 + k, cE x (w k)) := by
  have hl : k < n := by
    have := (List.getElem?_eq_some_iff.mp h).1
    simpa [cw] using this
  rw [cw_at hl] at h
  exact ⟨hl, (Option.some.inj h).symm⟩
theorem cw_len {x : Cx} {n : Nat} {w : AW} : (cw x n w).length = n := by simp [cw]
theorem cw_set {x : Cx} {n k : Nat} {w : AW} {c : AC} (h : k < n) : (cw x n w).set k (x.1 + k, cE x c) = cw x n (upw w k c) := by
  apply List.ext_getElem?
  intro j
  by_cases hj : j < n
  · by_cases hk : j = k
    · subst hk
      rw [List.getElem?_set_self (by rw [cw_len]; exact hj), cw_at hj, upw_s]
    · rw [List.getElem?_set_ne (Ne.symm hk), cw_at hj, cw_at hj, upw_o hk rfl]
  · rw [List.getElem?_eq_none (by rw [List.length_set, cw_len]; omega), List.getElem?_eq_none (by rw [cw_len]; omega)]
theorem cw_push {x : Cx} {n : Nat} {w : AW} {c : AC} : cw x n w ++ [(x.1 + n, cE x c)] = cw x (n + 1) (upw w n c) := by
  unfold cw
  rw [List.range_succ, List.map_append]
  congr 1
  · apply List.map_congr_left
    intro k hk
    rw [upw_o (Nat.ne_of_lt (List.mem_range.mp hk)) rfl]
  · simp [upw_s]
theorem cw_D (x : Cx) (n : Nat) (w : AW) : va_D (AX x) (cw x n w) := by
  refine ⟨fun i j p q hp hq he => ?_, fun k q hq => ?_⟩
  · obtain ⟨-, rfl⟩ := cw_is hp
    obtain ⟨-, rfl⟩ := cw_is hq
    have : x.1 + i = x.1 + j := he
    omega
  · obtain ⟨-, rfl⟩ := cw_is hq
    exact Nat.le_add_right _ _
theorem upf_c (f : Int → Int) {i v : Int} (hi : R32 i ∧ 0 ≤ i) : upd (fun j => iZ (f (j : Int))) (iZ i).toNatClampNeg (iZ v) = fun j : Nat => iZ (upf f i v (j : Int)) := by
  funext j
  rw [iZ_clamp hi.1]
  unfold upd upf
  by_cases h : j = i.toNat
  · rw [if_pos h, if_pos (by omega)]
  · rw [if_neg h, if_neg (by omega)]
theorem upr_c (f : Int → Option Nat) {b k : Nat} {i : Int} (hi : R32 i ∧ 0 ≤ i) : va_up (fun j => (f (j : Int)).map (fun k => b + k)) (iZ i).toNatClampNeg (some (b + k)) = fun j : Nat => (upr f i (some k) (j : Int)).map (fun k => b + k) := by
  funext j
  rw [iZ_clamp hi.1]
  unfold va_up upr
  by_cases h : j = i.toNat
  · rw [if_pos h, if_pos (by omega)]; rfl
  · rw [if_neg h, if_neg (by omega)]
/-! locals: the list of what each slot holds, where it is known -/
def lvL (b : Nat) : Nat → List (Option AV) → List (Nat × Value)
  | _, [] => []
  | k, none :: t => lvL b (k + 1) t
  | k, some v :: t => (k, cv b v) :: lvL b (k + 1) t
def lk : List (Option AV) → Nat → Option AV
  | [], _ => none
  | a :: _, 0 => a
  | _ :: t, i + 1 => lk t i
def sv : List (Option AV) → Nat → Option AV → List (Option AV)
  | [], _, _ => []
  | _ :: t, 0, v => v :: t
  | a :: t, i + 1, v => a :: sv t i v
theorem lvL_mem {b : Nat} : ∀ (L : List (Option AV)) (k : Nat) (q : Nat × Value), q ∈ lvL b k L ↔ ∃ i v, lk L i = some v ∧ q = (k + i, cv b v)
  | [], k, q => by
    simp only [lvL, List.not_mem_nil, false_iff]
    rintro ⟨i, v, h, -⟩
    simp [lk] at h
  | none :: t, k, q => by
    rw [lvL, lvL_mem t (k + 1) q]
    constructor
    · rintro ⟨i, v, h, rfl⟩
      exact ⟨i + 1, v, h, by rw [Nat.add_assoc, Nat.add_comm 1 i]⟩
    · rintro ⟨i, v, h, rfl⟩
      cases i with
      | zero => simp [lk] at h
      | succ i => exact ⟨i, v, h, by rw [Nat.add_assoc, Nat.add_comm 1 i]⟩
  | some a :: t, k, q => by
    rw [lvL, List.mem_cons, lvL_mem t (k + 1) q]
    constructor
    · rintro (rfl | ⟨i, v, h, rfl⟩)
      · exact ⟨0, a, rfl, rfl⟩
      · exact ⟨i + 1, v, h, by rw [Nat.add_assoc, Nat.add_comm 1 i]⟩
    · rintro ⟨i, v, h, rfl⟩
      cases i with
      | zero =>
        simp [lk] at h
        subst h
        exact Or.inl rfl
      | succ i => exact Or.inr ⟨i, v, h, by rw [Nat.add_assoc, Nat.add_comm 1 i]⟩
abbrev LH (b : Nat) (ls : Array Slot) (nL : Nat) (L : List (Option AV)) : Prop := lv_has ls nL (lvL b 0 L)
theorem LH.at {b : Nat} {ls : Array Slot} {nL : Nat} {L : List (Option AV)} (h : LH b ls nL L) {i : Nat} {v : AV} (hi : lk L i = some v) : ls[i]? = some (.val (cv b v)) :=
  h.2.2 (i, cv b v) ((lvL_mem L 0 _).mpr ⟨i, v, hi, by rw [Nat.zero_add]⟩)
theorem sv_lk : ∀ (L : List (Option AV)) (i j : Nat) (v : Option AV) (u : AV), lk (sv L i v) j = some u → (j = i ∧ v = some u) ∨ (j ≠ i ∧ lk L j = some u)
  | [], i, j, v, u, h => by simp [sv, lk] at h
  | a :: t, 0, 0, v, u, h => Or.inl ⟨rfl, h⟩
  | a :: t, 0, j + 1, v, u, h => Or.inr ⟨by omega, h⟩
  | a :: t, i + 1, 0, v, u, h => Or.inr ⟨by omega, h⟩
  | a :: t, i + 1, j + 1, v, u, h => by
    rcases sv_lk t i j v u h with ⟨h1, h2⟩ | ⟨h1, h2⟩
    · exact Or.inl ⟨by omega, h2⟩
    · exact Or.inr ⟨by omega, h2⟩
/-- no long stands just below slot i -/
def okS (L : List (Option AV)) (i : Nat) : Bool := match i with
  | 0 => true
  | j + 1 => match lk L j with
    | some (.inr (.inl _)) => false
    | _ => true
theorem cv_cat (b : Nat) (v : AV) : (cv b v).category = 2 → ∃ z, v = .inr (.inl z) := by
  intro h
  rcases v with z | z | o
  · simp [cv, Value.category] at h
  · exact ⟨z, rfl⟩
  · cases o <;> simp [cv, va_rf, Value.category] at h
theorem LH.weak {b : Nat} {ls : Array Slot} {nL : Nat} {L L' : List (Option AV)} (h : LH b ls nL L) (hw : ∀ i v, lk L' i = some v → lk L i = some v) : LH b ls nL L' := by
  refine ⟨h.1, h.2.1, fun q hq => ?_⟩
  obtain ⟨i, v, h1, rfl⟩ := (lvL_mem L' 0 q).mp hq
  rw [Nat.zero_add]
  exact h.at (hw i v h1)
theorem LH.st1 {b : Nat} {ls' : Array Slot} {nL i : Nat} {L : List (Option AV)} {v : AV} (hok : okS L i = true)
    (h : lv_has ls' nL ((i, cv b v) :: (lvL b 0 L).filter (fun q => !(q.1 == i) && !(q.1 + 1 == i && q.2.category == 2)))) : LH b ls' nL (sv L i (some v)) := by
  refine ⟨h.1, h.2.1, fun q hq => h.2.2 q ?_⟩
  obtain ⟨j, u, h1, rfl⟩ := (lvL_mem _ 0 q).mp hq
  rcases sv_lk L i j _ u h1 with ⟨rfl, h2⟩ | ⟨h2, h3⟩
  · cases h2
    rw [Nat.zero_add]
    exact List.mem_cons_self
  · refine List.mem_cons_of_mem _ (List.mem_filter.mpr ⟨(lvL_mem L 0 _).mpr ⟨j, u, h3, rfl⟩, ?_⟩)
    simp only [Nat.zero_add, Bool.and_eq_true, Bool.not_eq_true', beq_eq_false_iff_ne, Bool.and_eq_false_iff]
    refine ⟨h2, ?_⟩
    by_cases hc : (cv b u).category = 2
    · left
      intro he
      obtain ⟨z, rfl⟩ := cv_cat b u hc
      subst he
      simp [okS, h3] at hok
    · exact Or.inr hc
theorem LH.st2 {b : Nat} {ls' : Array Slot} {nL i : Nat} {L : List (Option AV)} {v : AV} (hok : okS L i = true)
    (h : lv_has ls' nL ((i, cv b v) :: (lvL b 0 L).filter (fun q => !(q.1 == i) && (!(q.1 == i + 1) && !(q.1 + 1 == i && q.2.category == 2))))) : LH b ls' nL (sv (sv L i (some v)) (i + 1) none) := by
  refine ⟨h.1, h.2.1, fun q hq => h.2.2 q ?_⟩
  obtain ⟨j, u, h1, rfl⟩ := (lvL_mem _ 0 q).mp hq
  rcases sv_lk _ (i + 1) j _ u h1 with ⟨rfl, h2⟩ | ⟨h5, h1⟩
  · cases h2
  rcases sv_lk L i j _ u h1 with ⟨rfl, h2⟩ | ⟨h2, h3⟩
  · cases h2
    rw [Nat.zero_add]
    exact List.mem_cons_self
  · refine List.mem_cons_of_mem _ (List.mem_filter.mpr ⟨(lvL_mem L 0 _).mpr ⟨j, u, h3, rfl⟩, ?_⟩)
    simp only [Nat.zero_add, Bool.and_eq_true, Bool.not_eq_true', beq_eq_false_iff_ne, Bool.and_eq_false_iff]
    refine ⟨h2, h5, ?_⟩
    by_cases hc : (cv b u).category = 2
    · left
      intro he
      obtain ⟨z, rfl⟩ := cv_cat b u hc
      subst he
      simp [okS, h3] at hok
    · exact Or.inr hc
/-- a method's first locals -/
def entA : List AV → List (Option AV)
  | [] => []
  | (.inr (.inl z)) :: t => some (vL z) :: none :: entA t
  | v :: t => some v :: entA t
def entL (As : List AV) (nL : Nat) : List (Option AV) := entA As ++ List.replicate (nL - (entA As).length) none
end
section
/-! THE JUDGEMENT Gj: the machine, in method y at pc, with locals L, stack S, world w of n places, comes back to its caller with an answer and a world of which Q holds; and its rows, one an instruction -/
def lw_g : List Cond := lw_tbl.filter goodWord
theorem mg {t : Cond} (i : Nat) (h : lw_tbl[i]? = some t) (hg : goodWord t = true) : t ∈ lw_g := List.mem_filter.mpr ⟨List.mem_of_getElem? h, hg⟩
theorem mgs {l : List Cond} (h : ∀ t ∈ l, t ∈ lw_tbl) (hg : l.all goodWord = true) : ∀ t ∈ l, t ∈ lw_g := fun t ht => List.mem_filter.mpr ⟨h t ht, List.all_eq_true.mp hg t ht⟩
abbrev rmX (d mc ms : Nat) : Room := { frames := d, cells := mc, slots := ms, locals := 40 * d }
def FX (y : MI) (p : Program) (s : State) (m : MethodId) (args : Array Value) (meth : Method) (c : Code) : Prop :=
  p.tables.exec = Jvm.exec ∧ c.code = y.2.1 ∧ meth.sig.returnType = y.2.2.2 ∧ c.maxLocals = y.2.2.1 ∧ s.vm.findClass y.1.cls = some m.cls ∧ (∀ t ∈ lw_g, t.before args s = true) ∧ meth.locks = false ∧ meth.name = y.1.name
def HX (x : Cx) (n : Nat) (w : AW) (s : State) (H : Heap) (locs : List Loc) (cells : Nat) : Prop :=
  va_K x.2.1 vwCl (tysX x) s ∧ va_P x.2.1 vwCl (cw x n w) H ∧ s.heap.size + cells = x.1 + n ∧ va_S (AX x) s.heap H locs ∧ (x.1 ≤ s.heap.size ∧ va_AO "BishopsPeace$Sheet" s)
abbrev QT : Type := Option AV → AW → Prop
def QcA (x : Cx) (n : Nat) (Q : QT) : Array Value → State → Outcome → State → Prop := fun _ st oc t =>
  (∃ (v : Option AV) (w : AW), oc = .returned (v.map (cv x.1)) ∧ Q v w ∧ va_K x.2.1 vwCl (tysX x) t ∧ va_P x.2.1 vwCl (cw x n w) t.heap) ∧ va_F (AX x) st t
def Gj (l : Launch) (x : Cx) (y : MI) (d mc ms nf : Nat) (Q : QT) (kc ks n : Nat) (w : AW) (pc : Nat) (L : List (Option AV)) (S : List AV) : Prop :=
  ∀ (p : Program) (e : Env) (s : State) (m : MethodId) (args : Array Value) (below : List Frame) (meth : Method) (c : Code) (H : Heap) (locs : List Loc) (cells slots : Nat) (ls : Array Slot),
    FX y p s m args meth c → HX x n w s H locs cells → cells + kc = mc ∧ n + kc = nf → slots + ks ≤ ms → LH x.1 ls y.2.2.1 L →
    W p l e (rmX d mc ms) s m args below meth c H locs cells slots (MQ below (QcA x nf Q) args s mc ms (AX x)) (F0 m pc ls (S.map (cv x.1)))
def AtI (y : MI) (pc : Nat) (i : Instr) (k nx : Nat) : Prop := decode y.2.1 pc = .ok (i, k) ∧ pc + k = nx
def AtJ (y : MI) (pc : Nat) (i : Instr) (off : Int) (nx tg : Nat) : Prop := decode y.2.1 pc = .ok (i, 3) ∧ pc + 3 = nx ∧ (pc : Int) + off = (tg : Int)
section GJ
variable {l : Launch} {x : Cx} {y : MI} {d mc ms nf : Nat} {Q : QT} {kc ks n : Nat} {w : AW} {pc nx tg : Nat} {L : List (Option AV)} {S : List AV}
theorem gj_iconst {z : Int} (dg : AtI y pc (.iconst z) 1 nx)  (k : Gj l x y d mc ms nf Q kc ks n w nx L (vI z :: S)) : Gj l x y d mc ms nf Q kc ks n w pc L S := by
  intro p e s m args below meth c H locs cells slots ls F X h1 h2 hl
  have kk := k p e s m args below meth c H locs cells slots ls F X h1 h2 hl
  rw [← dg.2] at kk
  exact lv_iconst F.1 F.2.1 dg.1 rfl kk
theorem gj_bipush {z : Int} (dg : AtI y pc (.bipush z) 2 nx) (hz : decide (-128 ≤ z ∧ z ≤ 127) = true := by rfl) (k : Gj l x y d mc ms nf Q kc ks n w nx L (vI z :: S)) : Gj l x y d mc ms nf Q kc ks n w pc L S := by
  intro p e s m args below meth c H locs cells slots ls F X h1 h2 hl
  have kk := k p e s m args below meth c H locs cells slots ls F X h1 h2 hl
  rw [← dg.2] at kk
  exact lv_bipush F.1 F.2.1 dg.1 (iZ_b (of_decide_eq_true hz)) kk
theorem gj_sipush {z : Int} (dg : AtI y pc (.sipush z) 3 nx) (hz : decide (-32768 ≤ z ∧ z ≤ 32767) = true := by rfl) (k : Gj l x y d mc ms nf Q kc ks n w nx L (vI z :: S)) : Gj l x y d mc ms nf Q kc ks n w pc L S := by
  intro p e s m args below meth c H locs cells slots ls F X h1 h2 hl
  have kk := k p e s m args below meth c H locs cells slots ls F X h1 h2 hl
  rw [← dg.2] at kk
  exact lv_sipush F.1 F.2.1 dg.1 (iZ_s (of_decide_eq_true hz)) kk
theorem gj_lconst0  (dg : AtI y pc (.lconst 0) 1 nx)  (k : Gj l x y d mc ms nf Q kc ks n w nx L (vL 0 :: S)) : Gj l x y d mc ms nf Q kc ks n w pc L S := by
  intro p e s m args below meth c H locs cells slots ls F X h1 h2 hl
  have kk := k p e s m args below meth c H locs cells slots ls F X h1 h2 hl
  rw [← dg.2] at kk
  exact lv_lconst F.1 F.2.1 dg.1 (show Int64.ofNat _ = lZ 0 by decide) kk
theorem gj_lconst1  (dg : AtI y pc (.lconst 1) 1 nx)  (k : Gj l x y d mc ms nf Q kc ks n w nx L (vL 1 :: S)) : Gj l x y d mc ms nf Q kc ks n w pc L S := by
  intro p e s m args below meth c H locs cells slots ls F X h1 h2 hl
  have kk := k p e s m args below meth c H locs cells slots ls F X h1 h2 hl
  rw [← dg.2] at kk
  exact lv_lconst F.1 F.2.1 dg.1 (show Int64.ofNat _ = lZ 1 by decide) kk
theorem gj_ldc {z : Int} {j : Nat} (dg : AtI y pc (.ldc j) 2 nx) (hc : Cond.constant y.1.cls j (iZ z) ∈ lw_g) (k : Gj l x y d mc ms nf Q kc ks n w nx L (vI z :: S)) : Gj l x y d mc ms nf Q kc ks n w pc L S := by
  intro p e s m args below meth c H locs cells slots ls F X h1 h2 hl
  have kk := k p e s m args below meth c H locs cells slots ls F X h1 h2 hl
  rw [← dg.2] at kk
  exact lv_ldc F.1 F.2.1 F.2.2.2.2.1 (F.2.2.2.2.2.1 _ hc) dg.1 kk
theorem gj_ldcw {z : Int} {j : Nat} (dg : AtI y pc (.ldc_w j) 3 nx) (hc : Cond.constant y.1.cls j (iZ z) ∈ lw_g) (k : Gj l x y d mc ms nf Q kc ks n w nx L (vI z :: S)) : Gj l x y d mc ms nf Q kc ks n w pc L S := by
  intro p e s m args below meth c H locs cells slots ls F X h1 h2 hl
  have kk := k p e s m args below meth c H locs cells slots ls F X h1 h2 hl
  rw [← dg.2] at kk
  exact lv_ldcw F.1 F.2.1 F.2.2.2.2.1 (F.2.2.2.2.2.1 _ hc) dg.1 kk
theorem gj_ldc2 {z : Int} {j : Nat} (dg : AtI y pc (.ldc2_w j) 3 nx) (hc : Cond.constantLong y.1.cls j (lZ z) ∈ lw_g) (k : Gj l x y d mc ms nf Q kc ks n w nx L (vL z :: S)) : Gj l x y d mc ms nf Q kc ks n w pc L S := by
  intro p e s m args below meth c H locs cells slots ls F X h1 h2 hl
  have kk := k p e s m args below meth c H locs cells slots ls F X h1 h2 hl
  rw [← dg.2] at kk
  exact lv_ldc2 F.1 F.2.1 F.2.2.2.2.1 (F.2.2.2.2.2.1 _ hc) dg.1 kk
theorem gj_iload {i : Nat} {z : Int} (dg : AtI y pc (.iload i) 2 nx) (hL : lk L i = some (vI z)) (k : Gj l x y d mc ms nf Q kc ks n w nx L (vI z :: S)) : Gj l x y d mc ms nf Q kc ks n w pc L S := by
  intro p e s m args below meth c H locs cells slots ls F X h1 h2 hl
  have kk := k p e s m args below meth c H locs cells slots ls F X h1 h2 hl
  rw [← dg.2] at kk
  exact lv_iload F.1 F.2.1 dg.1 (hl.at hL) kk
theorem gj_iload_n {i : Fin 4} {z : Int} (dg : AtI y pc (.iload_n i) 1 nx) (hL : lk L (i : Nat) = some (vI z)) (k : Gj l x y d mc ms nf Q kc ks n w nx L (vI z :: S)) : Gj l x y d mc ms nf Q kc ks n w pc L S := by
  intro p e s m args below meth c H locs cells slots ls F X h1 h2 hl
  have kk := k p e s m args below meth c H locs cells slots ls F X h1 h2 hl
  rw [← dg.2] at kk
  exact lv_iload_n F.1 F.2.1 dg.1 rfl (hl.at hL) kk
theorem gj_lload {i : Nat} {z : Int} (dg : AtI y pc (.lload i) 2 nx) (hL : lk L i = some (vL z)) (k : Gj l x y d mc ms nf Q kc ks n w nx L (vL z :: S)) : Gj l x y d mc ms nf Q kc ks n w pc L S := by
  intro p e s m args below meth c H locs cells slots ls F X h1 h2 hl
  have kk := k p e s m args below meth c H locs cells slots ls F X h1 h2 hl
  rw [← dg.2] at kk
  exact lv_lload F.1 F.2.1 dg.1 (hl.at hL) kk
theorem gj_lload_n {i : Fin 4} {z : Int} (dg : AtI y pc (.lload_n i) 1 nx) (hL : lk L (i : Nat) = some (vL z)) (k : Gj l x y d mc ms nf Q kc ks n w nx L (vL z :: S)) : Gj l x y d mc ms nf Q kc ks n w pc L S := by
  intro p e s m args below meth c H locs cells slots ls F X h1 h2 hl
  have kk := k p e s m args below meth c H locs cells slots ls F X h1 h2 hl
  rw [← dg.2] at kk
  exact lv_lload_n F.1 F.2.1 dg.1 rfl (hl.at hL) kk
theorem gj_aload {i : Nat} {z : Nat} (dg : AtI y pc (.aload i) 2 nx) (hL : lk L i = some (vR z)) (k : Gj l x y d mc ms nf Q kc ks n w nx L (vR z :: S)) : Gj l x y d mc ms nf Q kc ks n w pc L S := by
  intro p e s m args below meth c H locs cells slots ls F X h1 h2 hl
  have kk := k p e s m args below meth c H locs cells slots ls F X h1 h2 hl
  rw [← dg.2] at kk
  exact lv_aload F.1 F.2.1 dg.1 (hl.at hL) kk
theorem gj_aload_n {i : Fin 4} {z : Nat} (dg : AtI y pc (.aload_n i) 1 nx) (hL : lk L (i : Nat) = some (vR z)) (k : Gj l x y d mc ms nf Q kc ks n w nx L (vR z :: S)) : Gj l x y d mc ms nf Q kc ks n w pc L S := by
  intro p e s m args below meth c H locs cells slots ls F X h1 h2 hl
  have kk := k p e s m args below meth c H locs cells slots ls F X h1 h2 hl
  rw [← dg.2] at kk
  exact lv_aload_n F.1 F.2.1 dg.1 rfl (hl.at hL) kk
theorem gj_istore {i : Nat} {z : Int} (dg : AtI y pc (.istore i) 2 nx) (hn : Nat.blt i y.2.2.1 = true) (hok : okS L i = true) (k : Gj l x y d mc ms nf Q kc ks n w nx (sv L i (some (vI z))) S) : Gj l x y d mc ms nf Q kc ks n w pc L (vI z :: S) := by
  intro p e s m args below meth c H locs cells slots ls F X h1 h2 hl
  refine lv_istore F.1 F.2.1 dg.1 hl (Nat.le_of_ble_eq_true hn) rfl (fun ls' hl' => ?_)
  have kk := k p e s m args below meth c H locs cells slots ls' F X h1 h2 (LH.st1 hok hl')
  rw [← dg.2] at kk
  exact kk
theorem gj_istore_n {i : Fin 4} {z : Int} (dg : AtI y pc (.istore_n i) 1 nx) (hn : Nat.blt (i : Nat) y.2.2.1 = true) (hok : okS L (i : Nat) = true) (k : Gj l x y d mc ms nf Q kc ks n w nx (sv L (i : Nat) (some (vI z))) S) : Gj l x y d mc ms nf Q kc ks n w pc L (vI z :: S) := by
  intro p e s m args below meth c H locs cells slots ls F X h1 h2 hl
  refine lv_istore_n F.1 F.2.1 dg.1 rfl hl (Nat.le_of_ble_eq_true hn) rfl (fun ls' hl' => ?_)
  have kk := k p e s m args below meth c H locs cells slots ls' F X h1 h2 (LH.st1 hok hl')
  rw [← dg.2] at kk
  exact kk
theorem gj_astore {i : Nat} {z : Nat} (dg : AtI y pc (.astore i) 2 nx) (hn : Nat.blt i y.2.2.1 = true) (hok : okS L i = true) (k : Gj l x y d mc ms nf Q kc ks n w nx (sv L i (some (vR z))) S) : Gj l x y d mc ms nf Q kc ks n w pc L (vR z :: S) := by
  intro p e s m args below meth c H locs cells slots ls F X h1 h2 hl
  refine lv_astore F.1 F.2.1 dg.1 hl (Nat.le_of_ble_eq_true hn) rfl (fun ls' hl' => ?_)
  have kk := k p e s m args below meth c H locs cells slots ls' F X h1 h2 (LH.st1 hok hl')
  rw [← dg.2] at kk
  exact kk
theorem gj_astore_n {i : Fin 4} {z : Nat} (dg : AtI y pc (.astore_n i) 1 nx) (hn : Nat.blt (i : Nat) y.2.2.1 = true) (hok : okS L (i : Nat) = true) (k : Gj l x y d mc ms nf Q kc ks n w nx (sv L (i : Nat) (some (vR z))) S) : Gj l x y d mc ms nf Q kc ks n w pc L (vR z :: S) := by
  intro p e s m args below meth c H locs cells slots ls F X h1 h2 hl
  refine lv_astore_n F.1 F.2.1 dg.1 rfl hl (Nat.le_of_ble_eq_true hn) rfl (fun ls' hl' => ?_)
  have kk := k p e s m args below meth c H locs cells slots ls' F X h1 h2 (LH.st1 hok hl')
  rw [← dg.2] at kk
  exact kk
theorem gj_lstore {i : Nat} {z : Int} (dg : AtI y pc (.lstore i) 2 nx) (hn : Nat.blt (i + 1) y.2.2.1 = true) (hok : okS L i = true) (k : Gj l x y d mc ms nf Q kc ks n w nx (sv (sv L i (some (vL z))) (i + 1) none) S) : Gj l x y d mc ms nf Q kc ks n w pc L (vL z :: S) := by
  intro p e s m args below meth c H locs cells slots ls F X h1 h2 hl
  refine lv_lstore F.1 F.2.1 dg.1 hl (Nat.le_of_ble_eq_true hn) rfl (fun ls' hl' => ?_)
  have kk := k p e s m args below meth c H locs cells slots ls' F X h1 h2 (LH.st2 hok hl')
  rw [← dg.2] at kk
  exact kk
theorem gj_lstore_n {i : Fin 4} {z : Int} (dg : AtI y pc (.lstore_n i) 1 nx) (hn : Nat.blt ((i : Nat) + 1) y.2.2.1 = true) (hok : okS L (i : Nat) = true) (k : Gj l x y d mc ms nf Q kc ks n w nx (sv (sv L (i : Nat) (some (vL z))) ((i : Nat) + 1) none) S) : Gj l x y d mc ms nf Q kc ks n w pc L (vL z :: S) := by
  intro p e s m args below meth c H locs cells slots ls F X h1 h2 hl
  refine lv_lstore_n F.1 F.2.1 dg.1 rfl hl (Nat.le_of_ble_eq_true hn) rfl (fun ls' hl' => ?_)
  have kk := k p e s m args below meth c H locs cells slots ls' F X h1 h2 (LH.st2 hok hl')
  rw [← dg.2] at kk
  exact kk
theorem gj_iinc {i : Nat} {z a : Int} (dg : AtI y pc (.iinc i z) 3 nx) (hn : Nat.blt i y.2.2.1 = true) (hok : okS L i = true) (hL : lk L i = some (vI a)) (k : Gj l x y d mc ms nf Q kc ks n w nx (sv L i (some (vI (a + z)))) S) : Gj l x y d mc ms nf Q kc ks n w pc L S := by
  intro p e s m args below meth c H locs cells slots ls F X h1 h2 hl
  have hm : (i, Value.int (iZ a)) ∈ lvL x.1 0 L := (lvL_mem L 0 _).mpr ⟨i, vI a, hL, by rw [Nat.zero_add]; rfl⟩
  obtain ⟨q, hq⟩ := List.getElem?_of_mem hm
  refine lv_iinc F.1 F.2.1 dg.1 hl (k := q) (v := iZ (a + z)) hq (iZ_add a z) (Nat.le_of_ble_eq_true hn) rfl (fun ls' hl' => ?_)
  have kk := k p e s m args below meth c H locs cells slots ls' F X h1 h2 (LH.st1 (v := vI (a + z)) hok hl')
  rw [← dg.2] at kk
  exact kk
theorem gj_iadd {a b : Int} (dg : AtI y pc .iadd 1 nx)  (k : Gj l x y d mc ms nf Q kc ks n w nx L (vI (a + b) :: S)) : Gj l x y d mc ms nf Q kc ks n w pc L (vI b :: vI a :: S) := by
  intro p e s m args below meth c H locs cells slots ls F X h1 h2 hl
  have kk := k p e s m args below meth c H locs cells slots ls F X h1 h2 hl
  rw [← dg.2] at kk
  exact lv_iadd F.1 F.2.1 dg.1 (by rw [iZ_add a b]; exact kk)
theorem gj_isub {a b : Int} (dg : AtI y pc .isub 1 nx)  (k : Gj l x y d mc ms nf Q kc ks n w nx L (vI (a - b) :: S)) : Gj l x y d mc ms nf Q kc ks n w pc L (vI b :: vI a :: S) := by
  intro p e s m args below meth c H locs cells slots ls F X h1 h2 hl
  have kk := k p e s m args below meth c H locs cells slots ls F X h1 h2 hl
  rw [← dg.2] at kk
  exact lv_isub F.1 F.2.1 dg.1 (by rw [iZ_sub a b]; exact kk)
theorem gj_imul {a b : Int} (dg : AtI y pc .imul 1 nx)  (k : Gj l x y d mc ms nf Q kc ks n w nx L (vI (a * b) :: S)) : Gj l x y d mc ms nf Q kc ks n w pc L (vI b :: vI a :: S) := by
  intro p e s m args below meth c H locs cells slots ls F X h1 h2 hl
  have kk := k p e s m args below meth c H locs cells slots ls F X h1 h2 hl
  rw [← dg.2] at kk
  exact lv_imul F.1 F.2.1 dg.1 (by rw [iZ_mul a b]; exact kk)
theorem gj_ineg {a : Int} (dg : AtI y pc .ineg 1 nx)  (k : Gj l x y d mc ms nf Q kc ks n w nx L (vI (-a) :: S)) : Gj l x y d mc ms nf Q kc ks n w pc L (vI a :: S) := by
  intro p e s m args below meth c H locs cells slots ls F X h1 h2 hl
  have kk := k p e s m args below meth c H locs cells slots ls F X h1 h2 hl
  rw [← dg.2] at kk
  exact lv_ineg F.1 F.2.1 dg.1 (by rw [iZ_neg a]; exact kk)
theorem gj_idiv {a b : Int} (dg : AtI y pc .idiv 1 nx) (ha : 0 ≤ a ∧ a ≤ 2147483647) (hb : 0 < b ∧ b ≤ 2147483647) (k : Gj l x y d mc ms nf Q kc ks n w nx L (vI (a / b) :: S)) : Gj l x y d mc ms nf Q kc ks n w pc L (vI b :: vI a :: S) := by
  intro p e s m args below meth c H locs cells slots ls F X h1 h2 hl
  have kk := k p e s m args below meth c H locs cells slots ls F X h1 h2 hl
  rw [← dg.2] at kk
  exact lv_idiv F.1 F.2.1 dg.1 (fun h => absurd ((iZ_eq (b := 0) (by omega) (by omega)).mp (h.trans iZ_0.symm)) (by omega)) (by rw [iZ_div ha hb]; exact kk)
theorem gj_irem {a b : Int} (dg : AtI y pc .irem 1 nx) (ha : 0 ≤ a ∧ a ≤ 2147483647) (hb : 0 < b ∧ b ≤ 2147483647) (k : Gj l x y d mc ms nf Q kc ks n w nx L (vI (a % b) :: S)) : Gj l x y d mc ms nf Q kc ks n w pc L (vI b :: vI a :: S) := by
  intro p e s m args below meth c H locs cells slots ls F X h1 h2 hl
  have kk := k p e s m args below meth c H locs cells slots ls F X h1 h2 hl
  rw [← dg.2] at kk
  exact lv_irem F.1 F.2.1 dg.1 (fun h => absurd ((iZ_eq (b := 0) (by omega) (by omega)).mp (h.trans iZ_0.symm)) (by omega)) (by rw [iZ_rem ha hb]; exact kk)
theorem gj_iand {a b : Int} (dg : AtI y pc .iand 1 nx)  (k : Gj l x y d mc ms nf Q kc ks n w nx L (vI (bAnd a b) :: S)) : Gj l x y d mc ms nf Q kc ks n w pc L (vI b :: vI a :: S) := by
  intro p e s m args below meth c H locs cells slots ls F X h1 h2 hl
  have kk := k p e s m args below meth c H locs cells slots ls F X h1 h2 hl
  rw [← dg.2] at kk
  exact lv_iand F.1 F.2.1 dg.1 (cast (congrArg (fun v => W p l e (rmX d mc ms) s m args below meth c H locs cells slots (MQ below (QcA x nf Q) args s mc ms (AX x)) (F0 m (pc + 1) ls (Value.int v :: S.map (cv x.1)))) (iZ_of _)) kk)
theorem gj_ior {a b : Int} (dg : AtI y pc .ior 1 nx)  (k : Gj l x y d mc ms nf Q kc ks n w nx L (vI (bOr a b) :: S)) : Gj l x y d mc ms nf Q kc ks n w pc L (vI b :: vI a :: S) := by
  intro p e s m args below meth c H locs cells slots ls F X h1 h2 hl
  have kk := k p e s m args below meth c H locs cells slots ls F X h1 h2 hl
  rw [← dg.2] at kk
  exact lv_ior F.1 F.2.1 dg.1 (cast (congrArg (fun v => W p l e (rmX d mc ms) s m args below meth c H locs cells slots (MQ below (QcA x nf Q) args s mc ms (AX x)) (F0 m (pc + 1) ls (Value.int v :: S.map (cv x.1)))) (iZ_of _)) kk)
theorem gj_ixor {a b : Int} (dg : AtI y pc .ixor 1 nx)  (k : Gj l x y d mc ms nf Q kc ks n w nx L (vI (bXor a b) :: S)) : Gj l x y d mc ms nf Q kc ks n w pc L (vI b :: vI a :: S) := by
  intro p e s m args below meth c H locs cells slots ls F X h1 h2 hl
  have kk := k p e s m args below meth c H locs cells slots ls F X h1 h2 hl
  rw [← dg.2] at kk
  exact lv_ixor F.1 F.2.1 dg.1 (cast (congrArg (fun v => W p l e (rmX d mc ms) s m args below meth c H locs cells slots (MQ below (QcA x nf Q) args s mc ms (AX x)) (F0 m (pc + 1) ls (Value.int v :: S.map (cv x.1)))) (iZ_of _)) kk)
theorem gj_ishl {a b : Int} (dg : AtI y pc .ishl 1 nx)  (k : Gj l x y d mc ms nf Q kc ks n w nx L (vI (bShl a b) :: S)) : Gj l x y d mc ms nf Q kc ks n w pc L (vI b :: vI a :: S) := by
  intro p e s m args below meth c H locs cells slots ls F X h1 h2 hl
  have kk := k p e s m args below meth c H locs cells slots ls F X h1 h2 hl
  rw [← dg.2] at kk
  exact lv_ishl F.1 F.2.1 dg.1 (cast (congrArg (fun v => W p l e (rmX d mc ms) s m args below meth c H locs cells slots (MQ below (QcA x nf Q) args s mc ms (AX x)) (F0 m (pc + 1) ls (Value.int v :: S.map (cv x.1)))) (iZ_of _)) kk)
theorem gj_ishr {a b : Int} (dg : AtI y pc .ishr 1 nx)  (k : Gj l x y d mc ms nf Q kc ks n w nx L (vI (bShr a b) :: S)) : Gj l x y d mc ms nf Q kc ks n w pc L (vI b :: vI a :: S) := by
  intro p e s m args below meth c H locs cells slots ls F X h1 h2 hl
  have kk := k p e s m args below meth c H locs cells slots ls F X h1 h2 hl
  rw [← dg.2] at kk
  exact lv_ishr F.1 F.2.1 dg.1 (cast (congrArg (fun v => W p l e (rmX d mc ms) s m args below meth c H locs cells slots (MQ below (QcA x nf Q) args s mc ms (AX x)) (F0 m (pc + 1) ls (Value.int v :: S.map (cv x.1)))) (iZ_of _)) kk)
theorem gj_iushr {a b : Int} (dg : AtI y pc .iushr 1 nx)  (k : Gj l x y d mc ms nf Q kc ks n w nx L (vI (bUshr a b) :: S)) : Gj l x y d mc ms nf Q kc ks n w pc L (vI b :: vI a :: S) := by
  intro p e s m args below meth c H locs cells slots ls F X h1 h2 hl
  have kk := k p e s m args below meth c H locs cells slots ls F X h1 h2 hl
  rw [← dg.2] at kk
  exact lv_iushr F.1 F.2.1 dg.1 (iZ_of _).symm kk
theorem gj_i2b {a : Int} (dg : AtI y pc .i2b 1 nx)  (k : Gj l x y d mc ms nf Q kc ks n w nx L (vI (bB a) :: S)) : Gj l x y d mc ms nf Q kc ks n w pc L (vI a :: S) := by
  intro p e s m args below meth c H locs cells slots ls F X h1 h2 hl
  have kk := k p e s m args below meth c H locs cells slots ls F X h1 h2 hl
  rw [← dg.2] at kk
  exact lv_i2b F.1 F.2.1 dg.1 (iZ_of _).symm kk
theorem gj_i2s {a : Int} (dg : AtI y pc .i2s 1 nx)  (k : Gj l x y d mc ms nf Q kc ks n w nx L (vI (bS a) :: S)) : Gj l x y d mc ms nf Q kc ks n w pc L (vI a :: S) := by
  intro p e s m args below meth c H locs cells slots ls F X h1 h2 hl
  have kk := k p e s m args below meth c H locs cells slots ls F X h1 h2 hl
  rw [← dg.2] at kk
  exact lv_i2s F.1 F.2.1 dg.1 (iZ_of _).symm kk
theorem gj_i2l {a : Int} (dg : AtI y pc .i2l 1 nx) (ha : R32 a) (k : Gj l x y d mc ms nf Q kc ks n w nx L (vL a :: S)) : Gj l x y d mc ms nf Q kc ks n w pc L (vI a :: S) := by
  intro p e s m args below meth c H locs cells slots ls F X h1 h2 hl
  have kk := k p e s m args below meth c H locs cells slots ls F X h1 h2 hl
  rw [← dg.2] at kk
  exact lv_i2l F.1 F.2.1 dg.1 (lZ_i ha) kk
theorem gj_ladd {a b : Int} (dg : AtI y pc .ladd 1 nx)  (k : Gj l x y d mc ms nf Q kc ks n w nx L (vL (a + b) :: S)) : Gj l x y d mc ms nf Q kc ks n w pc L (vL b :: vL a :: S) := by
  intro p e s m args below meth c H locs cells slots ls F X h1 h2 hl
  have kk := k p e s m args below meth c H locs cells slots ls F X h1 h2 hl
  rw [← dg.2] at kk
  exact lv_ladd F.1 F.2.1 dg.1 (by rw [lZ_add a b]; exact kk)
theorem gj_lmul {a b : Int} (dg : AtI y pc .lmul 1 nx)  (k : Gj l x y d mc ms nf Q kc ks n w nx L (vL (a * b) :: S)) : Gj l x y d mc ms nf Q kc ks n w pc L (vL b :: vL a :: S) := by
  intro p e s m args below meth c H locs cells slots ls F X h1 h2 hl
  have kk := k p e s m args below meth c H locs cells slots ls F X h1 h2 hl
  rw [← dg.2] at kk
  exact lv_lmul F.1 F.2.1 dg.1 (by rw [lZ_mul a b]; exact kk)
theorem cmpL_c {a b : Int} (ha : R64 a) (hb : R64 b) : lg_cmp (lZ a) (lZ b) = iZ (cmpL a b) := by
  unfold lg_cmp cmpL
  simp only [gt_iff_lt, lZ_lt hb ha, lZ_eq ha hb]
  split
  · decide
  · split <;> decide
theorem gj_lcmp {a b : Int} (dg : AtI y pc .lcmp 1 nx) (ha : R64 a) (hb : R64 b) (k : Gj l x y d mc ms nf Q kc ks n w nx L (vI (cmpL a b) :: S)) : Gj l x y d mc ms nf Q kc ks n w pc L (vL b :: vL a :: S) := by
  intro p e s m args below meth c H locs cells slots ls F X h1 h2 hl
  have kk := k p e s m args below meth c H locs cells slots ls F X h1 h2 hl
  rw [← dg.2] at kk
  exact W.lcmp F.1 F.2.1 dg.1 (by rw [cmpL_c ha hb]; exact kk)
theorem gj_dupI {z : Int} (dg : AtI y pc .dup 1 nx)  (k : Gj l x y d mc ms nf Q kc ks n w nx L (vI z :: vI z :: S)) : Gj l x y d mc ms nf Q kc ks n w pc L (vI z :: S) := by
  intro p e s m args below meth c H locs cells slots ls F X h1 h2 hl
  have kk := k p e s m args below meth c H locs cells slots ls F X h1 h2 hl
  rw [← dg.2] at kk
  exact lv_dup F.1 F.2.1 dg.1 rfl kk
theorem gj_dupR {z : Nat} (dg : AtI y pc .dup 1 nx)  (k : Gj l x y d mc ms nf Q kc ks n w nx L (vR z :: vR z :: S)) : Gj l x y d mc ms nf Q kc ks n w pc L (vR z :: S) := by
  intro p e s m args below meth c H locs cells slots ls F X h1 h2 hl
  have kk := k p e s m args below meth c H locs cells slots ls F X h1 h2 hl
  rw [← dg.2] at kk
  exact lv_dup F.1 F.2.1 dg.1 rfl kk
theorem gj_popI {z : Int} (dg : AtI y pc .pop 1 nx)  (k : Gj l x y d mc ms nf Q kc ks n w nx L S) : Gj l x y d mc ms nf Q kc ks n w pc L (vI z :: S) := by
  intro p e s m args below meth c H locs cells slots ls F X h1 h2 hl
  have kk := k p e s m args below meth c H locs cells slots ls F X h1 h2 hl
  rw [← dg.2] at kk
  exact lv_pop F.1 F.2.1 dg.1 rfl kk
theorem gj_dup2 {z : Int} {k1 : Nat} (dg : AtI y pc .dup2 1 nx)  (k : Gj l x y d mc ms nf Q kc ks n w nx L (vI z :: vR k1 :: vI z :: vR k1 :: S)) : Gj l x y d mc ms nf Q kc ks n w pc L (vI z :: vR k1 :: S) := by
  intro p e s m args below meth c H locs cells slots ls F X h1 h2 hl
  have kk := k p e s m args below meth c H locs cells slots ls F X h1 h2 hl
  rw [← dg.2] at kk
  exact lv_dup2_11 F.1 F.2.1 dg.1 rfl rfl kk
theorem gj_goto {off : Int} (dg : AtJ y pc (.goto off) off nx tg) (k : Gj l x y d mc ms nf Q kc ks n w tg L S) : Gj l x y d mc ms nf Q kc ks n w pc L S := by
  intro p e s m args below meth c H locs cells slots ls F X h1 h2 hl
  exact lv_goto F.1 F.2.1 dg.1 dg.2.2 (k p e s m args below meth c H locs cells slots ls F X h1 h2 hl)
theorem gj_icmp_eq {a b off : Int} (dg : AtJ y pc (.if_icmp .eq off) off nx tg) (hr : R32 a ∧ R32 b) (kt : a = b → Gj l x y d mc ms nf Q kc ks n w tg L S) (kf : ¬ (a = b) → Gj l x y d mc ms nf Q kc ks n w nx L S) : Gj l x y d mc ms nf Q kc ks n w pc L (vI b :: vI a :: S) := by
  intro p e s m args below meth c H locs cells slots ls F X h1 h2 hl
  have hi := iZ_eq hr.1 hr.2
  refine lv_icmp_eq F.1 F.2.1 dg.1 dg.2.2 (fun h => kt ?_ p e s m args below meth c H locs cells slots ls F X h1 h2 hl) (fun h => ?_)
  · exact hi.mp h
  · have kk := kf (fun e => h (hi.mpr e)) p e s m args below meth c H locs cells slots ls F X h1 h2 hl
    rw [← dg.2.1] at kk
    exact kk
theorem gj_if_eq {a off : Int} (dg : AtJ y pc (.ifCond .eq off) off nx tg) (hr : R32 a) (kt : a = 0 → Gj l x y d mc ms nf Q kc ks n w tg L S) (kf : ¬ (a = 0) → Gj l x y d mc ms nf Q kc ks n w nx L S) : Gj l x y d mc ms nf Q kc ks n w pc L (vI a :: S) := by
  intro p e s m args below meth c H locs cells slots ls F X h1 h2 hl
  have hz : R32 0 := by omega
  have hi := iZ_eq hr hz
  rw [iZ_0] at hi
  refine lv_if_eq F.1 F.2.1 dg.1 dg.2.2 (fun h => kt ?_ p e s m args below meth c H locs cells slots ls F X h1 h2 hl) (fun h => ?_)
  · exact hi.mp h
  · have kk := kf (fun e => h (hi.mpr e)) p e s m args below meth c H locs cells slots ls F X h1 h2 hl
    rw [← dg.2.1] at kk
    exact kk
theorem gj_icmp_ne {a b off : Int} (dg : AtJ y pc (.if_icmp .ne off) off nx tg) (hr : R32 a ∧ R32 b) (kt : a ≠ b → Gj l x y d mc ms nf Q kc ks n w tg L S) (kf : a = b → Gj l x y d mc ms nf Q kc ks n w nx L S) : Gj l x y d mc ms nf Q kc ks n w pc L (vI b :: vI a :: S) := by
  intro p e s m args below meth c H locs cells slots ls F X h1 h2 hl
  have hi := iZ_eq hr.1 hr.2
  refine lv_icmp_ne F.1 F.2.1 dg.1 dg.2.2 (fun h => kt ?_ p e s m args below meth c H locs cells slots ls F X h1 h2 hl) (fun h => ?_)
  · exact fun e => h (hi.mpr e)
  · have kk := kf (hi.mp h) p e s m args below meth c H locs cells slots ls F X h1 h2 hl
    rw [← dg.2.1] at kk
    exact kk
theorem gj_if_ne {a off : Int} (dg : AtJ y pc (.ifCond .ne off) off nx tg) (hr : R32 a) (kt : a ≠ 0 → Gj l x y d mc ms nf Q kc ks n w tg L S) (kf : a = 0 → Gj l x y d mc ms nf Q kc ks n w nx L S) : Gj l x y d mc ms nf Q kc ks n w pc L (vI a :: S) := by
  intro p e s m args below meth c H locs cells slots ls F X h1 h2 hl
  have hz : R32 0 := by omega
  have hi := iZ_eq hr hz
  rw [iZ_0] at hi
  refine lv_if_ne F.1 F.2.1 dg.1 dg.2.2 (fun h => kt ?_ p e s m args below meth c H locs cells slots ls F X h1 h2 hl) (fun h => ?_)
  · exact fun e => h (hi.mpr e)
  · have kk := kf (hi.mp h) p e s m args below meth c H locs cells slots ls F X h1 h2 hl
    rw [← dg.2.1] at kk
    exact kk
theorem gj_icmp_lt {a b off : Int} (dg : AtJ y pc (.if_icmp .lt off) off nx tg) (hr : R32 a ∧ R32 b) (kt : a < b → Gj l x y d mc ms nf Q kc ks n w tg L S) (kf : ¬ (a < b) → Gj l x y d mc ms nf Q kc ks n w nx L S) : Gj l x y d mc ms nf Q kc ks n w pc L (vI b :: vI a :: S) := by
  intro p e s m args below meth c H locs cells slots ls F X h1 h2 hl
  have hi := iZ_lt hr.1 hr.2
  refine lv_icmp_lt F.1 F.2.1 dg.1 dg.2.2 (fun h => kt ?_ p e s m args below meth c H locs cells slots ls F X h1 h2 hl) (fun h => ?_)
  · exact hi.mp h
  · have kk := kf (fun e => h (hi.mpr e)) p e s m args below meth c H locs cells slots ls F X h1 h2 hl
    rw [← dg.2.1] at kk
    exact kk
theorem gj_if_lt {a off : Int} (dg : AtJ y pc (.ifCond .lt off) off nx tg) (hr : R32 a) (kt : a < 0 → Gj l x y d mc ms nf Q kc ks n w tg L S) (kf : ¬ (a < 0) → Gj l x y d mc ms nf Q kc ks n w nx L S) : Gj l x y d mc ms nf Q kc ks n w pc L (vI a :: S) := by
  intro p e s m args below meth c H locs cells slots ls F X h1 h2 hl
  have hz : R32 0 := by omega
  have hi := iZ_lt hr hz
  rw [iZ_0] at hi
  refine lv_if_lt F.1 F.2.1 dg.1 dg.2.2 (fun h => kt ?_ p e s m args below meth c H locs cells slots ls F X h1 h2 hl) (fun h => ?_)
  · exact hi.mp h
  · have kk := kf (fun e => h (hi.mpr e)) p e s m args below meth c H locs cells slots ls F X h1 h2 hl
    rw [← dg.2.1] at kk
    exact kk
theorem gj_icmp_ge {a b off : Int} (dg : AtJ y pc (.if_icmp .ge off) off nx tg) (hr : R32 a ∧ R32 b) (kt : b ≤ a → Gj l x y d mc ms nf Q kc ks n w tg L S) (kf : ¬ (b ≤ a) → Gj l x y d mc ms nf Q kc ks n w nx L S) : Gj l x y d mc ms nf Q kc ks n w pc L (vI b :: vI a :: S) := by
  intro p e s m args below meth c H locs cells slots ls F X h1 h2 hl
  have hi := iZ_le hr.2 hr.1
  refine lv_icmp_ge F.1 F.2.1 dg.1 dg.2.2 (fun h => kt ?_ p e s m args below meth c H locs cells slots ls F X h1 h2 hl) (fun h => ?_)
  · exact hi.mp h
  · have kk := kf (fun e => h (hi.mpr e)) p e s m args below meth c H locs cells slots ls F X h1 h2 hl
    rw [← dg.2.1] at kk
    exact kk
theorem gj_if_ge {a off : Int} (dg : AtJ y pc (.ifCond .ge off) off nx tg) (hr : R32 a) (kt : 0 ≤ a → Gj l x y d mc ms nf Q kc ks n w tg L S) (kf : ¬ (0 ≤ a) → Gj l x y d mc ms nf Q kc ks n w nx L S) : Gj l x y d mc ms nf Q kc ks n w pc L (vI a :: S) := by
  intro p e s m args below meth c H locs cells slots ls F X h1 h2 hl
  have hz : R32 0 := by omega
  have hi := iZ_le hz hr
  rw [iZ_0] at hi
  refine lv_if_ge F.1 F.2.1 dg.1 dg.2.2 (fun h => kt ?_ p e s m args below meth c H locs cells slots ls F X h1 h2 hl) (fun h => ?_)
  · exact hi.mp h
  · have kk := kf (fun e => h (hi.mpr e)) p e s m args below meth c H locs cells slots ls F X h1 h2 hl
    rw [← dg.2.1] at kk
    exact kk
theorem gj_icmp_gt {a b off : Int} (dg : AtJ y pc (.if_icmp .gt off) off nx tg) (hr : R32 a ∧ R32 b) (kt : b < a → Gj l x y d mc ms nf Q kc ks n w tg L S) (kf : ¬ (b < a) → Gj l x y d mc ms nf Q kc ks n w nx L S) : Gj l x y d mc ms nf Q kc ks n w pc L (vI b :: vI a :: S) := by
  intro p e s m args below meth c H locs cells slots ls F X h1 h2 hl
  have hi := iZ_lt hr.2 hr.1
  refine lv_icmp_gt F.1 F.2.1 dg.1 dg.2.2 (fun h => kt ?_ p e s m args below meth c H locs cells slots ls F X h1 h2 hl) (fun h => ?_)
  · exact hi.mp h
  · have kk := kf (fun e => h (hi.mpr e)) p e s m args below meth c H locs cells slots ls F X h1 h2 hl
    rw [← dg.2.1] at kk
    exact kk
theorem gj_if_gt {a off : Int} (dg : AtJ y pc (.ifCond .gt off) off nx tg) (hr : R32 a) (kt : 0 < a → Gj l x y d mc ms nf Q kc ks n w tg L S) (kf : ¬ (0 < a) → Gj l x y d mc ms nf Q kc ks n w nx L S) : Gj l x y d mc ms nf Q kc ks n w pc L (vI a :: S) := by
  intro p e s m args below meth c H locs cells slots ls F X h1 h2 hl
  have hz : R32 0 := by omega
  have hi := iZ_lt hz hr
  rw [iZ_0] at hi
  refine lv_if_gt F.1 F.2.1 dg.1 dg.2.2 (fun h => kt ?_ p e s m args below meth c H locs cells slots ls F X h1 h2 hl) (fun h => ?_)
  · exact hi.mp h
  · have kk := kf (fun e => h (hi.mpr e)) p e s m args below meth c H locs cells slots ls F X h1 h2 hl
    rw [← dg.2.1] at kk
    exact kk
theorem gj_icmp_le {a b off : Int} (dg : AtJ y pc (.if_icmp .le off) off nx tg) (hr : R32 a ∧ R32 b) (kt : a ≤ b → Gj l x y d mc ms nf Q kc ks n w tg L S) (kf : ¬ (a ≤ b) → Gj l x y d mc ms nf Q kc ks n w nx L S) : Gj l x y d mc ms nf Q kc ks n w pc L (vI b :: vI a :: S) := by
  intro p e s m args below meth c H locs cells slots ls F X h1 h2 hl
  have hi := iZ_le hr.1 hr.2
  refine lv_icmp_le F.1 F.2.1 dg.1 dg.2.2 (fun h => kt ?_ p e s m args below meth c H locs cells slots ls F X h1 h2 hl) (fun h => ?_)
  · exact hi.mp h
  · have kk := kf (fun e => h (hi.mpr e)) p e s m args below meth c H locs cells slots ls F X h1 h2 hl
    rw [← dg.2.1] at kk
    exact kk
theorem gj_if_le {a off : Int} (dg : AtJ y pc (.ifCond .le off) off nx tg) (hr : R32 a) (kt : a ≤ 0 → Gj l x y d mc ms nf Q kc ks n w tg L S) (kf : ¬ (a ≤ 0) → Gj l x y d mc ms nf Q kc ks n w nx L S) : Gj l x y d mc ms nf Q kc ks n w pc L (vI a :: S) := by
  intro p e s m args below meth c H locs cells slots ls F X h1 h2 hl
  have hz : R32 0 := by omega
  have hi := iZ_le hr hz
  rw [iZ_0] at hi
  refine lv_if_le F.1 F.2.1 dg.1 dg.2.2 (fun h => kt ?_ p e s m args below meth c H locs cells slots ls F X h1 h2 hl) (fun h => ?_)
  · exact hi.mp h
  · have kk := kf (fun e => h (hi.mpr e)) p e s m args below meth c H locs cells slots ls F X h1 h2 hl
    rw [← dg.2.1] at kk
    exact kk
theorem gj_ifB_eq {P : Prop} [Decidable P] {off : Int} (dg : AtJ y pc (.ifCond .eq off) off nx tg) (kt : ¬ P → Gj l x y d mc ms nf Q kc ks n w tg L S) (kf : P → Gj l x y d mc ms nf Q kc ks n w nx L S) : Gj l x y d mc ms nf Q kc ks n w pc L (vI (b2i P) :: S) :=
  gj_if_eq dg (by rcases b2i_R P with h | h <;> rw [h] <;> omega) (fun h => kt (fun hp => by rw [b2i_t hp] at h; omega)) (fun h => kf (Decidable.byContradiction fun hp => h (b2i_f hp)))
theorem gj_ifB_ne {P : Prop} [Decidable P] {off : Int} (dg : AtJ y pc (.ifCond .ne off) off nx tg) (kt : P → Gj l x y d mc ms nf Q kc ks n w tg L S) (kf : ¬ P → Gj l x y d mc ms nf Q kc ks n w nx L S) : Gj l x y d mc ms nf Q kc ks n w pc L (vI (b2i P) :: S) :=
  gj_if_ne dg (by rcases b2i_R P with h | h <;> rw [h] <;> omega) (fun h => kt (Decidable.byContradiction fun hp => h (b2i_f hp))) (fun h => kf (fun hp => by rw [b2i_t hp] at h; omega))
theorem gj_same_eq {a b off : Int} (dg : AtJ y pc (.if_icmp .eq off) off nx tg) (h : a = b) (kt : Gj l x y d mc ms nf Q kc ks n w tg L S) : Gj l x y d mc ms nf Q kc ks n w pc L (vI b :: vI a :: S) := by
  subst h
  intro p e s m args below meth c H locs cells slots ls F X h1 h2 hl
  exact lv_icmp_eq F.1 F.2.1 dg.1 dg.2.2 (fun _ => kt p e s m args below meth c H locs cells slots ls F X h1 h2 hl) (fun h => absurd rfl h)
theorem gj_tswI {z dflt lo hi off : Int} {offs : Array Int} {len : Nat} (dg : decode y.2.1 pc = .ok (.tableswitch dflt lo hi offs, len)) (j : Nat) (hr : R32 z) (hz : z = lo + j) (hh : lo + j ≤ hi) (ho : offs[j]? = some off) (ht : (pc : Int) + off = (tg : Int)) (k : Gj l x y d mc ms nf Q kc ks n w tg L S) : Gj l x y d mc ms nf Q kc ks n w pc L (vI z :: S) := by
  intro p e s m args below meth c H locs cells slots ls F X h1 h2 hl
  exact lv_tableIn F.1 F.2.1 dg (by rw [iZ_toInt hr]; omega) (by rw [iZ_toInt hr]; omega) (by rw [iZ_toInt hr, show (z - lo).toNat = j by omega]; exact ho) ht (k p e s m args below meth c H locs cells slots ls F X h1 h2 hl)
theorem gj_tswO {z dflt lo hi : Int} {offs : Array Int} {len : Nat} (dg : decode y.2.1 pc = .ok (.tableswitch dflt lo hi offs, len)) (hr : R32 z) (hz : z < lo ∨ hi < z) (ht : (pc : Int) + dflt = (tg : Int)) (k : Gj l x y d mc ms nf Q kc ks n w tg L S) : Gj l x y d mc ms nf Q kc ks n w pc L (vI z :: S) := by
  intro p e s m args below meth c H locs cells slots ls F X h1 h2 hl
  exact lv_tableOut F.1 F.2.1 dg (by rw [iZ_toInt hr]; exact hz) ht (k p e s m args below meth c H locs cells slots ls F X h1 h2 hl)
theorem gj_loc {L2 : List (Option AV)} (h : ∀ i v, lk L2 i = some v → lk L i = some v) (k : Gj l x y d mc ms nf Q kc ks n w pc L2 S) : Gj l x y d mc ms nf Q kc ks n w pc L S := by
  intro p e s m args below meth c H locs cells slots ls F X h1 h2 hl
  exact k p e s m args below meth c H locs cells slots ls F X h1 h2 (hl.weak h)
theorem gj_eq {L2 : List (Option AV)} {S2 : List AV} {w2 : AW} (hL : L = L2) (hS : S = S2) (hw : w = w2) (k : Gj l x y d mc ms nf Q kc ks n w2 pc L2 S2) : Gj l x y d mc ms nf Q kc ks n w pc L S := by
  subst hL; subst hS; subst hw; exact k
end GJ
end
section
/-! rows of Gj for fields, arrays and new cells -/
def LF (own : String) (j ci i : Nat) (fin : Bool) (ty : FieldType) : Prop := ∃ (C : String) (T : u_T) (N : Nat), vwCl[ci]? = some (C, T, N) ∧ i < N ∧ Cond.fieldLink own j (T i).1 (T i).2.1 (T i).2.2.1 ∈ lw_g ∧ (T i).2.2.2 = fin ∧ parseFieldDescriptor (T i).2.2.1 = some ty ∧ (T i).1 = C
theorem inX0 : ∀ t ∈ u_ws RX0 TX0 1, t ∈ lw_g := mgs (by decide +kernel) (by decide +kernel)
theorem inX1 : ∀ t ∈ u_ws RX1 TX1 4, t ∈ lw_g := mgs (by decide +kernel) (by decide +kernel)
theorem inX2 : ∀ t ∈ u_ws RX2 TX2 10, t ∈ lw_g := mgs (by decide +kernel) (by decide +kernel)
theorem inX3 : ∀ t ∈ u_ws RX3 TX3 5, t ∈ lw_g := mgs (by decide +kernel) (by decide +kernel)
theorem inX4 : ∀ t ∈ u_ws RX4 TX4 5, t ∈ lw_g := mgs (by decide +kernel) (by decide +kernel)
theorem inX5 : ∀ t ∈ u_ws RX5 TX5 6, t ∈ lw_g := mgs (by decide +kernel) (by decide +kernel)
theorem inX6 : ∀ t ∈ u_ws RX6 TX6 8, t ∈ lw_g := mgs (by decide +kernel) (by decide +kernel)
theorem inX7 : ∀ t ∈ u_ws RX7 TX7 4, t ∈ lw_g := mgs (by decide +kernel) (by decide +kernel)
theorem inX8 : ∀ t ∈ u_ws RX8 TX8 9, t ∈ lw_g := mgs (by decide +kernel) (by decide +kernel)
theorem inX9 : ∀ t ∈ u_ws RX9 TX9 29, t ∈ lw_g := mgs (by decide +kernel) (by decide +kernel)
/-- what the tables say of each class: its fields' words, types and names -/
theorem vwCl_all {ci : Nat} {C : String} {T : u_T} {N : Nat} (h : vwCl[ci]? = some (C, T, N)) : (∀ t ∈ u_ws C T N, t ∈ lw_g) ∧ ∃ ty : Nat → FieldType, (∀ k, k < N → parseFieldDescriptor (T k).2.2.1 = some (ty k)) ∧ ∀ a, a < N → ∀ b, b < N → a ≠ b → (T a).2.1 ≠ (T b).2.1 := by
  match ci, h with
  | 0, h => cases h; exact ⟨inX0, tyX0, tyX0_ok, nmX0⟩
  | 1, h => cases h; exact ⟨inX1, tyX1, tyX1_ok, nmX1⟩
  | 2, h => cases h; exact ⟨inX2, tyX2, tyX2_ok, nmX2⟩
  | 3, h => cases h; exact ⟨inX3, tyX3, tyX3_ok, nmX3⟩
  | 4, h => cases h; exact ⟨inX4, tyX4, tyX4_ok, nmX4⟩
  | 5, h => cases h; exact ⟨inX5, tyX5, tyX5_ok, nmX5⟩
  | 6, h => cases h; exact ⟨inX6, tyX6, tyX6_ok, nmX6⟩
  | 7, h => cases h; exact ⟨inX7, tyX7, tyX7_ok, nmX7⟩
  | 8, h => cases h; exact ⟨inX8, tyX8, tyX8_ok, nmX8⟩
  | 9, h => cases h; exact ⟨inX9, tyX9, tyX9_ok, nmX9⟩
  | k + 10, h => exact absurd h (by simp [vwCl])
theorem HX.size {x : Cx} {n : Nat} {w : AW} {s : State} {H : Heap} {locs : List Loc} {cells : Nat} (X : HX x n w s H locs cells) (hz : H.size ≤ s.heap.size + cells) : H.size = x.1 + n := by
  obtain ⟨-, hP, hc, hS, hb, -⟩ := X
  have h1 : x.1 + n ≤ H.size := by
    cases n with
    | zero => exact Nat.le_trans hb hS.1
    | succ n =>
      have := (hP n _ (cw_at (Nat.lt_succ_self n))).lt
      exact this
  omega
section GH
variable {l : Launch} {x : Cx} {y : MI} {d mc ms nf : Nat} {Q : QT} {kc ks n : Nat} {w : AW} {pc nx tg : Nat} {L : List (Option AV)} {S : List AV}
theorem gj_get {j ci i k : Nat} {fin : Bool} {ty : FieldType} {fs : List AV} {v : AV} (dg : AtI y pc (.getfield j) 3 nx) (hf : LF y.1.cls j ci i fin ty) (hw : w k = cO ci fs) (hk : Nat.blt k n = true) (hv : fs[i]? = some v) (kk : Gj l x y d mc ms nf Q kc ks n w nx L (v :: S)) : Gj l x y d mc ms nf Q kc ks n w pc L (vR k :: S) := by
  intro p e s m args below meth c H locs cells slots ls F X h1 h2 hl
  have kk := kk p e s m args below meth c H locs cells slots ls F X h1 h2 hl
  rw [← dg.2] at kk
  obtain ⟨C, T, N, hc, hi, hin, -, -, -⟩ := hf
  refine va_get (D := x.2.1) (ci := ci) (v := cv x.1 v) (C := C) (T := T) (N := N) F.1 F.2.1 F.2.2.2.2.2.1 (vwCl_all hc).1 F.2.2.2.2.1 X.1 X.2.1 k (fs := fs.map (cv x.1)) ?_ hc i hi (F.2.2.2.2.2.1 _ hin) (fun _ h9 => h9) ?_ dg.1 kk
  · rw [cw_at (Nat.le_of_ble_eq_true hk), hw]; rfl
  · rw [List.getElem?_map, hv]; rfl
theorem gj_put {j ci i k : Nat} {ty : FieldType} {fs : List AV} {v : AV} (hnar : ∀ b, narrow ty (cv b v) = cv b v ∧ fits ty (cv b v) = true) (dg : AtI y pc (.putfield j) 3 nx) (hf : LF y.1.cls j ci i false ty) (hw : w k = cO ci fs) (hk : Nat.blt k n = true) (hi2 : i < fs.length) (kk : Gj l x y d mc ms nf Q kc ks n (upw w k (cO ci (fs.set i v))) nx L S) : Gj l x y d mc ms nf Q kc ks n w pc L (v :: vR k :: S) := by
  intro p e s m args below meth c H locs cells slots ls F X h1 h2 hl
  obtain ⟨C, T, N, hc, hi, hin, hfi, hty, -⟩ := hf
  obtain ⟨hws, ty0, hty0, hnm⟩ := vwCl_all hc
  have hk' : k < n := Nat.le_of_ble_eq_true hk
  refine va_put (D := x.2.1) (ci := ci) (v := cv x.1 v) (C := C) (T := T) (N := N) F.1 F.2.1 F.2.2.2.2.2.1 hws ty0 hty0 hnm F.2.2.2.2.1 X.1 X.2.1 (cw_D x n w) X.2.2.2.1 k (fs := fs.map (cv x.1)) (by rw [cw_at hk', hw]; rfl) hc i hi (F.2.2.2.2.2.1 _ hin) (fun _ h9 => h9) hfi hty (hnar x.1).1 (hnar x.1).2 (by rw [List.length_map]; exact hi2) dg.1 (fun H1 locs1 hP1 hD1 hS1 => ?_)
  rw [dg.2]
  refine kk p e s m args below meth c H1 locs1 cells slots ls F ⟨X.1, ?_, X.2.2.1, hS1, X.2.2.2.2⟩ h1 h2 hl
  rw [← cw_set hk']
  have e1 : cE x (cO ci (fs.set i v)) = .inr (ci, (fs.map (cv x.1)).set i (cv x.1 v)) := by
    show (Sum.inr (ci, (fs.set i v).map (cv x.1)) : va_E) = _
    rw [List.map_set]
  rw [e1]
  exact hP1
theorem gj_putF {j ci i k : Nat} {ty : FieldType} {fs : List AV} {v : AV} (hnar : ∀ b, narrow ty (cv b v) = cv b v ∧ fits ty (cv b v) = true) (dg : AtI y pc (.putfield j) 3 nx) (hf : LF y.1.cls j ci i true ty) (hini : y.1.name = "<init>") (hown : ∃ T N, vwCl[ci]? = some (y.1.cls, T, N)) (hw : w k = cO ci fs) (hk : Nat.blt k n = true) (hi2 : i < fs.length) (kk : Gj l x y d mc ms nf Q kc ks n (upw w k (cO ci (fs.set i v))) nx L S) : Gj l x y d mc ms nf Q kc ks n w pc L (v :: vR k :: S) := by
  intro p e s m args below meth c H locs cells slots ls F X h1 h2 hl
  obtain ⟨C, T, N, hc, hi, hin, hfi, hty, hC⟩ := hf
  obtain ⟨T', N', hc'⟩ := hown
  have hCy : C = y.1.cls := by
    rw [hc] at hc'
    exact congrArg Prod.fst (Option.some.inj hc')
  obtain ⟨hws, ty0, hty0, hnm⟩ := vwCl_all hc
  have hk' : k < n := Nat.le_of_ble_eq_true hk
  refine va_putF (D := x.2.1) (ci := ci) (v := cv x.1 v) (C := C) (T := T) (N := N) F.1 F.2.1 F.2.2.2.2.2.1 hws ty0 hty0 hnm F.2.2.2.2.1 X.1 X.2.1 (cw_D x n w) X.2.2.2.1 k (fs := fs.map (cv x.1)) (by rw [cw_at hk', hw]; rfl) hc i hi (F.2.2.2.2.2.1 _ hin) (fun _ h9 => h9) hfi (F.2.2.2.2.2.2.2.trans hini) (hC.trans hCy) hty (hnar x.1).1 (hnar x.1).2 (by rw [List.length_map]; exact hi2) dg.1 (fun H1 locs1 hP1 hD1 hS1 => ?_)
  rw [dg.2]
  refine kk p e s m args below meth c H1 locs1 cells slots ls F ⟨X.1, ?_, X.2.2.1, hS1, X.2.2.2.2⟩ h1 h2 hl
  rw [← cw_set hk']
  have e1 : cE x (cO ci (fs.set i v)) = .inr (ci, (fs.map (cv x.1)).set i (cv x.1 v)) := by
    show (Sum.inr (ci, (fs.set i v).map (cv x.1)) : va_E) = _
    rw [List.map_set]
  rw [e1]
  exact hP1
theorem nar_I {z : Int} : ∀ b, narrow .int (cv b (vI z)) = cv b (vI z) ∧ fits .int (cv b (vI z)) = true := fun _ => ⟨rfl, rfl⟩
theorem nar_Z {z : Int} (h : z = 0 ∨ z = 1) : ∀ b, narrow .boolean (cv b (vI z)) = cv b (vI z) ∧ fits .boolean (cv b (vI z)) = true := by
  intro b
  rcases h with rfl | rfl
  · exact ⟨(by decide : narrow .boolean (.int (iZ 0)) = .int (iZ 0)), (by decide : fits .boolean (.int (iZ 0)) = true)⟩
  · exact ⟨(by decide : narrow .boolean (.int (iZ 1)) = .int (iZ 1)), (by decide : fits .boolean (.int (iZ 1)) = true)⟩
theorem nar_R {k : Nat} {C : String} : ∀ b, narrow (.object C) (cv b (vR k)) = cv b (vR k) ∧ fits (.object C) (cv b (vR k)) = true := fun _ => ⟨rfl, rfl⟩
theorem nar_A {k : Nat} {t : FieldType} : ∀ b, narrow (.array t) (cv b (vR k)) = cv b (vR k) ∧ fits (.array t) (cv b (vR k)) = true := fun _ => ⟨rfl, rfl⟩
theorem clampI {i : Int} {N : Nat} (hi : 0 ≤ i ∧ i < (N : Int)) (hN : Nat.ble N 4096 = true) : (((iZ i).toNatClampNeg : Nat) : Int) = i ∧ R32 i := by
  have hN := Nat.le_of_ble_eq_true hN
  have hr : R32 i := by omega
  rw [iZ_clamp hr]
  exact ⟨by omega, hr⟩
theorem gj_iald {k N : Nat} {f : Int → Int} {i : Int} (dg : AtI y pc .iaload 1 nx) (hw : w k = cI N f) (hk : Nat.blt k n = true) (hN : Nat.ble N 4096 = true) (hi : 0 ≤ i ∧ i < (N : Int)) (kk : Gj l x y d mc ms nf Q kc ks n w nx L (vI (f i) :: S)) : Gj l x y d mc ms nf Q kc ks n w pc L (vI i :: vR k :: S) := by
  intro p e s m args below meth c H locs cells slots ls F X h1 h2 hl
  have kk := kk p e s m args below meth c H locs cells slots ls F X h1 h2 hl
  rw [← dg.2] at kk
  refine va_iald (D := x.2.1) F.1 F.2.1 X.1 X.2.1 k 0 (cA := x.2.2.1) (n := N) (f := fun j => iZ (f (j : Int))) (by rw [cw_at (Nat.le_of_ble_eq_true hk), hw]; rfl) rfl (iZ_in hi hN) dg.1 ?_
  rw [(clampI hi hN).1]
  exact kk
theorem gj_zald {k N : Nat} {f : Int → Int} {i : Int} (dg : AtI y pc .baload 1 nx) (hw : w k = cZ N f) (hk : Nat.blt k n = true) (hN : Nat.ble N 4096 = true) (hi : 0 ≤ i ∧ i < (N : Int)) (kk : Gj l x y d mc ms nf Q kc ks n w nx L (vI (f i) :: S)) : Gj l x y d mc ms nf Q kc ks n w pc L (vI i :: vR k :: S) := by
  intro p e s m args below meth c H locs cells slots ls F X h1 h2 hl
  have kk := kk p e s m args below meth c H locs cells slots ls F X h1 h2 hl
  rw [← dg.2] at kk
  refine va_zald (D := x.2.1) F.1 F.2.1 X.1 X.2.1 k 1 (cA := x.2.2.2.1) (n := N) (f := fun j => iZ (f (j : Int))) (by rw [cw_at (Nat.le_of_ble_eq_true hk), hw]; rfl) rfl (iZ_in hi hN) dg.1 ?_
  rw [(clampI hi hN).1]
  exact kk
theorem gj_iast {k N : Nat} {f : Int → Int} {i z : Int} (dg : AtI y pc .iastore 1 nx) (hw : w k = cI N f) (hk : Nat.blt k n = true) (hN : Nat.ble N 4096 = true) (hi : 0 ≤ i ∧ i < (N : Int)) (kk : Gj l x y d mc ms nf Q kc ks n (upw w k (cI N (upf f i z))) nx L S) : Gj l x y d mc ms nf Q kc ks n w pc L (vI z :: vI i :: vR k :: S) := by
  intro p e s m args below meth c H locs cells slots ls F X h1 h2 hl
  have hk' : k < n := Nat.le_of_ble_eq_true hk
  refine va_iast (D := x.2.1) F.1 F.2.1 X.1 X.2.1 (cw_D x n w) X.2.2.2.1 k 0 (cA := x.2.2.1) (n := N) (f := fun j => iZ (f (j : Int))) (x := iZ z) (by rw [cw_at hk', hw]; rfl) rfl (iZ_in hi hN) dg.1 (fun H1 locs1 hP1 hD1 hS1 => ?_)
  rw [dg.2]
  refine kk p e s m args below meth c H1 locs1 cells slots ls F ⟨X.1, ?_, X.2.2.1, hS1, X.2.2.2.2⟩ h1 h2 hl
  rw [← cw_set hk']
  rw [upf_c f ⟨(clampI hi hN).2, hi.1⟩] at hP1
  exact hP1
theorem gj_zast {k N : Nat} {f : Int → Int} {i z : Int} (hz : z = 0 ∨ z = 1) (dg : AtI y pc .bastore 1 nx) (hw : w k = cZ N f) (hk : Nat.blt k n = true) (hN : Nat.ble N 4096 = true) (hi : 0 ≤ i ∧ i < (N : Int)) (kk : Gj l x y d mc ms nf Q kc ks n (upw w k (cZ N (upf f i z))) nx L S) : Gj l x y d mc ms nf Q kc ks n w pc L (vI z :: vI i :: vR k :: S) := by
  intro p e s m args below meth c H locs cells slots ls F X h1 h2 hl
  have hk' : k < n := Nat.le_of_ble_eq_true hk
  refine va_zast (D := x.2.1) F.1 F.2.1 X.1 X.2.1 (cw_D x n w) X.2.2.2.1 k 1 (cA := x.2.2.2.1) (n := N) (f := fun j => iZ (f (j : Int))) (x := iZ z) (by rw [cw_at hk', hw]; rfl) rfl (iZ_in hi hN) dg.1 (fun H1 locs1 hP1 hD1 hS1 => ?_)
  rw [dg.2]
  refine kk p e s m args below meth c H1 locs1 cells slots ls F ⟨X.1, ?_, X.2.2.1, hS1, X.2.2.2.2⟩ h1 h2 hl
  rw [← cw_set hk']
  have e2 : vp_nar .boolean (iZ z) = iZ z := by rcases hz with rfl | rfl <;> decide
  rw [e2, upf_c f ⟨(clampI hi hN).2, hi.1⟩] at hP1
  exact hP1
theorem gj_aald {k N k2 : Nat} {f : Int → Option Nat} {i : Int} (dg : AtI y pc .aaload 1 nx) (hw : w k = cR N f) (hk : Nat.blt k n = true) (hN : Nat.ble N 4096 = true) (hi : 0 ≤ i ∧ i < (N : Int)) (hf : f i = some k2) (kk : Gj l x y d mc ms nf Q kc ks n w nx L (vR k2 :: S)) : Gj l x y d mc ms nf Q kc ks n w pc L (vI i :: vR k :: S) := by
  intro p e s m args below meth c H locs cells slots ls F X h1 h2 hl
  have kk := kk p e s m args below meth c H locs cells slots ls F X h1 h2 hl
  rw [← dg.2] at kk
  refine va_aldq (D := x.2.1) F.1 F.2.1 X.1 X.2.1 k 2 (cA := x.2.2.2.2) (C := "BishopsPeace$Sheet") (n := N) (f := fun j => (f (j : Int)).map (fun k => x.1 + k)) (by rw [cw_at (Nat.le_of_ble_eq_true hk), hw]; rfl) rfl (iZ_in hi hN) dg.1 ?_
  rw [(clampI hi hN).1, hf]
  exact kk
theorem gj_aast {k N v : Nat} {f : Int → Option Nat} {i : Int} {fs : List AV} (dg : AtI y pc .aastore 1 nx) (hw : w k = cR N f) (hk : Nat.blt k n = true) (hN : Nat.ble N 4096 = true) (hi : 0 ≤ i ∧ i < (N : Int)) (hv : w v = cO 7 fs) (hvn : Nat.blt v n = true) (kk : Gj l x y d mc ms nf Q kc ks n (upw w k (cR N (upr f i (some v)))) nx L S) : Gj l x y d mc ms nf Q kc ks n w pc L (vR v :: vI i :: vR k :: S) := by
  intro p e s m args below meth c H locs cells slots ls F X h1 h2 hl
  have hk' : k < n := Nat.le_of_ble_eq_true hk
  refine va_astq (D := x.2.1) F.1 F.2.1 X.1 X.2.1 (cw_D x n w) X.2.2.2.1 k 2 v 7 (cA := x.2.2.2.2) (r := (RX7, TX7, 4)) (n := N) (vs := fs.map (cv x.1)) (f := fun j => (f (j : Int)).map (fun k => x.1 + k)) (by rw [cw_at hk', hw]; rfl) rfl (by rw [cw_at (Nat.le_of_ble_eq_true hvn), hv]; rfl) rfl (iZ_in hi hN) dg.1 (fun H1 locs1 hP1 hD1 hS1 => ?_)
  rw [dg.2]
  refine kk p e s m args below meth c H1 locs1 cells slots ls F ⟨X.1, ?_, X.2.2.1, hS1, X.2.2.2.2⟩ h1 h2 hl
  rw [← cw_set hk']
  rw [upr_c f ⟨(clampI hi hN).2, hi.1⟩] at hP1
  exact hP1
theorem gj_alen {k N : Nat} {f : Int → Int} (dg : AtI y pc .arraylength 1 nx) (hw : w k = cI N f) (hk : Nat.blt k n = true) (kk : Gj l x y d mc ms nf Q kc ks n w nx L (vI (N : Int) :: S)) : Gj l x y d mc ms nf Q kc ks n w pc L (vR k :: S) := by
  intro p e s m args below meth c H locs cells slots ls F X h1 h2 hl
  have kk := kk p e s m args below meth c H locs cells slots ls F X h1 h2 hl
  rw [← dg.2] at kk
  exact va_alen (D := x.2.1) F.1 F.2.1 X.1 X.2.1 k 0 (cA := x.2.2.1) (x := (N, .inl (fun j => iZ (f (j : Int))))) (by rw [cw_at (Nat.le_of_ble_eq_true hk), hw]; rfl) rfl (Int32.ofInt_eq_ofNat).symm dg.1 kk
theorem gj_sz {p : Program} {e : Env} {R : Room} {s : State} {m : MethodId} {args : Array Value} {below : List Frame} {meth : Method} {c : Code} {H : Heap} {locs : List Loc} {cells slots : Nat} {Z : State → Prop} {g : JFrame} (h : H.size ≤ s.heap.size + cells → W p l e R s m args below meth c H locs cells slots Z g) : W p l e R s m args below meth c H locs cells slots Z g := fun T hT X => h (by rw [← hT]; exact X.heapSize) T hT X
theorem gj_new {j ci N : Nat} {C : String} {T : u_T} {ty : Nat → FieldType} {fs : List AV} (dg : AtI y pc (.new j) 3 nx) (hcl : Cond.classLink y.1.cls j C ∈ lw_g) (hins : Cond.instantiable C N ∈ lw_g) (hini : Cond.initialized C ∈ lw_g) (hc : vwCl[ci]? = some (C, T, N)) (hty : ∀ k, k < N → parseFieldDescriptor (T k).2.2.1 = some (ty k)) (hfs : ∀ b i, i < N → defaultValue (ty i) = vp_V (fs.map (cv b)) i) (kk : Gj l x y d mc ms nf Q kc ks (n + 1) (upw w n (cO ci fs)) nx L (vR n :: S)) : Gj l x y d mc ms nf Q (kc + 1) (ks + N) n w pc L S := by
  intro p e s m args below meth c H locs cells slots ls F X h1 h2 hl
  refine gj_sz (fun hz0 => ?_)
  have hz : H.size = x.1 + n := X.size hz0
  have hKn := X.1.1 ci _ hc
  refine W.newcK F.1 F.2.1 F.2.2.2.2.1 (F.2.2.2.2.2.1 _ hcl) (F.2.2.2.2.2.1 _ hins) (F.2.2.2.2.2.1 _ hini) rfl dg.1 (show cells + 1 ≤ mc by omega) (show slots + N ≤ ms by omega) hKn.2.1 hz (fun H1 kC hkC e1 z1 o1 => ?_)
  have hx1 : x.1 + n + 1 = x.1 + (n + 1) := Nat.add_assoc _ _ _
  have hh : HX x (n + 1) (upw w n (cO ci fs)) s H1 locs (cells + 1) := by
    refine ⟨X.1, ?_, by have := X.2.2.1; omega, ⟨by have := X.2.2.2.1.1; omega, fun q g1 g2 => (o1 q (by have := X.2.2.2.1.1; omega)).trans (X.2.2.2.1.2.1 q g1 g2), X.2.2.2.1.2.2⟩, X.2.2.2.2⟩
    rw [← cw_push]
    refine (X.2.1.kept (fun k q hq => o1 q.1 (by rw [← hz]; exact (X.2.1 k q hq).lt))).app (fun k q hq => ?_)
    have hk0 : k < 1 := (List.getElem?_eq_some_iff.mp hq).1
    rw [show k = 0 by omega] at hq
    cases hq
    exact ⟨_, hc, (u_born ty F.2.2.2.2.2.1 (vwCl_all hc).1 hKn hkC e1 hty).to (fun i hi => hfs x.1 i hi)⟩
  have k2 := kk p e s m args below meth c H1 locs (cells + 1) (slots + N) ls F hh (by omega) (by omega) hl
  rw [← dg.2] at k2
  exact k2
theorem ac_int : Cond.arrayClass .int ∈ lw_g := List.mem_filter.mpr ⟨by decide +kernel, rfl⟩
theorem ac_bool : Cond.arrayClass .boolean ∈ lw_g := List.mem_filter.mpr ⟨by decide +kernel, rfl⟩
theorem arr_same {cA cB : ClassId} {s : State} {t : String} (h1 : s.vm.findClass t = some cA) (h2 : s.vm.findClass t = some cB) : cA = cB := Option.some.inj (h1.symm.trans h2)
theorem gj_newI {N : Nat} {z : Int} (dg : AtI y pc (.newarray .int) 2 nx) (hz : z = (N : Int)) (hN : Nat.ble N 4096 = true) (kk : Gj l x y d mc ms nf Q kc ks (n + 1) (upw w n (cI N (fun _ => 0))) nx L (vR n :: S)) : Gj l x y d mc ms nf Q (kc + 1) (ks + N) n w pc L (vI z :: S) := by
  intro p e s m args below meth c H locs cells slots ls F X h1 h2 hl
  refine gj_sz (fun hz0 => ?_)
  have hN := Nat.le_of_ble_eq_true hN
  have hR : R32 z := by omega
  have hsz : H.size = x.1 + n := X.size hz0
  have hAK := (X.1.2 0 (x.2.2.1, .int) rfl).2
  refine va_newaK (atype := .int) F.1 F.2.1 (F.2.2.2.2.2.1 (.arrayClass .int) ac_int) rfl dg.1 (n := iZ z) (N := N) rfl (fun h => absurd ((iZ_lt (b := 0) hR (by omega)).mp (by rw [iZ_0]; exact h)) (by omega)) (by rw [iZ_clamp hR]; omega) (show N * 4 ≤ 536870912 by omega) (show cells + 1 ≤ mc by omega) (show slots + N ≤ ms by omega) hsz (fun H1 cA e1 z1 o1 hAr hNm => ?_)
  have hcA : cA = x.2.2.1 := arr_same hNm hAK
  have hh : HX x (n + 1) (upw w n (cI N (fun _ => 0))) s H1 locs (cells + 1) := by
    refine ⟨X.1, ?_, by have := X.2.2.1; omega, ⟨by have := X.2.2.2.1.1; omega, fun q g1 g2 => (o1 q (by have := X.2.2.2.1.1; omega)).trans (X.2.2.2.1.2.1 q g1 g2), X.2.2.2.1.2.2⟩, X.2.2.2.2⟩
    rw [← cw_push]
    refine (X.2.1.kept (fun k q hq => o1 q.1 (by rw [← hsz]; exact (X.2.1 k q hq).lt))).app (fun k q hq => ?_)
    have hk0 : k < 1 := (List.getElem?_eq_some_iff.mp hq).1
    rw [show k = 0 by omega] at hq
    cases hq
    rw [hcA] at e1
    exact e1
  have k2 := kk p e s m args below meth c H1 locs (cells + 1) (slots + N) ls F hh (by omega) (by omega) hl
  rw [← dg.2] at k2
  exact k2
theorem gj_newZ {N : Nat} {z : Int} (dg : AtI y pc (.newarray .boolean) 2 nx) (hz : z = (N : Int)) (hN : Nat.ble N 4096 = true) (kk : Gj l x y d mc ms nf Q kc ks (n + 1) (upw w n (cZ N (fun _ => 0))) nx L (vR n :: S)) : Gj l x y d mc ms nf Q (kc + 1) (ks + N) n w pc L (vI z :: S) := by
  intro p e s m args below meth c H locs cells slots ls F X h1 h2 hl
  refine gj_sz (fun hz0 => ?_)
  have hN := Nat.le_of_ble_eq_true hN
  have hR : R32 z := by omega
  have hsz : H.size = x.1 + n := X.size hz0
  have hAK := (X.1.2 1 (x.2.2.2.1, .boolean) rfl).2
  refine va_newaK (atype := .boolean) F.1 F.2.1 (F.2.2.2.2.2.1 (.arrayClass .boolean) ac_bool) rfl dg.1 (n := iZ z) (N := N) rfl (fun h => absurd ((iZ_lt (b := 0) hR (by omega)).mp (by rw [iZ_0]; exact h)) (by omega)) (by rw [iZ_clamp hR]; omega) (show N * 1 ≤ 536870912 by omega) (show cells + 1 ≤ mc by omega) (show slots + N ≤ ms by omega) hsz (fun H1 cA e1 z1 o1 hAr hNm => ?_)
  have hcA : cA = x.2.2.2.1 := arr_same hNm hAK
  have hh : HX x (n + 1) (upw w n (cZ N (fun _ => 0))) s H1 locs (cells + 1) := by
    refine ⟨X.1, ?_, by have := X.2.2.1; omega, ⟨by have := X.2.2.2.1.1; omega, fun q g1 g2 => (o1 q (by have := X.2.2.2.1.1; omega)).trans (X.2.2.2.1.2.1 q g1 g2), X.2.2.2.1.2.2⟩, X.2.2.2.2⟩
    rw [← cw_push]
    refine (X.2.1.kept (fun k q hq => o1 q.1 (by rw [← hsz]; exact (X.2.1 k q hq).lt))).app (fun k q hq => ?_)
    have hk0 : k < 1 := (List.getElem?_eq_some_iff.mp hq).1
    rw [show k = 0 by omega] at hq
    cases hq
    rw [hcA] at e1
    exact e1
  have k2 := kk p e s m args below meth c H1 locs (cells + 1) (slots + N) ls F hh (by omega) (by omega) hl
  rw [← dg.2] at k2
  exact k2
theorem gj_newR {N j : Nat} {z : Int} (dg : AtI y pc (.anewarray j) 3 nx) (hcl : Cond.classLink y.1.cls j "BishopsPeace$Sheet" ∈ lw_g) (hz : z = (N : Int)) (hN : Nat.ble N 4096 = true) (kk : Gj l x y d mc ms nf Q kc ks (n + 1) (upw w n (cR N (fun _ => none))) nx L (vR n :: S)) : Gj l x y d mc ms nf Q (kc + 1) (ks + N) n w pc L (vI z :: S) := by
  intro p e s m args below meth c H locs cells slots ls F X h1 h2 hl
  refine gj_sz (fun hz0 => ?_)
  have hN := Nat.le_of_ble_eq_true hN
  have hR : R32 z := by omega
  have hcl0 : (iZ z).toNatClampNeg = N := by rw [iZ_clamp hR]; omega
  have hsz : H.size = x.1 + n := X.size hz0
  have hAK := (X.1.2 2 (x.2.2.2.2, .object "BishopsPeace$Sheet") rfl).2
  obtain ⟨kA0, comp0, -, -, -, hfc⟩ := hAK
  refine W.anew F.1 F.2.1 F.2.2.2.2.1 (F.2.2.2.2.2.1 _ hcl) (va_AO.use X.2.2.2.2.2) rfl dg.1 (n := iZ z) rfl (fun h => absurd ((iZ_lt (b := 0) hR (by omega)).mp (by rw [iZ_0]; exact h)) (by omega)) (by rw [hcl0]; omega) (show cells + 1 ≤ mc by omega) (by rw [hcl0]; show slots + N ≤ ms; omega) (fun cA kA comp f1 f2 f3 f4 => ?_)
  have hcA : cA = x.2.2.2.2 := arr_same f1 hfc
  rw [hcl0]
  generalize hH1 : H.push ({ cls := cA, slots := Array.replicate N .null, vm := .none } : Cell) = H1
  have z1 : H1.size = H.size + 1 := by rw [← hH1, Array.size_push]
  have e1 : H1[H.size]? = some (arrV cA N (fun _ => .null)) := by rw [← hH1, Array.getElem?_push_size, ← arrV_new]
  have o1 : ∀ q : Nat, q < H.size → H1[q]? = H[q]? := fun q hq => by rw [← hH1, Array.getElem?_push, if_neg (Nat.ne_of_lt hq)]
  have hh : HX x (n + 1) (upw w n (cR N (fun _ => none))) s H1 locs (cells + 1) := by
    refine ⟨X.1, ?_, by have := X.2.2.1; omega, ⟨by have := X.2.2.2.1.1; omega, fun q g1 g2 => (o1 q (by have := X.2.2.2.1.1; omega)).trans (X.2.2.2.1.2.1 q g1 g2), X.2.2.2.1.2.2⟩, X.2.2.2.2⟩
    rw [← cw_push]
    refine (X.2.1.kept (fun k q hq => o1 q.1 ((X.2.1 k q hq).lt))).app (fun k q hq => ?_)
    have hk0 : k < 1 := (List.getElem?_eq_some_iff.mp hq).1
    rw [show k = 0 by omega] at hq
    cases hq
    rw [hcA, hsz] at e1
    exact e1
  have k2 := kk p e s m args below meth c H1 locs (cells + 1) (slots + N) ls F hh (by omega) (by omega) hl
  rw [← dg.2] at k2
  rw [hsz]
  exact k2
end GH
abbrev dfl0 : List AV := [vN]
theorem dfl0_ok : ∀ (b i : Nat), i < 1 → defaultValue (tyX0 i) = vp_V (dfl0.map (cv b)) i := by
  intro b i hi
  match i, hi with
  | 0, _ => rfl
  | k + 1, h => exact absurd h (by omega)
abbrev dfl1 : List AV := [vN, vI 0, vI 0, vI 0]
theorem dfl1_ok : ∀ (b i : Nat), i < 4 → defaultValue (tyX1 i) = vp_V (dfl1.map (cv b)) i := by
  intro b i hi
  match i, hi with
  | 0, _ => rfl
  | 1, _ => rfl
  | 2, _ => rfl
  | 3, _ => rfl
  | k + 4, h => exact absurd h (by omega)
abbrev dfl2 : List AV := [vN, vN, vN, vN, vI 0, vI 0, vI 0, vI 0, vI 0, vI 0]
theorem dfl2_ok : ∀ (b i : Nat), i < 10 → defaultValue (tyX2 i) = vp_V (dfl2.map (cv b)) i := by
  intro b i hi
  match i, hi with
  | 0, _ => rfl
  | 1, _ => rfl
  | 2, _ => rfl
  | 3, _ => rfl
  | 4, _ => rfl
  | 5, _ => rfl
  | 6, _ => rfl
  | 7, _ => rfl
  | 8, _ => rfl
  | 9, _ => rfl
  | k + 10, h => exact absurd h (by omega)
abbrev dfl3 : List AV := [vN, vN, vN, vN, vI 0]
theorem dfl3_ok : ∀ (b i : Nat), i < 5 → defaultValue (tyX3 i) = vp_V (dfl3.map (cv b)) i := by
  intro b i hi
  match i, hi with
  | 0, _ => rfl
  | 1, _ => rfl
  | 2, _ => rfl
  | 3, _ => rfl
  | 4, _ => rfl
  | k + 5, h => exact absurd h (by omega)
abbrev dfl4 : List AV := [vN, vN, vN, vN, vI 0]
theorem dfl4_ok : ∀ (b i : Nat), i < 5 → defaultValue (tyX4 i) = vp_V (dfl4.map (cv b)) i := by
  intro b i hi
  match i, hi with
  | 0, _ => rfl
  | 1, _ => rfl
  | 2, _ => rfl
  | 3, _ => rfl
  | 4, _ => rfl
  | k + 5, h => exact absurd h (by omega)
abbrev dfl5 : List AV := [vN, vN, vN, vI 0, vI 0, vI 0]
theorem dfl5_ok : ∀ (b i : Nat), i < 6 → defaultValue (tyX5 i) = vp_V (dfl5.map (cv b)) i := by
  intro b i hi
  match i, hi with
  | 0, _ => rfl
  | 1, _ => rfl
  | 2, _ => rfl
  | 3, _ => rfl
  | 4, _ => rfl
  | 5, _ => rfl
  | k + 6, h => exact absurd h (by omega)
abbrev dfl6 : List AV := [vN, vN, vN, vN, vN, vI 0, vI 0, vI 0]
theorem dfl6_ok : ∀ (b i : Nat), i < 8 → defaultValue (tyX6 i) = vp_V (dfl6.map (cv b)) i := by
  intro b i hi
  match i, hi with
  | 0, _ => rfl
  | 1, _ => rfl
  | 2, _ => rfl
  | 3, _ => rfl
  | 4, _ => rfl
  | 5, _ => rfl
  | 6, _ => rfl
  | 7, _ => rfl
  | k + 8, h => exact absurd h (by omega)
abbrev dfl7 : List AV := [vN, vI 0, vI 0, vI 0]
theorem dfl7_ok : ∀ (b i : Nat), i < 4 → defaultValue (tyX7 i) = vp_V (dfl7.map (cv b)) i := by
  intro b i hi
  match i, hi with
  | 0, _ => rfl
  | 1, _ => rfl
  | 2, _ => rfl
  | 3, _ => rfl
  | k + 4, h => exact absurd h (by omega)
abbrev dfl8 : List AV := [vN, vN, vN, vN, vN, vN, vN, vN, vI 0]
theorem dfl8_ok : ∀ (b i : Nat), i < 9 → defaultValue (tyX8 i) = vp_V (dfl8.map (cv b)) i := by
  intro b i hi
  match i, hi with
  | 0, _ => rfl
  | 1, _ => rfl
  | 2, _ => rfl
  | 3, _ => rfl
  | 4, _ => rfl
  | 5, _ => rfl
  | 6, _ => rfl
  | 7, _ => rfl
  | 8, _ => rfl
  | k + 9, h => exact absurd h (by omega)
abbrev dfl9 : List AV := [vN, vN, vN, vN, vI 0, vN, vI 0, vI 0, vI 0, vN, vN, vN, vI 0, vN, vI 0, vN, vN, vI 0, vN, vN, vN, vN, vI 0, vI 0, vI 0, vN, vI 0, vN, vI 0]
theorem dfl9_ok : ∀ (b i : Nat), i < 29 → defaultValue (tyX9 i) = vp_V (dfl9.map (cv b)) i := by
  intro b i hi
  match i, hi with
  | 0, _ => rfl
  | 1, _ => rfl
  | 2, _ => rfl
  | 3, _ => rfl
  | 4, _ => rfl
  | 5, _ => rfl
  | 6, _ => rfl
  | 7, _ => rfl
  | 8, _ => rfl
  | 9, _ => rfl
  | 10, _ => rfl
  | 11, _ => rfl
  | 12, _ => rfl
  | 13, _ => rfl
  | 14, _ => rfl
  | 15, _ => rfl
  | 16, _ => rfl
  | 17, _ => rfl
  | 18, _ => rfl
  | 19, _ => rfl
  | 20, _ => rfl
  | 21, _ => rfl
  | 22, _ => rfl
  | 23, _ => rfl
  | 24, _ => rfl
  | 25, _ => rfl
  | 26, _ => rfl
  | 27, _ => rfl
  | 28, _ => rfl
  | k + 29, h => exact absurd h (by omega)
end
section
/-! rows of Gj for calls and returns; a method's contract Mt -/
def wsY (y : MI) : List Cond := Cond.code y.1 y.2.1 y.2.2.1 y.2.2.2 :: lw_g
def PcA (x : Cx) (n : Nat) (w : AW) (As : List AV) : Array Value → State → Prop := fun v U =>
  v = (As.map (cv x.1)).toArray ∧ va_K x.2.1 vwCl (tysX x) U ∧ va_P x.2.1 vwCl (cw x n w) U.heap ∧ U.heap.size = x.1 + n ∧ va_AO "BishopsPeace$Sheet" U
/-- the contract of method y at this start: it returns, and Q holds of its answer and the world behind it; mc cells of at most ms slots are new -/
def Mt (l : Launch) (x : Cx) (y : MI) (d mc ms n : Nat) (w : AW) (As : List AV) (Q : QT) : Prop :=
  Met l y.1 (wsY y) (rmX d mc ms) (PcA x n w As) (QcA x (n + mc) Q) mc ms (AX x)
theorem lw_good {t : Cond} (h : t ∈ lw_g) : goodWord t = true := (List.mem_filter.mp h).2
theorem good_cw {y : MI} (h : Cond.code y.1 y.2.1 y.2.2.1 y.2.2.2 ∈ lw_g) : GoodIn lw_g (wsY y) := by
  intro t ht
  have hm : t ∈ lw_g := by
    rcases List.mem_cons.mp ht with h1 | h1
    · rw [h1]; exact h
    · exact h1
  exact ⟨hm, good_of_word (lw_good hm)⟩
/-- what the tables say of a callee: an instance method of the ci-th class; a static method; a constructor -/
def CV (y : MI) (na ci : Nat) : Prop := Cond.instanceMethod y.1 ∈ lw_g ∧ Cond.selects y.1.cls y.1 y.1 ∈ lw_g ∧ Cond.initialized y.1.cls ∈ lw_g ∧ Cond.code y.1 y.2.1 y.2.2.1 y.2.2.2 ∈ lw_g ∧ (y.1.cls ≠ "java/lang/invoke/MethodHandle" ∧ y.1.cls ≠ "java/lang/invoke/VarHandle" ∧ (parseMethodDescriptor y.1.desc).map (fun d => d.parameters.length) = some na) ∧ (∃ T N, vwCl[ci]? = some (y.1.cls, T, N)) ∧ y.2.2.1 ≤ 20
def CS (y : MI) (na : Nat) : Prop := Cond.static y.1 ∈ lw_g ∧ Cond.initialized y.1.cls ∈ lw_g ∧ Cond.code y.1 y.2.1 y.2.2.1 y.2.2.2 ∈ lw_g ∧ (y.1.cls ≠ "java/lang/invoke/MethodHandle" ∧ y.1.cls ≠ "java/lang/invoke/VarHandle" ∧ (parseMethodDescriptor y.1.desc).map (fun d => d.parameters.length) = some na) ∧ y.2.2.1 ≤ 20
def CN (y : MI) (na : Nat) : Prop := Cond.instanceMethod y.1 ∈ lw_g ∧ Cond.initialized y.1.cls ∈ lw_g ∧ Cond.code y.1 y.2.1 y.2.2.1 none ∈ lw_g ∧ y.2.2.2 = none ∧ y.1.name = "<init>" ∧ (y.1.cls ≠ "java/lang/invoke/MethodHandle" ∧ y.1.cls ≠ "java/lang/invoke/VarHandle" ∧ (parseMethodDescriptor y.1.desc).map (fun d => d.parameters.length) = some na) ∧ y.2.2.1 ≤ 20
def wS : List AV → Nat
  | [] => 0
  | (.inr (.inl _)) :: t => 2 + wS t
  | _ :: t => 1 + wS t
theorem wS_c (b : Nat) : ∀ S : List AV, ((S.map (cv b)).map fun v => v.category).sum = wS S
  | [] => rfl
  | .inl z :: t => by
    rw [List.map_cons, List.map_cons, List.sum_cons, wS_c b t]; rfl
  | .inr (.inl z) :: t => by
    rw [List.map_cons, List.map_cons, List.sum_cons, wS_c b t]; rfl
  | .inr (.inr o) :: t => by
    rw [List.map_cons, List.map_cons, List.sum_cons, wS_c b t]
    cases o <;> rfl
theorem PcA_blind {x : Cx} {n : Nat} {w : AW} {As : List AV} : FrameBlind (PcA x n w As) := by
  intro a U g mk q
  obtain ⟨q0, qK, qP, qs, qA⟩ := q
  exact ⟨q0, va_K.moved (u := U) (U := U.calling g mk a) (Vm.Alike.refl U.vm) qK, qP, qs, va_AO.moved (u := U) (U := U.calling g mk a) (Vm.Alike.refl U.vm) qA⟩
theorem entA_args (b : Nat) : ∀ (As : List AV) (k : Nat), lv_args k (As.map (cv b)) = lvL b k (entA As)
  | [], k => rfl
  | .inl z :: t, k => by
    show (k, cv b (.inl z)) :: lv_args (k + 1) (t.map (cv b)) = _
    rw [entA_args b t (k + 1)]; rfl
  | .inr (.inl z) :: t, k => by
    show (k, cv b (.inr (.inl z))) :: lv_args (k + 2) (t.map (cv b)) = _
    rw [entA_args b t (k + 2)]; rfl
  | .inr (.inr none) :: t, k => by
    show (k, cv b (.inr (.inr none))) :: lv_args (k + 1) (t.map (cv b)) = _
    rw [entA_args b t (k + 1)]; rfl
  | .inr (.inr (some j)) :: t, k => by
    show (k, cv b (.inr (.inr (some j)))) :: lv_args (k + 1) (t.map (cv b)) = _
    rw [entA_args b t (k + 1)]; rfl
theorem entA_len (b : Nat) : ∀ (As : List AV), (lg_sl (As.map (cv b))).length = (entA As).length
  | [] => rfl
  | .inl z :: t => by
    have := entA_len b t
    simp only [lg_sl, List.map_cons, List.flatMap_cons, List.length_append, entA, List.length_cons] at this ⊢
    rw [this]; show 1 + _ = _; omega
  | .inr (.inl z) :: t => by
    have := entA_len b t
    simp only [lg_sl, List.map_cons, List.flatMap_cons, List.length_append, entA, List.length_cons] at this ⊢
    rw [this]; show 2 + _ = _; omega
  | .inr (.inr none) :: t => by
    have := entA_len b t
    simp only [lg_sl, List.map_cons, List.flatMap_cons, List.length_append, entA, List.length_cons] at this ⊢
    rw [this]; show 1 + _ = _; omega
  | .inr (.inr (some j)) :: t => by
    have := entA_len b t
    simp only [lg_sl, List.map_cons, List.flatMap_cons, List.length_append, entA, List.length_cons] at this ⊢
    rw [this]; show 1 + _ = _; omega
theorem lk_app : ∀ (A B : List (Option AV)) (i : Nat) (v : AV), (∀ j u, lk B j ≠ some u) → lk (A ++ B) i = some v → lk A i = some v
  | [], B, i, v, hB, h => absurd h (hB i v)
  | a :: t, B, 0, v, hB, h => h
  | a :: t, B, i + 1, v, hB, h => lk_app t B i v hB h
theorem lk_rep : ∀ (k j : Nat) (u : AV), lk (List.replicate k none) j ≠ some u
  | 0, j, u => by simp [lk]
  | k + 1, 0, u => by simp [List.replicate, lk]
  | k + 1, j + 1, u => by
    rw [List.replicate_succ]
    exact lk_rep k j u
theorem w_oi : Cond.instanceMethod objectInit ∈ lw_g := List.mem_filter.mpr ⟨by decide +kernel, by decide +kernel⟩
theorem w_oc : Cond.code objectInit ⟨#[0xb1]⟩ 1 none ∈ lw_g := List.mem_filter.mpr ⟨by decide +kernel, by decide +kernel⟩
theorem w_mins : Cond.static Lib.Math.min.name ∈ lw_g := List.mem_filter.mpr ⟨by decide +kernel, by decide +kernel⟩
theorem w_mathi : Cond.initialized "java/lang/Math" ∈ lw_g := List.mem_filter.mpr ⟨by decide +kernel, by decide +kernel⟩
theorem w_minc : Cond.code Lib.Math.min.name Lib.Math.min.code 2 (some .int) ∈ lw_g := List.mem_filter.mpr ⟨by decide +kernel, by decide +kernel⟩
theorem w_abss : Cond.static Lib.Math.abs.name ∈ lw_g := List.mem_filter.mpr ⟨by decide +kernel, by decide +kernel⟩
theorem w_absc : Cond.code Lib.Math.abs.name Lib.Math.abs.code 1 (some .int) ∈ lw_g := List.mem_filter.mpr ⟨by decide +kernel, by decide +kernel⟩
theorem w_acn : Cond.native arraycopyName ∈ lw_g := List.mem_filter.mpr ⟨by decide +kernel, by decide +kernel⟩
theorem w_acs : Cond.static arraycopyName ∈ lw_g := List.mem_filter.mpr ⟨by decide +kernel, by decide +kernel⟩
theorem w_aci : Cond.initialized "java/lang/System" ∈ lw_g := List.mem_filter.mpr ⟨by decide +kernel, by decide +kernel⟩
section GC
variable {l : Launch} {x : Cx} {y : MI} {d mc ms nf : Nat} {Q : QT} {kc ks n : Nat} {w : AW} {pc nx tg : Nat} {L : List (Option AV)} {S : List AV}
theorem Mt.of {As : List AV} {L0 : List (Option AV)} (hy : plainName y.1.cls = true) (hlen : Nat.ble (entA As).length y.2.2.1 = true) (hL : entL As y.2.2.1 = L0) (k : Gj l x y d mc ms (n + mc) Q mc ms n w 0 L0 []) : Mt l x y d mc ms n w As Q := by
  refine Met.ofW (cc := y.2.1) (maxL := y.2.2.1) (ret := y.2.2.2) hy rfl ?_
  intro p e s m args below meth c s₁ B hml hv
  obtain ⟨rfl, hK, hP, hz, hAO⟩ := hv
  have hts : ∀ t ∈ lw_g, t.before (As.map (cv x.1)).toArray s = true := fun t ht => atoms_spec (ws := wsY y) B.pre t (List.mem_cons_of_mem _ ht)
  have hent := lv_entry (As.map (cv x.1)) (n := y.2.2.1) (by rw [entA_len]; exact Nat.le_of_ble_eq_true hlen)
  rw [lg_entry_eq]
  refine k p e s m _ below meth c s.heap [] 0 0 _ ⟨B.exec, B.bytes, B.returns, hml, findClass_of_methodNamed B.named, hts, B.notSynchronized, (name_of_methodNamed B.named B.method).1⟩ ⟨hK, hP, by omega, va_S.rf, by omega, hAO⟩ ⟨by omega, rfl⟩ (by omega) ?_
  refine ⟨hent.1, hent.2.1, fun q hq => hent.2.2 q ?_⟩
  rw [entA_args]
  obtain ⟨i, v, h1, rfl⟩ := (lvL_mem L0 0 q).mp hq
  refine (lvL_mem _ 0 _).mpr ⟨i, v, ?_, rfl⟩
  rw [← hL] at h1
  exact lk_app _ _ i v (lk_rep _) h1
theorem gj_iret {z : Int} (dg : AtI y pc .ireturn 1 nx) (hr : y.2.2.2 = some .int) (hq : Q (some (vI z)) w) : Gj l x y d mc ms n Q 0 ks n w pc L [vI z] := by
  intro p e s m args below meth c H locs cells slots ls F X h1 h2 hl
  obtain ⟨h1, -⟩ := h1
  refine W.widen (k := mc) (n := ms) (by omega) (by omega) ?_
  exact W.iret (v := iZ z) F.1 F.2.1 (F.2.2.1.trans hr) (fun t ht hW => ⟨⟨some (vI z), w, rfl, hq, va_K.moved hW.alike X.1, by rw [ht]; exact X.2.1⟩, X.2.2.2.1.F ht⟩) X.2.2.2.1.2.2 dg.1 F.2.2.2.2.2.2.1
theorem gj_zret {z : Int} (hz : z = 0 ∨ z = 1) (dg : AtI y pc .ireturn 1 nx) (hr : y.2.2.2 = some .boolean) (hq : Q (some (vI z)) w) : Gj l x y d mc ms n Q 0 ks n w pc L [vI z] := by
  intro p e s m args below meth c H locs cells slots ls F X h1 h2 hl
  obtain ⟨h1, -⟩ := h1
  refine W.widen (k := mc) (n := ms) (by omega) (by omega) ?_
  exact W.zret (v := iZ z) F.1 F.2.1 (F.2.2.1.trans hr) ((nar_Z hz) x.1).1 (fun t ht hW => ⟨⟨some (vI z), w, rfl, hq, va_K.moved hW.alike X.1, by rw [ht]; exact X.2.1⟩, X.2.2.2.1.F ht⟩) X.2.2.2.1.2.2 dg.1 F.2.2.2.2.2.2.1
theorem gj_lret {z : Int} (dg : AtI y pc .lreturn 1 nx) (hr : y.2.2.2 = some .long) (hq : Q (some (vL z)) w) : Gj l x y d mc ms n Q 0 ks n w pc L [vL z] := by
  intro p e s m args below meth c H locs cells slots ls F X h1 h2 hl
  obtain ⟨h1, -⟩ := h1
  refine W.widen (k := mc) (n := ms) (by omega) (by omega) ?_
  exact W.lret (v := lZ z) F.1 F.2.1 (F.2.2.1.trans hr) (fun t ht hW => ⟨⟨some (vL z), w, rfl, hq, va_K.moved hW.alike X.1, by rw [ht]; exact X.2.1⟩, X.2.2.2.1.F ht⟩) X.2.2.2.1.2.2 dg.1 F.2.2.2.2.2.2.1
theorem gj_vret (dg : AtI y pc .return_ 1 nx) (hr : y.2.2.2 = none) (hq : Q none w) : Gj l x y d mc ms n Q 0 ks n w pc L [] := by
  intro p e s m args below meth c H locs cells slots ls F X h1 h2 hl
  obtain ⟨h1, -⟩ := h1
  refine W.widen (k := mc) (n := ms) (by omega) (by omega) ?_
  exact W.vret F.1 F.2.1 (F.2.2.1.trans hr) (fun t ht hW => ⟨⟨none, w, rfl, hq, va_K.moved hW.alike X.1, by rw [ht]; exact X.2.1⟩, X.2.2.2.1.F ht⟩) X.2.2.2.1.2.2 dg.1 F.2.2.2.2.2.2.1
/-- behind a call -/
theorem gj_back {p : Program} {e : Env} {R : Room} {s : State} {m : MethodId} {args : Array Value} {below : List Frame} {meth : Method} {c : Code} {H : Heap} {locs : List Loc} {cells slots : Nat} {Z : State → Prop} {ls : Array Slot} {st0 : List Value} {rest : List AV} {a : Array Value} {n2 mc2 ms2 : Nat} {Q2 : QT}
    (hr : va_Run p l e R s m args below meth c H locs cells slots mc2 ms2 (F0 m pc ls st0) (rest.map (cv x.1)) (QcA x n2 Q2 a) (AX x)) (X : HX x n w s H locs cells) (hn2 : n2 = n + mc2)
    (kk : ∀ (v : Option AV) (w2 : AW) (H1 : Heap) (locs1 : List Loc), Q2 v w2 → HX x n2 w2 s H1 locs1 (cells + mc2) → W p l e R s m args below meth c H1 locs1 (cells + mc2) (slots + ms2) Z (F0 m (pc + 3) ls ((v.toList ++ rest).map (cv x.1)))) : W p l e R s m args below meth c H locs cells slots Z (F0 m pc ls st0) := by
  intro T hT X1
  obtain ⟨v, st₀, t, T', L9, h0, X', hL, e1, e2, ⟨⟨v2, w2, hv, hQ, hK2, hP2⟩, hz, hk⟩, st⟩ := hr T hT X1
  have hv : v = v2.map (cv x.1) := by
    injection hv
  subst hv
  rw [h0] at hz hk
  have hh : HX x n2 w2 s T'.heap (locs ++ L9) (cells + mc2) := by
    refine ⟨X.1, by rw [e1]; exact hP2, by have := X.2.2.1; omega, ⟨Nat.le_trans X.2.2.2.1.1 (by rw [e1]; exact hz), fun q g1 g2 => ?_, fun q hq => ?_⟩, X.2.2.2.2⟩
    · rw [e1, hk q (Nat.lt_of_lt_of_le g1 X.2.2.2.1.1) g2]
      exact X.2.2.2.1.2.1 q g1 g2
    · rcases List.mem_append.mp hq with h | h
      · exact X.2.2.2.1.2.2 q h
      · exact hL q h
  obtain ⟨t2, a1, b1⟩ := kk v2 w2 T'.heap (locs ++ L9) hQ hh T' rfl X'
  refine ⟨t2, st t2 ?_, b1⟩
  rw [List.map_append] at a1
  cases v2 <;> exact a1
theorem gj_callV {j ci k0 mc2 ms2 : Nat} {y2 : MI} {fs : List AV} {As S0 : List AV} {Q2 : QT} (dg : AtI y pc (.invokevirtual j) 3 nx) (hl : Cond.methodLink y.1.cls j y2.1 ∈ lw_g) (hc : CV y2 As.length ci) (hw : w k0 = cO ci fs) (hk : Nat.blt k0 n = true) (hd : 1 ≤ d) (hst : Nat.ble (wS S) 8 = true) (hS : S0 = As.reverse ++ vR k0 :: S) (hM : Mt l x y2 (d - 1) mc2 ms2 n w (vR k0 :: As) Q2)
    (kk : ∀ (v : Option AV) (w2 : AW), Q2 v w2 → Gj l x y d mc ms nf Q kc ks (n + mc2) w2 nx L (v.toList ++ S)) : Gj l x y d mc ms nf Q (kc + mc2) (ks + ms2) n w pc L S0 := by
  subst hS
  intro p e s m args below meth c H locs cells slots ls F X h1 h2 hlo
  refine gj_sz (fun hz0 => ?_)
  have hz := X.size hz0
  obtain ⟨c1, c2, c3, c4, c5, ⟨T, N, hci⟩, c6⟩ := hc
  have hk' : k0 < n := Nat.le_of_ble_eq_true hk
  have ht := F.2.2.2.2.2.1
  have cb : CallW (rmX d mc ms) s args y.1.cls y2.1.cls j y2.1 y2.2.1 y2.2.2.1 y2.2.2.2 (wsY y2) (rmX (d - 1) mc2 ms2) mc2 ms2 As.length := ⟨callB_of As.length ht (good_cw c4) rfl rfl rfl (ht _ c3) (ht _ hl) c5 ⟨show d - 1 + 1 ≤ d by omega, show 8 + (y2.2.2.1 + 11) + 40 * (d - 1) ≤ 40 * d by omega⟩, ht _ c1, ht _ c2⟩
  have hcell : (cw x n w)[k0]? = some (x.1 + k0, .inr (ci, fs.map (cv x.1))) := by rw [cw_at hk', hw]; rfl
  have hrun := va_runV (g := F0 m pc ls ((As.reverse ++ vR k0 :: S).map (cv x.1))) (As := As.map (cv x.1)) (b := x.1 + k0) (rest := S.map (cv x.1)) ⟨F.1, F.2.1, F.2.2.2.1, F.2.2.2.2.1, ht⟩ hM cb ⟨PcA_blind, va_recv X.1 X.2.1 hci hcell, fun U hU hW => ⟨rfl, va_K.moved hW.alike X.1, by rw [hU]; exact X.2.1, by rw [hU]; exact hz, va_AO.moved hW.alike X.2.2.2.2.2⟩⟩ rfl (by rw [List.length_map]) hlo.1 (by rw [List.map_append, List.map_reverse]; rfl) (lv_room (by rw [wS_c]; exact Nat.le_of_ble_eq_true hst)) dg.1 (locs := locs) (cells := cells) (slots := slots) (below := below) (e := e) (meth := meth) ⟨show cells + mc2 ≤ mc by omega, show slots + ms2 ≤ ms by omega⟩
  refine gj_back hrun X rfl (fun v w2 H1 locs1 hQ X1 => ?_)
  rw [dg.2]
  exact kk v w2 hQ p e s m args below meth c H1 locs1 (cells + mc2) (slots + ms2) ls F X1 ⟨by omega, by omega⟩ (by omega) hlo
theorem gj_callS {j mc2 ms2 : Nat} {y2 : MI} {As S0 : List AV} {Q2 : QT} (dg : AtI y pc (.invokestatic j) 3 nx) (hl : Cond.methodLink y.1.cls j y2.1 ∈ lw_g) (hc : CS y2 As.length) (hd : 1 ≤ d) (hst : Nat.ble (wS S) 8 = true) (hS : S0 = As.reverse ++ S) (hM : Mt l x y2 (d - 1) mc2 ms2 n w As Q2)
    (kk : ∀ (v : Option AV) (w2 : AW), Q2 v w2 → Gj l x y d mc ms nf Q kc ks (n + mc2) w2 nx L (v.toList ++ S)) : Gj l x y d mc ms nf Q (kc + mc2) (ks + ms2) n w pc L S0 := by
  subst hS
  intro p e s m args below meth c H locs cells slots ls F X h1 h2 hlo
  refine gj_sz (fun hz0 => ?_)
  have hz := X.size hz0
  obtain ⟨c1, c3, c4, c5, c6⟩ := hc
  have ht := F.2.2.2.2.2.1
  have hrun := va_runS (g := F0 m pc ls ((As.reverse ++ S).map (cv x.1))) (As := As.map (cv x.1)) (rest := S.map (cv x.1)) (R := rmX d mc ms) ⟨F.1, F.2.1, F.2.2.2.1, F.2.2.2.2.1, ht⟩ hM ⟨callB_of As.length ht (good_cw c4) rfl rfl rfl (ht _ c3) (ht _ hl) c5 ⟨show d - 1 + 1 ≤ d by omega, show 8 + (y2.2.2.1 + 11) + 40 * (d - 1) ≤ 40 * d by omega⟩, ht _ c1⟩ ⟨PcA_blind, fun U hU hW => ⟨rfl, va_K.moved hW.alike X.1, by rw [hU]; exact X.2.1, by rw [hU]; exact hz, va_AO.moved hW.alike X.2.2.2.2.2⟩⟩ rfl (by rw [List.length_map]) hlo.1 (by rw [List.map_append, List.map_reverse]) (lv_room (by rw [wS_c]; exact Nat.le_of_ble_eq_true hst)) dg.1 (locs := locs) (cells := cells) (slots := slots) (below := below) (e := e) (meth := meth) ⟨show cells + mc2 ≤ mc by omega, show slots + ms2 ≤ ms by omega⟩
  refine gj_back hrun X rfl (fun v w2 H1 locs1 hQ X1 => ?_)
  rw [dg.2]
  exact kk v w2 hQ p e s m args below meth c H1 locs1 (cells + mc2) (slots + ms2) ls F X1 ⟨by omega, by omega⟩ (by omega) hlo
theorem gj_callN {j k0 mc2 ms2 : Nat} {y2 : MI} {As S0 : List AV} {Q2 : QT} (dg : AtI y pc (.invokespecial j) 3 nx) (hl : Cond.methodLink y.1.cls j y2.1 ∈ lw_g) (hc : CN y2 As.length) (hd : 1 ≤ d) (hst : Nat.ble (wS S) 8 = true) (hS : S0 = As.reverse ++ vR k0 :: S) (hM : Mt l x y2 (d - 1) mc2 ms2 n w (vR k0 :: As) Q2)
    (kk : ∀ (v : Option AV) (w2 : AW), Q2 v w2 → Gj l x y d mc ms nf Q kc ks (n + mc2) w2 nx L (v.toList ++ S)) : Gj l x y d mc ms nf Q (kc + mc2) (ks + ms2) n w pc L S0 := by
  subst hS
  intro p e s m args below meth c H locs cells slots ls F X h1 h2 hlo
  refine gj_sz (fun hz0 => ?_)
  have hz := X.size hz0
  obtain ⟨c1, c3, c4, c7, c8, c5, c6⟩ := hc
  have ht := F.2.2.2.2.2.1
  have hg : GoodIn lw_g (wsY y2) := good_cw (by rw [c7]; exact c4)
  have hws : wsY y2 = Cond.code y2.1 y2.2.1 y2.2.2.1 none :: lw_g := by unfold wsY; rw [c7]
  have hrun := va_runI (g := F0 m pc ls ((As.reverse ++ vR k0 :: S).map (cv x.1))) (As := As.map (cv x.1)) (b := x.1 + k0) (rest := S.map (cv x.1)) (R := rmX d mc ms) ⟨F.1, F.2.1, F.2.2.2.1, F.2.2.2.2.1, ht⟩ hM (cwI As.length ht hg hws rfl rfl (ht _ c3) (ht _ hl) (ht _ c1) c8 c5 ⟨show d - 1 + 1 ≤ d by omega, show 8 + (y2.2.2.1 + 11) + 40 * (d - 1) ≤ 40 * d by omega⟩) ⟨PcA_blind, fun U hU hW => ⟨rfl, va_K.moved hW.alike X.1, by rw [hU]; exact X.2.1, by rw [hU]; exact hz, va_AO.moved hW.alike X.2.2.2.2.2⟩⟩ rfl (by rw [List.length_map]) hlo.1 (by rw [List.map_append, List.map_reverse]; rfl) (lv_room (by rw [wS_c]; exact Nat.le_of_ble_eq_true hst)) dg.1 (locs := locs) (cells := cells) (slots := slots) (below := below) (e := e) (meth := meth) ⟨show cells + mc2 ≤ mc by omega, show slots + ms2 ≤ ms by omega⟩
  refine gj_back hrun X rfl (fun v w2 H1 locs1 hQ X1 => ?_)
  rw [dg.2]
  exact kk v w2 hQ p e s m args below meth c H1 locs1 (cells + mc2) (slots + ms2) ls F X1 ⟨by omega, by omega⟩ (by omega) hlo
theorem gj_obj {j k0 : Nat} (dg : AtI y pc (.invokespecial j) 3 nx) (hl : Cond.methodLink y.1.cls j objectInit ∈ lw_g) (hd : 1 ≤ d) (hst : Nat.ble (wS S) 8 = true) (kk : Gj l x y d mc ms nf Q kc ks n w nx L S) : Gj l x y d mc ms nf Q kc ks n w pc L (vR k0 :: S) := by
  intro p e s m args below meth c H locs cells slots ls F X h1 h2 hlo
  have k2 := kk p e s m args below meth c H locs cells slots ls F X h1 h2 hlo
  rw [← dg.2] at k2
  have ht := F.2.2.2.2.2.1
  have hw : wS S ≤ 8 := Nat.le_of_ble_eq_true hst
  refine W.objInit (rest := S.map (cv x.1)) F.1 F.2.1 F.2.2.2.2.1 (ht _ hl) (ht _ w_oi) (ht _ w_oc) rfl (hlo.1.trans F.2.2.2.1.symm) rfl dg.1 hd ?_ k2
  rw [wS_c]
  show 2 * 0 + wS S + 12 ≤ 40 * d
  omega
theorem gj_min {j : Nat} {a b : Int} (dg : AtI y pc (.invokestatic j) 3 nx) (hl : Cond.methodLink y.1.cls j Lib.Math.min.name ∈ lw_g) (hd : 1 ≤ d) (hst : Nat.ble (wS S) 8 = true) (hr : R32 a ∧ R32 b) (kk : Gj l x y d mc ms nf Q kc ks n w nx L (vI (min a b) :: S)) : Gj l x y d mc ms nf Q kc ks n w pc L (vI b :: vI a :: S) := by
  intro p e s m args below meth c H locs cells slots ls F X h1 h2 hlo
  have k2 := kk p e s m args below meth c H locs cells slots ls F X h1 h2 hlo
  rw [← dg.2] at k2
  have ht := F.2.2.2.2.2.1
  have hw : wS S ≤ 8 := Nat.le_of_ble_eq_true hst
  refine va_mmin F.1 F.2.1 (F.2.2.2.1.trans hlo.1.symm) F.2.2.2.2.1 (ht _ hl) (ht _ w_mins) (ht _ w_mathi) (ht _ w_minc) hd (by rw [wS_c]; show wS S + 13 ≤ 40 * d; omega) (show cells ≤ mc by omega) (show slots ≤ ms by omega) dg.1 ?_
  have e1 : (if iZ b < iZ a then iZ b else iZ a) = iZ (min a b) := by
    simp only [iZ_lt hr.2 hr.1]
    by_cases h : b < a
    · rw [if_pos h, show min a b = b by omega]
    · rw [if_neg h, show min a b = a by omega]
  rw [e1]
  exact k2
theorem gj_abs {j : Nat} {a : Int} (dg : AtI y pc (.invokestatic j) 3 nx) (hl : Cond.methodLink y.1.cls j Lib.Math.abs.name ∈ lw_g) (hd : 1 ≤ d) (hst : Nat.ble (wS S) 8 = true) (hr : R32 a) (kk : Gj l x y d mc ms nf Q kc ks n w nx L (vI (max a (-a)) :: S)) : Gj l x y d mc ms nf Q kc ks n w pc L (vI a :: S) := by
  intro p e s m args below meth c H locs cells slots ls F X h1 h2 hlo
  have k2 := kk p e s m args below meth c H locs cells slots ls F X h1 h2 hlo
  rw [← dg.2] at k2
  have ht := F.2.2.2.2.2.1
  have hw : wS S ≤ 8 := Nat.le_of_ble_eq_true hst
  refine va_mabs F.1 F.2.1 (F.2.2.2.1.trans hlo.1.symm) F.2.2.2.2.1 (ht _ hl) (ht _ w_abss) (ht _ w_mathi) (ht _ w_absc) hd (by rw [wS_c]; show wS S + 13 ≤ 40 * d; omega) (show cells ≤ mc by omega) (show slots ≤ ms by omega) dg.1 ?_
  have e1 : (if 0 ≤ iZ a then iZ a else 0 - iZ a) = iZ (max a (-a)) := by
    have h0 : (0 : Int32) ≤ iZ a ↔ 0 ≤ a := by rw [← iZ_0]; exact iZ_le (by omega) hr
    simp only [h0]
    by_cases h : 0 ≤ a
    · rw [if_pos h, show max a (-a) = a by omega]
    · rw [if_neg h, show max a (-a) = 0 - a by omega, ← iZ_sub, iZ_0]
  rw [e1]
  exact k2
def cpf (f g : Int → Int) (sp dp c : Int) : Int → Int := fun j => if dp ≤ j ∧ j < dp + c then f (sp + (j - dp)) else g j
theorem gj_acopy {j k0 k1 N0 N1 : Nat} {f g : Int → Int} {sp dp c0 : Int} (dg : AtI y pc (.invokestatic j) 3 nx) (hl : Cond.methodLink y.1.cls j arraycopyName ∈ lw_g) (hd : 1 ≤ d) (hst : Nat.ble (wS S) 8 = true) (hw0 : w k0 = cI N0 f) (hk0 : Nat.blt k0 n = true) (hw1 : w k1 = cI N1 g) (hk1 : Nat.blt k1 n = true) (hN : Nat.ble N0 4096 = true ∧ Nat.ble N1 4096 = true) (hi : 0 ≤ sp ∧ 0 ≤ dp ∧ 0 ≤ c0 ∧ sp + c0 ≤ (N0 : Int) ∧ dp + c0 ≤ (N1 : Int)) (kk : Gj l x y d mc ms nf Q kc ks n (upw w k1 (cI N1 (cpf f g sp dp c0))) nx L S) : Gj l x y d mc ms nf Q kc ks n w pc L (vI c0 :: vI dp :: vR k1 :: vI sp :: vR k0 :: S) := by
  intro p e s m args below meth c H locs cells slots ls F X h1 h2 hlo
  have ht := F.2.2.2.2.2.1
  have hw : wS S ≤ 8 := Nat.le_of_ble_eq_true hst
  have hN0 := Nat.le_of_ble_eq_true hN.1
  have hN1 := Nat.le_of_ble_eq_true hN.2
  have hk0' : k0 < n := Nat.le_of_ble_eq_true hk0
  have hk1' : k1 < n := Nat.le_of_ble_eq_true hk1
  have hsp : R32 sp := by omega
  have hdp : R32 dp := by omega
  have hc0 : R32 c0 := by omega
  have hneg : ∀ {z : Int}, R32 z → 0 ≤ z → ¬ iZ z < 0 := fun hz h0 h => absurd ((iZ_lt (b := 0) hz (by omega)).mp (by rw [iZ_0]; exact h)) (by omega)
  refine va_copyi (D := x.2.1) (ty := .int) F.1 F.2.1 (F.2.2.2.1.trans hlo.1.symm) F.2.2.2.2.1 (ht _ hl) (ht _ w_acn) (ht _ w_acs) (ht _ w_aci) X.1 X.2.1 (cw_D x n w) X.2.2.2.1 k0 k1 0 0 (c0 := x.2.2.1) (c1 := x.2.2.1) (n0 := N0) (n1 := N1) (f := fun j => iZ (f (j : Int))) (g := fun j => iZ (g (j : Int))) (by rw [cw_at hk0', hw0]; rfl) (by rw [cw_at hk1', hw1]; rfl) rfl rfl rfl (hneg hsp hi.1) (hneg hdp hi.2.1) (hneg hc0 hi.2.2.1) (by rw [iZ_clamp hsp, iZ_clamp hc0]; omega) (by rw [iZ_clamp hdp, iZ_clamp hc0]; omega) (fun _ _ => rfl) hd (by rw [wS_c]; show wS S + (5 + 2 + 11) ≤ 40 * d; omega) dg.1 (fun H1 locs1 hP1 hD1 hS1 => ?_)
  rw [dg.2]
  refine kk p e s m args below meth c H1 locs1 cells slots ls F ⟨X.1, ?_, X.2.2.1, hS1, X.2.2.2.2⟩ h1 h2 hlo
  rw [← cw_set hk1']
  have e1 : va_cpy (fun j => iZ (f (j : Int))) (fun j => iZ (g (j : Int))) (iZ sp).toNatClampNeg (iZ dp).toNatClampNeg (iZ c0).toNatClampNeg = fun q : Nat => iZ (cpf f g sp dp c0 (q : Int)) := by
    funext q
    rw [iZ_clamp hsp, iZ_clamp hdp, iZ_clamp hc0]
    unfold va_cpy cpf
    by_cases h : dp ≤ (q : Int) ∧ (q : Int) < dp + c0
    · have e9 : ((sp.toNat + (q - dp.toNat) : Nat) : Int) = sp + ((q : Int) - dp) := by omega
      rw [if_pos h, if_pos (by omega), ← e9]
    · rw [if_neg h, if_neg (by omega)]
  rw [e1] at hP1
  exact hP1
end GC
end
section
/-! rows of Gj with locals, fields and stacks written out: no list is left to compute -/
/-- what a method that only reads answers; what one that writes answers, and the world behind it -/
def Rd (r : AV) (w : AW) : QT := fun v w2 => v = some r ∧ w2 = w
def Wr (r : AV) (P : AW → Prop) : QT := fun v w2 => v = some r ∧ P w2
def Wv (P : AW → Prop) : QT := fun v w2 => v = none ∧ P w2
section GF
variable {l : Launch} {x : Cx} {y : MI} {d mc ms nf : Nat} {Q : QT} {kc ks n : Nat} {w : AW} {pc nx tg : Nat} {t : List (Option AV)} {S : List AV}
theorem gj_il0 {z : Int} (dg : AtI y pc (.iload_n 0) 1 nx) (k : Gj l x y d mc ms nf Q kc ks n w nx (some (vI z) :: t) (vI z :: S)) : Gj l x y d mc ms nf Q kc ks n w pc (some (vI z) :: t) S := gj_iload_n (i := 0) dg rfl k
theorem gj_ll0 {z : Int} (dg : AtI y pc (.lload_n 0) 1 nx) (k : Gj l x y d mc ms nf Q kc ks n w nx (some (vL z) :: t) (vL z :: S)) : Gj l x y d mc ms nf Q kc ks n w pc (some (vL z) :: t) S := gj_lload_n (i := 0) dg rfl k
theorem gj_al0 {z : Nat} (dg : AtI y pc (.aload_n 0) 1 nx) (k : Gj l x y d mc ms nf Q kc ks n w nx (some (vR z) :: t) (vR z :: S)) : Gj l x y d mc ms nf Q kc ks n w pc (some (vR z) :: t) S := gj_aload_n (i := 0) dg rfl k
theorem gj_is0 {a0 : Option AV} {z : Int} (dg : AtI y pc (.istore_n 0) 1 nx) (hn : Nat.blt 0 y.2.2.1 = true) (hok : okS (a0 :: t) 0 = true) (k : Gj l x y d mc ms nf Q kc ks n w nx (some (vI z) :: t) S) : Gj l x y d mc ms nf Q kc ks n w pc (a0 :: t) (vI z :: S) := gj_istore_n (i := 0) dg hn hok k
theorem gj_as0 {a0 : Option AV} {z : Nat} (dg : AtI y pc (.astore_n 0) 1 nx) (hn : Nat.blt 0 y.2.2.1 = true) (hok : okS (a0 :: t) 0 = true) (k : Gj l x y d mc ms nf Q kc ks n w nx (some (vR z) :: t) S) : Gj l x y d mc ms nf Q kc ks n w pc (a0 :: t) (vR z :: S) := gj_astore_n (i := 0) dg hn hok k
theorem gj_ls0 {a0 : Option AV} {b1 : Option AV} {z : Int} (dg : AtI y pc (.lstore_n 0) 1 nx) (hn : Nat.blt (0 + 1) y.2.2.1 = true) (hok : okS (a0 :: b1 :: t) 0 = true) (k : Gj l x y d mc ms nf Q kc ks n w nx (some (vL z) :: none :: t) S) : Gj l x y d mc ms nf Q kc ks n w pc (a0 :: b1 :: t) (vL z :: S) := gj_lstore_n (i := 0) dg hn hok k
theorem gj_ii0 {z a : Int} (dg : AtI y pc (.iinc 0 z) 3 nx) (hn : Nat.blt 0 y.2.2.1 = true) (hok : okS (some (vI a) :: t) 0 = true) (k : Gj l x y d mc ms nf Q kc ks n w nx (some (vI (a + z)) :: t) S) : Gj l x y d mc ms nf Q kc ks n w pc (some (vI a) :: t) S := gj_iinc (i := 0) dg hn hok rfl k
theorem gj_il1 {a0 : Option AV} {z : Int} (dg : AtI y pc (.iload_n 1) 1 nx) (k : Gj l x y d mc ms nf Q kc ks n w nx (a0 :: some (vI z) :: t) (vI z :: S)) : Gj l x y d mc ms nf Q kc ks n w pc (a0 :: some (vI z) :: t) S := gj_iload_n (i := 1) dg rfl k
theorem gj_ll1 {a0 : Option AV} {z : Int} (dg : AtI y pc (.lload_n 1) 1 nx) (k : Gj l x y d mc ms nf Q kc ks n w nx (a0 :: some (vL z) :: t) (vL z :: S)) : Gj l x y d mc ms nf Q kc ks n w pc (a0 :: some (vL z) :: t) S := gj_lload_n (i := 1) dg rfl k
theorem gj_al1 {a0 : Option AV} {z : Nat} (dg : AtI y pc (.aload_n 1) 1 nx) (k : Gj l x y d mc ms nf Q kc ks n w nx (a0 :: some (vR z) :: t) (vR z :: S)) : Gj l x y d mc ms nf Q kc ks n w pc (a0 :: some (vR z) :: t) S := gj_aload_n (i := 1) dg rfl k
theorem gj_is1 {a0 a1 : Option AV} {z : Int} (dg : AtI y pc (.istore_n 1) 1 nx) (hn : Nat.blt 1 y.2.2.1 = true) (hok : okS (a0 :: a1 :: t) 1 = true) (k : Gj l x y d mc ms nf Q kc ks n w nx (a0 :: some (vI z) :: t) S) : Gj l x y d mc ms nf Q kc ks n w pc (a0 :: a1 :: t) (vI z :: S) := gj_istore_n (i := 1) dg hn hok k
theorem gj_as1 {a0 a1 : Option AV} {z : Nat} (dg : AtI y pc (.astore_n 1) 1 nx) (hn : Nat.blt 1 y.2.2.1 = true) (hok : okS (a0 :: a1 :: t) 1 = true) (k : Gj l x y d mc ms nf Q kc ks n w nx (a0 :: some (vR z) :: t) S) : Gj l x y d mc ms nf Q kc ks n w pc (a0 :: a1 :: t) (vR z :: S) := gj_astore_n (i := 1) dg hn hok k
theorem gj_ls1 {a0 a1 : Option AV} {b1 : Option AV} {z : Int} (dg : AtI y pc (.lstore_n 1) 1 nx) (hn : Nat.blt (1 + 1) y.2.2.1 = true) (hok : okS (a0 :: a1 :: b1 :: t) 1 = true) (k : Gj l x y d mc ms nf Q kc ks n w nx (a0 :: some (vL z) :: none :: t) S) : Gj l x y d mc ms nf Q kc ks n w pc (a0 :: a1 :: b1 :: t) (vL z :: S) := gj_lstore_n (i := 1) dg hn hok k
theorem gj_ii1 {a0 : Option AV} {z a : Int} (dg : AtI y pc (.iinc 1 z) 3 nx) (hn : Nat.blt 1 y.2.2.1 = true) (hok : okS (a0 :: some (vI a) :: t) 1 = true) (k : Gj l x y d mc ms nf Q kc ks n w nx (a0 :: some (vI (a + z)) :: t) S) : Gj l x y d mc ms nf Q kc ks n w pc (a0 :: some (vI a) :: t) S := gj_iinc (i := 1) dg hn hok rfl k
theorem gj_il2 {a0 a1 : Option AV} {z : Int} (dg : AtI y pc (.iload_n 2) 1 nx) (k : Gj l x y d mc ms nf Q kc ks n w nx (a0 :: a1 :: some (vI z) :: t) (vI z :: S)) : Gj l x y d mc ms nf Q kc ks n w pc (a0 :: a1 :: some (vI z) :: t) S := gj_iload_n (i := 2) dg rfl k
theorem gj_ll2 {a0 a1 : Option AV} {z : Int} (dg : AtI y pc (.lload_n 2) 1 nx) (k : Gj l x y d mc ms nf Q kc ks n w nx (a0 :: a1 :: some (vL z) :: t) (vL z :: S)) : Gj l x y d mc ms nf Q kc ks n w pc (a0 :: a1 :: some (vL z) :: t) S := gj_lload_n (i := 2) dg rfl k
theorem gj_al2 {a0 a1 : Option AV} {z : Nat} (dg : AtI y pc (.aload_n 2) 1 nx) (k : Gj l x y d mc ms nf Q kc ks n w nx (a0 :: a1 :: some (vR z) :: t) (vR z :: S)) : Gj l x y d mc ms nf Q kc ks n w pc (a0 :: a1 :: some (vR z) :: t) S := gj_aload_n (i := 2) dg rfl k
theorem gj_is2 {a0 a1 a2 : Option AV} {z : Int} (dg : AtI y pc (.istore_n 2) 1 nx) (hn : Nat.blt 2 y.2.2.1 = true) (hok : okS (a0 :: a1 :: a2 :: t) 2 = true) (k : Gj l x y d mc ms nf Q kc ks n w nx (a0 :: a1 :: some (vI z) :: t) S) : Gj l x y d mc ms nf Q kc ks n w pc (a0 :: a1 :: a2 :: t) (vI z :: S) := gj_istore_n (i := 2) dg hn hok k
theorem gj_as2 {a0 a1 a2 : Option AV} {z : Nat} (dg : AtI y pc (.astore_n 2) 1 nx) (hn : Nat.blt 2 y.2.2.1 = true) (hok : okS (a0 :: a1 :: a2 :: t) 2 = true) (k : Gj l x y d mc ms nf Q kc ks n w nx (a0 :: a1 :: some (vR z) :: t) S) : Gj l x y d mc ms nf Q kc ks n w pc (a0 :: a1 :: a2 :: t) (vR z :: S) := gj_astore_n (i := 2) dg hn hok k
theorem gj_ls2 {a0 a1 a2 : Option AV} {b1 : Option AV} {z : Int} (dg : AtI y pc (.lstore_n 2) 1 nx) (hn : Nat.blt (2 + 1) y.2.2.1 = true) (hok : okS (a0 :: a1 :: a2 :: b1 :: t) 2 = true) (k : Gj l x y d mc ms nf Q kc ks n w nx (a0 :: a1 :: some (vL z) :: none :: t) S) : Gj l x y d mc ms nf Q kc ks n w pc (a0 :: a1 :: a2 :: b1 :: t) (vL z :: S) := gj_lstore_n (i := 2) dg hn hok k
theorem gj_ii2 {a0 a1 : Option AV} {z a : Int} (dg : AtI y pc (.iinc 2 z) 3 nx) (hn : Nat.blt 2 y.2.2.1 = true) (hok : okS (a0 :: a1 :: some (vI a) :: t) 2 = true) (k : Gj l x y d mc ms nf Q kc ks n w nx (a0 :: a1 :: some (vI (a + z)) :: t) S) : Gj l x y d mc ms nf Q kc ks n w pc (a0 :: a1 :: some (vI a) :: t) S := gj_iinc (i := 2) dg hn hok rfl k
theorem gj_il3 {a0 a1 a2 : Option AV} {z : Int} (dg : AtI y pc (.iload_n 3) 1 nx) (k : Gj l x y d mc ms nf Q kc ks n w nx (a0 :: a1 :: a2 :: some (vI z) :: t) (vI z :: S)) : Gj l x y d mc ms nf Q kc ks n w pc (a0 :: a1 :: a2 :: some (vI z) :: t) S := gj_iload_n (i := 3) dg rfl k
theorem gj_ll3 {a0 a1 a2 : Option AV} {z : Int} (dg : AtI y pc (.lload_n 3) 1 nx) (k : Gj l x y d mc ms nf Q kc ks n w nx (a0 :: a1 :: a2 :: some (vL z) :: t) (vL z :: S)) : Gj l x y d mc ms nf Q kc ks n w pc (a0 :: a1 :: a2 :: some (vL z) :: t) S := gj_lload_n (i := 3) dg rfl k
theorem gj_al3 {a0 a1 a2 : Option AV} {z : Nat} (dg : AtI y pc (.aload_n 3) 1 nx) (k : Gj l x y d mc ms nf Q kc ks n w nx (a0 :: a1 :: a2 :: some (vR z) :: t) (vR z :: S)) : Gj l x y d mc ms nf Q kc ks n w pc (a0 :: a1 :: a2 :: some (vR z) :: t) S := gj_aload_n (i := 3) dg rfl k
theorem gj_is3 {a0 a1 a2 a3 : Option AV} {z : Int} (dg : AtI y pc (.istore_n 3) 1 nx) (hn : Nat.blt 3 y.2.2.1 = true) (hok : okS (a0 :: a1 :: a2 :: a3 :: t) 3 = true) (k : Gj l x y d mc ms nf Q kc ks n w nx (a0 :: a1 :: a2 :: some (vI z) :: t) S) : Gj l x y d mc ms nf Q kc ks n w pc (a0 :: a1 :: a2 :: a3 :: t) (vI z :: S) := gj_istore_n (i := 3) dg hn hok k
theorem gj_as3 {a0 a1 a2 a3 : Option AV} {z : Nat} (dg : AtI y pc (.astore_n 3) 1 nx) (hn : Nat.blt 3 y.2.2.1 = true) (hok : okS (a0 :: a1 :: a2 :: a3 :: t) 3 = true) (k : Gj l x y d mc ms nf Q kc ks n w nx (a0 :: a1 :: a2 :: some (vR z) :: t) S) : Gj l x y d mc ms nf Q kc ks n w pc (a0 :: a1 :: a2 :: a3 :: t) (vR z :: S) := gj_astore_n (i := 3) dg hn hok k
theorem gj_ls3 {a0 a1 a2 a3 : Option AV} {b1 : Option AV} {z : Int} (dg : AtI y pc (.lstore_n 3) 1 nx) (hn : Nat.blt (3 + 1) y.2.2.1 = true) (hok : okS (a0 :: a1 :: a2 :: a3 :: b1 :: t) 3 = true) (k : Gj l x y d mc ms nf Q kc ks n w nx (a0 :: a1 :: a2 :: some (vL z) :: none :: t) S) : Gj l x y d mc ms nf Q kc ks n w pc (a0 :: a1 :: a2 :: a3 :: b1 :: t) (vL z :: S) := gj_lstore_n (i := 3) dg hn hok k
theorem gj_ii3 {a0 a1 a2 : Option AV} {z a : Int} (dg : AtI y pc (.iinc 3 z) 3 nx) (hn : Nat.blt 3 y.2.2.1 = true) (hok : okS (a0 :: a1 :: a2 :: some (vI a) :: t) 3 = true) (k : Gj l x y d mc ms nf Q kc ks n w nx (a0 :: a1 :: a2 :: some (vI (a + z)) :: t) S) : Gj l x y d mc ms nf Q kc ks n w pc (a0 :: a1 :: a2 :: some (vI a) :: t) S := gj_iinc (i := 3) dg hn hok rfl k
theorem gj_il4 {a0 a1 a2 a3 : Option AV} {z : Int} (dg : AtI y pc (.iload 4) 2 nx) (k : Gj l x y d mc ms nf Q kc ks n w nx (a0 :: a1 :: a2 :: a3 :: some (vI z) :: t) (vI z :: S)) : Gj l x y d mc ms nf Q kc ks n w pc (a0 :: a1 :: a2 :: a3 :: some (vI z) :: t) S := gj_iload (i := 4) dg rfl k
theorem gj_ll4 {a0 a1 a2 a3 : Option AV} {z : Int} (dg : AtI y pc (.lload 4) 2 nx) (k : Gj l x y d mc ms nf Q kc ks n w nx (a0 :: a1 :: a2 :: a3 :: some (vL z) :: t) (vL z :: S)) : Gj l x y d mc ms nf Q kc ks n w pc (a0 :: a1 :: a2 :: a3 :: some (vL z) :: t) S := gj_lload (i := 4) dg rfl k
theorem gj_al4 {a0 a1 a2 a3 : Option AV} {z : Nat} (dg : AtI y pc (.aload 4) 2 nx) (k : Gj l x y d mc ms nf Q kc ks n w nx (a0 :: a1 :: a2 :: a3 :: some (vR z) :: t) (vR z :: S)) : Gj l x y d mc ms nf Q kc ks n w pc (a0 :: a1 :: a2 :: a3 :: some (vR z) :: t) S := gj_aload (i := 4) dg rfl k
theorem gj_is4 {a0 a1 a2 a3 a4 : Option AV} {z : Int} (dg : AtI y pc (.istore 4) 2 nx) (hn : Nat.blt 4 y.2.2.1 = true) (hok : okS (a0 :: a1 :: a2 :: a3 :: a4 :: t) 4 = true) (k : Gj l x y d mc ms nf Q kc ks n w nx (a0 :: a1 :: a2 :: a3 :: some (vI z) :: t) S) : Gj l x y d mc ms nf Q kc ks n w pc (a0 :: a1 :: a2 :: a3 :: a4 :: t) (vI z :: S) := gj_istore (i := 4) dg hn hok k
theorem gj_as4 {a0 a1 a2 a3 a4 : Option AV} {z : Nat} (dg : AtI y pc (.astore 4) 2 nx) (hn : Nat.blt 4 y.2.2.1 = true) (hok : okS (a0 :: a1 :: a2 :: a3 :: a4 :: t) 4 = true) (k : Gj l x y d mc ms nf Q kc ks n w nx (a0 :: a1 :: a2 :: a3 :: some (vR z) :: t) S) : Gj l x y d mc ms nf Q kc ks n w pc (a0 :: a1 :: a2 :: a3 :: a4 :: t) (vR z :: S) := gj_astore (i := 4) dg hn hok k
theorem gj_ls4 {a0 a1 a2 a3 a4 : Option AV} {b1 : Option AV} {z : Int} (dg : AtI y pc (.lstore 4) 2 nx) (hn : Nat.blt (4 + 1) y.2.2.1 = true) (hok : okS (a0 :: a1 :: a2 :: a3 :: a4 :: b1 :: t) 4 = true) (k : Gj l x y d mc ms nf Q kc ks n w nx (a0 :: a1 :: a2 :: a3 :: some (vL z) :: none :: t) S) : Gj l x y d mc ms nf Q kc ks n w pc (a0 :: a1 :: a2 :: a3 :: a4 :: b1 :: t) (vL z :: S) := gj_lstore (i := 4) dg hn hok k
theorem gj_ii4 {a0 a1 a2 a3 : Option AV} {z a : Int} (dg : AtI y pc (.iinc 4 z) 3 nx) (hn : Nat.blt 4 y.2.2.1 = true) (hok : okS (a0 :: a1 :: a2 :: a3 :: some (vI a) :: t) 4 = true) (k : Gj l x y d mc ms nf Q kc ks n w nx (a0 :: a1 :: a2 :: a3 :: some (vI (a + z)) :: t) S) : Gj l x y d mc ms nf Q kc ks n w pc (a0 :: a1 :: a2 :: a3 :: some (vI a) :: t) S := gj_iinc (i := 4) dg hn hok rfl k
theorem gj_il5 {a0 a1 a2 a3 a4 : Option AV} {z : Int} (dg : AtI y pc (.iload 5) 2 nx) (k : Gj l x y d mc ms nf Q kc ks n w nx (a0 :: a1 :: a2 :: a3 :: a4 :: some (vI z) :: t) (vI z :: S)) : Gj l x y d mc ms nf Q kc ks n w pc (a0 :: a1 :: a2 :: a3 :: a4 :: some (vI z) :: t) S := gj_iload (i := 5) dg rfl k
theorem gj_ll5 {a0 a1 a2 a3 a4 : Option AV} {z : Int} (dg : AtI y pc (.lload 5) 2 nx) (k : Gj l x y d mc ms nf Q kc ks n w nx (a0 :: a1 :: a2 :: a3 :: a4 :: some (vL z) :: t) (vL z :: S)) : Gj l x y d mc ms nf Q kc ks n w pc (a0 :: a1 :: a2 :: a3 :: a4 :: some (vL z) :: t) S := gj_lload (i := 5) dg rfl k
theorem gj_al5 {a0 a1 a2 a3 a4 : Option AV} {z : Nat} (dg : AtI y pc (.aload 5) 2 nx) (k : Gj l x y d mc ms nf Q kc ks n w nx (a0 :: a1 :: a2 :: a3 :: a4 :: some (vR z) :: t) (vR z :: S)) : Gj l x y d mc ms nf Q kc ks n w pc (a0 :: a1 :: a2 :: a3 :: a4 :: some (vR z) :: t) S := gj_aload (i := 5) dg rfl k
theorem gj_is5 {a0 a1 a2 a3 a4 a5 : Option AV} {z : Int} (dg : AtI y pc (.istore 5) 2 nx) (hn : Nat.blt 5 y.2.2.1 = true) (hok : okS (a0 :: a1 :: a2 :: a3 :: a4 :: a5 :: t) 5 = true) (k : Gj l x y d mc ms nf Q kc ks n w nx (a0 :: a1 :: a2 :: a3 :: a4 :: some (vI z) :: t) S) : Gj l x y d mc ms nf Q kc ks n w pc (a0 :: a1 :: a2 :: a3 :: a4 :: a5 :: t) (vI z :: S) := gj_istore (i := 5) dg hn hok k
theorem gj_as5 {a0 a1 a2 a3 a4 a5 : Option AV} {z : Nat} (dg : AtI y pc (.astore 5) 2 nx) (hn : Nat.blt 5 y.2.2.1 = true) (hok : okS (a0 :: a1 :: a2 :: a3 :: a4 :: a5 :: t) 5 = true) (k : Gj l x y d mc ms nf Q kc ks n w nx (a0 :: a1 :: a2 :: a3 :: a4 :: some (vR z) :: t) S) : Gj l x y d mc ms nf Q kc ks n w pc (a0 :: a1 :: a2 :: a3 :: a4 :: a5 :: t) (vR z :: S) := gj_astore (i := 5) dg hn hok k
theorem gj_ls5 {a0 a1 a2 a3 a4 a5 : Option AV} {b1 : Option AV} {z : Int} (dg : AtI y pc (.lstore 5) 2 nx) (hn : Nat.blt (5 + 1) y.2.2.1 = true) (hok : okS (a0 :: a1 :: a2 :: a3 :: a4 :: a5 :: b1 :: t) 5 = true) (k : Gj l x y d mc ms nf Q kc ks n w nx (a0 :: a1 :: a2 :: a3 :: a4 :: some (vL z) :: none :: t) S) : Gj l x y d mc ms nf Q kc ks n w pc (a0 :: a1 :: a2 :: a3 :: a4 :: a5 :: b1 :: t) (vL z :: S) := gj_lstore (i := 5) dg hn hok k
theorem gj_ii5 {a0 a1 a2 a3 a4 : Option AV} {z a : Int} (dg : AtI y pc (.iinc 5 z) 3 nx) (hn : Nat.blt 5 y.2.2.1 = true) (hok : okS (a0 :: a1 :: a2 :: a3 :: a4 :: some (vI a) :: t) 5 = true) (k : Gj l x y d mc ms nf Q kc ks n w nx (a0 :: a1 :: a2 :: a3 :: a4 :: some (vI (a + z)) :: t) S) : Gj l x y d mc ms nf Q kc ks n w pc (a0 :: a1 :: a2 :: a3 :: a4 :: some (vI a) :: t) S := gj_iinc (i := 5) dg hn hok rfl k
theorem gj_il6 {a0 a1 a2 a3 a4 a5 : Option AV} {z : Int} (dg : AtI y pc (.iload 6) 2 nx) (k : Gj l x y d mc ms nf Q kc ks n w nx (a0 :: a1 :: a2 :: a3 :: a4 :: a5 :: some (vI z) :: t) (vI z :: S)) : Gj l x y d mc ms nf Q kc ks n w pc (a0 :: a1 :: a2 :: a3 :: a4 :: a5 :: some (vI z) :: t) S := gj_iload (i := 6) dg rfl k
theorem gj_ll6 {a0 a1 a2 a3 a4 a5 : Option AV} {z : Int} (dg : AtI y pc (.lload 6) 2 nx) (k : Gj l x y d mc ms nf Q kc ks n w nx (a0 :: a1 :: a2 :: a3 :: a4 :: a5 :: some (vL z) :: t) (vL z :: S)) : Gj l x y d mc ms nf Q kc ks n w pc (a0 :: a1 :: a2 :: a3 :: a4 :: a5 :: some (vL z) :: t) S := gj_lload (i := 6) dg rfl k
theorem gj_al6 {a0 a1 a2 a3 a4 a5 : Option AV} {z : Nat} (dg : AtI y pc (.aload 6) 2 nx) (k : Gj l x y d mc ms nf Q kc ks n w nx (a0 :: a1 :: a2 :: a3 :: a4 :: a5 :: some (vR z) :: t) (vR z :: S)) : Gj l x y d mc ms nf Q kc ks n w pc (a0 :: a1 :: a2 :: a3 :: a4 :: a5 :: some (vR z) :: t) S := gj_aload (i := 6) dg rfl k
theorem gj_is6 {a0 a1 a2 a3 a4 a5 a6 : Option AV} {z : Int} (dg : AtI y pc (.istore 6) 2 nx) (hn : Nat.blt 6 y.2.2.1 = true) (hok : okS (a0 :: a1 :: a2 :: a3 :: a4 :: a5 :: a6 :: t) 6 = true) (k : Gj l x y d mc ms nf Q kc ks n w nx (a0 :: a1 :: a2 :: a3 :: a4 :: a5 :: some (vI z) :: t) S) : Gj l x y d mc ms nf Q kc ks n w pc (a0 :: a1 :: a2 :: a3 :: a4 :: a5 :: a6 :: t) (vI z :: S) := gj_istore (i := 6) dg hn hok k
theorem gj_as6 {a0 a1 a2 a3 a4 a5 a6 : Option AV} {z : Nat} (dg : AtI y pc (.astore 6) 2 nx) (hn : Nat.blt 6 y.2.2.1 = true) (hok : okS (a0 :: a1 :: a2 :: a3 :: a4 :: a5 :: a6 :: t) 6 = true) (k : Gj l x y d mc ms nf Q kc ks n w nx (a0 :: a1 :: a2 :: a3 :: a4 :: a5 :: some (vR z) :: t) S) : Gj l x y d mc ms nf Q kc ks n w pc (a0 :: a1 :: a2 :: a3 :: a4 :: a5 :: a6 :: t) (vR z :: S) := gj_astore (i := 6) dg hn hok k
theorem gj_ls6 {a0 a1 a2 a3 a4 a5 a6 : Option AV} {b1 : Option AV} {z : Int} (dg : AtI y pc (.lstore 6) 2 nx) (hn : Nat.blt (6 + 1) y.2.2.1 = true) (hok : okS (a0 :: a1 :: a2 :: a3 :: a4 :: a5 :: a6 :: b1 :: t) 6 = true) (k : Gj l x y d mc ms nf Q kc ks n w nx (a0 :: a1 :: a2 :: a3 :: a4 :: a5 :: some (vL z) :: none :: t) S) : Gj l x y d mc ms nf Q kc ks n w pc (a0 :: a1 :: a2 :: a3 :: a4 :: a5 :: a6 :: b1 :: t) (vL z :: S) := gj_lstore (i := 6) dg hn hok k
theorem gj_ii6 {a0 a1 a2 a3 a4 a5 : Option AV} {z a : Int} (dg : AtI y pc (.iinc 6 z) 3 nx) (hn : Nat.blt 6 y.2.2.1 = true) (hok : okS (a0 :: a1 :: a2 :: a3 :: a4 :: a5 :: some (vI a) :: t) 6 = true) (k : Gj l x y d mc ms nf Q kc ks n w nx (a0 :: a1 :: a2 :: a3 :: a4 :: a5 :: some (vI (a + z)) :: t) S) : Gj l x y d mc ms nf Q kc ks n w pc (a0 :: a1 :: a2 :: a3 :: a4 :: a5 :: some (vI a) :: t) S := gj_iinc (i := 6) dg hn hok rfl k
theorem gj_il7 {a0 a1 a2 a3 a4 a5 a6 : Option AV} {z : Int} (dg : AtI y pc (.iload 7) 2 nx) (k : Gj l x y d mc ms nf Q kc ks n w nx (a0 :: a1 :: a2 :: a3 :: a4 :: a5 :: a6 :: some (vI z) :: t) (vI z :: S)) : Gj l x y d mc ms nf Q kc ks n w pc (a0 :: a1 :: a2 :: a3 :: a4 :: a5 :: a6 :: some (vI z) :: t) S := gj_iload (i := 7) dg rfl k
theorem gj_ll7 {a0 a1 a2 a3 a4 a5 a6 : Option AV} {z : Int} (dg : AtI y pc (.lload 7) 2 nx) (k : Gj l x y d mc ms nf Q kc ks n w nx (a0 :: a1 :: a2 :: a3 :: a4 :: a5 :: a6 :: some (vL z) :: t) (vL z :: S)) : Gj l x y d mc ms nf Q kc ks n w pc (a0 :: a1 :: a2 :: a3 :: a4 :: a5 :: a6 :: some (vL z) :: t) S := gj_lload (i := 7) dg rfl k
theorem gj_al7 {a0 a1 a2 a3 a4 a5 a6 : Option AV} {z : Nat} (dg : AtI y pc (.aload 7) 2 nx) (k : Gj l x y d mc ms nf Q kc ks n w nx (a0 :: a1 :: a2 :: a3 :: a4 :: a5 :: a6 :: some (vR z) :: t) (vR z :: S)) : Gj l x y d mc ms nf Q kc ks n w pc (a0 :: a1 :: a2 :: a3 :: a4 :: a5 :: a6 :: some (vR z) :: t) S := gj_aload (i := 7) dg rfl k
theorem gj_is7 {a0 a1 a2 a3 a4 a5 a6 a7 : Option AV} {z : Int} (dg : AtI y pc (.istore 7) 2 nx) (hn : Nat.blt 7 y.2.2.1 = true) (hok : okS (a0 :: a1 :: a2 :: a3 :: a4 :: a5 :: a6 :: a7 :: t) 7 = true) (k : Gj l x y d mc ms nf Q kc ks n w nx (a0 :: a1 :: a2 :: a3 :: a4 :: a5 :: a6 :: some (vI z) :: t) S) : Gj l x y d mc ms nf Q kc ks n w pc (a0 :: a1 :: a2 :: a3 :: a4 :: a5 :: a6 :: a7 :: t) (vI z :: S) := gj_istore (i := 7) dg hn hok k
theorem gj_as7 {a0 a1 a2 a3 a4 a5 a6 a7 : Option AV} {z : Nat} (dg : AtI y pc (.astore 7) 2 nx) (hn : Nat.blt 7 y.2.2.1 = true) (hok : okS (a0 :: a1 :: a2 :: a3 :: a4 :: a5 :: a6 :: a7 :: t) 7 = true) (k : Gj l x y d mc ms nf Q kc ks n w nx (a0 :: a1 :: a2 :: a3 :: a4 :: a5 :: a6 :: some (vR z) :: t) S) : Gj l x y d mc ms nf Q kc ks n w pc (a0 :: a1 :: a2 :: a3 :: a4 :: a5 :: a6 :: a7 :: t) (vR z :: S) := gj_astore (i := 7) dg hn hok k
theorem gj_ls7 {a0 a1 a2 a3 a4 a5 a6 a7 : Option AV} {b1 : Option AV} {z : Int} (dg : AtI y pc (.lstore 7) 2 nx) (hn : Nat.blt (7 + 1) y.2.2.1 = true) (hok : okS (a0 :: a1 :: a2 :: a3 :: a4 :: a5 :: a6 :: a7 :: b1 :: t) 7 = true) (k : Gj l x y d mc ms nf Q kc ks n w nx (a0 :: a1 :: a2 :: a3 :: a4 :: a5 :: a6 :: some (vL z) :: none :: t) S) : Gj l x y d mc ms nf Q kc ks n w pc (a0 :: a1 :: a2 :: a3 :: a4 :: a5 :: a6 :: a7 :: b1 :: t) (vL z :: S) := gj_lstore (i := 7) dg hn hok k
theorem gj_ii7 {a0 a1 a2 a3 a4 a5 a6 : Option AV} {z a : Int} (dg : AtI y pc (.iinc 7 z) 3 nx) (hn : Nat.blt 7 y.2.2.1 = true) (hok : okS (a0 :: a1 :: a2 :: a3 :: a4 :: a5 :: a6 :: some (vI a) :: t) 7 = true) (k : Gj l x y d mc ms nf Q kc ks n w nx (a0 :: a1 :: a2 :: a3 :: a4 :: a5 :: a6 :: some (vI (a + z)) :: t) S) : Gj l x y d mc ms nf Q kc ks n w pc (a0 :: a1 :: a2 :: a3 :: a4 :: a5 :: a6 :: some (vI a) :: t) S := gj_iinc (i := 7) dg hn hok rfl k
theorem gj_il8 {a0 a1 a2 a3 a4 a5 a6 a7 : Option AV} {z : Int} (dg : AtI y pc (.iload 8) 2 nx) (k : Gj l x y d mc ms nf Q kc ks n w nx (a0 :: a1 :: a2 :: a3 :: a4 :: a5 :: a6 :: a7 :: some (vI z) :: t) (vI z :: S)) : Gj l x y d mc ms nf Q kc ks n w pc (a0 :: a1 :: a2 :: a3 :: a4 :: a5 :: a6 :: a7 :: some (vI z) :: t) S := gj_iload (i := 8) dg rfl k
theorem gj_ll8 {a0 a1 a2 a3 a4 a5 a6 a7 : Option AV} {z : Int} (dg : AtI y pc (.lload 8) 2 nx) (k : Gj l x y d mc ms nf Q kc ks n w nx (a0 :: a1 :: a2 :: a3 :: a4 :: a5 :: a6 :: a7 :: some (vL z) :: t) (vL z :: S)) : Gj l x y d mc ms nf Q kc ks n w pc (a0 :: a1 :: a2 :: a3 :: a4 :: a5 :: a6 :: a7 :: some (vL z) :: t) S := gj_lload (i := 8) dg rfl k
theorem gj_al8 {a0 a1 a2 a3 a4 a5 a6 a7 : Option AV} {z : Nat} (dg : AtI y pc (.aload 8) 2 nx) (k : Gj l x y d mc ms nf Q kc ks n w nx (a0 :: a1 :: a2 :: a3 :: a4 :: a5 :: a6 :: a7 :: some (vR z) :: t) (vR z :: S)) : Gj l x y d mc ms nf Q kc ks n w pc (a0 :: a1 :: a2 :: a3 :: a4 :: a5 :: a6 :: a7 :: some (vR z) :: t) S := gj_aload (i := 8) dg rfl k
theorem gj_is8 {a0 a1 a2 a3 a4 a5 a6 a7 a8 : Option AV} {z : Int} (dg : AtI y pc (.istore 8) 2 nx) (hn : Nat.blt 8 y.2.2.1 = true) (hok : okS (a0 :: a1 :: a2 :: a3 :: a4 :: a5 :: a6 :: a7 :: a8 :: t) 8 = true) (k : Gj l x y d mc ms nf Q kc ks n w nx (a0 :: a1 :: a2 :: a3 :: a4 :: a5 :: a6 :: a7 :: some (vI z) :: t) S) : Gj l x y d mc ms nf Q kc ks n w pc (a0 :: a1 :: a2 :: a3 :: a4 :: a5 :: a6 :: a7 :: a8 :: t) (vI z :: S) := gj_istore (i := 8) dg hn hok k
theorem gj_as8 {a0 a1 a2 a3 a4 a5 a6 a7 a8 : Option AV} {z : Nat} (dg : AtI y pc (.astore 8) 2 nx) (hn : Nat.blt 8 y.2.2.1 = true) (hok : okS (a0 :: a1 :: a2 :: a3 :: a4 :: a5 :: a6 :: a7 :: a8 :: t) 8 = true) (k : Gj l x y d mc ms nf Q kc ks n w nx (a0 :: a1 :: a2 :: a3 :: a4 :: a5 :: a6 :: a7 :: some (vR z) :: t) S) : Gj l x y d mc ms nf Q kc ks n w pc (a0 :: a1 :: a2 :: a3 :: a4 :: a5 :: a6 :: a7 :: a8 :: t) (vR z :: S) := gj_astore (i := 8) dg hn hok k
theorem gj_ls8 {a0 a1 a2 a3 a4 a5 a6 a7 a8 : Option AV} {b1 : Option AV} {z : Int} (dg : AtI y pc (.lstore 8) 2 nx) (hn : Nat.blt (8 + 1) y.2.2.1 = true) (hok : okS (a0 :: a1 :: a2 :: a3 :: a4 :: a5 :: a6 :: a7 :: a8 :: b1 :: t) 8 = true) (k : Gj l x y d mc ms nf Q kc ks n w nx (a0 :: a1 :: a2 :: a3 :: a4 :: a5 :: a6 :: a7 :: some (vL z) :: none :: t) S) : Gj l x y d mc ms nf Q kc ks n w pc (a0 :: a1 :: a2 :: a3 :: a4 :: a5 :: a6 :: a7 :: a8 :: b1 :: t) (vL z :: S) := gj_lstore (i := 8) dg hn hok k
theorem gj_ii8 {a0 a1 a2 a3 a4 a5 a6 a7 : Option AV} {z a : Int} (dg : AtI y pc (.iinc 8 z) 3 nx) (hn : Nat.blt 8 y.2.2.1 = true) (hok : okS (a0 :: a1 :: a2 :: a3 :: a4 :: a5 :: a6 :: a7 :: some (vI a) :: t) 8 = true) (k : Gj l x y d mc ms nf Q kc ks n w nx (a0 :: a1 :: a2 :: a3 :: a4 :: a5 :: a6 :: a7 :: some (vI (a + z)) :: t) S) : Gj l x y d mc ms nf Q kc ks n w pc (a0 :: a1 :: a2 :: a3 :: a4 :: a5 :: a6 :: a7 :: some (vI a) :: t) S := gj_iinc (i := 8) dg hn hok rfl k
theorem gj_il9 {a0 a1 a2 a3 a4 a5 a6 a7 a8 : Option AV} {z : Int} (dg : AtI y pc (.iload 9) 2 nx) (k : Gj l x y d mc ms nf Q kc ks n w nx (a0 :: a1 :: a2 :: a3 :: a4 :: a5 :: a6 :: a7 :: a8 :: some (vI z) :: t) (vI z :: S)) : Gj l x y d mc ms nf Q kc ks n w pc (a0 :: a1 :: a2 :: a3 :: a4 :: a5 :: a6 :: a7 :: a8 :: some (vI z) :: t) S := gj_iload (i := 9) dg rfl k
theorem gj_ll9 {a0 a1 a2 a3 a4 a5 a6 a7 a8 : Option AV} {z : Int} (dg : AtI y pc (.lload 9) 2 nx) (k : Gj l x y d mc ms nf Q kc ks n w nx (a0 :: a1 :: a2 :: a3 :: a4 :: a5 :: a6 :: a7 :: a8 :: some (vL z) :: t) (vL z :: S)) : Gj l x y d mc ms nf Q kc ks n w pc (a0 :: a1 :: a2 :: a3 :: a4 :: a5 :: a6 :: a7 :: a8 :: some (vL z) :: t) S := gj_lload (i := 9) dg rfl k
theorem gj_al9 {a0 a1 a2 a3 a4 a5 a6 a7 a8 : Option AV} {z : Nat} (dg : AtI y pc (.aload 9) 2 nx) (k : Gj l x y d mc ms nf Q kc ks n w nx (a0 :: a1 :: a2 :: a3 :: a4 :: a5 :: a6 :: a7 :: a8 :: some (vR z) :: t) (vR z :: S)) : Gj l x y d mc ms nf Q kc ks n w pc (a0 :: a1 :: a2 :: a3 :: a4 :: a5 :: a6 :: a7 :: a8 :: some (vR z) :: t) S := gj_aload (i := 9) dg rfl k
theorem gj_is9 {a0 a1 a2 a3 a4 a5 a6 a7 a8 a9 : Option AV} {z : Int} (dg : AtI y pc (.istore 9) 2 nx) (hn : Nat.blt 9 y.2.2.1 = true) (hok : okS (a0 :: a1 :: a2 :: a3 :: a4 :: a5 :: a6 :: a7 :: a8 :: a9 :: t) 9 = true) (k : Gj l x y d mc ms nf Q kc ks n w nx (a0 :: a1 :: a2 :: a3 :: a4 :: a5 :: a6 :: a7 :: a8 :: some (vI z) :: t) S) : Gj l x y d mc ms nf Q kc ks n w pc (a0 :: a1 :: a2 :: a3 :: a4 :: a5 :: a6 :: a7 :: a8 :: a9 :: t) (vI z :: S) := gj_istore (i := 9) dg hn hok k
theorem gj_as9 {a0 a1 a2 a3 a4 a5 a6 a7 a8 a9 : Option AV} {z : Nat} (dg : AtI y pc (.astore 9) 2 nx) (hn : Nat.blt 9 y.2.2.1 = true) (hok : okS (a0 :: a1 :: a2 :: a3 :: a4 :: a5 :: a6 :: a7 :: a8 :: a9 :: t) 9 = true) (k : Gj l x y d mc ms nf Q kc ks n w nx (a0 :: a1 :: a2 :: a3 :: a4 :: a5 :: a6 :: a7 :: a8 :: some (vR z) :: t) S) : Gj l x y d mc ms nf Q kc ks n w pc (a0 :: a1 :: a2 :: a3 :: a4 :: a5 :: a6 :: a7 :: a8 :: a9 :: t) (vR z :: S) := gj_astore (i := 9) dg hn hok k
theorem gj_ls9 {a0 a1 a2 a3 a4 a5 a6 a7 a8 a9 : Option AV} {b1 : Option AV} {z : Int} (dg : AtI y pc (.lstore 9) 2 nx) (hn : Nat.blt (9 + 1) y.2.2.1 = true) (hok : okS (a0 :: a1 :: a2 :: a3 :: a4 :: a5 :: a6 :: a7 :: a8 :: a9 :: b1 :: t) 9 = true) (k : Gj l x y d mc ms nf Q kc ks n w nx (a0 :: a1 :: a2 :: a3 :: a4 :: a5 :: a6 :: a7 :: a8 :: some (vL z) :: none :: t) S) : Gj l x y d mc ms nf Q kc ks n w pc (a0 :: a1 :: a2 :: a3 :: a4 :: a5 :: a6 :: a7 :: a8 :: a9 :: b1 :: t) (vL z :: S) := gj_lstore (i := 9) dg hn hok k
theorem gj_ii9 {a0 a1 a2 a3 a4 a5 a6 a7 a8 : Option AV} {z a : Int} (dg : AtI y pc (.iinc 9 z) 3 nx) (hn : Nat.blt 9 y.2.2.1 = true) (hok : okS (a0 :: a1 :: a2 :: a3 :: a4 :: a5 :: a6 :: a7 :: a8 :: some (vI a) :: t) 9 = true) (k : Gj l x y d mc ms nf Q kc ks n w nx (a0 :: a1 :: a2 :: a3 :: a4 :: a5 :: a6 :: a7 :: a8 :: some (vI (a + z)) :: t) S) : Gj l x y d mc ms nf Q kc ks n w pc (a0 :: a1 :: a2 :: a3 :: a4 :: a5 :: a6 :: a7 :: a8 :: some (vI a) :: t) S := gj_iinc (i := 9) dg hn hok rfl k
theorem gj_il10 {a0 a1 a2 a3 a4 a5 a6 a7 a8 a9 : Option AV} {z : Int} (dg : AtI y pc (.iload 10) 2 nx) (k : Gj l x y d mc ms nf Q kc ks n w nx (a0 :: a1 :: a2 :: a3 :: a4 :: a5 :: a6 :: a7 :: a8 :: a9 :: some (vI z) :: t) (vI z :: S)) : Gj l x y d mc ms nf Q kc ks n w pc (a0 :: a1 :: a2 :: a3 :: a4 :: a5 :: a6 :: a7 :: a8 :: a9 :: some (vI z) :: t) S := gj_iload (i := 10) dg rfl k
theorem gj_ll10 {a0 a1 a2 a3 a4 a5 a6 a7 a8 a9 : Option AV} {z : Int} (dg : AtI y pc (.lload 10) 2 nx) (k : Gj l x y d mc ms nf Q kc ks n w nx (a0 :: a1 :: a2 :: a3 :: a4 :: a5 :: a6 :: a7 :: a8 :: a9 :: some (vL z) :: t) (vL z :: S)) : Gj l x y d mc ms nf Q kc ks n w pc (a0 :: a1 :: a2 :: a3 :: a4 :: a5 :: a6 :: a7 :: a8 :: a9 :: some (vL z) :: t) S := gj_lload (i := 10) dg rfl k
theorem gj_al10 {a0 a1 a2 a3 a4 a5 a6 a7 a8 a9 : Option AV} {z : Nat} (dg : AtI y pc (.aload 10) 2 nx) (k : Gj l x y d mc ms nf Q kc ks n w nx (a0 :: a1 :: a2 :: a3 :: a4 :: a5 :: a6 :: a7 :: a8 :: a9 :: some (vR z) :: t) (vR z :: S)) : Gj l x y d mc ms nf Q kc ks n w pc (a0 :: a1 :: a2 :: a3 :: a4 :: a5 :: a6 :: a7 :: a8 :: a9 :: some (vR z) :: t) S := gj_aload (i := 10) dg rfl k
theorem gj_is10 {a0 a1 a2 a3 a4 a5 a6 a7 a8 a9 a10 : Option AV} {z : Int} (dg : AtI y pc (.istore 10) 2 nx) (hn : Nat.blt 10 y.2.2.1 = true) (hok : okS (a0 :: a1 :: a2 :: a3 :: a4 :: a5 :: a6 :: a7 :: a8 :: a9 :: a10 :: t) 10 = true) (k : Gj l x y d mc ms nf Q kc ks n w nx (a0 :: a1 :: a2 :: a3 :: a4 :: a5 :: a6 :: a7 :: a8 :: a9 :: some (vI z) :: t) S) : Gj l x y d mc ms nf Q kc ks n w pc (a0 :: a1 :: a2 :: a3 :: a4 :: a5 :: a6 :: a7 :: a8 :: a9 :: a10 :: t) (vI z :: S) := gj_istore (i := 10) dg hn hok k
theorem gj_as10 {a0 a1 a2 a3 a4 a5 a6 a7 a8 a9 a10 : Option AV} {z : Nat} (dg : AtI y pc (.astore 10) 2 nx) (hn : Nat.blt 10 y.2.2.1 = true) (hok : okS (a0 :: a1 :: a2 :: a3 :: a4 :: a5 :: a6 :: a7 :: a8 :: a9 :: a10 :: t) 10 = true) (k : Gj l x y d mc ms nf Q kc ks n w nx (a0 :: a1 :: a2 :: a3 :: a4 :: a5 :: a6 :: a7 :: a8 :: a9 :: some (vR z) :: t) S) : Gj l x y d mc ms nf Q kc ks n w pc (a0 :: a1 :: a2 :: a3 :: a4 :: a5 :: a6 :: a7 :: a8 :: a9 :: a10 :: t) (vR z :: S) := gj_astore (i := 10) dg hn hok k
theorem gj_ls10 {a0 a1 a2 a3 a4 a5 a6 a7 a8 a9 a10 : Option AV} {b1 : Option AV} {z : Int} (dg : AtI y pc (.lstore 10) 2 nx) (hn : Nat.blt (10 + 1) y.2.2.1 = true) (hok : okS (a0 :: a1 :: a2 :: a3 :: a4 :: a5 :: a6 :: a7 :: a8 :: a9 :: a10 :: b1 :: t) 10 = true) (k : Gj l x y d mc ms nf Q kc ks n w nx (a0 :: a1 :: a2 :: a3 :: a4 :: a5 :: a6 :: a7 :: a8 :: a9 :: some (vL z) :: none :: t) S) : Gj l x y d mc ms nf Q kc ks n w pc (a0 :: a1 :: a2 :: a3 :: a4 :: a5 :: a6 :: a7 :: a8 :: a9 :: a10 :: b1 :: t) (vL z :: S) := gj_lstore (i := 10) dg hn hok k
theorem gj_ii10 {a0 a1 a2 a3 a4 a5 a6 a7 a8 a9 : Option AV} {z a : Int} (dg : AtI y pc (.iinc 10 z) 3 nx) (hn : Nat.blt 10 y.2.2.1 = true) (hok : okS (a0 :: a1 :: a2 :: a3 :: a4 :: a5 :: a6 :: a7 :: a8 :: a9 :: some (vI a) :: t) 10 = true) (k : Gj l x y d mc ms nf Q kc ks n w nx (a0 :: a1 :: a2 :: a3 :: a4 :: a5 :: a6 :: a7 :: a8 :: a9 :: some (vI (a + z)) :: t) S) : Gj l x y d mc ms nf Q kc ks n w pc (a0 :: a1 :: a2 :: a3 :: a4 :: a5 :: a6 :: a7 :: a8 :: a9 :: some (vI a) :: t) S := gj_iinc (i := 10) dg hn hok rfl k
theorem gj_il11 {a0 a1 a2 a3 a4 a5 a6 a7 a8 a9 a10 : Option AV} {z : Int} (dg : AtI y pc (.iload 11) 2 nx) (k : Gj l x y d mc ms nf Q kc ks n w nx (a0 :: a1 :: a2 :: a3 :: a4 :: a5 :: a6 :: a7 :: a8 :: a9 :: a10 :: some (vI z) :: t) (vI z :: S)) : Gj l x y d mc ms nf Q kc ks n w pc (a0 :: a1 :: a2 :: a3 :: a4 :: a5 :: a6 :: a7 :: a8 :: a9 :: a10 :: some (vI z) :: t) S := gj_iload (i := 11) dg rfl k
theorem gj_ll11 {a0 a1 a2 a3 a4 a5 a6 a7 a8 a9 a10 : Option AV} {z : Int} (dg : AtI y pc (.lload 11) 2 nx) (k : Gj l x y d mc ms nf Q kc ks n w nx (a0 :: a1 :: a2 :: a3 :: a4 :: a5 :: a6 :: a7 :: a8 :: a9 :: a10 :: some (vL z) :: t) (vL z :: S)) : Gj l x y d mc ms nf Q kc ks n w pc (a0 :: a1 :: a2 :: a3 :: a4 :: a5 :: a6 :: a7 :: a8 :: a9 :: a10 :: some (vL z) :: t) S := gj_lload (i := 11) dg rfl k
theorem gj_al11 {a0 a1 a2 a3 a4 a5 a6 a7 a8 a9 a10 : Option AV} {z : Nat} (dg : AtI y pc (.aload 11) 2 nx) (k : Gj l x y d mc ms nf Q kc ks n w nx (a0 :: a1 :: a2 :: a3 :: a4 :: a5 :: a6 :: a7 :: a8 :: a9 :: a10 :: some (vR z) :: t) (vR z :: S)) : Gj l x y d mc ms nf Q kc ks n w pc (a0 :: a1 :: a2 :: a3 :: a4 :: a5 :: a6 :: a7 :: a8 :: a9 :: a10 :: some (vR z) :: t) S := gj_aload (i := 11) dg rfl k
theorem gj_is11 {a0 a1 a2 a3 a4 a5 a6 a7 a8 a9 a10 a11 : Option AV} {z : Int} (dg : AtI y pc (.istore 11) 2 nx) (hn : Nat.blt 11 y.2.2.1 = true) (hok : okS (a0 :: a1 :: a2 :: a3 :: a4 :: a5 :: a6 :: a7 :: a8 :: a9 :: a10 :: a11 :: t) 11 = true) (k : Gj l x y d mc ms nf Q kc ks n w nx (a0 :: a1 :: a2 :: a3 :: a4 :: a5 :: a6 :: a7 :: a8 :: a9 :: a10 :: some (vI z) :: t) S) : Gj l x y d mc ms nf Q kc ks n w pc (a0 :: a1 :: a2 :: a3 :: a4 :: a5 :: a6 :: a7 :: a8 :: a9 :: a10 :: a11 :: t) (vI z :: S) := gj_istore (i := 11) dg hn hok k
theorem gj_as11 {a0 a1 a2 a3 a4 a5 a6 a7 a8 a9 a10 a11 : Option AV} {z : Nat} (dg : AtI y pc (.astore 11) 2 nx) (hn : Nat.blt 11 y.2.2.1 = true) (hok : okS (a0 :: a1 :: a2 :: a3 :: a4 :: a5 :: a6 :: a7 :: a8 :: a9 :: a10 :: a11 :: t) 11 = true) (k : Gj l x y d mc ms nf Q kc ks n w nx (a0 :: a1 :: a2 :: a3 :: a4 :: a5 :: a6 :: a7 :: a8 :: a9 :: a10 :: some (vR z) :: t) S) : Gj l x y d mc ms nf Q kc ks n w pc (a0 :: a1 :: a2 :: a3 :: a4 :: a5 :: a6 :: a7 :: a8 :: a9 :: a10 :: a11 :: t) (vR z :: S) := gj_astore (i := 11) dg hn hok k
theorem gj_ls11 {a0 a1 a2 a3 a4 a5 a6 a7 a8 a9 a10 a11 : Option AV} {b1 : Option AV} {z : Int} (dg : AtI y pc (.lstore 11) 2 nx) (hn : Nat.blt (11 + 1) y.2.2.1 = true) (hok : okS (a0 :: a1 :: a2 :: a3 :: a4 :: a5 :: a6 :: a7 :: a8 :: a9 :: a10 :: a11 :: b1 :: t) 11 = true) (k : Gj l x y d mc ms nf Q kc ks n w nx (a0 :: a1 :: a2 :: a3 :: a4 :: a5 :: a6 :: a7 :: a8 :: a9 :: a10 :: some (vL z) :: none :: t) S) : Gj l x y d mc ms nf Q kc ks n w pc (a0 :: a1 :: a2 :: a3 :: a4 :: a5 :: a6 :: a7 :: a8 :: a9 :: a10 :: a11 :: b1 :: t) (vL z :: S) := gj_lstore (i := 11) dg hn hok k
theorem gj_ii11 {a0 a1 a2 a3 a4 a5 a6 a7 a8 a9 a10 : Option AV} {z a : Int} (dg : AtI y pc (.iinc 11 z) 3 nx) (hn : Nat.blt 11 y.2.2.1 = true) (hok : okS (a0 :: a1 :: a2 :: a3 :: a4 :: a5 :: a6 :: a7 :: a8 :: a9 :: a10 :: some (vI a) :: t) 11 = true) (k : Gj l x y d mc ms nf Q kc ks n w nx (a0 :: a1 :: a2 :: a3 :: a4 :: a5 :: a6 :: a7 :: a8 :: a9 :: a10 :: some (vI (a + z)) :: t) S) : Gj l x y d mc ms nf Q kc ks n w pc (a0 :: a1 :: a2 :: a3 :: a4 :: a5 :: a6 :: a7 :: a8 :: a9 :: a10 :: some (vI a) :: t) S := gj_iinc (i := 11) dg hn hok rfl k
theorem gj_il12 {a0 a1 a2 a3 a4 a5 a6 a7 a8 a9 a10 a11 : Option AV} {z : Int} (dg : AtI y pc (.iload 12) 2 nx) (k : Gj l x y d mc ms nf Q kc ks n w nx (a0 :: a1 :: a2 :: a3 :: a4 :: a5 :: a6 :: a7 :: a8 :: a9 :: a10 :: a11 :: some (vI z) :: t) (vI z :: S)) : Gj l x y d mc ms nf Q kc ks n w pc (a0 :: a1 :: a2 :: a3 :: a4 :: a5 :: a6 :: a7 :: a8 :: a9 :: a10 :: a11 :: some (vI z) :: t) S := gj_iload (i := 12) dg rfl k
theorem gj_ll12 {a0 a1 a2 a3 a4 a5 a6 a7 a8 a9 a10 a11 : Option AV} {z : Int} (dg : AtI y pc (.lload 12) 2 nx) (k : Gj l x y d mc ms nf Q kc ks n w nx (a0 :: a1 :: a2 :: a3 :: a4 :: a5 :: a6 :: a7 :: a8 :: a9 :: a10 :: a11 :: some (vL z) :: t) (vL z :: S)) : Gj l x y d mc ms nf Q kc ks n w pc (a0 :: a1 :: a2 :: a3 :: a4 :: a5 :: a6 :: a7 :: a8 :: a9 :: a10 :: a11 :: some (vL z) :: t) S := gj_lload (i := 12) dg rfl k
theorem gj_al12 {a0 a1 a2 a3 a4 a5 a6 a7 a8 a9 a10 a11 : Option AV} {z : Nat} (dg : AtI y pc (.aload 12) 2 nx) (k : Gj l x y d mc ms nf Q kc ks n w nx (a0 :: a1 :: a2 :: a3 :: a4 :: a5 :: a6 :: a7 :: a8 :: a9 :: a10 :: a11 :: some (vR z) :: t) (vR z :: S)) : Gj l x y d mc ms nf Q kc ks n w pc (a0 :: a1 :: a2 :: a3 :: a4 :: a5 :: a6 :: a7 :: a8 :: a9 :: a10 :: a11 :: some (vR z) :: t) S := gj_aload (i := 12) dg rfl k
theorem gj_is12 {a0 a1 a2 a3 a4 a5 a6 a7 a8 a9 a10 a11 a12 : Option AV} {z : Int} (dg : AtI y pc (.istore 12) 2 nx) (hn : Nat.blt 12 y.2.2.1 = true) (hok : okS (a0 :: a1 :: a2 :: a3 :: a4 :: a5 :: a6 :: a7 :: a8 :: a9 :: a10 :: a11 :: a12 :: t) 12 = true) (k : Gj l x y d mc ms nf Q kc ks n w nx (a0 :: a1 :: a2 :: a3 :: a4 :: a5 :: a6 :: a7 :: a8 :: a9 :: a10 :: a11 :: some (vI z) :: t) S) : Gj l x y d mc ms nf Q kc ks n w pc (a0 :: a1 :: a2 :: a3 :: a4 :: a5 :: a6 :: a7 :: a8 :: a9 :: a10 :: a11 :: a12 :: t) (vI z :: S) := gj_istore (i := 12) dg hn hok k
theorem gj_as12 {a0 a1 a2 a3 a4 a5 a6 a7 a8 a9 a10 a11 a12 : Option AV} {z : Nat} (dg : AtI y pc (.astore 12) 2 nx) (hn : Nat.blt 12 y.2.2.1 = true) (hok : okS (a0 :: a1 :: a2 :: a3 :: a4 :: a5 :: a6 :: a7 :: a8 :: a9 :: a10 :: a11 :: a12 :: t) 12 = true) (k : Gj l x y d mc ms nf Q kc ks n w nx (a0 :: a1 :: a2 :: a3 :: a4 :: a5 :: a6 :: a7 :: a8 :: a9 :: a10 :: a11 :: some (vR z) :: t) S) : Gj l x y d mc ms nf Q kc ks n w pc (a0 :: a1 :: a2 :: a3 :: a4 :: a5 :: a6 :: a7 :: a8 :: a9 :: a10 :: a11 :: a12 :: t) (vR z :: S) := gj_astore (i := 12) dg hn hok k
theorem gj_ls12 {a0 a1 a2 a3 a4 a5 a6 a7 a8 a9 a10 a11 a12 : Option AV} {b1 : Option AV} {z : Int} (dg : AtI y pc (.lstore 12) 2 nx) (hn : Nat.blt (12 + 1) y.2.2.1 = true) (hok : okS (a0 :: a1 :: a2 :: a3 :: a4 :: a5 :: a6 :: a7 :: a8 :: a9 :: a10 :: a11 :: a12 :: b1 :: t) 12 = true) (k : Gj l x y d mc ms nf Q kc ks n w nx (a0 :: a1 :: a2 :: a3 :: a4 :: a5 :: a6 :: a7 :: a8 :: a9 :: a10 :: a11 :: some (vL z) :: none :: t) S) : Gj l x y d mc ms nf Q kc ks n w pc (a0 :: a1 :: a2 :: a3 :: a4 :: a5 :: a6 :: a7 :: a8 :: a9 :: a10 :: a11 :: a12 :: b1 :: t) (vL z :: S) := gj_lstore (i := 12) dg hn hok k
theorem gj_ii12 {a0 a1 a2 a3 a4 a5 a6 a7 a8 a9 a10 a11 : Option AV} {z a : Int} (dg : AtI y pc (.iinc 12 z) 3 nx) (hn : Nat.blt 12 y.2.2.1 = true) (hok : okS (a0 :: a1 :: a2 :: a3 :: a4 :: a5 :: a6 :: a7 :: a8 :: a9 :: a10 :: a11 :: some (vI a) :: t) 12 = true) (k : Gj l x y d mc ms nf Q kc ks n w nx (a0 :: a1 :: a2 :: a3 :: a4 :: a5 :: a6 :: a7 :: a8 :: a9 :: a10 :: a11 :: some (vI (a + z)) :: t) S) : Gj l x y d mc ms nf Q kc ks n w pc (a0 :: a1 :: a2 :: a3 :: a4 :: a5 :: a6 :: a7 :: a8 :: a9 :: a10 :: a11 :: some (vI a) :: t) S := gj_iinc (i := 12) dg hn hok rfl k
theorem gj_pI0 {a0 : AV} {r : List AV} {L : List (Option AV)} {j ci k : Nat} {z : Int} (dg : AtI y pc (.putfield j) 3 nx) (hf : LF y.1.cls j ci 0 false .int) (hw : w k = cO ci (a0 :: r)) (hk : Nat.blt k n = true) (kk : Gj l x y d mc ms nf Q kc ks n (upw w k (cO ci (vI z :: r))) nx L S) : Gj l x y d mc ms nf Q kc ks n w pc L (vI z :: vR k :: S) := gj_put nar_I dg hf hw hk (show 0 < (a0 :: r).length by simp only [List.length_cons]; omega) kk
theorem gj_pR0 {a0 : AV} {r : List AV} {L : List (Option AV)} {j ci k z : Nat} {C : String} (dg : AtI y pc (.putfield j) 3 nx) (hf : LF y.1.cls j ci 0 true (.object C)) (hini : y.1.name = "<init>") (hown : ∃ T N, vwCl[ci]? = some (y.1.cls, T, N)) (hw : w k = cO ci (a0 :: r)) (hk : Nat.blt k n = true) (kk : Gj l x y d mc ms nf Q kc ks n (upw w k (cO ci (vR z :: r))) nx L S) : Gj l x y d mc ms nf Q kc ks n w pc L (vR z :: vR k :: S) := gj_putF nar_R dg hf hini hown hw hk (show 0 < (a0 :: r).length by simp only [List.length_cons]; omega) kk
theorem gj_pA0 {a0 : AV} {r : List AV} {L : List (Option AV)} {j ci k z : Nat} {e : FieldType} (dg : AtI y pc (.putfield j) 3 nx) (hf : LF y.1.cls j ci 0 true (.array e)) (hini : y.1.name = "<init>") (hown : ∃ T N, vwCl[ci]? = some (y.1.cls, T, N)) (hw : w k = cO ci (a0 :: r)) (hk : Nat.blt k n = true) (kk : Gj l x y d mc ms nf Q kc ks n (upw w k (cO ci (vR z :: r))) nx L S) : Gj l x y d mc ms nf Q kc ks n w pc L (vR z :: vR k :: S) := gj_putF nar_A dg hf hini hown hw hk (show 0 < (a0 :: r).length by simp only [List.length_cons]; omega) kk
theorem gj_pI1 {a0 a1 : AV} {r : List AV} {L : List (Option AV)} {j ci k : Nat} {z : Int} (dg : AtI y pc (.putfield j) 3 nx) (hf : LF y.1.cls j ci 1 false .int) (hw : w k = cO ci (a0 :: a1 :: r)) (hk : Nat.blt k n = true) (kk : Gj l x y d mc ms nf Q kc ks n (upw w k (cO ci (a0 :: vI z :: r))) nx L S) : Gj l x y d mc ms nf Q kc ks n w pc L (vI z :: vR k :: S) := gj_put nar_I dg hf hw hk (show 1 < (a0 :: a1 :: r).length by simp only [List.length_cons]; omega) kk
theorem gj_pR1 {a0 a1 : AV} {r : List AV} {L : List (Option AV)} {j ci k z : Nat} {C : String} (dg : AtI y pc (.putfield j) 3 nx) (hf : LF y.1.cls j ci 1 true (.object C)) (hini : y.1.name = "<init>") (hown : ∃ T N, vwCl[ci]? = some (y.1.cls, T, N)) (hw : w k = cO ci (a0 :: a1 :: r)) (hk : Nat.blt k n = true) (kk : Gj l x y d mc ms nf Q kc ks n (upw w k (cO ci (a0 :: vR z :: r))) nx L S) : Gj l x y d mc ms nf Q kc ks n w pc L (vR z :: vR k :: S) := gj_putF nar_R dg hf hini hown hw hk (show 1 < (a0 :: a1 :: r).length by simp only [List.length_cons]; omega) kk
theorem gj_pA1 {a0 a1 : AV} {r : List AV} {L : List (Option AV)} {j ci k z : Nat} {e : FieldType} (dg : AtI y pc (.putfield j) 3 nx) (hf : LF y.1.cls j ci 1 true (.array e)) (hini : y.1.name = "<init>") (hown : ∃ T N, vwCl[ci]? = some (y.1.cls, T, N)) (hw : w k = cO ci (a0 :: a1 :: r)) (hk : Nat.blt k n = true) (kk : Gj l x y d mc ms nf Q kc ks n (upw w k (cO ci (a0 :: vR z :: r))) nx L S) : Gj l x y d mc ms nf Q kc ks n w pc L (vR z :: vR k :: S) := gj_putF nar_A dg hf hini hown hw hk (show 1 < (a0 :: a1 :: r).length by simp only [List.length_cons]; omega) kk
theorem gj_pI2 {a0 a1 a2 : AV} {r : List AV} {L : List (Option AV)} {j ci k : Nat} {z : Int} (dg : AtI y pc (.putfield j) 3 nx) (hf : LF y.1.cls j ci 2 false .int) (hw : w k = cO ci (a0 :: a1 :: a2 :: r)) (hk : Nat.blt k n = true) (kk : Gj l x y d mc ms nf Q kc ks n (upw w k (cO ci (a0 :: a1 :: vI z :: r))) nx L S) : Gj l x y d mc ms nf Q kc ks n w pc L (vI z :: vR k :: S) := gj_put nar_I dg hf hw hk (show 2 < (a0 :: a1 :: a2 :: r).length by simp only [List.length_cons]; omega) kk
theorem gj_pR2 {a0 a1 a2 : AV} {r : List AV} {L : List (Option AV)} {j ci k z : Nat} {C : String} (dg : AtI y pc (.putfield j) 3 nx) (hf : LF y.1.cls j ci 2 true (.object C)) (hini : y.1.name = "<init>") (hown : ∃ T N, vwCl[ci]? = some (y.1.cls, T, N)) (hw : w k = cO ci (a0 :: a1 :: a2 :: r)) (hk : Nat.blt k n = true) (kk : Gj l x y d mc ms nf Q kc ks n (upw w k (cO ci (a0 :: a1 :: vR z :: r))) nx L S) : Gj l x y d mc ms nf Q kc ks n w pc L (vR z :: vR k :: S) := gj_putF nar_R dg hf hini hown hw hk (show 2 < (a0 :: a1 :: a2 :: r).length by simp only [List.length_cons]; omega) kk
theorem gj_pA2 {a0 a1 a2 : AV} {r : List AV} {L : List (Option AV)} {j ci k z : Nat} {e : FieldType} (dg : AtI y pc (.putfield j) 3 nx) (hf : LF y.1.cls j ci 2 true (.array e)) (hini : y.1.name = "<init>") (hown : ∃ T N, vwCl[ci]? = some (y.1.cls, T, N)) (hw : w k = cO ci (a0 :: a1 :: a2 :: r)) (hk : Nat.blt k n = true) (kk : Gj l x y d mc ms nf Q kc ks n (upw w k (cO ci (a0 :: a1 :: vR z :: r))) nx L S) : Gj l x y d mc ms nf Q kc ks n w pc L (vR z :: vR k :: S) := gj_putF nar_A dg hf hini hown hw hk (show 2 < (a0 :: a1 :: a2 :: r).length by simp only [List.length_cons]; omega) kk
theorem gj_pI3 {a0 a1 a2 a3 : AV} {r : List AV} {L : List (Option AV)} {j ci k : Nat} {z : Int} (dg : AtI y pc (.putfield j) 3 nx) (hf : LF y.1.cls j ci 3 false .int) (hw : w k = cO ci (a0 :: a1 :: a2 :: a3 :: r)) (hk : Nat.blt k n = true) (kk : Gj l x y d mc ms nf Q kc ks n (upw w k (cO ci (a0 :: a1 :: a2 :: vI z :: r))) nx L S) : Gj l x y d mc ms nf Q kc ks n w pc L (vI z :: vR k :: S) := gj_put nar_I dg hf hw hk (show 3 < (a0 :: a1 :: a2 :: a3 :: r).length by simp only [List.length_cons]; omega) kk
theorem gj_pR3 {a0 a1 a2 a3 : AV} {r : List AV} {L : List (Option AV)} {j ci k z : Nat} {C : String} (dg : AtI y pc (.putfield j) 3 nx) (hf : LF y.1.cls j ci 3 true (.object C)) (hini : y.1.name = "<init>") (hown : ∃ T N, vwCl[ci]? = some (y.1.cls, T, N)) (hw : w k = cO ci (a0 :: a1 :: a2 :: a3 :: r)) (hk : Nat.blt k n = true) (kk : Gj l x y d mc ms nf Q kc ks n (upw w k (cO ci (a0 :: a1 :: a2 :: vR z :: r))) nx L S) : Gj l x y d mc ms nf Q kc ks n w pc L (vR z :: vR k :: S) := gj_putF nar_R dg hf hini hown hw hk (show 3 < (a0 :: a1 :: a2 :: a3 :: r).length by simp only [List.length_cons]; omega) kk
theorem gj_pA3 {a0 a1 a2 a3 : AV} {r : List AV} {L : List (Option AV)} {j ci k z : Nat} {e : FieldType} (dg : AtI y pc (.putfield j) 3 nx) (hf : LF y.1.cls j ci 3 true (.array e)) (hini : y.1.name = "<init>") (hown : ∃ T N, vwCl[ci]? = some (y.1.cls, T, N)) (hw : w k = cO ci (a0 :: a1 :: a2 :: a3 :: r)) (hk : Nat.blt k n = true) (kk : Gj l x y d mc ms nf Q kc ks n (upw w k (cO ci (a0 :: a1 :: a2 :: vR z :: r))) nx L S) : Gj l x y d mc ms nf Q kc ks n w pc L (vR z :: vR k :: S) := gj_putF nar_A dg hf hini hown hw hk (show 3 < (a0 :: a1 :: a2 :: a3 :: r).length by simp only [List.length_cons]; omega) kk
theorem gj_pZ3 {a0 a1 a2 a3 : AV} {r : List AV} {L : List (Option AV)} {j ci k : Nat} {z : Int} (hz : z = 0 ∨ z = 1) (dg : AtI y pc (.putfield j) 3 nx) (hf : LF y.1.cls j ci 3 false .boolean) (hw : w k = cO ci (a0 :: a1 :: a2 :: a3 :: r)) (hk : Nat.blt k n = true) (kk : Gj l x y d mc ms nf Q kc ks n (upw w k (cO ci (a0 :: a1 :: a2 :: vI z :: r))) nx L S) : Gj l x y d mc ms nf Q kc ks n w pc L (vI z :: vR k :: S) := gj_put (nar_Z hz) dg hf hw hk (show 3 < (a0 :: a1 :: a2 :: a3 :: r).length by simp only [List.length_cons]; omega) kk
theorem gj_pI4 {a0 a1 a2 a3 a4 : AV} {r : List AV} {L : List (Option AV)} {j ci k : Nat} {z : Int} (dg : AtI y pc (.putfield j) 3 nx) (hf : LF y.1.cls j ci 4 false .int) (hw : w k = cO ci (a0 :: a1 :: a2 :: a3 :: a4 :: r)) (hk : Nat.blt k n = true) (kk : Gj l x y d mc ms nf Q kc ks n (upw w k (cO ci (a0 :: a1 :: a2 :: a3 :: vI z :: r))) nx L S) : Gj l x y d mc ms nf Q kc ks n w pc L (vI z :: vR k :: S) := gj_put nar_I dg hf hw hk (show 4 < (a0 :: a1 :: a2 :: a3 :: a4 :: r).length by simp only [List.length_cons]; omega) kk
theorem gj_pR4 {a0 a1 a2 a3 a4 : AV} {r : List AV} {L : List (Option AV)} {j ci k z : Nat} {C : String} (dg : AtI y pc (.putfield j) 3 nx) (hf : LF y.1.cls j ci 4 true (.object C)) (hini : y.1.name = "<init>") (hown : ∃ T N, vwCl[ci]? = some (y.1.cls, T, N)) (hw : w k = cO ci (a0 :: a1 :: a2 :: a3 :: a4 :: r)) (hk : Nat.blt k n = true) (kk : Gj l x y d mc ms nf Q kc ks n (upw w k (cO ci (a0 :: a1 :: a2 :: a3 :: vR z :: r))) nx L S) : Gj l x y d mc ms nf Q kc ks n w pc L (vR z :: vR k :: S) := gj_putF nar_R dg hf hini hown hw hk (show 4 < (a0 :: a1 :: a2 :: a3 :: a4 :: r).length by simp only [List.length_cons]; omega) kk
theorem gj_pA4 {a0 a1 a2 a3 a4 : AV} {r : List AV} {L : List (Option AV)} {j ci k z : Nat} {e : FieldType} (dg : AtI y pc (.putfield j) 3 nx) (hf : LF y.1.cls j ci 4 true (.array e)) (hini : y.1.name = "<init>") (hown : ∃ T N, vwCl[ci]? = some (y.1.cls, T, N)) (hw : w k = cO ci (a0 :: a1 :: a2 :: a3 :: a4 :: r)) (hk : Nat.blt k n = true) (kk : Gj l x y d mc ms nf Q kc ks n (upw w k (cO ci (a0 :: a1 :: a2 :: a3 :: vR z :: r))) nx L S) : Gj l x y d mc ms nf Q kc ks n w pc L (vR z :: vR k :: S) := gj_putF nar_A dg hf hini hown hw hk (show 4 < (a0 :: a1 :: a2 :: a3 :: a4 :: r).length by simp only [List.length_cons]; omega) kk
theorem gj_pI5 {a0 a1 a2 a3 a4 a5 : AV} {r : List AV} {L : List (Option AV)} {j ci k : Nat} {z : Int} (dg : AtI y pc (.putfield j) 3 nx) (hf : LF y.1.cls j ci 5 false .int) (hw : w k = cO ci (a0 :: a1 :: a2 :: a3 :: a4 :: a5 :: r)) (hk : Nat.blt k n = true) (kk : Gj l x y d mc ms nf Q kc ks n (upw w k (cO ci (a0 :: a1 :: a2 :: a3 :: a4 :: vI z :: r))) nx L S) : Gj l x y d mc ms nf Q kc ks n w pc L (vI z :: vR k :: S) := gj_put nar_I dg hf hw hk (show 5 < (a0 :: a1 :: a2 :: a3 :: a4 :: a5 :: r).length by simp only [List.length_cons]; omega) kk
theorem gj_pR5 {a0 a1 a2 a3 a4 a5 : AV} {r : List AV} {L : List (Option AV)} {j ci k z : Nat} {C : String} (dg : AtI y pc (.putfield j) 3 nx) (hf : LF y.1.cls j ci 5 true (.object C)) (hini : y.1.name = "<init>") (hown : ∃ T N, vwCl[ci]? = some (y.1.cls, T, N)) (hw : w k = cO ci (a0 :: a1 :: a2 :: a3 :: a4 :: a5 :: r)) (hk : Nat.blt k n = true) (kk : Gj l x y d mc ms nf Q kc ks n (upw w k (cO ci (a0 :: a1 :: a2 :: a3 :: a4 :: vR z :: r))) nx L S) : Gj l x y d mc ms nf Q kc ks n w pc L (vR z :: vR k :: S) := gj_putF nar_R dg hf hini hown hw hk (show 5 < (a0 :: a1 :: a2 :: a3 :: a4 :: a5 :: r).length by simp only [List.length_cons]; omega) kk
theorem gj_pA5 {a0 a1 a2 a3 a4 a5 : AV} {r : List AV} {L : List (Option AV)} {j ci k z : Nat} {e : FieldType} (dg : AtI y pc (.putfield j) 3 nx) (hf : LF y.1.cls j ci 5 true (.array e)) (hini : y.1.name = "<init>") (hown : ∃ T N, vwCl[ci]? = some (y.1.cls, T, N)) (hw : w k = cO ci (a0 :: a1 :: a2 :: a3 :: a4 :: a5 :: r)) (hk : Nat.blt k n = true) (kk : Gj l x y d mc ms nf Q kc ks n (upw w k (cO ci (a0 :: a1 :: a2 :: a3 :: a4 :: vR z :: r))) nx L S) : Gj l x y d mc ms nf Q kc ks n w pc L (vR z :: vR k :: S) := gj_putF nar_A dg hf hini hown hw hk (show 5 < (a0 :: a1 :: a2 :: a3 :: a4 :: a5 :: r).length by simp only [List.length_cons]; omega) kk
theorem gj_pI6 {a0 a1 a2 a3 a4 a5 a6 : AV} {r : List AV} {L : List (Option AV)} {j ci k : Nat} {z : Int} (dg : AtI y pc (.putfield j) 3 nx) (hf : LF y.1.cls j ci 6 false .int) (hw : w k = cO ci (a0 :: a1 :: a2 :: a3 :: a4 :: a5 :: a6 :: r)) (hk : Nat.blt k n = true) (kk : Gj l x y d mc ms nf Q kc ks n (upw w k (cO ci (a0 :: a1 :: a2 :: a3 :: a4 :: a5 :: vI z :: r))) nx L S) : Gj l x y d mc ms nf Q kc ks n w pc L (vI z :: vR k :: S) := gj_put nar_I dg hf hw hk (show 6 < (a0 :: a1 :: a2 :: a3 :: a4 :: a5 :: a6 :: r).length by simp only [List.length_cons]; omega) kk
theorem gj_pR6 {a0 a1 a2 a3 a4 a5 a6 : AV} {r : List AV} {L : List (Option AV)} {j ci k z : Nat} {C : String} (dg : AtI y pc (.putfield j) 3 nx) (hf : LF y.1.cls j ci 6 true (.object C)) (hini : y.1.name = "<init>") (hown : ∃ T N, vwCl[ci]? = some (y.1.cls, T, N)) (hw : w k = cO ci (a0 :: a1 :: a2 :: a3 :: a4 :: a5 :: a6 :: r)) (hk : Nat.blt k n = true) (kk : Gj l x y d mc ms nf Q kc ks n (upw w k (cO ci (a0 :: a1 :: a2 :: a3 :: a4 :: a5 :: vR z :: r))) nx L S) : Gj l x y d mc ms nf Q kc ks n w pc L (vR z :: vR k :: S) := gj_putF nar_R dg hf hini hown hw hk (show 6 < (a0 :: a1 :: a2 :: a3 :: a4 :: a5 :: a6 :: r).length by simp only [List.length_cons]; omega) kk
theorem gj_pA6 {a0 a1 a2 a3 a4 a5 a6 : AV} {r : List AV} {L : List (Option AV)} {j ci k z : Nat} {e : FieldType} (dg : AtI y pc (.putfield j) 3 nx) (hf : LF y.1.cls j ci 6 true (.array e)) (hini : y.1.name = "<init>") (hown : ∃ T N, vwCl[ci]? = some (y.1.cls, T, N)) (hw : w k = cO ci (a0 :: a1 :: a2 :: a3 :: a4 :: a5 :: a6 :: r)) (hk : Nat.blt k n = true) (kk : Gj l x y d mc ms nf Q kc ks n (upw w k (cO ci (a0 :: a1 :: a2 :: a3 :: a4 :: a5 :: vR z :: r))) nx L S) : Gj l x y d mc ms nf Q kc ks n w pc L (vR z :: vR k :: S) := gj_putF nar_A dg hf hini hown hw hk (show 6 < (a0 :: a1 :: a2 :: a3 :: a4 :: a5 :: a6 :: r).length by simp only [List.length_cons]; omega) kk
theorem gj_pI7 {a0 a1 a2 a3 a4 a5 a6 a7 : AV} {r : List AV} {L : List (Option AV)} {j ci k : Nat} {z : Int} (dg : AtI y pc (.putfield j) 3 nx) (hf : LF y.1.cls j ci 7 false .int) (hw : w k = cO ci (a0 :: a1 :: a2 :: a3 :: a4 :: a5 :: a6 :: a7 :: r)) (hk : Nat.blt k n = true) (kk : Gj l x y d mc ms nf Q kc ks n (upw w k (cO ci (a0 :: a1 :: a2 :: a3 :: a4 :: a5 :: a6 :: vI z :: r))) nx L S) : Gj l x y d mc ms nf Q kc ks n w pc L (vI z :: vR k :: S) := gj_put nar_I dg hf hw hk (show 7 < (a0 :: a1 :: a2 :: a3 :: a4 :: a5 :: a6 :: a7 :: r).length by simp only [List.length_cons]; omega) kk
theorem gj_pR7 {a0 a1 a2 a3 a4 a5 a6 a7 : AV} {r : List AV} {L : List (Option AV)} {j ci k z : Nat} {C : String} (dg : AtI y pc (.putfield j) 3 nx) (hf : LF y.1.cls j ci 7 true (.object C)) (hini : y.1.name = "<init>") (hown : ∃ T N, vwCl[ci]? = some (y.1.cls, T, N)) (hw : w k = cO ci (a0 :: a1 :: a2 :: a3 :: a4 :: a5 :: a6 :: a7 :: r)) (hk : Nat.blt k n = true) (kk : Gj l x y d mc ms nf Q kc ks n (upw w k (cO ci (a0 :: a1 :: a2 :: a3 :: a4 :: a5 :: a6 :: vR z :: r))) nx L S) : Gj l x y d mc ms nf Q kc ks n w pc L (vR z :: vR k :: S) := gj_putF nar_R dg hf hini hown hw hk (show 7 < (a0 :: a1 :: a2 :: a3 :: a4 :: a5 :: a6 :: a7 :: r).length by simp only [List.length_cons]; omega) kk
theorem gj_pA7 {a0 a1 a2 a3 a4 a5 a6 a7 : AV} {r : List AV} {L : List (Option AV)} {j ci k z : Nat} {e : FieldType} (dg : AtI y pc (.putfield j) 3 nx) (hf : LF y.1.cls j ci 7 true (.array e)) (hini : y.1.name = "<init>") (hown : ∃ T N, vwCl[ci]? = some (y.1.cls, T, N)) (hw : w k = cO ci (a0 :: a1 :: a2 :: a3 :: a4 :: a5 :: a6 :: a7 :: r)) (hk : Nat.blt k n = true) (kk : Gj l x y d mc ms nf Q kc ks n (upw w k (cO ci (a0 :: a1 :: a2 :: a3 :: a4 :: a5 :: a6 :: vR z :: r))) nx L S) : Gj l x y d mc ms nf Q kc ks n w pc L (vR z :: vR k :: S) := gj_putF nar_A dg hf hini hown hw hk (show 7 < (a0 :: a1 :: a2 :: a3 :: a4 :: a5 :: a6 :: a7 :: r).length by simp only [List.length_cons]; omega) kk
theorem gj_pI8 {a0 a1 a2 a3 a4 a5 a6 a7 a8 : AV} {r : List AV} {L : List (Option AV)} {j ci k : Nat} {z : Int} (dg : AtI y pc (.putfield j) 3 nx) (hf : LF y.1.cls j ci 8 false .int) (hw : w k = cO ci (a0 :: a1 :: a2 :: a3 :: a4 :: a5 :: a6 :: a7 :: a8 :: r)) (hk : Nat.blt k n = true) (kk : Gj l x y d mc ms nf Q kc ks n (upw w k (cO ci (a0 :: a1 :: a2 :: a3 :: a4 :: a5 :: a6 :: a7 :: vI z :: r))) nx L S) : Gj l x y d mc ms nf Q kc ks n w pc L (vI z :: vR k :: S) := gj_put nar_I dg hf hw hk (show 8 < (a0 :: a1 :: a2 :: a3 :: a4 :: a5 :: a6 :: a7 :: a8 :: r).length by simp only [List.length_cons]; omega) kk
theorem gj_pR8 {a0 a1 a2 a3 a4 a5 a6 a7 a8 : AV} {r : List AV} {L : List (Option AV)} {j ci k z : Nat} {C : String} (dg : AtI y pc (.putfield j) 3 nx) (hf : LF y.1.cls j ci 8 true (.object C)) (hini : y.1.name = "<init>") (hown : ∃ T N, vwCl[ci]? = some (y.1.cls, T, N)) (hw : w k = cO ci (a0 :: a1 :: a2 :: a3 :: a4 :: a5 :: a6 :: a7 :: a8 :: r)) (hk : Nat.blt k n = true) (kk : Gj l x y d mc ms nf Q kc ks n (upw w k (cO ci (a0 :: a1 :: a2 :: a3 :: a4 :: a5 :: a6 :: a7 :: vR z :: r))) nx L S) : Gj l x y d mc ms nf Q kc ks n w pc L (vR z :: vR k :: S) := gj_putF nar_R dg hf hini hown hw hk (show 8 < (a0 :: a1 :: a2 :: a3 :: a4 :: a5 :: a6 :: a7 :: a8 :: r).length by simp only [List.length_cons]; omega) kk
theorem gj_pA8 {a0 a1 a2 a3 a4 a5 a6 a7 a8 : AV} {r : List AV} {L : List (Option AV)} {j ci k z : Nat} {e : FieldType} (dg : AtI y pc (.putfield j) 3 nx) (hf : LF y.1.cls j ci 8 true (.array e)) (hini : y.1.name = "<init>") (hown : ∃ T N, vwCl[ci]? = some (y.1.cls, T, N)) (hw : w k = cO ci (a0 :: a1 :: a2 :: a3 :: a4 :: a5 :: a6 :: a7 :: a8 :: r)) (hk : Nat.blt k n = true) (kk : Gj l x y d mc ms nf Q kc ks n (upw w k (cO ci (a0 :: a1 :: a2 :: a3 :: a4 :: a5 :: a6 :: a7 :: vR z :: r))) nx L S) : Gj l x y d mc ms nf Q kc ks n w pc L (vR z :: vR k :: S) := gj_putF nar_A dg hf hini hown hw hk (show 8 < (a0 :: a1 :: a2 :: a3 :: a4 :: a5 :: a6 :: a7 :: a8 :: r).length by simp only [List.length_cons]; omega) kk
theorem gj_pI9 {a0 a1 a2 a3 a4 a5 a6 a7 a8 a9 : AV} {r : List AV} {L : List (Option AV)} {j ci k : Nat} {z : Int} (dg : AtI y pc (.putfield j) 3 nx) (hf : LF y.1.cls j ci 9 false .int) (hw : w k = cO ci (a0 :: a1 :: a2 :: a3 :: a4 :: a5 :: a6 :: a7 :: a8 :: a9 :: r)) (hk : Nat.blt k n = true) (kk : Gj l x y d mc ms nf Q kc ks n (upw w k (cO ci (a0 :: a1 :: a2 :: a3 :: a4 :: a5 :: a6 :: a7 :: a8 :: vI z :: r))) nx L S) : Gj l x y d mc ms nf Q kc ks n w pc L (vI z :: vR k :: S) := gj_put nar_I dg hf hw hk (show 9 < (a0 :: a1 :: a2 :: a3 :: a4 :: a5 :: a6 :: a7 :: a8 :: a9 :: r).length by simp only [List.length_cons]; omega) kk
theorem gj_pR9 {a0 a1 a2 a3 a4 a5 a6 a7 a8 a9 : AV} {r : List AV} {L : List (Option AV)} {j ci k z : Nat} {C : String} (dg : AtI y pc (.putfield j) 3 nx) (hf : LF y.1.cls j ci 9 true (.object C)) (hini : y.1.name = "<init>") (hown : ∃ T N, vwCl[ci]? = some (y.1.cls, T, N)) (hw : w k = cO ci (a0 :: a1 :: a2 :: a3 :: a4 :: a5 :: a6 :: a7 :: a8 :: a9 :: r)) (hk : Nat.blt k n = true) (kk : Gj l x y d mc ms nf Q kc ks n (upw w k (cO ci (a0 :: a1 :: a2 :: a3 :: a4 :: a5 :: a6 :: a7 :: a8 :: vR z :: r))) nx L S) : Gj l x y d mc ms nf Q kc ks n w pc L (vR z :: vR k :: S) := gj_putF nar_R dg hf hini hown hw hk (show 9 < (a0 :: a1 :: a2 :: a3 :: a4 :: a5 :: a6 :: a7 :: a8 :: a9 :: r).length by simp only [List.length_cons]; omega) kk
theorem gj_pA9 {a0 a1 a2 a3 a4 a5 a6 a7 a8 a9 : AV} {r : List AV} {L : List (Option AV)} {j ci k z : Nat} {e : FieldType} (dg : AtI y pc (.putfield j) 3 nx) (hf : LF y.1.cls j ci 9 true (.array e)) (hini : y.1.name = "<init>") (hown : ∃ T N, vwCl[ci]? = some (y.1.cls, T, N)) (hw : w k = cO ci (a0 :: a1 :: a2 :: a3 :: a4 :: a5 :: a6 :: a7 :: a8 :: a9 :: r)) (hk : Nat.blt k n = true) (kk : Gj l x y d mc ms nf Q kc ks n (upw w k (cO ci (a0 :: a1 :: a2 :: a3 :: a4 :: a5 :: a6 :: a7 :: a8 :: vR z :: r))) nx L S) : Gj l x y d mc ms nf Q kc ks n w pc L (vR z :: vR k :: S) := gj_putF nar_A dg hf hini hown hw hk (show 9 < (a0 :: a1 :: a2 :: a3 :: a4 :: a5 :: a6 :: a7 :: a8 :: a9 :: r).length by simp only [List.length_cons]; omega) kk
theorem gj_pI10 {a0 a1 a2 a3 a4 a5 a6 a7 a8 a9 a10 : AV} {r : List AV} {L : List (Option AV)} {j ci k : Nat} {z : Int} (dg : AtI y pc (.putfield j) 3 nx) (hf : LF y.1.cls j ci 10 false .int) (hw : w k = cO ci (a0 :: a1 :: a2 :: a3 :: a4 :: a5 :: a6 :: a7 :: a8 :: a9 :: a10 :: r)) (hk : Nat.blt k n = true) (kk : Gj l x y d mc ms nf Q kc ks n (upw w k (cO ci (a0 :: a1 :: a2 :: a3 :: a4 :: a5 :: a6 :: a7 :: a8 :: a9 :: vI z :: r))) nx L S) : Gj l x y d mc ms nf Q kc ks n w pc L (vI z :: vR k :: S) := gj_put nar_I dg hf hw hk (show 10 < (a0 :: a1 :: a2 :: a3 :: a4 :: a5 :: a6 :: a7 :: a8 :: a9 :: a10 :: r).length by simp only [List.length_cons]; omega) kk
theorem gj_pR10 {a0 a1 a2 a3 a4 a5 a6 a7 a8 a9 a10 : AV} {r : List AV} {L : List (Option AV)} {j ci k z : Nat} {C : String} (dg : AtI y pc (.putfield j) 3 nx) (hf : LF y.1.cls j ci 10 true (.object C)) (hini : y.1.name = "<init>") (hown : ∃ T N, vwCl[ci]? = some (y.1.cls, T, N)) (hw : w k = cO ci (a0 :: a1 :: a2 :: a3 :: a4 :: a5 :: a6 :: a7 :: a8 :: a9 :: a10 :: r)) (hk : Nat.blt k n = true) (kk : Gj l x y d mc ms nf Q kc ks n (upw w k (cO ci (a0 :: a1 :: a2 :: a3 :: a4 :: a5 :: a6 :: a7 :: a8 :: a9 :: vR z :: r))) nx L S) : Gj l x y d mc ms nf Q kc ks n w pc L (vR z :: vR k :: S) := gj_putF nar_R dg hf hini hown hw hk (show 10 < (a0 :: a1 :: a2 :: a3 :: a4 :: a5 :: a6 :: a7 :: a8 :: a9 :: a10 :: r).length by simp only [List.length_cons]; omega) kk
theorem gj_pA10 {a0 a1 a2 a3 a4 a5 a6 a7 a8 a9 a10 : AV} {r : List AV} {L : List (Option AV)} {j ci k z : Nat} {e : FieldType} (dg : AtI y pc (.putfield j) 3 nx) (hf : LF y.1.cls j ci 10 true (.array e)) (hini : y.1.name = "<init>") (hown : ∃ T N, vwCl[ci]? = some (y.1.cls, T, N)) (hw : w k = cO ci (a0 :: a1 :: a2 :: a3 :: a4 :: a5 :: a6 :: a7 :: a8 :: a9 :: a10 :: r)) (hk : Nat.blt k n = true) (kk : Gj l x y d mc ms nf Q kc ks n (upw w k (cO ci (a0 :: a1 :: a2 :: a3 :: a4 :: a5 :: a6 :: a7 :: a8 :: a9 :: vR z :: r))) nx L S) : Gj l x y d mc ms nf Q kc ks n w pc L (vR z :: vR k :: S) := gj_putF nar_A dg hf hini hown hw hk (show 10 < (a0 :: a1 :: a2 :: a3 :: a4 :: a5 :: a6 :: a7 :: a8 :: a9 :: a10 :: r).length by simp only [List.length_cons]; omega) kk
theorem gj_pI11 {a0 a1 a2 a3 a4 a5 a6 a7 a8 a9 a10 a11 : AV} {r : List AV} {L : List (Option AV)} {j ci k : Nat} {z : Int} (dg : AtI y pc (.putfield j) 3 nx) (hf : LF y.1.cls j ci 11 false .int) (hw : w k = cO ci (a0 :: a1 :: a2 :: a3 :: a4 :: a5 :: a6 :: a7 :: a8 :: a9 :: a10 :: a11 :: r)) (hk : Nat.blt k n = true) (kk : Gj l x y d mc ms nf Q kc ks n (upw w k (cO ci (a0 :: a1 :: a2 :: a3 :: a4 :: a5 :: a6 :: a7 :: a8 :: a9 :: a10 :: vI z :: r))) nx L S) : Gj l x y d mc ms nf Q kc ks n w pc L (vI z :: vR k :: S) := gj_put nar_I dg hf hw hk (show 11 < (a0 :: a1 :: a2 :: a3 :: a4 :: a5 :: a6 :: a7 :: a8 :: a9 :: a10 :: a11 :: r).length by simp only [List.length_cons]; omega) kk
theorem gj_pR11 {a0 a1 a2 a3 a4 a5 a6 a7 a8 a9 a10 a11 : AV} {r : List AV} {L : List (Option AV)} {j ci k z : Nat} {C : String} (dg : AtI y pc (.putfield j) 3 nx) (hf : LF y.1.cls j ci 11 true (.object C)) (hini : y.1.name = "<init>") (hown : ∃ T N, vwCl[ci]? = some (y.1.cls, T, N)) (hw : w k = cO ci (a0 :: a1 :: a2 :: a3 :: a4 :: a5 :: a6 :: a7 :: a8 :: a9 :: a10 :: a11 :: r)) (hk : Nat.blt k n = true) (kk : Gj l x y d mc ms nf Q kc ks n (upw w k (cO ci (a0 :: a1 :: a2 :: a3 :: a4 :: a5 :: a6 :: a7 :: a8 :: a9 :: a10 :: vR z :: r))) nx L S) : Gj l x y d mc ms nf Q kc ks n w pc L (vR z :: vR k :: S) := gj_putF nar_R dg hf hini hown hw hk (show 11 < (a0 :: a1 :: a2 :: a3 :: a4 :: a5 :: a6 :: a7 :: a8 :: a9 :: a10 :: a11 :: r).length by simp only [List.length_cons]; omega) kk
theorem gj_pA11 {a0 a1 a2 a3 a4 a5 a6 a7 a8 a9 a10 a11 : AV} {r : List AV} {L : List (Option AV)} {j ci k z : Nat} {e : FieldType} (dg : AtI y pc (.putfield j) 3 nx) (hf : LF y.1.cls j ci 11 true (.array e)) (hini : y.1.name = "<init>") (hown : ∃ T N, vwCl[ci]? = some (y.1.cls, T, N)) (hw : w k = cO ci (a0 :: a1 :: a2 :: a3 :: a4 :: a5 :: a6 :: a7 :: a8 :: a9 :: a10 :: a11 :: r)) (hk : Nat.blt k n = true) (kk : Gj l x y d mc ms nf Q kc ks n (upw w k (cO ci (a0 :: a1 :: a2 :: a3 :: a4 :: a5 :: a6 :: a7 :: a8 :: a9 :: a10 :: vR z :: r))) nx L S) : Gj l x y d mc ms nf Q kc ks n w pc L (vR z :: vR k :: S) := gj_putF nar_A dg hf hini hown hw hk (show 11 < (a0 :: a1 :: a2 :: a3 :: a4 :: a5 :: a6 :: a7 :: a8 :: a9 :: a10 :: a11 :: r).length by simp only [List.length_cons]; omega) kk
theorem gj_pI12 {a0 a1 a2 a3 a4 a5 a6 a7 a8 a9 a10 a11 a12 : AV} {r : List AV} {L : List (Option AV)} {j ci k : Nat} {z : Int} (dg : AtI y pc (.putfield j) 3 nx) (hf : LF y.1.cls j ci 12 false .int) (hw : w k = cO ci (a0 :: a1 :: a2 :: a3 :: a4 :: a5 :: a6 :: a7 :: a8 :: a9 :: a10 :: a11 :: a12 :: r)) (hk : Nat.blt k n = true) (kk : Gj l x y d mc ms nf Q kc ks n (upw w k (cO ci (a0 :: a1 :: a2 :: a3 :: a4 :: a5 :: a6 :: a7 :: a8 :: a9 :: a10 :: a11 :: vI z :: r))) nx L S) : Gj l x y d mc ms nf Q kc ks n w pc L (vI z :: vR k :: S) := gj_put nar_I dg hf hw hk (show 12 < (a0 :: a1 :: a2 :: a3 :: a4 :: a5 :: a6 :: a7 :: a8 :: a9 :: a10 :: a11 :: a12 :: r).length by simp only [List.length_cons]; omega) kk
theorem gj_pR12 {a0 a1 a2 a3 a4 a5 a6 a7 a8 a9 a10 a11 a12 : AV} {r : List AV} {L : List (Option AV)} {j ci k z : Nat} {C : String} (dg : AtI y pc (.putfield j) 3 nx) (hf : LF y.1.cls j ci 12 true (.object C)) (hini : y.1.name = "<init>") (hown : ∃ T N, vwCl[ci]? = some (y.1.cls, T, N)) (hw : w k = cO ci (a0 :: a1 :: a2 :: a3 :: a4 :: a5 :: a6 :: a7 :: a8 :: a9 :: a10 :: a11 :: a12 :: r)) (hk : Nat.blt k n = true) (kk : Gj l x y d mc ms nf Q kc ks n (upw w k (cO ci (a0 :: a1 :: a2 :: a3 :: a4 :: a5 :: a6 :: a7 :: a8 :: a9 :: a10 :: a11 :: vR z :: r))) nx L S) : Gj l x y d mc ms nf Q kc ks n w pc L (vR z :: vR k :: S) := gj_putF nar_R dg hf hini hown hw hk (show 12 < (a0 :: a1 :: a2 :: a3 :: a4 :: a5 :: a6 :: a7 :: a8 :: a9 :: a10 :: a11 :: a12 :: r).length by simp only [List.length_cons]; omega) kk
theorem gj_pA12 {a0 a1 a2 a3 a4 a5 a6 a7 a8 a9 a10 a11 a12 : AV} {r : List AV} {L : List (Option AV)} {j ci k z : Nat} {e : FieldType} (dg : AtI y pc (.putfield j) 3 nx) (hf : LF y.1.cls j ci 12 true (.array e)) (hini : y.1.name = "<init>") (hown : ∃ T N, vwCl[ci]? = some (y.1.cls, T, N)) (hw : w k = cO ci (a0 :: a1 :: a2 :: a3 :: a4 :: a5 :: a6 :: a7 :: a8 :: a9 :: a10 :: a11 :: a12 :: r)) (hk : Nat.blt k n = true) (kk : Gj l x y d mc ms nf Q kc ks n (upw w k (cO ci (a0 :: a1 :: a2 :: a3 :: a4 :: a5 :: a6 :: a7 :: a8 :: a9 :: a10 :: a11 :: vR z :: r))) nx L S) : Gj l x y d mc ms nf Q kc ks n w pc L (vR z :: vR k :: S) := gj_putF nar_A dg hf hini hown hw hk (show 12 < (a0 :: a1 :: a2 :: a3 :: a4 :: a5 :: a6 :: a7 :: a8 :: a9 :: a10 :: a11 :: a12 :: r).length by simp only [List.length_cons]; omega) kk
theorem gj_pI13 {a0 a1 a2 a3 a4 a5 a6 a7 a8 a9 a10 a11 a12 a13 : AV} {r : List AV} {L : List (Option AV)} {j ci k : Nat} {z : Int} (dg : AtI y pc (.putfield j) 3 nx) (hf : LF y.1.cls j ci 13 false .int) (hw : w k = cO ci (a0 :: a1 :: a2 :: a3 :: a4 :: a5 :: a6 :: a7 :: a8 :: a9 :: a10 :: a11 :: a12 :: a13 :: r)) (hk : Nat.blt k n = true) (kk : Gj l x y d mc ms nf Q kc ks n (upw w k (cO ci (a0 :: a1 :: a2 :: a3 :: a4 :: a5 :: a6 :: a7 :: a8 :: a9 :: a10 :: a11 :: a12 :: vI z :: r))) nx L S) : Gj l x y d mc ms nf Q kc ks n w pc L (vI z :: vR k :: S) := gj_put nar_I dg hf hw hk (show 13 < (a0 :: a1 :: a2 :: a3 :: a4 :: a5 :: a6 :: a7 :: a8 :: a9 :: a10 :: a11 :: a12 :: a13 :: r).length by simp only [List.length_cons]; omega) kk
theorem gj_pR13 {a0 a1 a2 a3 a4 a5 a6 a7 a8 a9 a10 a11 a12 a13 : AV} {r : List AV} {L : List (Option AV)} {j ci k z : Nat} {C : String} (dg : AtI y pc (.putfield j) 3 nx) (hf : LF y.1.cls j ci 13 true (.object C)) (hini : y.1.name = "<init>") (hown : ∃ T N, vwCl[ci]? = some (y.1.cls, T, N)) (hw : w k = cO ci (a0 :: a1 :: a2 :: a3 :: a4 :: a5 :: a6 :: a7 :: a8 :: a9 :: a10 :: a11 :: a12 :: a13 :: r)) (hk : Nat.blt k n = true) (kk : Gj l x y d mc ms nf Q kc ks n (upw w k (cO ci (a0 :: a1 :: a2 :: a3 :: a4 :: a5 :: a6 :: a7 :: a8 :: a9 :: a10 :: a11 :: a12 :: vR z :: r))) nx L S) : Gj l x y d mc ms nf Q kc ks n w pc L (vR z :: vR k :: S) := gj_putF nar_R dg hf hini hown hw hk (show 13 < (a0 :: a1 :: a2 :: a3 :: a4 :: a5 :: a6 :: a7 :: a8 :: a9 :: a10 :: a11 :: a12 :: a13 :: r).length by simp only [List.length_cons]; omega) kk
theorem gj_pA13 {a0 a1 a2 a3 a4 a5 a6 a7 a8 a9 a10 a11 a12 a13 : AV} {r : List AV} {L : List (Option AV)} {j ci k z : Nat} {e : FieldType} (dg : AtI y pc (.putfield j) 3 nx) (hf : LF y.1.cls j ci 13 true (.array e)) (hini : y.1.name = "<init>") (hown : ∃ T N, vwCl[ci]? = some (y.1.cls, T, N)) (hw : w k = cO ci (a0 :: a1 :: a2 :: a3 :: a4 :: a5 :: a6 :: a7 :: a8 :: a9 :: a10 :: a11 :: a12 :: a13 :: r)) (hk : Nat.blt k n = true) (kk : Gj l x y d mc ms nf Q kc ks n (upw w k (cO ci (a0 :: a1 :: a2 :: a3 :: a4 :: a5 :: a6 :: a7 :: a8 :: a9 :: a10 :: a11 :: a12 :: vR z :: r))) nx L S) : Gj l x y d mc ms nf Q kc ks n w pc L (vR z :: vR k :: S) := gj_putF nar_A dg hf hini hown hw hk (show 13 < (a0 :: a1 :: a2 :: a3 :: a4 :: a5 :: a6 :: a7 :: a8 :: a9 :: a10 :: a11 :: a12 :: a13 :: r).length by simp only [List.length_cons]; omega) kk
theorem gj_pI14 {a0 a1 a2 a3 a4 a5 a6 a7 a8 a9 a10 a11 a12 a13 a14 : AV} {r : List AV} {L : List (Option AV)} {j ci k : Nat} {z : Int} (dg : AtI y pc (.putfield j) 3 nx) (hf : LF y.1.cls j ci 14 false .int) (hw : w k = cO ci (a0 :: a1 :: a2 :: a3 :: a4 :: a5 :: a6 :: a7 :: a8 :: a9 :: a10 :: a11 :: a12 :: a13 :: a14 :: r)) (hk : Nat.blt k n = true) (kk : Gj l x y d mc ms nf Q kc ks n (upw w k (cO ci (a0 :: a1 :: a2 :: a3 :: a4 :: a5 :: a6 :: a7 :: a8 :: a9 :: a10 :: a11 :: a12 :: a13 :: vI z :: r))) nx L S) : Gj l x y d mc ms nf Q kc ks n w pc L (vI z :: vR k :: S) := gj_put nar_I dg hf hw hk (show 14 < (a0 :: a1 :: a2 :: a3 :: a4 :: a5 :: a6 :: a7 :: a8 :: a9 :: a10 :: a11 :: a12 :: a13 :: a14 :: r).length by simp only [List.length_cons]; omega) kk
theorem gj_pR14 {a0 a1 a2 a3 a4 a5 a6 a7 a8 a9 a10 a11 a12 a13 a14 : AV} {r : List AV} {L : List (Option AV)} {j ci k z : Nat} {C : String} (dg : AtI y pc (.putfield j) 3 nx) (hf : LF y.1.cls j ci 14 true (.object C)) (hini : y.1.name = "<init>") (hown : ∃ T N, vwCl[ci]? = some (y.1.cls, T, N)) (hw : w k = cO ci (a0 :: a1 :: a2 :: a3 :: a4 :: a5 :: a6 :: a7 :: a8 :: a9 :: a10 :: a11 :: a12 :: a13 :: a14 :: r)) (hk : Nat.blt k n = true) (kk : Gj l x y d mc ms nf Q kc ks n (upw w k (cO ci (a0 :: a1 :: a2 :: a3 :: a4 :: a5 :: a6 :: a7 :: a8 :: a9 :: a10 :: a11 :: a12 :: a13 :: vR z :: r))) nx L S) : Gj l x y d mc ms nf Q kc ks n w pc L (vR z :: vR k :: S) := gj_putF nar_R dg hf hini hown hw hk (show 14 < (a0 :: a1 :: a2 :: a3 :: a4 :: a5 :: a6 :: a7 :: a8 :: a9 :: a10 :: a11 :: a12 :: a13 :: a14 :: r).length by simp only [List.length_cons]; omega) kk
theorem gj_pA14 {a0 a1 a2 a3 a4 a5 a6 a7 a8 a9 a10 a11 a12 a13 a14 : AV} {r : List AV} {L : List (Option AV)} {j ci k z : Nat} {e : FieldType} (dg : AtI y pc (.putfield j) 3 nx) (hf : LF y.1.cls j ci 14 true (.array e)) (hini : y.1.name = "<init>") (hown : ∃ T N, vwCl[ci]? = some (y.1.cls, T, N)) (hw : w k = cO ci (a0 :: a1 :: a2 :: a3 :: a4 :: a5 :: a6 :: a7 :: a8 :: a9 :: a10 :: a11 :: a12 :: a13 :: a14 :: r)) (hk : Nat.blt k n = true) (kk : Gj l x y d mc ms nf Q kc ks n (upw w k (cO ci (a0 :: a1 :: a2 :: a3 :: a4 :: a5 :: a6 :: a7 :: a8 :: a9 :: a10 :: a11 :: a12 :: a13 :: vR z :: r))) nx L S) : Gj l x y d mc ms nf Q kc ks n w pc L (vR z :: vR k :: S) := gj_putF nar_A dg hf hini hown hw hk (show 14 < (a0 :: a1 :: a2 :: a3 :: a4 :: a5 :: a6 :: a7 :: a8 :: a9 :: a10 :: a11 :: a12 :: a13 :: a14 :: r).length by simp only [List.length_cons]; omega) kk
theorem gj_pI15 {a0 a1 a2 a3 a4 a5 a6 a7 a8 a9 a10 a11 a12 a13 a14 a15 : AV} {r : List AV} {L : List (Option AV)} {j ci k : Nat} {z : Int} (dg : AtI y pc (.putfield j) 3 nx) (hf : LF y.1.cls j ci 15 false .int) (hw : w k = cO ci (a0 :: a1 :: a2 :: a3 :: a4 :: a5 :: a6 :: a7 :: a8 :: a9 :: a10 :: a11 :: a12 :: a13 :: a14 :: a15 :: r)) (hk : Nat.blt k n = true) (kk : Gj l x y d mc ms nf Q kc ks n (upw w k (cO ci (a0 :: a1 :: a2 :: a3 :: a4 :: a5 :: a6 :: a7 :: a8 :: a9 :: a10 :: a11 :: a12 :: a13 :: a14 :: vI z :: r))) nx L S) : Gj l x y d mc ms nf Q kc ks n w pc L (vI z :: vR k :: S) := gj_put nar_I dg hf hw hk (show 15 < (a0 :: a1 :: a2 :: a3 :: a4 :: a5 :: a6 :: a7 :: a8 :: a9 :: a10 :: a11 :: a12 :: a13 :: a14 :: a15 :: r).length by simp only [List.length_cons]; omega) kk
theorem gj_pR15 {a0 a1 a2 a3 a4 a5 a6 a7 a8 a9 a10 a11 a12 a13 a14 a15 : AV} {r : List AV} {L : List (Option AV)} {j ci k z : Nat} {C : String} (dg : AtI y pc (.putfield j) 3 nx) (hf : LF y.1.cls j ci 15 true (.object C)) (hini : y.1.name = "<init>") (hown : ∃ T N, vwCl[ci]? = some (y.1.cls, T, N)) (hw : w k = cO ci (a0 :: a1 :: a2 :: a3 :: a4 :: a5 :: a6 :: a7 :: a8 :: a9 :: a10 :: a11 :: a12 :: a13 :: a14 :: a15 :: r)) (hk : Nat.blt k n = true) (kk : Gj l x y d mc ms nf Q kc ks n (upw w k (cO ci (a0 :: a1 :: a2 :: a3 :: a4 :: a5 :: a6 :: a7 :: a8 :: a9 :: a10 :: a11 :: a12 :: a13 :: a14 :: vR z :: r))) nx L S) : Gj l x y d mc ms nf Q kc ks n w pc L (vR z :: vR k :: S) := gj_putF nar_R dg hf hini hown hw hk (show 15 < (a0 :: a1 :: a2 :: a3 :: a4 :: a5 :: a6 :: a7 :: a8 :: a9 :: a10 :: a11 :: a12 :: a13 :: a14 :: a15 :: r).length by simp only [List.length_cons]; omega) kk
theorem gj_pA15 {a0 a1 a2 a3 a4 a5 a6 a7 a8 a9 a10 a11 a12 a13 a14 a15 : AV} {r : List AV} {L : List (Option AV)} {j ci k z : Nat} {e : FieldType} (dg : AtI y pc (.putfield j) 3 nx) (hf : LF y.1.cls j ci 15 true (.array e)) (hini : y.1.name = "<init>") (hown : ∃ T N, vwCl[ci]? = some (y.1.cls, T, N)) (hw : w k = cO ci (a0 :: a1 :: a2 :: a3 :: a4 :: a5 :: a6 :: a7 :: a8 :: a9 :: a10 :: a11 :: a12 :: a13 :: a14 :: a15 :: r)) (hk : Nat.blt k n = true) (kk : Gj l x y d mc ms nf Q kc ks n (upw w k (cO ci (a0 :: a1 :: a2 :: a3 :: a4 :: a5 :: a6 :: a7 :: a8 :: a9 :: a10 :: a11 :: a12 :: a13 :: a14 :: vR z :: r))) nx L S) : Gj l x y d mc ms nf Q kc ks n w pc L (vR z :: vR k :: S) := gj_putF nar_A dg hf hini hown hw hk (show 15 < (a0 :: a1 :: a2 :: a3 :: a4 :: a5 :: a6 :: a7 :: a8 :: a9 :: a10 :: a11 :: a12 :: a13 :: a14 :: a15 :: r).length by simp only [List.length_cons]; omega) kk
theorem gj_pI16 {a0 a1 a2 a3 a4 a5 a6 a7 a8 a9 a10 a11 a12 a13 a14 a15 a16 : AV} {r : List AV} {L : List (Option AV)} {j ci k : Nat} {z : Int} (dg : AtI y pc (.putfield j) 3 nx) (hf : LF y.1.cls j ci 16 false .int) (hw : w k = cO ci (a0 :: a1 :: a2 :: a3 :: a4 :: a5 :: a6 :: a7 :: a8 :: a9 :: a10 :: a11 :: a12 :: a13 :: a14 :: a15 :: a16 :: r)) (hk : Nat.blt k n = true) (kk : Gj l x y d mc ms nf Q kc ks n (upw w k (cO ci (a0 :: a1 :: a2 :: a3 :: a4 :: a5 :: a6 :: a7 :: a8 :: a9 :: a10 :: a11 :: a12 :: a13 :: a14 :: a15 :: vI z :: r))) nx L S) : Gj l x y d mc ms nf Q kc ks n w pc L (vI z :: vR k :: S) := gj_put nar_I dg hf hw hk (show 16 < (a0 :: a1 :: a2 :: a3 :: a4 :: a5 :: a6 :: a7 :: a8 :: a9 :: a10 :: a11 :: a12 :: a13 :: a14 :: a15 :: a16 :: r).length by simp only [List.length_cons]; omega) kk
theorem gj_pR16 {a0 a1 a2 a3 a4 a5 a6 a7 a8 a9 a10 a11 a12 a13 a14 a15 a16 : AV} {r : List AV} {L : List (Option AV)} {j ci k z : Nat} {C : String} (dg : AtI y pc (.putfield j) 3 nx) (hf : LF y.1.cls j ci 16 true (.object C)) (hini : y.1.name = "<init>") (hown : ∃ T N, vwCl[ci]? = some (y.1.cls, T, N)) (hw : w k = cO ci (a0 :: a1 :: a2 :: a3 :: a4 :: a5 :: a6 :: a7 :: a8 :: a9 :: a10 :: a11 :: a12 :: a13 :: a14 :: a15 :: a16 :: r)) (hk : Nat.blt k n = true) (kk : Gj l x y d mc ms nf Q kc ks n (upw w k (cO ci (a0 :: a1 :: a2 :: a3 :: a4 :: a5 :: a6 :: a7 :: a8 :: a9 :: a10 :: a11 :: a12 :: a13 :: a14 :: a15 :: vR z :: r))) nx L S) : Gj l x y d mc ms nf Q kc ks n w pc L (vR z :: vR k :: S) := gj_putF nar_R dg hf hini hown hw hk (show 16 < (a0 :: a1 :: a2 :: a3 :: a4 :: a5 :: a6 :: a7 :: a8 :: a9 :: a10 :: a11 :: a12 :: a13 :: a14 :: a15 :: a16 :: r).length by simp only [List.length_cons]; omega) kk
theorem gj_pA16 {a0 a1 a2 a3 a4 a5 a6 a7 a8 a9 a10 a11 a12 a13 a14 a15 a16 : AV} {r : List AV} {L : List (Option AV)} {j ci k z : Nat} {e : FieldType} (dg : AtI y pc (.putfield j) 3 nx) (hf : LF y.1.cls j ci 16 true (.array e)) (hini : y.1.name = "<init>") (hown : ∃ T N, vwCl[ci]? = some (y.1.cls, T, N)) (hw : w k = cO ci (a0 :: a1 :: a2 :: a3 :: a4 :: a5 :: a6 :: a7 :: a8 :: a9 :: a10 :: a11 :: a12 :: a13 :: a14 :: a15 :: a16 :: r)) (hk : Nat.blt k n = true) (kk : Gj l x y d mc ms nf Q kc ks n (upw w k (cO ci (a0 :: a1 :: a2 :: a3 :: a4 :: a5 :: a6 :: a7 :: a8 :: a9 :: a10 :: a11 :: a12 :: a13 :: a14 :: a15 :: vR z :: r))) nx L S) : Gj l x y d mc ms nf Q kc ks n w pc L (vR z :: vR k :: S) := gj_putF nar_A dg hf hini hown hw hk (show 16 < (a0 :: a1 :: a2 :: a3 :: a4 :: a5 :: a6 :: a7 :: a8 :: a9 :: a10 :: a11 :: a12 :: a13 :: a14 :: a15 :: a16 :: r).length by simp only [List.length_cons]; omega) kk
theorem gj_pI17 {a0 a1 a2 a3 a4 a5 a6 a7 a8 a9 a10 a11 a12 a13 a14 a15 a16 a17 : AV} {r : List AV} {L : List (Option AV)} {j ci k : Nat} {z : Int} (dg : AtI y pc (.putfield j) 3 nx) (hf : LF y.1.cls j ci 17 false .int) (hw : w k = cO ci (a0 :: a1 :: a2 :: a3 :: a4 :: a5 :: a6 :: a7 :: a8 :: a9 :: a10 :: a11 :: a12 :: a13 :: a14 :: a15 :: a16 :: a17 :: r)) (hk : Nat.blt k n = true) (kk : Gj l x y d mc ms nf Q kc ks n (upw w k (cO ci (a0 :: a1 :: a2 :: a3 :: a4 :: a5 :: a6 :: a7 :: a8 :: a9 :: a10 :: a11 :: a12 :: a13 :: a14 :: a15 :: a16 :: vI z :: r))) nx L S) : Gj l x y d mc ms nf Q kc ks n w pc L (vI z :: vR k :: S) := gj_put nar_I dg hf hw hk (show 17 < (a0 :: a1 :: a2 :: a3 :: a4 :: a5 :: a6 :: a7 :: a8 :: a9 :: a10 :: a11 :: a12 :: a13 :: a14 :: a15 :: a16 :: a17 :: r).length by simp only [List.length_cons]; omega) kk
theorem gj_pR17 {a0 a1 a2 a3 a4 a5 a6 a7 a8 a9 a10 a11 a12 a13 a14 a15 a16 a17 : AV} {r : List AV} {L : List (Option AV)} {j ci k z : Nat} {C : String} (dg : AtI y pc (.putfield j) 3 nx) (hf : LF y.1.cls j ci 17 true (.object C)) (hini : y.1.name = "<init>") (hown : ∃ T N, vwCl[ci]? = some (y.1.cls, T, N)) (hw : w k = cO ci (a0 :: a1 :: a2 :: a3 :: a4 :: a5 :: a6 :: a7 :: a8 :: a9 :: a10 :: a11 :: a12 :: a13 :: a14 :: a15 :: a16 :: a17 :: r)) (hk : Nat.blt k n = true) (kk : Gj l x y d mc ms nf Q kc ks n (upw w k (cO ci (a0 :: a1 :: a2 :: a3 :: a4 :: a5 :: a6 :: a7 :: a8 :: a9 :: a10 :: a11 :: a12 :: a13 :: a14 :: a15 :: a16 :: vR z :: r))) nx L S) : Gj l x y d mc ms nf Q kc ks n w pc L (vR z :: vR k :: S) := gj_putF nar_R dg hf hini hown hw hk (show 17 < (a0 :: a1 :: a2 :: a3 :: a4 :: a5 :: a6 :: a7 :: a8 :: a9 :: a10 :: a11 :: a12 :: a13 :: a14 :: a15 :: a16 :: a17 :: r).length by simp only [List.length_cons]; omega) kk
theorem gj_pA17 {a0 a1 a2 a3 a4 a5 a6 a7 a8 a9 a10 a11 a12 a13 a14 a15 a16 a17 : AV} {r : List AV} {L : List (Option AV)} {j ci k z : Nat} {e : FieldType} (dg : AtI y pc (.putfield j) 3 nx) (hf : LF y.1.cls j ci 17 true (.array e)) (hini : y.1.name = "<init>") (hown : ∃ T N, vwCl[ci]? = some (y.1.cls, T, N)) (hw : w k = cO ci (a0 :: a1 :: a2 :: a3 :: a4 :: a5 :: a6 :: a7 :: a8 :: a9 :: a10 :: a11 :: a12 :: a13 :: a14 :: a15 :: a16 :: a17 :: r)) (hk : Nat.blt k n = true) (kk : Gj l x y d mc ms nf Q kc ks n (upw w k (cO ci (a0 :: a1 :: a2 :: a3 :: a4 :: a5 :: a6 :: a7 :: a8 :: a9 :: a10 :: a11 :: a12 :: a13 :: a14 :: a15 :: a16 :: vR z :: r))) nx L S) : Gj l x y d mc ms nf Q kc ks n w pc L (vR z :: vR k :: S) := gj_putF nar_A dg hf hini hown hw hk (show 17 < (a0 :: a1 :: a2 :: a3 :: a4 :: a5 :: a6 :: a7 :: a8 :: a9 :: a10 :: a11 :: a12 :: a13 :: a14 :: a15 :: a16 :: a17 :: r).length by simp only [List.length_cons]; omega) kk
theorem gj_pI18 {a0 a1 a2 a3 a4 a5 a6 a7 a8 a9 a10 a11 a12 a13 a14 a15 a16 a17 a18 : AV} {r : List AV} {L : List (Option AV)} {j ci k : Nat} {z : Int} (dg : AtI y pc (.putfield j) 3 nx) (hf : LF y.1.cls j ci 18 false .int) (hw : w k = cO ci (a0 :: a1 :: a2 :: a3 :: a4 :: a5 :: a6 :: a7 :: a8 :: a9 :: a10 :: a11 :: a12 :: a13 :: a14 :: a15 :: a16 :: a17 :: a18 :: r)) (hk : Nat.blt k n = true) (kk : Gj l x y d mc ms nf Q kc ks n (upw w k (cO ci (a0 :: a1 :: a2 :: a3 :: a4 :: a5 :: a6 :: a7 :: a8 :: a9 :: a10 :: a11 :: a12 :: a13 :: a14 :: a15 :: a16 :: a17 :: vI z :: r))) nx L S) : Gj l x y d mc ms nf Q kc ks n w pc L (vI z :: vR k :: S) := gj_put nar_I dg hf hw hk (show 18 < (a0 :: a1 :: a2 :: a3 :: a4 :: a5 :: a6 :: a7 :: a8 :: a9 :: a10 :: a11 :: a12 :: a13 :: a14 :: a15 :: a16 :: a17 :: a18 :: r).length by simp only [List.length_cons]; omega) kk
theorem gj_pR18 {a0 a1 a2 a3 a4 a5 a6 a7 a8 a9 a10 a11 a12 a13 a14 a15 a16 a17 a18 : AV} {r : List AV} {L : List (Option AV)} {j ci k z : Nat} {C : String} (dg : AtI y pc (.putfield j) 3 nx) (hf : LF y.1.cls j ci 18 true (.object C)) (hini : y.1.name = "<init>") (hown : ∃ T N, vwCl[ci]? = some (y.1.cls, T, N)) (hw : w k = cO ci (a0 :: a1 :: a2 :: a3 :: a4 :: a5 :: a6 :: a7 :: a8 :: a9 :: a10 :: a11 :: a12 :: a13 :: a14 :: a15 :: a16 :: a17 :: a18 :: r)) (hk : Nat.blt k n = true) (kk : Gj l x y d mc ms nf Q kc ks n (upw w k (cO ci (a0 :: a1 :: a2 :: a3 :: a4 :: a5 :: a6 :: a7 :: a8 :: a9 :: a10 :: a11 :: a12 :: a13 :: a14 :: a15 :: a16 :: a17 :: vR z :: r))) nx L S) : Gj l x y d mc ms nf Q kc ks n w pc L (vR z :: vR k :: S) := gj_putF nar_R dg hf hini hown hw hk (show 18 < (a0 :: a1 :: a2 :: a3 :: a4 :: a5 :: a6 :: a7 :: a8 :: a9 :: a10 :: a11 :: a12 :: a13 :: a14 :: a15 :: a16 :: a17 :: a18 :: r).length by simp only [List.length_cons]; omega) kk
theorem gj_pA18 {a0 a1 a2 a3 a4 a5 a6 a7 a8 a9 a10 a11 a12 a13 a14 a15 a16 a17 a18 : AV} {r : List AV} {L : List (Option AV)} {j ci k z : Nat} {e : FieldType} (dg : AtI y pc (.putfield j) 3 nx) (hf : LF y.1.cls j ci 18 true (.array e)) (hini : y.1.name = "<init>") (hown : ∃ T N, vwCl[ci]? = some (y.1.cls, T, N)) (hw : w k = cO ci (a0 :: a1 :: a2 :: a3 :: a4 :: a5 :: a6 :: a7 :: a8 :: a9 :: a10 :: a11 :: a12 :: a13 :: a14 :: a15 :: a16 :: a17 :: a18 :: r)) (hk : Nat.blt k n = true) (kk : Gj l x y d mc ms nf Q kc ks n (upw w k (cO ci (a0 :: a1 :: a2 :: a3 :: a4 :: a5 :: a6 :: a7 :: a8 :: a9 :: a10 :: a11 :: a12 :: a13 :: a14 :: a15 :: a16 :: a17 :: vR z :: r))) nx L S) : Gj l x y d mc ms nf Q kc ks n w pc L (vR z :: vR k :: S) := gj_putF nar_A dg hf hini hown hw hk (show 18 < (a0 :: a1 :: a2 :: a3 :: a4 :: a5 :: a6 :: a7 :: a8 :: a9 :: a10 :: a11 :: a12 :: a13 :: a14 :: a15 :: a16 :: a17 :: a18 :: r).length by simp only [List.length_cons]; omega) kk
theorem gj_pI19 {a0 a1 a2 a3 a4 a5 a6 a7 a8 a9 a10 a11 a12 a13 a14 a15 a16 a17 a18 a19 : AV} {r : List AV} {L : List (Option AV)} {j ci k : Nat} {z : Int} (dg : AtI y pc (.putfield j) 3 nx) (hf : LF y.1.cls j ci 19 false .int) (hw : w k = cO ci (a0 :: a1 :: a2 :: a3 :: a4 :: a5 :: a6 :: a7 :: a8 :: a9 :: a10 :: a11 :: a12 :: a13 :: a14 :: a15 :: a16 :: a17 :: a18 :: a19 :: r)) (hk : Nat.blt k n = true) (kk : Gj l x y d mc ms nf Q kc ks n (upw w k (cO ci (a0 :: a1 :: a2 :: a3 :: a4 :: a5 :: a6 :: a7 :: a8 :: a9 :: a10 :: a11 :: a12 :: a13 :: a14 :: a15 :: a16 :: a17 :: a18 :: vI z :: r))) nx L S) : Gj l x y d mc ms nf Q kc ks n w pc L (vI z :: vR k :: S) := gj_put nar_I dg hf hw hk (show 19 < (a0 :: a1 :: a2 :: a3 :: a4 :: a5 :: a6 :: a7 :: a8 :: a9 :: a10 :: a11 :: a12 :: a13 :: a14 :: a15 :: a16 :: a17 :: a18 :: a19 :: r).length by simp only [List.length_cons]; omega) kk
theorem gj_pR19 {a0 a1 a2 a3 a4 a5 a6 a7 a8 a9 a10 a11 a12 a13 a14 a15 a16 a17 a18 a19 : AV} {r : List AV} {L : List (Option AV)} {j ci k z : Nat} {C : String} (dg : AtI y pc (.putfield j) 3 nx) (hf : LF y.1.cls j ci 19 true (.object C)) (hini : y.1.name = "<init>") (hown : ∃ T N, vwCl[ci]? = some (y.1.cls, T, N)) (hw : w k = cO ci (a0 :: a1 :: a2 :: a3 :: a4 :: a5 :: a6 :: a7 :: a8 :: a9 :: a10 :: a11 :: a12 :: a13 :: a14 :: a15 :: a16 :: a17 :: a18 :: a19 :: r)) (hk : Nat.blt k n = true) (kk : Gj l x y d mc ms nf Q kc ks n (upw w k (cO ci (a0 :: a1 :: a2 :: a3 :: a4 :: a5 :: a6 :: a7 :: a8 :: a9 :: a10 :: a11 :: a12 :: a13 :: a14 :: a15 :: a16 :: a17 :: a18 :: vR z :: r))) nx L S) : Gj l x y d mc ms nf Q kc ks n w pc L (vR z :: vR k :: S) := gj_putF nar_R dg hf hini hown hw hk (show 19 < (a0 :: a1 :: a2 :: a3 :: a4 :: a5 :: a6 :: a7 :: a8 :: a9 :: a10 :: a11 :: a12 :: a13 :: a14 :: a15 :: a16 :: a17 :: a18 :: a19 :: r).length by simp only [List.length_cons]; omega) kk
theorem gj_pA19 {a0 a1 a2 a3 a4 a5 a6 a7 a8 a9 a10 a11 a12 a13 a14 a15 a16 a17 a18 a19 : AV} {r : List AV} {L : List (Option AV)} {j ci k z : Nat} {e : FieldType} (dg : AtI y pc (.putfield j) 3 nx) (hf : LF y.1.cls j ci 19 true (.array e)) (hini : y.1.name = "<init>") (hown : ∃ T N, vwCl[ci]? = some (y.1.cls, T, N)) (hw : w k = cO ci (a0 :: a1 :: a2 :: a3 :: a4 :: a5 :: a6 :: a7 :: a8 :: a9 :: a10 :: a11 :: a12 :: a13 :: a14 :: a15 :: a16 :: a17 :: a18 :: a19 :: r)) (hk : Nat.blt k n = true) (kk : Gj l x y d mc ms nf Q kc ks n (upw w k (cO ci (a0 :: a1 :: a2 :: a3 :: a4 :: a5 :: a6 :: a7 :: a8 :: a9 :: a10 :: a11 :: a12 :: a13 :: a14 :: a15 :: a16 :: a17 :: a18 :: vR z :: r))) nx L S) : Gj l x y d mc ms nf Q kc ks n w pc L (vR z :: vR k :: S) := gj_putF nar_A dg hf hini hown hw hk (show 19 < (a0 :: a1 :: a2 :: a3 :: a4 :: a5 :: a6 :: a7 :: a8 :: a9 :: a10 :: a11 :: a12 :: a13 :: a14 :: a15 :: a16 :: a17 :: a18 :: a19 :: r).length by simp only [List.length_cons]; omega) kk
theorem gj_pI20 {a0 a1 a2 a3 a4 a5 a6 a7 a8 a9 a10 a11 a12 a13 a14 a15 a16 a17 a18 a19 a20 : AV} {r : List AV} {L : List (Option AV)} {j ci k : Nat} {z : Int} (dg : AtI y pc (.putfield j) 3 nx) (hf : LF y.1.cls j ci 20 false .int) (hw : w k = cO ci (a0 :: a1 :: a2 :: a3 :: a4 :: a5 :: a6 :: a7 :: a8 :: a9 :: a10 :: a11 :: a12 :: a13 :: a14 :: a15 :: a16 :: a17 :: a18 :: a19 :: a20 :: r)) (hk : Nat.blt k n = true) (kk : Gj l x y d mc ms nf Q kc ks n (upw w k (cO ci (a0 :: a1 :: a2 :: a3 :: a4 :: a5 :: a6 :: a7 :: a8 :: a9 :: a10 :: a11 :: a12 :: a13 :: a14 :: a15 :: a16 :: a17 :: a18 :: a19 :: vI z :: r))) nx L S) : Gj l x y d mc ms nf Q kc ks n w pc L (vI z :: vR k :: S) := gj_put nar_I dg hf hw hk (show 20 < (a0 :: a1 :: a2 :: a3 :: a4 :: a5 :: a6 :: a7 :: a8 :: a9 :: a10 :: a11 :: a12 :: a13 :: a14 :: a15 :: a16 :: a17 :: a18 :: a19 :: a20 :: r).length by simp only [List.length_cons]; omega) kk
theorem gj_pR20 {a0 a1 a2 a3 a4 a5 a6 a7 a8 a9 a10 a11 a12 a13 a14 a15 a16 a17 a18 a19 a20 : AV} {r : List AV} {L : List (Option AV)} {j ci k z : Nat} {C : String} (dg : AtI y pc (.putfield j) 3 nx) (hf : LF y.1.cls j ci 20 true (.object C)) (hini : y.1.name = "<init>") (hown : ∃ T N, vwCl[ci]? = some (y.1.cls, T, N)) (hw : w k = cO ci (a0 :: a1 :: a2 :: a3 :: a4 :: a5 :: a6 :: a7 :: a8 :: a9 :: a10 :: a11 :: a12 :: a13 :: a14 :: a15 :: a16 :: a17 :: a18 :: a19 :: a20 :: r)) (hk : Nat.blt k n = true) (kk : Gj l x y d mc ms nf Q kc ks n (upw w k (cO ci (a0 :: a1 :: a2 :: a3 :: a4 :: a5 :: a6 :: a7 :: a8 :: a9 :: a10 :: a11 :: a12 :: a13 :: a14 :: a15 :: a16 :: a17 :: a18 :: a19 :: vR z :: r))) nx L S) : Gj l x y d mc ms nf Q kc ks n w pc L (vR z :: vR k :: S) := gj_putF nar_R dg hf hini hown hw hk (show 20 < (a0 :: a1 :: a2 :: a3 :: a4 :: a5 :: a6 :: a7 :: a8 :: a9 :: a10 :: a11 :: a12 :: a13 :: a14 :: a15 :: a16 :: a17 :: a18 :: a19 :: a20 :: r).length by simp only [List.length_cons]; omega) kk
theorem gj_pA20 {a0 a1 a2 a3 a4 a5 a6 a7 a8 a9 a10 a11 a12 a13 a14 a15 a16 a17 a18 a19 a20 : AV} {r : List AV} {L : List (Option AV)} {j ci k z : Nat} {e : FieldType} (dg : AtI y pc (.putfield j) 3 nx) (hf : LF y.1.cls j ci 20 true (.array e)) (hini : y.1.name = "<init>") (hown : ∃ T N, vwCl[ci]? = some (y.1.cls, T, N)) (hw : w k = cO ci (a0 :: a1 :: a2 :: a3 :: a4 :: a5 :: a6 :: a7 :: a8 :: a9 :: a10 :: a11 :: a12 :: a13 :: a14 :: a15 :: a16 :: a17 :: a18 :: a19 :: a20 :: r)) (hk : Nat.blt k n = true) (kk : Gj l x y d mc ms nf Q kc ks n (upw w k (cO ci (a0 :: a1 :: a2 :: a3 :: a4 :: a5 :: a6 :: a7 :: a8 :: a9 :: a10 :: a11 :: a12 :: a13 :: a14 :: a15 :: a16 :: a17 :: a18 :: a19 :: vR z :: r))) nx L S) : Gj l x y d mc ms nf Q kc ks n w pc L (vR z :: vR k :: S) := gj_putF nar_A dg hf hini hown hw hk (show 20 < (a0 :: a1 :: a2 :: a3 :: a4 :: a5 :: a6 :: a7 :: a8 :: a9 :: a10 :: a11 :: a12 :: a13 :: a14 :: a15 :: a16 :: a17 :: a18 :: a19 :: a20 :: r).length by simp only [List.length_cons]; omega) kk
theorem gj_pI21 {a0 a1 a2 a3 a4 a5 a6 a7 a8 a9 a10 a11 a12 a13 a14 a15 a16 a17 a18 a19 a20 a21 : AV} {r : List AV} {L : List (Option AV)} {j ci k : Nat} {z : Int} (dg : AtI y pc (.putfield j) 3 nx) (hf : LF y.1.cls j ci 21 false .int) (hw : w k = cO ci (a0 :: a1 :: a2 :: a3 :: a4 :: a5 :: a6 :: a7 :: a8 :: a9 :: a10 :: a11 :: a12 :: a13 :: a14 :: a15 :: a16 :: a17 :: a18 :: a19 :: a20 :: a21 :: r)) (hk : Nat.blt k n = true) (kk : Gj l x y d mc ms nf Q kc ks n (upw w k (cO ci (a0 :: a1 :: a2 :: a3 :: a4 :: a5 :: a6 :: a7 :: a8 :: a9 :: a10 :: a11 :: a12 :: a13 :: a14 :: a15 :: a16 :: a17 :: a18 :: a19 :: a20 :: vI z :: r))) nx L S) : Gj l x y d mc ms nf Q kc ks n w pc L (vI z :: vR k :: S) := gj_put nar_I dg hf hw hk (show 21 < (a0 :: a1 :: a2 :: a3 :: a4 :: a5 :: a6 :: a7 :: a8 :: a9 :: a10 :: a11 :: a12 :: a13 :: a14 :: a15 :: a16 :: a17 :: a18 :: a19 :: a20 :: a21 :: r).length by simp only [List.length_cons]; omega) kk
theorem gj_pR21 {a0 a1 a2 a3 a4 a5 a6 a7 a8 a9 a10 a11 a12 a13 a14 a15 a16 a17 a18 a19 a20 a21 : AV} {r : List AV} {L : List (Option AV)} {j ci k z : Nat} {C : String} (dg : AtI y pc (.putfield j) 3 nx) (hf : LF y.1.cls j ci 21 true (.object C)) (hini : y.1.name = "<init>") (hown : ∃ T N, vwCl[ci]? = some (y.1.cls, T, N)) (hw : w k = cO ci (a0 :: a1 :: a2 :: a3 :: a4 :: a5 :: a6 :: a7 :: a8 :: a9 :: a10 :: a11 :: a12 :: a13 :: a14 :: a15 :: a16 :: a17 :: a18 :: a19 :: a20 :: a21 :: r)) (hk : Nat.blt k n = true) (kk : Gj l x y d mc ms nf Q kc ks n (upw w k (cO ci (a0 :: a1 :: a2 :: a3 :: a4 :: a5 :: a6 :: a7 :: a8 :: a9 :: a10 :: a11 :: a12 :: a13 :: a14 :: a15 :: a16 :: a17 :: a18 :: a19 :: a20 :: vR z :: r))) nx L S) : Gj l x y d mc ms nf Q kc ks n w pc L (vR z :: vR k :: S) := gj_putF nar_R dg hf hini hown hw hk (show 21 < (a0 :: a1 :: a2 :: a3 :: a4 :: a5 :: a6 :: a7 :: a8 :: a9 :: a10 :: a11 :: a12 :: a13 :: a14 :: a15 :: a16 :: a17 :: a18 :: a19 :: a20 :: a21 :: r).length by simp only [List.length_cons]; omega) kk
theorem gj_pA21 {a0 a1 a2 a3 a4 a5 a6 a7 a8 a9 a10 a11 a12 a13 a14 a15 a16 a17 a18 a19 a20 a21 : AV} {r : List AV} {L : List (Option AV)} {j ci k z : Nat} {e : FieldType} (dg : AtI y pc (.putfield j) 3 nx) (hf : LF y.1.cls j ci 21 true (.array e)) (hini : y.1.name = "<init>") (hown : ∃ T N, vwCl[ci]? = some (y.1.cls, T, N)) (hw : w k = cO ci (a0 :: a1 :: a2 :: a3 :: a4 :: a5 :: a6 :: a7 :: a8 :: a9 :: a10 :: a11 :: a12 :: a13 :: a14 :: a15 :: a16 :: a17 :: a18 :: a19 :: a20 :: a21 :: r)) (hk : Nat.blt k n = true) (kk : Gj l x y d mc ms nf Q kc ks n (upw w k (cO ci (a0 :: a1 :: a2 :: a3 :: a4 :: a5 :: a6 :: a7 :: a8 :: a9 :: a10 :: a11 :: a12 :: a13 :: a14 :: a15 :: a16 :: a17 :: a18 :: a19 :: a20 :: vR z :: r))) nx L S) : Gj l x y d mc ms nf Q kc ks n w pc L (vR z :: vR k :: S) := gj_putF nar_A dg hf hini hown hw hk (show 21 < (a0 :: a1 :: a2 :: a3 :: a4 :: a5 :: a6 :: a7 :: a8 :: a9 :: a10 :: a11 :: a12 :: a13 :: a14 :: a15 :: a16 :: a17 :: a18 :: a19 :: a20 :: a21 :: r).length by simp only [List.length_cons]; omega) kk
theorem gj_pI22 {a0 a1 a2 a3 a4 a5 a6 a7 a8 a9 a10 a11 a12 a13 a14 a15 a16 a17 a18 a19 a20 a21 a22 : AV} {r : List AV} {L : List (Option AV)} {j ci k : Nat} {z : Int} (dg : AtI y pc (.putfield j) 3 nx) (hf : LF y.1.cls j ci 22 false .int) (hw : w k = cO ci (a0 :: a1 :: a2 :: a3 :: a4 :: a5 :: a6 :: a7 :: a8 :: a9 :: a10 :: a11 :: a12 :: a13 :: a14 :: a15 :: a16 :: a17 :: a18 :: a19 :: a20 :: a21 :: a22 :: r)) (hk : Nat.blt k n = true) (kk : Gj l x y d mc ms nf Q kc ks n (upw w k (cO ci (a0 :: a1 :: a2 :: a3 :: a4 :: a5 :: a6 :: a7 :: a8 :: a9 :: a10 :: a11 :: a12 :: a13 :: a14 :: a15 :: a16 :: a17 :: a18 :: a19 :: a20 :: a21 :: vI z :: r))) nx L S) : Gj l x y d mc ms nf Q kc ks n w pc L (vI z :: vR k :: S) := gj_put nar_I dg hf hw hk (show 22 < (a0 :: a1 :: a2 :: a3 :: a4 :: a5 :: a6 :: a7 :: a8 :: a9 :: a10 :: a11 :: a12 :: a13 :: a14 :: a15 :: a16 :: a17 :: a18 :: a19 :: a20 :: a21 :: a22 :: r).length by simp only [List.length_cons]; omega) kk
theorem gj_pR22 {a0 a1 a2 a3 a4 a5 a6 a7 a8 a9 a10 a11 a12 a13 a14 a15 a16 a17 a18 a19 a20 a21 a22 : AV} {r : List AV} {L : List (Option AV)} {j ci k z : Nat} {C : String} (dg : AtI y pc (.putfield j) 3 nx) (hf : LF y.1.cls j ci 22 true (.object C)) (hini : y.1.name = "<init>") (hown : ∃ T N, vwCl[ci]? = some (y.1.cls, T, N)) (hw : w k = cO ci (a0 :: a1 :: a2 :: a3 :: a4 :: a5 :: a6 :: a7 :: a8 :: a9 :: a10 :: a11 :: a12 :: a13 :: a14 :: a15 :: a16 :: a17 :: a18 :: a19 :: a20 :: a21 :: a22 :: r)) (hk : Nat.blt k n = true) (kk : Gj l x y d mc ms nf Q kc ks n (upw w k (cO ci (a0 :: a1 :: a2 :: a3 :: a4 :: a5 :: a6 :: a7 :: a8 :: a9 :: a10 :: a11 :: a12 :: a13 :: a14 :: a15 :: a16 :: a17 :: a18 :: a19 :: a20 :: a21 :: vR z :: r))) nx L S) : Gj l x y d mc ms nf Q kc ks n w pc L (vR z :: vR k :: S) := gj_putF nar_R dg hf hini hown hw hk (show 22 < (a0 :: a1 :: a2 :: a3 :: a4 :: a5 :: a6 :: a7 :: a8 :: a9 :: a10 :: a11 :: a12 :: a13 :: a14 :: a15 :: a16 :: a17 :: a18 :: a19 :: a20 :: a21 :: a22 :: r).length by simp only [List.length_cons]; omega) kk
theorem gj_pA22 {a0 a1 a2 a3 a4 a5 a6 a7 a8 a9 a10 a11 a12 a13 a14 a15 a16 a17 a18 a19 a20 a21 a22 : AV} {r : List AV} {L : List (Option AV)} {j ci k z : Nat} {e : FieldType} (dg : AtI y pc (.putfield j) 3 nx) (hf : LF y.1.cls j ci 22 true (.array e)) (hini : y.1.name = "<init>") (hown : ∃ T N, vwCl[ci]? = some (y.1.cls, T, N)) (hw : w k = cO ci (a0 :: a1 :: a2 :: a3 :: a4 :: a5 :: a6 :: a7 :: a8 :: a9 :: a10 :: a11 :: a12 :: a13 :: a14 :: a15 :: a16 :: a17 :: a18 :: a19 :: a20 :: a21 :: a22 :: r)) (hk : Nat.blt k n = true) (kk : Gj l x y d mc ms nf Q kc ks n (upw w k (cO ci (a0 :: a1 :: a2 :: a3 :: a4 :: a5 :: a6 :: a7 :: a8 :: a9 :: a10 :: a11 :: a12 :: a13 :: a14 :: a15 :: a16 :: a17 :: a18 :: a19 :: a20 :: a21 :: vR z :: r))) nx L S) : Gj l x y d mc ms nf Q kc ks n w pc L (vR z :: vR k :: S) := gj_putF nar_A dg hf hini hown hw hk (show 22 < (a0 :: a1 :: a2 :: a3 :: a4 :: a5 :: a6 :: a7 :: a8 :: a9 :: a10 :: a11 :: a12 :: a13 :: a14 :: a15 :: a16 :: a17 :: a18 :: a19 :: a20 :: a21 :: a22 :: r).length by simp only [List.length_cons]; omega) kk
theorem gj_pI23 {a0 a1 a2 a3 a4 a5 a6 a7 a8 a9 a10 a11 a12 a13 a14 a15 a16 a17 a18 a19 a20 a21 a22 a23 : AV} {r : List AV} {L : List (Option AV)} {j ci k : Nat} {z : Int} (dg : AtI y pc (.putfield j) 3 nx) (hf : LF y.1.cls j ci 23 false .int) (hw : w k = cO ci (a0 :: a1 :: a2 :: a3 :: a4 :: a5 :: a6 :: a7 :: a8 :: a9 :: a10 :: a11 :: a12 :: a13 :: a14 :: a15 :: a16 :: a17 :: a18 :: a19 :: a20 :: a21 :: a22 :: a23 :: r)) (hk : Nat.blt k n = true) (kk : Gj l x y d mc ms nf Q kc ks n (upw w k (cO ci (a0 :: a1 :: a2 :: a3 :: a4 :: a5 :: a6 :: a7 :: a8 :: a9 :: a10 :: a11 :: a12 :: a13 :: a14 :: a15 :: a16 :: a17 :: a18 :: a19 :: a20 :: a21 :: a22 :: vI z :: r))) nx L S) : Gj l x y d mc ms nf Q kc ks n w pc L (vI z :: vR k :: S) := gj_put nar_I dg hf hw hk (show 23 < (a0 :: a1 :: a2 :: a3 :: a4 :: a5 :: a6 :: a7 :: a8 :: a9 :: a10 :: a11 :: a12 :: a13 :: a14 :: a15 :: a16 :: a17 :: a18 :: a19 :: a20 :: a21 :: a22 :: a23 :: r).length by simp only [List.length_cons]; omega) kk
theorem gj_pR23 {a0 a1 a2 a3 a4 a5 a6 a7 a8 a9 a10 a11 a12 a13 a14 a15 a16 a17 a18 a19 a20 a21 a22 a23 : AV} {r : List AV} {L : List (Option AV)} {j ci k z : Nat} {C : String} (dg : AtI y pc (.putfield j) 3 nx) (hf : LF y.1.cls j ci 23 true (.object C)) (hini : y.1.name = "<init>") (hown : ∃ T N, vwCl[ci]? = some (y.1.cls, T, N)) (hw : w k = cO ci (a0 :: a1 :: a2 :: a3 :: a4 :: a5 :: a6 :: a7 :: a8 :: a9 :: a10 :: a11 :: a12 :: a13 :: a14 :: a15 :: a16 :: a17 :: a18 :: a19 :: a20 :: a21 :: a22 :: a23 :: r)) (hk : Nat.blt k n = true) (kk : Gj l x y d mc ms nf Q kc ks n (upw w k (cO ci (a0 :: a1 :: a2 :: a3 :: a4 :: a5 :: a6 :: a7 :: a8 :: a9 :: a10 :: a11 :: a12 :: a13 :: a14 :: a15 :: a16 :: a17 :: a18 :: a19 :: a20 :: a21 :: a22 :: vR z :: r))) nx L S) : Gj l x y d mc ms nf Q kc ks n w pc L (vR z :: vR k :: S) := gj_putF nar_R dg hf hini hown hw hk (show 23 < (a0 :: a1 :: a2 :: a3 :: a4 :: a5 :: a6 :: a7 :: a8 :: a9 :: a10 :: a11 :: a12 :: a13 :: a14 :: a15 :: a16 :: a17 :: a18 :: a19 :: a20 :: a21 :: a22 :: a23 :: r).length by simp only [List.length_cons]; omega) kk
theorem gj_pA23 {a0 a1 a2 a3 a4 a5 a6 a7 a8 a9 a10 a11 a12 a13 a14 a15 a16 a17 a18 a19 a20 a21 a22 a23 : AV} {r : List AV} {L : List (Option AV)} {j ci k z : Nat} {e : FieldType} (dg : AtI y pc (.putfield j) 3 nx) (hf : LF y.1.cls j ci 23 true (.array e)) (hini : y.1.name = "<init>") (hown : ∃ T N, vwCl[ci]? = some (y.1.cls, T, N)) (hw : w k = cO ci (a0 :: a1 :: a2 :: a3 :: a4 :: a5 :: a6 :: a7 :: a8 :: a9 :: a10 :: a11 :: a12 :: a13 :: a14 :: a15 :: a16 :: a17 :: a18 :: a19 :: a20 :: a21 :: a22 :: a23 :: r)) (hk : Nat.blt k n = true) (kk : Gj l x y d mc ms nf Q kc ks n (upw w k (cO ci (a0 :: a1 :: a2 :: a3 :: a4 :: a5 :: a6 :: a7 :: a8 :: a9 :: a10 :: a11 :: a12 :: a13 :: a14 :: a15 :: a16 :: a17 :: a18 :: a19 :: a20 :: a21 :: a22 :: vR z :: r))) nx L S) : Gj l x y d mc ms nf Q kc ks n w pc L (vR z :: vR k :: S) := gj_putF nar_A dg hf hini hown hw hk (show 23 < (a0 :: a1 :: a2 :: a3 :: a4 :: a5 :: a6 :: a7 :: a8 :: a9 :: a10 :: a11 :: a12 :: a13 :: a14 :: a15 :: a16 :: a17 :: a18 :: a19 :: a20 :: a21 :: a22 :: a23 :: r).length by simp only [List.length_cons]; omega) kk
theorem gj_pI24 {a0 a1 a2 a3 a4 a5 a6 a7 a8 a9 a10 a11 a12 a13 a14 a15 a16 a17 a18 a19 a20 a21 a22 a23 a24 : AV} {r : List AV} {L : List (Option AV)} {j ci k : Nat} {z : Int} (dg : AtI y pc (.putfield j) 3 nx) (hf : LF y.1.cls j ci 24 false .int) (hw : w k = cO ci (a0 :: a1 :: a2 :: a3 :: a4 :: a5 :: a6 :: a7 :: a8 :: a9 :: a10 :: a11 :: a12 :: a13 :: a14 :: a15 :: a16 :: a17 :: a18 :: a19 :: a20 :: a21 :: a22 :: a23 :: a24 :: r)) (hk : Nat.blt k n = true) (kk : Gj l x y d mc ms nf Q kc ks n (upw w k (cO ci (a0 :: a1 :: a2 :: a3 :: a4 :: a5 :: a6 :: a7 :: a8 :: a9 :: a10 :: a11 :: a12 :: a13 :: a14 :: a15 :: a16 :: a17 :: a18 :: a19 :: a20 :: a21 :: a22 :: a23 :: vI z :: r))) nx L S) : Gj l x y d mc ms nf Q kc ks n w pc L (vI z :: vR k :: S) := gj_put nar_I dg hf hw hk (show 24 < (a0 :: a1 :: a2 :: a3 :: a4 :: a5 :: a6 :: a7 :: a8 :: a9 :: a10 :: a11 :: a12 :: a13 :: a14 :: a15 :: a16 :: a17 :: a18 :: a19 :: a20 :: a21 :: a22 :: a23 :: a24 :: r).length by simp only [List.length_cons]; omega) kk
theorem gj_pR24 {a0 a1 a2 a3 a4 a5 a6 a7 a8 a9 a10 a11 a12 a13 a14 a15 a16 a17 a18 a19 a20 a21 a22 a23 a24 : AV} {r : List AV} {L : List (Option AV)} {j ci k z : Nat} {C : String} (dg : AtI y pc (.putfield j) 3 nx) (hf : LF y.1.cls j ci 24 true (.object C)) (hini : y.1.name = "<init>") (hown : ∃ T N, vwCl[ci]? = some (y.1.cls, T, N)) (hw : w k = cO ci (a0 :: a1 :: a2 :: a3 :: a4 :: a5 :: a6 :: a7 :: a8 :: a9 :: a10 :: a11 :: a12 :: a13 :: a14 :: a15 :: a16 :: a17 :: a18 :: a19 :: a20 :: a21 :: a22 :: a23 :: a24 :: r)) (hk : Nat.blt k n = true) (kk : Gj l x y d mc ms nf Q kc ks n (upw w k (cO ci (a0 :: a1 :: a2 :: a3 :: a4 :: a5 :: a6 :: a7 :: a8 :: a9 :: a10 :: a11 :: a12 :: a13 :: a14 :: a15 :: a16 :: a17 :: a18 :: a19 :: a20 :: a21 :: a22 :: a23 :: vR z :: r))) nx L S) : Gj l x y d mc ms nf Q kc ks n w pc L (vR z :: vR k :: S) := gj_putF nar_R dg hf hini hown hw hk (show 24 < (a0 :: a1 :: a2 :: a3 :: a4 :: a5 :: a6 :: a7 :: a8 :: a9 :: a10 :: a11 :: a12 :: a13 :: a14 :: a15 :: a16 :: a17 :: a18 :: a19 :: a20 :: a21 :: a22 :: a23 :: a24 :: r).length by simp only [List.length_cons]; omega) kk
theorem gj_pA24 {a0 a1 a2 a3 a4 a5 a6 a7 a8 a9 a10 a11 a12 a13 a14 a15 a16 a17 a18 a19 a20 a21 a22 a23 a24 : AV} {r : List AV} {L : List (Option AV)} {j ci k z : Nat} {e : FieldType} (dg : AtI y pc (.putfield j) 3 nx) (hf : LF y.1.cls j ci 24 true (.array e)) (hini : y.1.name = "<init>") (hown : ∃ T N, vwCl[ci]? = some (y.1.cls, T, N)) (hw : w k = cO ci (a0 :: a1 :: a2 :: a3 :: a4 :: a5 :: a6 :: a7 :: a8 :: a9 :: a10 :: a11 :: a12 :: a13 :: a14 :: a15 :: a16 :: a17 :: a18 :: a19 :: a20 :: a21 :: a22 :: a23 :: a24 :: r)) (hk : Nat.blt k n = true) (kk : Gj l x y d mc ms nf Q kc ks n (upw w k (cO ci (a0 :: a1 :: a2 :: a3 :: a4 :: a5 :: a6 :: a7 :: a8 :: a9 :: a10 :: a11 :: a12 :: a13 :: a14 :: a15 :: a16 :: a17 :: a18 :: a19 :: a20 :: a21 :: a22 :: a23 :: vR z :: r))) nx L S) : Gj l x y d mc ms nf Q kc ks n w pc L (vR z :: vR k :: S) := gj_putF nar_A dg hf hini hown hw hk (show 24 < (a0 :: a1 :: a2 :: a3 :: a4 :: a5 :: a6 :: a7 :: a8 :: a9 :: a10 :: a11 :: a12 :: a13 :: a14 :: a15 :: a16 :: a17 :: a18 :: a19 :: a20 :: a21 :: a22 :: a23 :: a24 :: r).length by simp only [List.length_cons]; omega) kk
theorem gj_pI25 {a0 a1 a2 a3 a4 a5 a6 a7 a8 a9 a10 a11 a12 a13 a14 a15 a16 a17 a18 a19 a20 a21 a22 a23 a24 a25 : AV} {r : List AV} {L : List (Option AV)} {j ci k : Nat} {z : Int} (dg : AtI y pc (.putfield j) 3 nx) (hf : LF y.1.cls j ci 25 false .int) (hw : w k = cO ci (a0 :: a1 :: a2 :: a3 :: a4 :: a5 :: a6 :: a7 :: a8 :: a9 :: a10 :: a11 :: a12 :: a13 :: a14 :: a15 :: a16 :: a17 :: a18 :: a19 :: a20 :: a21 :: a22 :: a23 :: a24 :: a25 :: r)) (hk : Nat.blt k n = true) (kk : Gj l x y d mc ms nf Q kc ks n (upw w k (cO ci (a0 :: a1 :: a2 :: a3 :: a4 :: a5 :: a6 :: a7 :: a8 :: a9 :: a10 :: a11 :: a12 :: a13 :: a14 :: a15 :: a16 :: a17 :: a18 :: a19 :: a20 :: a21 :: a22 :: a23 :: a24 :: vI z :: r))) nx L S) : Gj l x y d mc ms nf Q kc ks n w pc L (vI z :: vR k :: S) := gj_put nar_I dg hf hw hk (show 25 < (a0 :: a1 :: a2 :: a3 :: a4 :: a5 :: a6 :: a7 :: a8 :: a9 :: a10 :: a11 :: a12 :: a13 :: a14 :: a15 :: a16 :: a17 :: a18 :: a19 :: a20 :: a21 :: a22 :: a23 :: a24 :: a25 :: r).length by simp only [List.length_cons]; omega) kk
theorem gj_pR25 {a0 a1 a2 a3 a4 a5 a6 a7 a8 a9 a10 a11 a12 a13 a14 a15 a16 a17 a18 a19 a20 a21 a22 a23 a24 a25 : AV} {r : List AV} {L : List (Option AV)} {j ci k z : Nat} {C : String} (dg : AtI y pc (.putfield j) 3 nx) (hf : LF y.1.cls j ci 25 true (.object C)) (hini : y.1.name = "<init>") (hown : ∃ T N, vwCl[ci]? = some (y.1.cls, T, N)) (hw : w k = cO ci (a0 :: a1 :: a2 :: a3 :: a4 :: a5 :: a6 :: a7 :: a8 :: a9 :: a10 :: a11 :: a12 :: a13 :: a14 :: a15 :: a16 :: a17 :: a18 :: a19 :: a20 :: a21 :: a22 :: a23 :: a24 :: a25 :: r)) (hk : Nat.blt k n = true) (kk : Gj l x y d mc ms nf Q kc ks n (upw w k (cO ci (a0 :: a1 :: a2 :: a3 :: a4 :: a5 :: a6 :: a7 :: a8 :: a9 :: a10 :: a11 :: a12 :: a13 :: a14 :: a15 :: a16 :: a17 :: a18 :: a19 :: a20 :: a21 :: a22 :: a23 :: a24 :: vR z :: r))) nx L S) : Gj l x y d mc ms nf Q kc ks n w pc L (vR z :: vR k :: S) := gj_putF nar_R dg hf hini hown hw hk (show 25 < (a0 :: a1 :: a2 :: a3 :: a4 :: a5 :: a6 :: a7 :: a8 :: a9 :: a10 :: a11 :: a12 :: a13 :: a14 :: a15 :: a16 :: a17 :: a18 :: a19 :: a20 :: a21 :: a22 :: a23 :: a24 :: a25 :: r).length by simp only [List.length_cons]; omega) kk
theorem gj_pA25 {a0 a1 a2 a3 a4 a5 a6 a7 a8 a9 a10 a11 a12 a13 a14 a15 a16 a17 a18 a19 a20 a21 a22 a23 a24 a25 : AV} {r : List AV} {L : List (Option AV)} {j ci k z : Nat} {e : FieldType} (dg : AtI y pc (.putfield j) 3 nx) (hf : LF y.1.cls j ci 25 true (.array e)) (hini : y.1.name = "<init>") (hown : ∃ T N, vwCl[ci]? = some (y.1.cls, T, N)) (hw : w k = cO ci (a0 :: a1 :: a2 :: a3 :: a4 :: a5 :: a6 :: a7 :: a8 :: a9 :: a10 :: a11 :: a12 :: a13 :: a14 :: a15 :: a16 :: a17 :: a18 :: a19 :: a20 :: a21 :: a22 :: a23 :: a24 :: a25 :: r)) (hk : Nat.blt k n = true) (kk : Gj l x y d mc ms nf Q kc ks n (upw w k (cO ci (a0 :: a1 :: a2 :: a3 :: a4 :: a5 :: a6 :: a7 :: a8 :: a9 :: a10 :: a11 :: a12 :: a13 :: a14 :: a15 :: a16 :: a17 :: a18 :: a19 :: a20 :: a21 :: a22 :: a23 :: a24 :: vR z :: r))) nx L S) : Gj l x y d mc ms nf Q kc ks n w pc L (vR z :: vR k :: S) := gj_putF nar_A dg hf hini hown hw hk (show 25 < (a0 :: a1 :: a2 :: a3 :: a4 :: a5 :: a6 :: a7 :: a8 :: a9 :: a10 :: a11 :: a12 :: a13 :: a14 :: a15 :: a16 :: a17 :: a18 :: a19 :: a20 :: a21 :: a22 :: a23 :: a24 :: a25 :: r).length by simp only [List.length_cons]; omega) kk
theorem gj_pI26 {a0 a1 a2 a3 a4 a5 a6 a7 a8 a9 a10 a11 a12 a13 a14 a15 a16 a17 a18 a19 a20 a21 a22 a23 a24 a25 a26 : AV} {r : List AV} {L : List (Option AV)} {j ci k : Nat} {z : Int} (dg : AtI y pc (.putfield j) 3 nx) (hf : LF y.1.cls j ci 26 false .int) (hw : w k = cO ci (a0 :: a1 :: a2 :: a3 :: a4 :: a5 :: a6 :: a7 :: a8 :: a9 :: a10 :: a11 :: a12 :: a13 :: a14 :: a15 :: a16 :: a17 :: a18 :: a19 :: a20 :: a21 :: a22 :: a23 :: a24 :: a25 :: a26 :: r)) (hk : Nat.blt k n = true) (kk : Gj l x y d mc ms nf Q kc ks n (upw w k (cO ci (a0 :: a1 :: a2 :: a3 :: a4 :: a5 :: a6 :: a7 :: a8 :: a9 :: a10 :: a11 :: a12 :: a13 :: a14 :: a15 :: a16 :: a17 :: a18 :: a19 :: a20 :: a21 :: a22 :: a23 :: a24 :: a25 :: vI z :: r))) nx L S) : Gj l x y d mc ms nf Q kc ks n w pc L (vI z :: vR k :: S) := gj_put nar_I dg hf hw hk (show 26 < (a0 :: a1 :: a2 :: a3 :: a4 :: a5 :: a6 :: a7 :: a8 :: a9 :: a10 :: a11 :: a12 :: a13 :: a14 :: a15 :: a16 :: a17 :: a18 :: a19 :: a20 :: a21 :: a22 :: a23 :: a24 :: a25 :: a26 :: r).length by simp only [List.length_cons]; omega) kk
theorem gj_pR26 {a0 a1 a2 a3 a4 a5 a6 a7 a8 a9 a10 a11 a12 a13 a14 a15 a16 a17 a18 a19 a20 a21 a22 a23 a24 a25 a26 : AV} {r : List AV} {L : List (Option AV)} {j ci k z : Nat} {C : String} (dg : AtI y pc (.putfield j) 3 nx) (hf : LF y.1.cls j ci 26 true (.object C)) (hini : y.1.name = "<init>") (hown : ∃ T N, vwCl[ci]? = some (y.1.cls, T, N)) (hw : w k = cO ci (a0 :: a1 :: a2 :: a3 :: a4 :: a5 :: a6 :: a7 :: a8 :: a9 :: a10 :: a11 :: a12 :: a13 :: a14 :: a15 :: a16 :: a17 :: a18 :: a19 :: a20 :: a21 :: a22 :: a23 :: a24 :: a25 :: a26 :: r)) (hk : Nat.blt k n = true) (kk : Gj l x y d mc ms nf Q kc ks n (upw w k (cO ci (a0 :: a1 :: a2 :: a3 :: a4 :: a5 :: a6 :: a7 :: a8 :: a9 :: a10 :: a11 :: a12 :: a13 :: a14 :: a15 :: a16 :: a17 :: a18 :: a19 :: a20 :: a21 :: a22 :: a23 :: a24 :: a25 :: vR z :: r))) nx L S) : Gj l x y d mc ms nf Q kc ks n w pc L (vR z :: vR k :: S) := gj_putF nar_R dg hf hini hown hw hk (show 26 < (a0 :: a1 :: a2 :: a3 :: a4 :: a5 :: a6 :: a7 :: a8 :: a9 :: a10 :: a11 :: a12 :: a13 :: a14 :: a15 :: a16 :: a17 :: a18 :: a19 :: a20 :: a21 :: a22 :: a23 :: a24 :: a25 :: a26 :: r).length by simp only [List.length_cons]; omega) kk
theorem gj_pA26 {a0 a1 a2 a3 a4 a5 a6 a7 a8 a9 a10 a11 a12 a13 a14 a15 a16 a17 a18 a19 a20 a21 a22 a23 a24 a25 a26 : AV} {r : List AV} {L : List (Option AV)} {j ci k z : Nat} {e : FieldType} (dg : AtI y pc (.putfield j) 3 nx) (hf : LF y.1.cls j ci 26 true (.array e)) (hini : y.1.name = "<init>") (hown : ∃ T N, vwCl[ci]? = some (y.1.cls, T, N)) (hw : w k = cO ci (a0 :: a1 :: a2 :: a3 :: a4 :: a5 :: a6 :: a7 :: a8 :: a9 :: a10 :: a11 :: a12 :: a13 :: a14 :: a15 :: a16 :: a17 :: a18 :: a19 :: a20 :: a21 :: a22 :: a23 :: a24 :: a25 :: a26 :: r)) (hk : Nat.blt k n = true) (kk : Gj l x y d mc ms nf Q kc ks n (upw w k (cO ci (a0 :: a1 :: a2 :: a3 :: a4 :: a5 :: a6 :: a7 :: a8 :: a9 :: a10 :: a11 :: a12 :: a13 :: a14 :: a15 :: a16 :: a17 :: a18 :: a19 :: a20 :: a21 :: a22 :: a23 :: a24 :: a25 :: vR z :: r))) nx L S) : Gj l x y d mc ms nf Q kc ks n w pc L (vR z :: vR k :: S) := gj_putF nar_A dg hf hini hown hw hk (show 26 < (a0 :: a1 :: a2 :: a3 :: a4 :: a5 :: a6 :: a7 :: a8 :: a9 :: a10 :: a11 :: a12 :: a13 :: a14 :: a15 :: a16 :: a17 :: a18 :: a19 :: a20 :: a21 :: a22 :: a23 :: a24 :: a25 :: a26 :: r).length by simp only [List.length_cons]; omega) kk
theorem gj_pI27 {a0 a1 a2 a3 a4 a5 a6 a7 a8 a9 a10 a11 a12 a13 a14 a15 a16 a17 a18 a19 a20 a21 a22 a23 a24 a25 a26 a27 : AV} {r : List AV} {L : List (Option AV)} {j ci k : Nat} {z : Int} (dg : AtI y pc (.putfield j) 3 nx) (hf : LF y.1.cls j ci 27 false .int) (hw : w k = cO ci (a0 :: a1 :: a2 :: a3 :: a4 :: a5 :: a6 :: a7 :: a8 :: a9 :: a10 :: a11 :: a12 :: a13 :: a14 :: a15 :: a16 :: a17 :: a18 :: a19 :: a20 :: a21 :: a22 :: a23 :: a24 :: a25 :: a26 :: a27 :: r)) (hk : Nat.blt k n = true) (kk : Gj l x y d mc ms nf Q kc ks n (upw w k (cO ci (a0 :: a1 :: a2 :: a3 :: a4 :: a5 :: a6 :: a7 :: a8 :: a9 :: a10 :: a11 :: a12 :: a13 :: a14 :: a15 :: a16 :: a17 :: a18 :: a19 :: a20 :: a21 :: a22 :: a23 :: a24 :: a25 :: a26 :: vI z :: r))) nx L S) : Gj l x y d mc ms nf Q kc ks n w pc L (vI z :: vR k :: S) := gj_put nar_I dg hf hw hk (show 27 < (a0 :: a1 :: a2 :: a3 :: a4 :: a5 :: a6 :: a7 :: a8 :: a9 :: a10 :: a11 :: a12 :: a13 :: a14 :: a15 :: a16 :: a17 :: a18 :: a19 :: a20 :: a21 :: a22 :: a23 :: a24 :: a25 :: a26 :: a27 :: r).length by simp only [List.length_cons]; omega) kk
theorem gj_pR27 {a0 a1 a2 a3 a4 a5 a6 a7 a8 a9 a10 a11 a12 a13 a14 a15 a16 a17 a18 a19 a20 a21 a22 a23 a24 a25 a26 a27 : AV} {r : List AV} {L : List (Option AV)} {j ci k z : Nat} {C : String} (dg : AtI y pc (.putfield j) 3 nx) (hf : LF y.1.cls j ci 27 true (.object C)) (hini : y.1.name = "<init>") (hown : ∃ T N, vwCl[ci]? = some (y.1.cls, T, N)) (hw : w k = cO ci (a0 :: a1 :: a2 :: a3 :: a4 :: a5 :: a6 :: a7 :: a8 :: a9 :: a10 :: a11 :: a12 :: a13 :: a14 :: a15 :: a16 :: a17 :: a18 :: a19 :: a20 :: a21 :: a22 :: a23 :: a24 :: a25 :: a26 :: a27 :: r)) (hk : Nat.blt k n = true) (kk : Gj l x y d mc ms nf Q kc ks n (upw w k (cO ci (a0 :: a1 :: a2 :: a3 :: a4 :: a5 :: a6 :: a7 :: a8 :: a9 :: a10 :: a11 :: a12 :: a13 :: a14 :: a15 :: a16 :: a17 :: a18 :: a19 :: a20 :: a21 :: a22 :: a23 :: a24 :: a25 :: a26 :: vR z :: r))) nx L S) : Gj l x y d mc ms nf Q kc ks n w pc L (vR z :: vR k :: S) := gj_putF nar_R dg hf hini hown hw hk (show 27 < (a0 :: a1 :: a2 :: a3 :: a4 :: a5 :: a6 :: a7 :: a8 :: a9 :: a10 :: a11 :: a12 :: a13 :: a14 :: a15 :: a16 :: a17 :: a18 :: a19 :: a20 :: a21 :: a22 :: a23 :: a24 :: a25 :: a26 :: a27 :: r).length by simp only [List.length_cons]; omega) kk
theorem gj_pA27 {a0 a1 a2 a3 a4 a5 a6 a7 a8 a9 a10 a11 a12 a13 a14 a15 a16 a17 a18 a19 a20 a21 a22 a23 a24 a25 a26 a27 : AV} {r : List AV} {L : List (Option AV)} {j ci k z : Nat} {e : FieldType} (dg : AtI y pc (.putfield j) 3 nx) (hf : LF y.1.cls j ci 27 true (.array e)) (hini : y.1.name = "<init>") (hown : ∃ T N, vwCl[ci]? = some (y.1.cls, T, N)) (hw : w k = cO ci (a0 :: a1 :: a2 :: a3 :: a4 :: a5 :: a6 :: a7 :: a8 :: a9 :: a10 :: a11 :: a12 :: a13 :: a14 :: a15 :: a16 :: a17 :: a18 :: a19 :: a20 :: a21 :: a22 :: a23 :: a24 :: a25 :: a26 :: a27 :: r)) (hk : Nat.blt k n = true) (kk : Gj l x y d mc ms nf Q kc ks n (upw w k (cO ci (a0 :: a1 :: a2 :: a3 :: a4 :: a5 :: a6 :: a7 :: a8 :: a9 :: a10 :: a11 :: a12 :: a13 :: a14 :: a15 :: a16 :: a17 :: a18 :: a19 :: a20 :: a21 :: a22 :: a23 :: a24 :: a25 :: a26 :: vR z :: r))) nx L S) : Gj l x y d mc ms nf Q kc ks n w pc L (vR z :: vR k :: S) := gj_putF nar_A dg hf hini hown hw hk (show 27 < (a0 :: a1 :: a2 :: a3 :: a4 :: a5 :: a6 :: a7 :: a8 :: a9 :: a10 :: a11 :: a12 :: a13 :: a14 :: a15 :: a16 :: a17 :: a18 :: a19 :: a20 :: a21 :: a22 :: a23 :: a24 :: a25 :: a26 :: a27 :: r).length by simp only [List.length_cons]; omega) kk
theorem gj_pI28 {a0 a1 a2 a3 a4 a5 a6 a7 a8 a9 a10 a11 a12 a13 a14 a15 a16 a17 a18 a19 a20 a21 a22 a23 a24 a25 a26 a27 a28 : AV} {r : List AV} {L : List (Option AV)} {j ci k : Nat} {z : Int} (dg : AtI y pc (.putfield j) 3 nx) (hf : LF y.1.cls j ci 28 false .int) (hw : w k = cO ci (a0 :: a1 :: a2 :: a3 :: a4 :: a5 :: a6 :: a7 :: a8 :: a9 :: a10 :: a11 :: a12 :: a13 :: a14 :: a15 :: a16 :: a17 :: a18 :: a19 :: a20 :: a21 :: a22 :: a23 :: a24 :: a25 :: a26 :: a27 :: a28 :: r)) (hk : Nat.blt k n = true) (kk : Gj l x y d mc ms nf Q kc ks n (upw w k (cO ci (a0 :: a1 :: a2 :: a3 :: a4 :: a5 :: a6 :: a7 :: a8 :: a9 :: a10 :: a11 :: a12 :: a13 :: a14 :: a15 :: a16 :: a17 :: a18 :: a19 :: a20 :: a21 :: a22 :: a23 :: a24 :: a25 :: a26 :: a27 :: vI z :: r))) nx L S) : Gj l x y d mc ms nf Q kc ks n w pc L (vI z :: vR k :: S) := gj_put nar_I dg hf hw hk (show 28 < (a0 :: a1 :: a2 :: a3 :: a4 :: a5 :: a6 :: a7 :: a8 :: a9 :: a10 :: a11 :: a12 :: a13 :: a14 :: a15 :: a16 :: a17 :: a18 :: a19 :: a20 :: a21 :: a22 :: a23 :: a24 :: a25 :: a26 :: a27 :: a28 :: r).length by simp only [List.length_cons]; omega) kk
theorem gj_pR28 {a0 a1 a2 a3 a4 a5 a6 a7 a8 a9 a10 a11 a12 a13 a14 a15 a16 a17 a18 a19 a20 a21 a22 a23 a24 a25 a26 a27 a28 : AV} {r : List AV} {L : List (Option AV)} {j ci k z : Nat} {C : String} (dg : AtI y pc (.putfield j) 3 nx) (hf : LF y.1.cls j ci 28 true (.object C)) (hini : y.1.name = "<init>") (hown : ∃ T N, vwCl[ci]? = some (y.1.cls, T, N)) (hw : w k = cO ci (a0 :: a1 :: a2 :: a3 :: a4 :: a5 :: a6 :: a7 :: a8 :: a9 :: a10 :: a11 :: a12 :: a13 :: a14 :: a15 :: a16 :: a17 :: a18 :: a19 :: a20 :: a21 :: a22 :: a23 :: a24 :: a25 :: a26 :: a27 :: a28 :: r)) (hk : Nat.blt k n = true) (kk : Gj l x y d mc ms nf Q kc ks n (upw w k (cO ci (a0 :: a1 :: a2 :: a3 :: a4 :: a5 :: a6 :: a7 :: a8 :: a9 :: a10 :: a11 :: a12 :: a13 :: a14 :: a15 :: a16 :: a17 :: a18 :: a19 :: a20 :: a21 :: a22 :: a23 :: a24 :: a25 :: a26 :: a27 :: vR z :: r))) nx L S) : Gj l x y d mc ms nf Q kc ks n w pc L (vR z :: vR k :: S) := gj_putF nar_R dg hf hini hown hw hk (show 28 < (a0 :: a1 :: a2 :: a3 :: a4 :: a5 :: a6 :: a7 :: a8 :: a9 :: a10 :: a11 :: a12 :: a13 :: a14 :: a15 :: a16 :: a17 :: a18 :: a19 :: a20 :: a21 :: a22 :: a23 :: a24 :: a25 :: a26 :: a27 :: a28 :: r).length by simp only [List.length_cons]; omega) kk
theorem gj_pA28 {a0 a1 a2 a3 a4 a5 a6 a7 a8 a9 a10 a11 a12 a13 a14 a15 a16 a17 a18 a19 a20 a21 a22 a23 a24 a25 a26 a27 a28 : AV} {r : List AV} {L : List (Option AV)} {j ci k z : Nat} {e : FieldType} (dg : AtI y pc (.putfield j) 3 nx) (hf : LF y.1.cls j ci 28 true (.array e)) (hini : y.1.name = "<init>") (hown : ∃ T N, vwCl[ci]? = some (y.1.cls, T, N)) (hw : w k = cO ci (a0 :: a1 :: a2 :: a3 :: a4 :: a5 :: a6 :: a7 :: a8 :: a9 :: a10 :: a11 :: a12 :: a13 :: a14 :: a15 :: a16 :: a17 :: a18 :: a19 :: a20 :: a21 :: a22 :: a23 :: a24 :: a25 :: a26 :: a27 :: a28 :: r)) (hk : Nat.blt k n = true) (kk : Gj l x y d mc ms nf Q kc ks n (upw w k (cO ci (a0 :: a1 :: a2 :: a3 :: a4 :: a5 :: a6 :: a7 :: a8 :: a9 :: a10 :: a11 :: a12 :: a13 :: a14 :: a15 :: a16 :: a17 :: a18 :: a19 :: a20 :: a21 :: a22 :: a23 :: a24 :: a25 :: a26 :: a27 :: vR z :: r))) nx L S) : Gj l x y d mc ms nf Q kc ks n w pc L (vR z :: vR k :: S) := gj_putF nar_A dg hf hini hown hw hk (show 28 < (a0 :: a1 :: a2 :: a3 :: a4 :: a5 :: a6 :: a7 :: a8 :: a9 :: a10 :: a11 :: a12 :: a13 :: a14 :: a15 :: a16 :: a17 :: a18 :: a19 :: a20 :: a21 :: a22 :: a23 :: a24 :: a25 :: a26 :: a27 :: a28 :: r).length by simp only [List.length_cons]; omega) kk
theorem gj_cV0r {L : List (Option AV)} {j ci k0 : Nat} {y2 : MI} {fs : List AV} {r : AV} (dg : AtI y pc (.invokevirtual j) 3 nx) (hl : Cond.methodLink y.1.cls j y2.1 ∈ lw_g) (hc : CV y2 0 ci) (hw : w k0 = cO ci fs) (hk : Nat.blt k0 n = true) (hd : 1 ≤ d) (hst : Nat.ble (wS S) 8 = true) (hM : Mt l x y2 (d - 1) 0 0 n w (vR k0 :: []) (Rd r w)) (kk : Gj l x y d mc ms nf Q kc ks n w nx L (r :: S)) : Gj l x y d mc ms nf Q kc ks n w pc L (vR k0 :: S) := gj_callV (As := []) (mc2 := 0) (ms2 := 0) dg hl hc hw hk hd hst rfl hM (fun v w2 h => by obtain ⟨rfl, rfl⟩ := h; exact kk)
theorem gj_cV0w {L : List (Option AV)} {j ci k0 : Nat} {y2 : MI} {fs : List AV} {r : AV} {P : AW → Prop} (dg : AtI y pc (.invokevirtual j) 3 nx) (hl : Cond.methodLink y.1.cls j y2.1 ∈ lw_g) (hc : CV y2 0 ci) (hw : w k0 = cO ci fs) (hk : Nat.blt k0 n = true) (hd : 1 ≤ d) (hst : Nat.ble (wS S) 8 = true) (hM : Mt l x y2 (d - 1) 0 0 n w (vR k0 :: []) (Wr r P)) (kk : ∀ w2, P w2 → Gj l x y d mc ms nf Q kc ks n w2 nx L (r :: S)) : Gj l x y d mc ms nf Q kc ks n w pc L (vR k0 :: S) := gj_callV (As := []) (mc2 := 0) (ms2 := 0) dg hl hc hw hk hd hst rfl hM (fun v w2 h => by obtain ⟨rfl, h⟩ := h; exact kk w2 h)
theorem gj_cV0v {L : List (Option AV)} {j ci k0 : Nat} {y2 : MI} {fs : List AV} {P : AW → Prop} (dg : AtI y pc (.invokevirtual j) 3 nx) (hl : Cond.methodLink y.1.cls j y2.1 ∈ lw_g) (hc : CV y2 0 ci) (hw : w k0 = cO ci fs) (hk : Nat.blt k0 n = true) (hd : 1 ≤ d) (hst : Nat.ble (wS S) 8 = true) (hM : Mt l x y2 (d - 1) 0 0 n w (vR k0 :: []) (Wv P)) (kk : ∀ w2, P w2 → Gj l x y d mc ms nf Q kc ks n w2 nx L S) : Gj l x y d mc ms nf Q kc ks n w pc L (vR k0 :: S) := gj_callV (As := []) (mc2 := 0) (ms2 := 0) dg hl hc hw hk hd hst rfl hM (fun v w2 h => by obtain ⟨rfl, h⟩ := h; exact kk w2 h)
theorem gj_cS0r {L : List (Option AV)} {j : Nat} {y2 : MI} {r : AV} (dg : AtI y pc (.invokestatic j) 3 nx) (hl : Cond.methodLink y.1.cls j y2.1 ∈ lw_g) (hc : CS y2 0) (hd : 1 ≤ d) (hst : Nat.ble (wS S) 8 = true) (hM : Mt l x y2 (d - 1) 0 0 n w [] (Rd r w)) (kk : Gj l x y d mc ms nf Q kc ks n w nx L (r :: S)) : Gj l x y d mc ms nf Q kc ks n w pc L S := gj_callS (mc2 := 0) (ms2 := 0) (As := []) dg hl hc hd hst rfl hM (fun v w2 h => by obtain ⟨rfl, rfl⟩ := h; exact kk)
theorem gj_cS0w {L : List (Option AV)} {j : Nat} {y2 : MI} {r : AV} {P : AW → Prop} (dg : AtI y pc (.invokestatic j) 3 nx) (hl : Cond.methodLink y.1.cls j y2.1 ∈ lw_g) (hc : CS y2 0) (hd : 1 ≤ d) (hst : Nat.ble (wS S) 8 = true) (hM : Mt l x y2 (d - 1) 0 0 n w [] (Wr r P)) (kk : ∀ w2, P w2 → Gj l x y d mc ms nf Q kc ks n w2 nx L (r :: S)) : Gj l x y d mc ms nf Q kc ks n w pc L S := gj_callS (mc2 := 0) (ms2 := 0) (As := []) dg hl hc hd hst rfl hM (fun v w2 h => by obtain ⟨rfl, h⟩ := h; exact kk w2 h)
theorem gj_cS0v {L : List (Option AV)} {j : Nat} {y2 : MI} {P : AW → Prop} (dg : AtI y pc (.invokestatic j) 3 nx) (hl : Cond.methodLink y.1.cls j y2.1 ∈ lw_g) (hc : CS y2 0) (hd : 1 ≤ d) (hst : Nat.ble (wS S) 8 = true) (hM : Mt l x y2 (d - 1) 0 0 n w [] (Wv P)) (kk : ∀ w2, P w2 → Gj l x y d mc ms nf Q kc ks n w2 nx L S) : Gj l x y d mc ms nf Q kc ks n w pc L S := gj_callS (mc2 := 0) (ms2 := 0) (As := []) dg hl hc hd hst rfl hM (fun v w2 h => by obtain ⟨rfl, h⟩ := h; exact kk w2 h)
theorem gj_cV1r {a1 : AV} {L : List (Option AV)} {j ci k0 : Nat} {y2 : MI} {fs : List AV} {r : AV} (dg : AtI y pc (.invokevirtual j) 3 nx) (hl : Cond.methodLink y.1.cls j y2.1 ∈ lw_g) (hc : CV y2 1 ci) (hw : w k0 = cO ci fs) (hk : Nat.blt k0 n = true) (hd : 1 ≤ d) (hst : Nat.ble (wS S) 8 = true) (hM : Mt l x y2 (d - 1) 0 0 n w (vR k0 :: [a1]) (Rd r w)) (kk : Gj l x y d mc ms nf Q kc ks n w nx L (r :: S)) : Gj l x y d mc ms nf Q kc ks n w pc L (a1 :: vR k0 :: S) := gj_callV (As := [a1]) (mc2 := 0) (ms2 := 0) dg hl hc hw hk hd hst rfl hM (fun v w2 h => by obtain ⟨rfl, rfl⟩ := h; exact kk)
theorem gj_cV1w {a1 : AV} {L : List (Option AV)} {j ci k0 : Nat} {y2 : MI} {fs : List AV} {r : AV} {P : AW → Prop} (dg : AtI y pc (.invokevirtual j) 3 nx) (hl : Cond.methodLink y.1.cls j y2.1 ∈ lw_g) (hc : CV y2 1 ci) (hw : w k0 = cO ci fs) (hk : Nat.blt k0 n = true) (hd : 1 ≤ d) (hst : Nat.ble (wS S) 8 = true) (hM : Mt l x y2 (d - 1) 0 0 n w (vR k0 :: [a1]) (Wr r P)) (kk : ∀ w2, P w2 → Gj l x y d mc ms nf Q kc ks n w2 nx L (r :: S)) : Gj l x y d mc ms nf Q kc ks n w pc L (a1 :: vR k0 :: S) := gj_callV (As := [a1]) (mc2 := 0) (ms2 := 0) dg hl hc hw hk hd hst rfl hM (fun v w2 h => by obtain ⟨rfl, h⟩ := h; exact kk w2 h)
theorem gj_cV1v {a1 : AV} {L : List (Option AV)} {j ci k0 : Nat} {y2 : MI} {fs : List AV} {P : AW → Prop} (dg : AtI y pc (.invokevirtual j) 3 nx) (hl : Cond.methodLink y.1.cls j y2.1 ∈ lw_g) (hc : CV y2 1 ci) (hw : w k0 = cO ci fs) (hk : Nat.blt k0 n = true) (hd : 1 ≤ d) (hst : Nat.ble (wS S) 8 = true) (hM : Mt l x y2 (d - 1) 0 0 n w (vR k0 :: [a1]) (Wv P)) (kk : ∀ w2, P w2 → Gj l x y d mc ms nf Q kc ks n w2 nx L S) : Gj l x y d mc ms nf Q kc ks n w pc L (a1 :: vR k0 :: S) := gj_callV (As := [a1]) (mc2 := 0) (ms2 := 0) dg hl hc hw hk hd hst rfl hM (fun v w2 h => by obtain ⟨rfl, h⟩ := h; exact kk w2 h)
theorem gj_cS1r {a1 : AV} {L : List (Option AV)} {j : Nat} {y2 : MI} {r : AV} (dg : AtI y pc (.invokestatic j) 3 nx) (hl : Cond.methodLink y.1.cls j y2.1 ∈ lw_g) (hc : CS y2 1) (hd : 1 ≤ d) (hst : Nat.ble (wS S) 8 = true) (hM : Mt l x y2 (d - 1) 0 0 n w [a1] (Rd r w)) (kk : Gj l x y d mc ms nf Q kc ks n w nx L (r :: S)) : Gj l x y d mc ms nf Q kc ks n w pc L (a1 :: S) := gj_callS (mc2 := 0) (ms2 := 0) (As := [a1]) dg hl hc hd hst rfl hM (fun v w2 h => by obtain ⟨rfl, rfl⟩ := h; exact kk)
theorem gj_cS1w {a1 : AV} {L : List (Option AV)} {j : Nat} {y2 : MI} {r : AV} {P : AW → Prop} (dg : AtI y pc (.invokestatic j) 3 nx) (hl : Cond.methodLink y.1.cls j y2.1 ∈ lw_g) (hc : CS y2 1) (hd : 1 ≤ d) (hst : Nat.ble (wS S) 8 = true) (hM : Mt l x y2 (d - 1) 0 0 n w [a1] (Wr r P)) (kk : ∀ w2, P w2 → Gj l x y d mc ms nf Q kc ks n w2 nx L (r :: S)) : Gj l x y d mc ms nf Q kc ks n w pc L (a1 :: S) := gj_callS (mc2 := 0) (ms2 := 0) (As := [a1]) dg hl hc hd hst rfl hM (fun v w2 h => by obtain ⟨rfl, h⟩ := h; exact kk w2 h)
theorem gj_cS1v {a1 : AV} {L : List (Option AV)} {j : Nat} {y2 : MI} {P : AW → Prop} (dg : AtI y pc (.invokestatic j) 3 nx) (hl : Cond.methodLink y.1.cls j y2.1 ∈ lw_g) (hc : CS y2 1) (hd : 1 ≤ d) (hst : Nat.ble (wS S) 8 = true) (hM : Mt l x y2 (d - 1) 0 0 n w [a1] (Wv P)) (kk : ∀ w2, P w2 → Gj l x y d mc ms nf Q kc ks n w2 nx L S) : Gj l x y d mc ms nf Q kc ks n w pc L (a1 :: S) := gj_callS (mc2 := 0) (ms2 := 0) (As := [a1]) dg hl hc hd hst rfl hM (fun v w2 h => by obtain ⟨rfl, h⟩ := h; exact kk w2 h)
theorem gj_cV2r {a1 a2 : AV} {L : List (Option AV)} {j ci k0 : Nat} {y2 : MI} {fs : List AV} {r : AV} (dg : AtI y pc (.invokevirtual j) 3 nx) (hl : Cond.methodLink y.1.cls j y2.1 ∈ lw_g) (hc : CV y2 2 ci) (hw : w k0 = cO ci fs) (hk : Nat.blt k0 n = true) (hd : 1 ≤ d) (hst : Nat.ble (wS S) 8 = true) (hM : Mt l x y2 (d - 1) 0 0 n w (vR k0 :: [a1, a2]) (Rd r w)) (kk : Gj l x y d mc ms nf Q kc ks n w nx L (r :: S)) : Gj l x y d mc ms nf Q kc ks n w pc L (a2 :: a1 :: vR k0 :: S) := gj_callV (As := [a1, a2]) (mc2 := 0) (ms2 := 0) dg hl hc hw hk hd hst rfl hM (fun v w2 h => by obtain ⟨rfl, rfl⟩ := h; exact kk)
theorem gj_cV2w {a1 a2 : AV} {L : List (Option AV)} {j ci k0 : Nat} {y2 : MI} {fs : List AV} {r : AV} {P : AW → Prop} (dg : AtI y pc (.invokevirtual j) 3 nx) (hl : Cond.methodLink y.1.cls j y2.1 ∈ lw_g) (hc : CV y2 2 ci) (hw : w k0 = cO ci fs) (hk : Nat.blt k0 n = true) (hd : 1 ≤ d) (hst : Nat.ble (wS S) 8 = true) (hM : Mt l x y2 (d - 1) 0 0 n w (vR k0 :: [a1, a2]) (Wr r P)) (kk : ∀ w2, P w2 → Gj l x y d mc ms nf Q kc ks n w2 nx L (r :: S)) : Gj l x y d mc ms nf Q kc ks n w pc L (a2 :: a1 :: vR k0 :: S) := gj_callV (As := [a1, a2]) (mc2 := 0) (ms2 := 0) dg hl hc hw hk hd hst rfl hM (fun v w2 h => by obtain ⟨rfl, h⟩ := h; exact kk w2 h)
theorem gj_cV2v {a1 a2 : AV} {L : List (Option AV)} {j ci k0 : Nat} {y2 : MI} {fs : List AV} {P : AW → Prop} (dg : AtI y pc (.invokevirtual j) 3 nx) (hl : Cond.methodLink y.1.cls j y2.1 ∈ lw_g) (hc : CV y2 2 ci) (hw : w k0 = cO ci fs) (hk : Nat.blt k0 n = true) (hd : 1 ≤ d) (hst : Nat.ble (wS S) 8 = true) (hM : Mt l x y2 (d - 1) 0 0 n w (vR k0 :: [a1, a2]) (Wv P)) (kk : ∀ w2, P w2 → Gj l x y d mc ms nf Q kc ks n w2 nx L S) : Gj l x y d mc ms nf Q kc ks n w pc L (a2 :: a1 :: vR k0 :: S) := gj_callV (As := [a1, a2]) (mc2 := 0) (ms2 := 0) dg hl hc hw hk hd hst rfl hM (fun v w2 h => by obtain ⟨rfl, h⟩ := h; exact kk w2 h)
theorem gj_cS2r {a1 a2 : AV} {L : List (Option AV)} {j : Nat} {y2 : MI} {r : AV} (dg : AtI y pc (.invokestatic j) 3 nx) (hl : Cond.methodLink y.1.cls j y2.1 ∈ lw_g) (hc : CS y2 2) (hd : 1 ≤ d) (hst : Nat.ble (wS S) 8 = true) (hM : Mt l x y2 (d - 1) 0 0 n w [a1, a2] (Rd r w)) (kk : Gj l x y d mc ms nf Q kc ks n w nx L (r :: S)) : Gj l x y d mc ms nf Q kc ks n w pc L (a2 :: a1 :: S) := gj_callS (mc2 := 0) (ms2 := 0) (As := [a1, a2]) dg hl hc hd hst rfl hM (fun v w2 h => by obtain ⟨rfl, rfl⟩ := h; exact kk)
theorem gj_cS2w {a1 a2 : AV} {L : List (Option AV)} {j : Nat} {y2 : MI} {r : AV} {P : AW → Prop} (dg : AtI y pc (.invokestatic j) 3 nx) (hl : Cond.methodLink y.1.cls j y2.1 ∈ lw_g) (hc : CS y2 2) (hd : 1 ≤ d) (hst : Nat.ble (wS S) 8 = true) (hM : Mt l x y2 (d - 1) 0 0 n w [a1, a2] (Wr r P)) (kk : ∀ w2, P w2 → Gj l x y d mc ms nf Q kc ks n w2 nx L (r :: S)) : Gj l x y d mc ms nf Q kc ks n w pc L (a2 :: a1 :: S) := gj_callS (mc2 := 0) (ms2 := 0) (As := [a1, a2]) dg hl hc hd hst rfl hM (fun v w2 h => by obtain ⟨rfl, h⟩ := h; exact kk w2 h)
theorem gj_cS2v {a1 a2 : AV} {L : List (Option AV)} {j : Nat} {y2 : MI} {P : AW → Prop} (dg : AtI y pc (.invokestatic j) 3 nx) (hl : Cond.methodLink y.1.cls j y2.1 ∈ lw_g) (hc : CS y2 2) (hd : 1 ≤ d) (hst : Nat.ble (wS S) 8 = true) (hM : Mt l x y2 (d - 1) 0 0 n w [a1, a2] (Wv P)) (kk : ∀ w2, P w2 → Gj l x y d mc ms nf Q kc ks n w2 nx L S) : Gj l x y d mc ms nf Q kc ks n w pc L (a2 :: a1 :: S) := gj_callS (mc2 := 0) (ms2 := 0) (As := [a1, a2]) dg hl hc hd hst rfl hM (fun v w2 h => by obtain ⟨rfl, h⟩ := h; exact kk w2 h)
theorem gj_cV3r {a1 a2 a3 : AV} {L : List (Option AV)} {j ci k0 : Nat} {y2 : MI} {fs : List AV} {r : AV} (dg : AtI y pc (.invokevirtual j) 3 nx) (hl : Cond.methodLink y.1.cls j y2.1 ∈ lw_g) (hc : CV y2 3 ci) (hw : w k0 = cO ci fs) (hk : Nat.blt k0 n = true) (hd : 1 ≤ d) (hst : Nat.ble (wS S) 8 = true) (hM : Mt l x y2 (d - 1) 0 0 n w (vR k0 :: [a1, a2, a3]) (Rd r w)) (kk : Gj l x y d mc ms nf Q kc ks n w nx L (r :: S)) : Gj l x y d mc ms nf Q kc ks n w pc L (a3 :: a2 :: a1 :: vR k0 :: S) := gj_callV (As := [a1, a2, a3]) (mc2 := 0) (ms2 := 0) dg hl hc hw hk hd hst rfl hM (fun v w2 h => by obtain ⟨rfl, rfl⟩ := h; exact kk)
theorem gj_cV3w {a1 a2 a3 : AV} {L : List (Option AV)} {j ci k0 : Nat} {y2 : MI} {fs : List AV} {r : AV} {P : AW → Prop} (dg : AtI y pc (.invokevirtual j) 3 nx) (hl : Cond.methodLink y.1.cls j y2.1 ∈ lw_g) (hc : CV y2 3 ci) (hw : w k0 = cO ci fs) (hk : Nat.blt k0 n = true) (hd : 1 ≤ d) (hst : Nat.ble (wS S) 8 = true) (hM : Mt l x y2 (d - 1) 0 0 n w (vR k0 :: [a1, a2, a3]) (Wr r P)) (kk : ∀ w2, P w2 → Gj l x y d mc ms nf Q kc ks n w2 nx L (r :: S)) : Gj l x y d mc ms nf Q kc ks n w pc L (a3 :: a2 :: a1 :: vR k0 :: S) := gj_callV (As := [a1, a2, a3]) (mc2 := 0) (ms2 := 0) dg hl hc hw hk hd hst rfl hM (fun v w2 h => by obtain ⟨rfl, h⟩ := h; exact kk w2 h)
theorem gj_cV3v {a1 a2 a3 : AV} {L : List (Option AV)} {j ci k0 : Nat} {y2 : MI} {fs : List AV} {P : AW → Prop} (dg : AtI y pc (.invokevirtual j) 3 nx) (hl : Cond.methodLink y.1.cls j y2.1 ∈ lw_g) (hc : CV y2 3 ci) (hw : w k0 = cO ci fs) (hk : Nat.blt k0 n = true) (hd : 1 ≤ d) (hst : Nat.ble (wS S) 8 = true) (hM : Mt l x y2 (d - 1) 0 0 n w (vR k0 :: [a1, a2, a3]) (Wv P)) (kk : ∀ w2, P w2 → Gj l x y d mc ms nf Q kc ks n w2 nx L S) : Gj l x y d mc ms nf Q kc ks n w pc L (a3 :: a2 :: a1 :: vR k0 :: S) := gj_callV (As := [a1, a2, a3]) (mc2 := 0) (ms2 := 0) dg hl hc hw hk hd hst rfl hM (fun v w2 h => by obtain ⟨rfl, h⟩ := h; exact kk w2 h)
theorem gj_cS3r {a1 a2 a3 : AV} {L : List (Option AV)} {j : Nat} {y2 : MI} {r : AV} (dg : AtI y pc (.invokestatic j) 3 nx) (hl : Cond.methodLink y.1.cls j y2.1 ∈ lw_g) (hc : CS y2 3) (hd : 1 ≤ d) (hst : Nat.ble (wS S) 8 = true) (hM : Mt l x y2 (d - 1) 0 0 n w [a1, a2, a3] (Rd r w)) (kk : Gj l x y d mc ms nf Q kc ks n w nx L (r :: S)) : Gj l x y d mc ms nf Q kc ks n w pc L (a3 :: a2 :: a1 :: S) := gj_callS (mc2 := 0) (ms2 := 0) (As := [a1, a2, a3]) dg hl hc hd hst rfl hM (fun v w2 h => by obtain ⟨rfl, rfl⟩ := h; exact kk)
theorem gj_cS3w {a1 a2 a3 : AV} {L : List (Option AV)} {j : Nat} {y2 : MI} {r : AV} {P : AW → Prop} (dg : AtI y pc (.invokestatic j) 3 nx) (hl : Cond.methodLink y.1.cls j y2.1 ∈ lw_g) (hc : CS y2 3) (hd : 1 ≤ d) (hst : Nat.ble (wS S) 8 = true) (hM : Mt l x y2 (d - 1) 0 0 n w [a1, a2, a3] (Wr r P)) (kk : ∀ w2, P w2 → Gj l x y d mc ms nf Q kc ks n w2 nx L (r :: S)) : Gj l x y d mc ms nf Q kc ks n w pc L (a3 :: a2 :: a1 :: S) := gj_callS (mc2 := 0) (ms2 := 0) (As := [a1, a2, a3]) dg hl hc hd hst rfl hM (fun v w2 h => by obtain ⟨rfl, h⟩ := h; exact kk w2 h)
theorem gj_cS3v {a1 a2 a3 : AV} {L : List (Option AV)} {j : Nat} {y2 : MI} {P : AW → Prop} (dg : AtI y pc (.invokestatic j) 3 nx) (hl : Cond.methodLink y.1.cls j y2.1 ∈ lw_g) (hc : CS y2 3) (hd : 1 ≤ d) (hst : Nat.ble (wS S) 8 = true) (hM : Mt l x y2 (d - 1) 0 0 n w [a1, a2, a3] (Wv P)) (kk : ∀ w2, P w2 → Gj l x y d mc ms nf Q kc ks n w2 nx L S) : Gj l x y d mc ms nf Q kc ks n w pc L (a3 :: a2 :: a1 :: S) := gj_callS (mc2 := 0) (ms2 := 0) (As := [a1, a2, a3]) dg hl hc hd hst rfl hM (fun v w2 h => by obtain ⟨rfl, h⟩ := h; exact kk w2 h)
theorem gj_cV4r {a1 a2 a3 a4 : AV} {L : List (Option AV)} {j ci k0 : Nat} {y2 : MI} {fs : List AV} {r : AV} (dg : AtI y pc (.invokevirtual j) 3 nx) (hl : Cond.methodLink y.1.cls j y2.1 ∈ lw_g) (hc : CV y2 4 ci) (hw : w k0 = cO ci fs) (hk : Nat.blt k0 n = true) (hd : 1 ≤ d) (hst : Nat.ble (wS S) 8 = true) (hM : Mt l x y2 (d - 1) 0 0 n w (vR k0 :: [a1, a2, a3, a4]) (Rd r w)) (kk : Gj l x y d mc ms nf Q kc ks n w nx L (r :: S)) : Gj l x y d mc ms nf Q kc ks n w pc L (a4 :: a3 :: a2 :: a1 :: vR k0 :: S) := gj_callV (As := [a1, a2, a3, a4]) (mc2 := 0) (ms2 := 0) dg hl hc hw hk hd hst rfl hM (fun v w2 h => by obtain ⟨rfl, rfl⟩ := h; exact kk)
theorem gj_cV4w {a1 a2 a3 a4 : AV} {L : List (Option AV)} {j ci k0 : Nat} {y2 : MI} {fs : List AV} {r : AV} {P : AW → Prop} (dg : AtI y pc (.invokevirtual j) 3 nx) (hl : Cond.methodLink y.1.cls j y2.1 ∈ lw_g) (hc : CV y2 4 ci) (hw : w k0 = cO ci fs) (hk : Nat.blt k0 n = true) (hd : 1 ≤ d) (hst : Nat.ble (wS S) 8 = true) (hM : Mt l x y2 (d - 1) 0 0 n w (vR k0 :: [a1, a2, a3, a4]) (Wr r P)) (kk : ∀ w2, P w2 → Gj l x y d mc ms nf Q kc ks n w2 nx L (r :: S)) : Gj l x y d mc ms nf Q kc ks n w pc L (a4 :: a3 :: a2 :: a1 :: vR k0 :: S) := gj_callV (As := [a1, a2, a3, a4]) (mc2 := 0) (ms2 := 0) dg hl hc hw hk hd hst rfl hM (fun v w2 h => by obtain ⟨rfl, h⟩ := h; exact kk w2 h)
theorem gj_cV4v {a1 a2 a3 a4 : AV} {L : List (Option AV)} {j ci k0 : Nat} {y2 : MI} {fs : List AV} {P : AW → Prop} (dg : AtI y pc (.invokevirtual j) 3 nx) (hl : Cond.methodLink y.1.cls j y2.1 ∈ lw_g) (hc : CV y2 4 ci) (hw : w k0 = cO ci fs) (hk : Nat.blt k0 n = true) (hd : 1 ≤ d) (hst : Nat.ble (wS S) 8 = true) (hM : Mt l x y2 (d - 1) 0 0 n w (vR k0 :: [a1, a2, a3, a4]) (Wv P)) (kk : ∀ w2, P w2 → Gj l x y d mc ms nf Q kc ks n w2 nx L S) : Gj l x y d mc ms nf Q kc ks n w pc L (a4 :: a3 :: a2 :: a1 :: vR k0 :: S) := gj_callV (As := [a1, a2, a3, a4]) (mc2 := 0) (ms2 := 0) dg hl hc hw hk hd hst rfl hM (fun v w2 h => by obtain ⟨rfl, h⟩ := h; exact kk w2 h)
theorem gj_cS4r {a1 a2 a3 a4 : AV} {L : List (Option AV)} {j : Nat} {y2 : MI} {r : AV} (dg : AtI y pc (.invokestatic j) 3 nx) (hl : Cond.methodLink y.1.cls j y2.1 ∈ lw_g) (hc : CS y2 4) (hd : 1 ≤ d) (hst : Nat.ble (wS S) 8 = true) (hM : Mt l x y2 (d - 1) 0 0 n w [a1, a2, a3, a4] (Rd r w)) (kk : Gj l x y d mc ms nf Q kc ks n w nx L (r :: S)) : Gj l x y d mc ms nf Q kc ks n w pc L (a4 :: a3 :: a2 :: a1 :: S) := gj_callS (mc2 := 0) (ms2 := 0) (As := [a1, a2, a3, a4]) dg hl hc hd hst rfl hM (fun v w2 h => by obtain ⟨rfl, rfl⟩ := h; exact kk)
theorem gj_cS4w {a1 a2 a3 a4 : AV} {L : List (Option AV)} {j : Nat} {y2 : MI} {r : AV} {P : AW → Prop} (dg : AtI y pc (.invokestatic j) 3 nx) (hl : Cond.methodLink y.1.cls j y2.1 ∈ lw_g) (hc : CS y2 4) (hd : 1 ≤ d) (hst : Nat.ble (wS S) 8 = true) (hM : Mt l x y2 (d - 1) 0 0 n w [a1, a2, a3, a4] (Wr r P)) (kk : ∀ w2, P w2 → Gj l x y d mc ms nf Q kc ks n w2 nx L (r :: S)) : Gj l x y d mc ms nf Q kc ks n w pc L (a4 :: a3 :: a2 :: a1 :: S) := gj_callS (mc2 := 0) (ms2 := 0) (As := [a1, a2, a3, a4]) dg hl hc hd hst rfl hM (fun v w2 h => by obtain ⟨rfl, h⟩ := h; exact kk w2 h)
theorem gj_cS4v {a1 a2 a3 a4 : AV} {L : List (Option AV)} {j : Nat} {y2 : MI} {P : AW → Prop} (dg : AtI y pc (.invokestatic j) 3 nx) (hl : Cond.methodLink y.1.cls j y2.1 ∈ lw_g) (hc : CS y2 4) (hd : 1 ≤ d) (hst : Nat.ble (wS S) 8 = true) (hM : Mt l x y2 (d - 1) 0 0 n w [a1, a2, a3, a4] (Wv P)) (kk : ∀ w2, P w2 → Gj l x y d mc ms nf Q kc ks n w2 nx L S) : Gj l x y d mc ms nf Q kc ks n w pc L (a4 :: a3 :: a2 :: a1 :: S) := gj_callS (mc2 := 0) (ms2 := 0) (As := [a1, a2, a3, a4]) dg hl hc hd hst rfl hM (fun v w2 h => by obtain ⟨rfl, h⟩ := h; exact kk w2 h)
theorem gj_cV5r {a1 a2 a3 a4 a5 : AV} {L : List (Option AV)} {j ci k0 : Nat} {y2 : MI} {fs : List AV} {r : AV} (dg : AtI y pc (.invokevirtual j) 3 nx) (hl : Cond.methodLink y.1.cls j y2.1 ∈ lw_g) (hc : CV y2 5 ci) (hw : w k0 = cO ci fs) (hk : Nat.blt k0 n = true) (hd : 1 ≤ d) (hst : Nat.ble (wS S) 8 = true) (hM : Mt l x y2 (d - 1) 0 0 n w (vR k0 :: [a1, a2, a3, a4, a5]) (Rd r w)) (kk : Gj l x y d mc ms nf Q kc ks n w nx L (r :: S)) : Gj l x y d mc ms nf Q kc ks n w pc L (a5 :: a4 :: a3 :: a2 :: a1 :: vR k0 :: S) := gj_callV (As := [a1, a2, a3, a4, a5]) (mc2 := 0) (ms2 := 0) dg hl hc hw hk hd hst rfl hM (fun v w2 h => by obtain ⟨rfl, rfl⟩ := h; exact kk)
theorem gj_cV5w {a1 a2 a3 a4 a5 : AV} {L : List (Option AV)} {j ci k0 : Nat} {y2 : MI} {fs : List AV} {r : AV} {P : AW → Prop} (dg : AtI y pc (.invokevirtual j) 3 nx) (hl : Cond.methodLink y.1.cls j y2.1 ∈ lw_g) (hc : CV y2 5 ci) (hw : w k0 = cO ci fs) (hk : Nat.blt k0 n = true) (hd : 1 ≤ d) (hst : Nat.ble (wS S) 8 = true) (hM : Mt l x y2 (d - 1) 0 0 n w (vR k0 :: [a1, a2, a3, a4, a5]) (Wr r P)) (kk : ∀ w2, P w2 → Gj l x y d mc ms nf Q kc ks n w2 nx L (r :: S)) : Gj l x y d mc ms nf Q kc ks n w pc L (a5 :: a4 :: a3 :: a2 :: a1 :: vR k0 :: S) := gj_callV (As := [a1, a2, a3, a4, a5]) (mc2 := 0) (ms2 := 0) dg hl hc hw hk hd hst rfl hM (fun v w2 h => by obtain ⟨rfl, h⟩ := h; exact kk w2 h)
theorem gj_cV5v {a1 a2 a3 a4 a5 : AV} {L : List (Option AV)} {j ci k0 : Nat} {y2 : MI} {fs : List AV} {P : AW → Prop} (dg : AtI y pc (.invokevirtual j) 3 nx) (hl : Cond.methodLink y.1.cls j y2.1 ∈ lw_g) (hc : CV y2 5 ci) (hw : w k0 = cO ci fs) (hk : Nat.blt k0 n = true) (hd : 1 ≤ d) (hst : Nat.ble (wS S) 8 = true) (hM : Mt l x y2 (d - 1) 0 0 n w (vR k0 :: [a1, a2, a3, a4, a5]) (Wv P)) (kk : ∀ w2, P w2 → Gj l x y d mc ms nf Q kc ks n w2 nx L S) : Gj l x y d mc ms nf Q kc ks n w pc L (a5 :: a4 :: a3 :: a2 :: a1 :: vR k0 :: S) := gj_callV (As := [a1, a2, a3, a4, a5]) (mc2 := 0) (ms2 := 0) dg hl hc hw hk hd hst rfl hM (fun v w2 h => by obtain ⟨rfl, h⟩ := h; exact kk w2 h)
theorem gj_cS5r {a1 a2 a3 a4 a5 : AV} {L : List (Option AV)} {j : Nat} {y2 : MI} {r : AV} (dg : AtI y pc (.invokestatic j) 3 nx) (hl : Cond.methodLink y.1.cls j y2.1 ∈ lw_g) (hc : CS y2 5) (hd : 1 ≤ d) (hst : Nat.ble (wS S) 8 = true) (hM : Mt l x y2 (d - 1) 0 0 n w [a1, a2, a3, a4, a5] (Rd r w)) (kk : Gj l x y d mc ms nf Q kc ks n w nx L (r :: S)) : Gj l x y d mc ms nf Q kc ks n w pc L (a5 :: a4 :: a3 :: a2 :: a1 :: S) := gj_callS (mc2 := 0) (ms2 := 0) (As := [a1, a2, a3, a4, a5]) dg hl hc hd hst rfl hM (fun v w2 h => by obtain ⟨rfl, rfl⟩ := h; exact kk)
theorem gj_cS5w {a1 a2 a3 a4 a5 : AV} {L : List (Option AV)} {j : Nat} {y2 : MI} {r : AV} {P : AW → Prop} (dg : AtI y pc (.invokestatic j) 3 nx) (hl : Cond.methodLink y.1.cls j y2.1 ∈ lw_g) (hc : CS y2 5) (hd : 1 ≤ d) (hst : Nat.ble (wS S) 8 = true) (hM : Mt l x y2 (d - 1) 0 0 n w [a1, a2, a3, a4, a5] (Wr r P)) (kk : ∀ w2, P w2 → Gj l x y d mc ms nf Q kc ks n w2 nx L (r :: S)) : Gj l x y d mc ms nf Q kc ks n w pc L (a5 :: a4 :: a3 :: a2 :: a1 :: S) := gj_callS (mc2 := 0) (ms2 := 0) (As := [a1, a2, a3, a4, a5]) dg hl hc hd hst rfl hM (fun v w2 h => by obtain ⟨rfl, h⟩ := h; exact kk w2 h)
theorem gj_cS5v {a1 a2 a3 a4 a5 : AV} {L : List (Option AV)} {j : Nat} {y2 : MI} {P : AW → Prop} (dg : AtI y pc (.invokestatic j) 3 nx) (hl : Cond.methodLink y.1.cls j y2.1 ∈ lw_g) (hc : CS y2 5) (hd : 1 ≤ d) (hst : Nat.ble (wS S) 8 = true) (hM : Mt l x y2 (d - 1) 0 0 n w [a1, a2, a3, a4, a5] (Wv P)) (kk : ∀ w2, P w2 → Gj l x y d mc ms nf Q kc ks n w2 nx L S) : Gj l x y d mc ms nf Q kc ks n w pc L (a5 :: a4 :: a3 :: a2 :: a1 :: S) := gj_callS (mc2 := 0) (ms2 := 0) (As := [a1, a2, a3, a4, a5]) dg hl hc hd hst rfl hM (fun v w2 h => by obtain ⟨rfl, h⟩ := h; exact kk w2 h)
end GF
end
section
/-! links: each word by its place in the tables -/
theorem qL_7 : Cond.classLink RL 7 RX8 ∈ lw_g := mg 76 (by decide +kernel) (by decide +kernel)
theorem mL_9 : Cond.methodLink RL 9 iX8_init.1 ∈ lw_g := mg 78 (by decide +kernel) (by decide +kernel)
theorem mX8_3 : Cond.methodLink RX8 3 objectInit ∈ lw_g := mg 81 (by decide +kernel) (by decide +kernel)
theorem qX8_9 : Cond.classLink RX8 9 RX6 ∈ lw_g := mg 84 (by decide +kernel) (by decide +kernel)
theorem mX8_11 : Cond.methodLink RX8 11 iX6_init.1 ∈ lw_g := mg 86 (by decide +kernel) (by decide +kernel)
theorem mX6_3 : Cond.methodLink RX6 3 objectInit ∈ lw_g := mg 89 (by decide +kernel) (by decide +kernel)
theorem mX6_37 : Cond.methodLink RX6 37 iJ7_fill_53178.1 ∈ lw_g := mg 90 (by decide +kernel) (by decide +kernel)
theorem fX6_11 : LF RX6 11 6 0 true (.array .int) := ⟨RX6, TX6, 8, rfl, by decide, mg 93 (by decide +kernel) (by decide +kernel), rfl, by decide +kernel, rfl⟩
theorem fX6_15 : LF RX6 15 6 1 true (.array .int) := ⟨RX6, TX6, 8, rfl, by decide, mg 94 (by decide +kernel) (by decide +kernel), rfl, by decide +kernel, rfl⟩
theorem fX6_18 : LF RX6 18 6 2 true (.array .int) := ⟨RX6, TX6, 8, rfl, by decide, mg 95 (by decide +kernel) (by decide +kernel), rfl, by decide +kernel, rfl⟩
theorem fX6_21 : LF RX6 21 6 3 true (.array .int) := ⟨RX6, TX6, 8, rfl, by decide, mg 96 (by decide +kernel) (by decide +kernel), rfl, by decide +kernel, rfl⟩
theorem fX2_62 : LF RX2 62 6 3 true (.array .int) := ⟨RX6, TX6, 8, rfl, by decide, mg 97 (by decide +kernel) (by decide +kernel), rfl, by decide +kernel, rfl⟩
theorem fX8_96 : LF RX8 96 6 3 true (.array .int) := ⟨RX6, TX6, 8, rfl, by decide, mg 98 (by decide +kernel) (by decide +kernel), rfl, by decide +kernel, rfl⟩
theorem fX6_24 : LF RX6 24 6 4 true (.array .int) := ⟨RX6, TX6, 8, rfl, by decide, mg 99 (by decide +kernel) (by decide +kernel), rfl, by decide +kernel, rfl⟩
theorem fX6_27 : LF RX6 27 6 5 false .int := ⟨RX6, TX6, 8, rfl, by decide, mg 100 (by decide +kernel) (by decide +kernel), rfl, by decide +kernel, rfl⟩
theorem fX8_83 : LF RX8 83 6 5 false .int := ⟨RX6, TX6, 8, rfl, by decide, mg 101 (by decide +kernel) (by decide +kernel), rfl, by decide +kernel, rfl⟩
theorem fX6_31 : LF RX6 31 6 6 false .int := ⟨RX6, TX6, 8, rfl, by decide, mg 102 (by decide +kernel) (by decide +kernel), rfl, by decide +kernel, rfl⟩
theorem fX2_53 : LF RX2 53 6 6 false .int := ⟨RX6, TX6, 8, rfl, by decide, mg 103 (by decide +kernel) (by decide +kernel), rfl, by decide +kernel, rfl⟩
theorem fX8_93 : LF RX8 93 6 6 false .int := ⟨RX6, TX6, 8, rfl, by decide, mg 104 (by decide +kernel) (by decide +kernel), rfl, by decide +kernel, rfl⟩
theorem fX6_34 : LF RX6 34 6 7 false .int := ⟨RX6, TX6, 8, rfl, by decide, mg 105 (by decide +kernel) (by decide +kernel), rfl, by decide +kernel, rfl⟩
theorem fX8_90 : LF RX8 90 6 7 false .int := ⟨RX6, TX6, 8, rfl, by decide, mg 106 (by decide +kernel) (by decide +kernel), rfl, by decide +kernel, rfl⟩
theorem qX8_16 : Cond.classLink RX8 16 RX0 ∈ lw_g := mg 125 (by decide +kernel) (by decide +kernel)
theorem mX8_18 : Cond.methodLink RX8 18 iX0_init.1 ∈ lw_g := mg 127 (by decide +kernel) (by decide +kernel)
theorem mX0_3 : Cond.methodLink RX0 3 objectInit ∈ lw_g := mg 130 (by decide +kernel) (by decide +kernel)
theorem fX0_9 : LF RX0 9 0 0 true (.array .int) := ⟨RX0, TX0, 1, rfl, by decide, mg 131 (by decide +kernel) (by decide +kernel), rfl, by decide +kernel, rfl⟩
theorem fX5_39 : LF RX5 39 0 0 true (.array .int) := ⟨RX0, TX0, 1, rfl, by decide, mg 132 (by decide +kernel) (by decide +kernel), rfl, by decide +kernel, rfl⟩
theorem qX8_23 : Cond.classLink RX8 23 RX5 ∈ lw_g := mg 136 (by decide +kernel) (by decide +kernel)
theorem mX8_25 : Cond.methodLink RX8 25 iX5_init.1 ∈ lw_g := mg 138 (by decide +kernel) (by decide +kernel)
theorem mX5_3 : Cond.methodLink RX5 3 objectInit ∈ lw_g := mg 141 (by decide +kernel) (by decide +kernel)
theorem fX5_18 : LF RX5 18 5 0 true (.object "BishopsPeace$Bells") := ⟨RX5, TX5, 6, rfl, by decide, mg 142 (by decide +kernel) (by decide +kernel), rfl, by decide +kernel, rfl⟩
theorem fX5_11 : LF RX5 11 5 1 true (.array .int) := ⟨RX5, TX5, 6, rfl, by decide, mg 143 (by decide +kernel) (by decide +kernel), rfl, by decide +kernel, rfl⟩
theorem fX5_15 : LF RX5 15 5 2 true (.array .int) := ⟨RX5, TX5, 6, rfl, by decide, mg 144 (by decide +kernel) (by decide +kernel), rfl, by decide +kernel, rfl⟩
theorem fX5_22 : LF RX5 22 5 3 false .int := ⟨RX5, TX5, 6, rfl, by decide, mg 145 (by decide +kernel) (by decide +kernel), rfl, by decide +kernel, rfl⟩
theorem fX8_144 : LF RX8 144 5 3 false .int := ⟨RX5, TX5, 6, rfl, by decide, mg 146 (by decide +kernel) (by decide +kernel), rfl, by decide +kernel, rfl⟩
theorem fX5_26 : LF RX5 26 5 4 false .int := ⟨RX5, TX5, 6, rfl, by decide, mg 147 (by decide +kernel) (by decide +kernel), rfl, by decide +kernel, rfl⟩
theorem fX5_29 : LF RX5 29 5 5 false .int := ⟨RX5, TX5, 6, rfl, by decide, mg 148 (by decide +kernel) (by decide +kernel), rfl, by decide +kernel, rfl⟩
theorem fX8_151 : LF RX8 151 5 5 false .int := ⟨RX5, TX5, 6, rfl, by decide, mg 149 (by decide +kernel) (by decide +kernel), rfl, by decide +kernel, rfl⟩
theorem qX8_32 : Cond.classLink RX8 32 RX3 ∈ lw_g := mg 163 (by decide +kernel) (by decide +kernel)
theorem mX8_34 : Cond.methodLink RX8 34 iX3_init.1 ∈ lw_g := mg 165 (by decide +kernel) (by decide +kernel)
theorem mX3_3 : Cond.methodLink RX3 3 objectInit ∈ lw_g := mg 168 (by decide +kernel) (by decide +kernel)
theorem fX3_18 : LF RX3 18 3 0 true (.object "BishopsPeace$Roads") := ⟨RX3, TX3, 5, rfl, by decide, mg 169 (by decide +kernel) (by decide +kernel), rfl, by decide +kernel, rfl⟩
theorem fX3_22 : LF RX3 22 3 1 true (.object "BishopsPeace$Peace") := ⟨RX3, TX3, 5, rfl, by decide, mg 170 (by decide +kernel) (by decide +kernel), rfl, by decide +kernel, rfl⟩
theorem fX3_11 : LF RX3 11 3 2 true (.array .int) := ⟨RX3, TX3, 5, rfl, by decide, mg 171 (by decide +kernel) (by decide +kernel), rfl, by decide +kernel, rfl⟩
theorem fX3_15 : LF RX3 15 3 3 true (.array .int) := ⟨RX3, TX3, 5, rfl, by decide, mg 172 (by decide +kernel) (by decide +kernel), rfl, by decide +kernel, rfl⟩
theorem fX3_26 : LF RX3 26 3 4 false .int := ⟨RX3, TX3, 5, rfl, by decide, mg 173 (by decide +kernel) (by decide +kernel), rfl, by decide +kernel, rfl⟩
theorem qX8_41 : Cond.classLink RX8 41 RX1 ∈ lw_g := mg 185 (by decide +kernel) (by decide +kernel)
theorem mX8_43 : Cond.methodLink RX8 43 iX1_init.1 ∈ lw_g := mg 187 (by decide +kernel) (by decide +kernel)
theorem mX1_3 : Cond.methodLink RX1 3 objectInit ∈ lw_g := mg 190 (by decide +kernel) (by decide +kernel)
theorem fX1_9 : LF RX1 9 1 0 true (.object "BishopsPeace$Peace") := ⟨RX1, TX1, 4, rfl, by decide, mg 191 (by decide +kernel) (by decide +kernel), rfl, by decide +kernel, rfl⟩
theorem fX1_15 : LF RX1 15 1 1 false .int := ⟨RX1, TX1, 4, rfl, by decide, mg 192 (by decide +kernel) (by decide +kernel), rfl, by decide +kernel, rfl⟩
theorem fX8_185 : LF RX8 185 1 1 false .int := ⟨RX1, TX1, 4, rfl, by decide, mg 193 (by decide +kernel) (by decide +kernel), rfl, by decide +kernel, rfl⟩
theorem fX1_19 : LF RX1 19 1 2 false .int := ⟨RX1, TX1, 4, rfl, by decide, mg 194 (by decide +kernel) (by decide +kernel), rfl, by decide +kernel, rfl⟩
theorem fX8_188 : LF RX8 188 1 2 false .int := ⟨RX1, TX1, 4, rfl, by decide, mg 195 (by decide +kernel) (by decide +kernel), rfl, by decide +kernel, rfl⟩
theorem fX1_22 : LF RX1 22 1 3 false .int := ⟨RX1, TX1, 4, rfl, by decide, mg 196 (by decide +kernel) (by decide +kernel), rfl, by decide +kernel, rfl⟩
theorem fX8_198 : LF RX8 198 1 3 false .int := ⟨RX1, TX1, 4, rfl, by decide, mg 197 (by decide +kernel) (by decide +kernel), rfl, by decide +kernel, rfl⟩
theorem qX8_50 : Cond.classLink RX8 50 RX2 ∈ lw_g := mg 207 (by decide +kernel) (by decide +kernel)
theorem mX8_52 : Cond.methodLink RX8 52 iX2_init.1 ∈ lw_g := mg 209 (by decide +kernel) (by decide +kernel)
theorem mX2_3 : Cond.methodLink RX2 3 objectInit ∈ lw_g := mg 212 (by decide +kernel) (by decide +kernel)
theorem fX2_18 : LF RX2 18 2 0 true (.object "BishopsPeace$Roads") := ⟨RX2, TX2, 10, rfl, by decide, mg 213 (by decide +kernel) (by decide +kernel), rfl, by decide +kernel, rfl⟩
theorem fX2_22 : LF RX2 22 2 1 true (.object "BishopsPeace$Peace") := ⟨RX2, TX2, 10, rfl, by decide, mg 214 (by decide +kernel) (by decide +kernel), rfl, by decide +kernel, rfl⟩
theorem fX2_9 : LF RX2 9 2 2 true (.array .int) := ⟨RX2, TX2, 10, rfl, by decide, mg 215 (by decide +kernel) (by decide +kernel), rfl, by decide +kernel, rfl⟩
theorem fX2_15 : LF RX2 15 2 3 true (.array .int) := ⟨RX2, TX2, 10, rfl, by decide, mg 216 (by decide +kernel) (by decide +kernel), rfl, by decide +kernel, rfl⟩
theorem fX2_36 : LF RX2 36 2 4 false .int := ⟨RX2, TX2, 10, rfl, by decide, mg 217 (by decide +kernel) (by decide +kernel), rfl, by decide +kernel, rfl⟩
theorem fX2_39 : LF RX2 39 2 5 false .int := ⟨RX2, TX2, 10, rfl, by decide, mg 218 (by decide +kernel) (by decide +kernel), rfl, by decide +kernel, rfl⟩
theorem fX2_42 : LF RX2 42 2 6 false .int := ⟨RX2, TX2, 10, rfl, by decide, mg 219 (by decide +kernel) (by decide +kernel), rfl, by decide +kernel, rfl⟩
theorem fX2_26 : LF RX2 26 2 7 false .int := ⟨RX2, TX2, 10, rfl, by decide, mg 220 (by decide +kernel) (by decide +kernel), rfl, by decide +kernel, rfl⟩
theorem fX2_30 : LF RX2 30 2 8 false .int := ⟨RX2, TX2, 10, rfl, by decide, mg 221 (by decide +kernel) (by decide +kernel), rfl, by decide +kernel, rfl⟩
theorem fX8_215 : LF RX8 215 2 8 false .int := ⟨RX2, TX2, 10, rfl, by decide, mg 222 (by decide +kernel) (by decide +kernel), rfl, by decide +kernel, rfl⟩
theorem fX2_33 : LF RX2 33 2 9 false .int := ⟨RX2, TX2, 10, rfl, by decide, mg 223 (by decide +kernel) (by decide +kernel), rfl, by decide +kernel, rfl⟩
theorem qX8_57 : Cond.classLink RX8 57 RX4 ∈ lw_g := mg 245 (by decide +kernel) (by decide +kernel)
theorem mX8_59 : Cond.methodLink RX8 59 iX4_init.1 ∈ lw_g := mg 247 (by decide +kernel) (by decide +kernel)
theorem mX4_3 : Cond.methodLink RX4 3 objectInit ∈ lw_g := mg 250 (by decide +kernel) (by decide +kernel)
theorem fX4_22 : LF RX4 22 4 0 true (.object "BishopsPeace$Peace") := ⟨RX4, TX4, 5, rfl, by decide, mg 251 (by decide +kernel) (by decide +kernel), rfl, by decide +kernel, rfl⟩
theorem fX4_11 : LF RX4 11 4 1 true (.array .int) := ⟨RX4, TX4, 5, rfl, by decide, mg 252 (by decide +kernel) (by decide +kernel), rfl, by decide +kernel, rfl⟩
theorem fX4_15 : LF RX4 15 4 2 true (.array .int) := ⟨RX4, TX4, 5, rfl, by decide, mg 253 (by decide +kernel) (by decide +kernel), rfl, by decide +kernel, rfl⟩
theorem fX4_18 : LF RX4 18 4 3 true (.array .boolean) := ⟨RX4, TX4, 5, rfl, by decide, mg 254 (by decide +kernel) (by decide +kernel), rfl, by decide +kernel, rfl⟩
theorem fX4_26 : LF RX4 26 4 4 false .int := ⟨RX4, TX4, 5, rfl, by decide, mg 255 (by decide +kernel) (by decide +kernel), rfl, by decide +kernel, rfl⟩
theorem fX8_240 : LF RX8 240 4 4 false .int := ⟨RX4, TX4, 5, rfl, by decide, mg 256 (by decide +kernel) (by decide +kernel), rfl, by decide +kernel, rfl⟩
theorem qX8_64 : Cond.classLink RX8 64 RX7 ∈ lw_g := mg 269 (by decide +kernel) (by decide +kernel)
theorem mX8_70 : Cond.methodLink RX8 70 iX7_init.1 ∈ lw_g := mg 272 (by decide +kernel) (by decide +kernel)
theorem mX7_3 : Cond.methodLink RX7 3 objectInit ∈ lw_g := mg 275 (by decide +kernel) (by decide +kernel)
theorem fX7_11 : LF RX7 11 7 0 true (.array .int) := ⟨RX7, TX7, 4, rfl, by decide, mg 276 (by decide +kernel) (by decide +kernel), rfl, by decide +kernel, rfl⟩
theorem fX8_138 : LF RX8 138 7 0 true (.array .int) := ⟨RX7, TX7, 4, rfl, by decide, mg 277 (by decide +kernel) (by decide +kernel), rfl, by decide +kernel, rfl⟩
theorem fX7_15 : LF RX7 15 7 1 false .int := ⟨RX7, TX7, 4, rfl, by decide, mg 278 (by decide +kernel) (by decide +kernel), rfl, by decide +kernel, rfl⟩
theorem fX8_261 : LF RX8 261 7 1 false .int := ⟨RX7, TX7, 4, rfl, by decide, mg 279 (by decide +kernel) (by decide +kernel), rfl, by decide +kernel, rfl⟩
theorem fX7_19 : LF RX7 19 7 2 false .int := ⟨RX7, TX7, 4, rfl, by decide, mg 280 (by decide +kernel) (by decide +kernel), rfl, by decide +kernel, rfl⟩
theorem fX8_130 : LF RX8 130 7 2 false .int := ⟨RX7, TX7, 4, rfl, by decide, mg 281 (by decide +kernel) (by decide +kernel), rfl, by decide +kernel, rfl⟩
theorem fX7_22 : LF RX7 22 7 3 false .boolean := ⟨RX7, TX7, 4, rfl, by decide, mg 282 (by decide +kernel) (by decide +kernel), rfl, by decide +kernel, rfl⟩
theorem fX8_123 : LF RX8 123 7 3 false .boolean := ⟨RX7, TX7, 4, rfl, by decide, mg 283 (by decide +kernel) (by decide +kernel), rfl, by decide +kernel, rfl⟩
theorem fX8_12 : LF RX8 12 8 0 true (.object "BishopsPeace$Roads") := ⟨RX8, TX8, 9, rfl, by decide, mg 293 (by decide +kernel) (by decide +kernel), rfl, by decide +kernel, rfl⟩
theorem fX8_19 : LF RX8 19 8 1 true (.object "BishopsPeace$Bells") := ⟨RX8, TX8, 9, rfl, by decide, mg 294 (by decide +kernel) (by decide +kernel), rfl, by decide +kernel, rfl⟩
theorem fX8_28 : LF RX8 28 8 2 true (.object "BishopsPeace$Peace") := ⟨RX8, TX8, 9, rfl, by decide, mg 295 (by decide +kernel) (by decide +kernel), rfl, by decide +kernel, rfl⟩
theorem fX8_37 : LF RX8 37 8 3 true (.object "BishopsPeace$March") := ⟨RX8, TX8, 9, rfl, by decide, mg 296 (by decide +kernel) (by decide +kernel), rfl, by decide +kernel, rfl⟩
theorem fX8_46 : LF RX8 46 8 4 true (.object "BishopsPeace$Castle") := ⟨RX8, TX8, 9, rfl, by decide, mg 297 (by decide +kernel) (by decide +kernel), rfl, by decide +kernel, rfl⟩
theorem fX8_53 : LF RX8 53 8 5 true (.object "BishopsPeace$Homeward") := ⟨RX8, TX8, 9, rfl, by decide, mg 298 (by decide +kernel) (by decide +kernel), rfl, by decide +kernel, rfl⟩
theorem fX8_60 : LF RX8 60 8 6 true (.object "BishopsPeace$Memory") := ⟨RX8, TX8, 9, rfl, by decide, mg 299 (by decide +kernel) (by decide +kernel), rfl, by decide +kernel, rfl⟩
theorem fX8_66 : LF RX8 66 8 7 true (.array (.object "BishopsPeace$Sheet")) := ⟨RX8, TX8, 9, rfl, by decide, mg 300 (by decide +kernel) (by decide +kernel), rfl, by decide +kernel, rfl⟩
theorem fX8_71 : LF RX8 71 8 8 false .int := ⟨RX8, TX8, 9, rfl, by decide, mg 301 (by decide +kernel) (by decide +kernel), rfl, by decide +kernel, rfl⟩
theorem mL_13 : Cond.methodLink RL 13 iX8_type.1 ∈ lw_g := mg 321 (by decide +kernel) (by decide +kernel)
theorem mX8_75 : Cond.methodLink RX8 75 iX8_upTo.1 ∈ lw_g := mg 325 (by decide +kernel) (by decide +kernel)
theorem mX8_79 : Cond.methodLink RX8 79 iX6_append.1 ∈ lw_g := mg 328 (by decide +kernel) (by decide +kernel)
theorem mX6_43 : Cond.methodLink RX6 43 iX6_settle.1 ∈ lw_g := mg 332 (by decide +kernel) (by decide +kernel)
theorem mX6_46 : Cond.methodLink RX6 46 iX6_firstFault.1 ∈ lw_g := mg 336 (by decide +kernel) (by decide +kernel)
theorem mX6_53 : Cond.methodLink RX6 53 iX6_goesOn.1 ∈ lw_g := mg 340 (by decide +kernel) (by decide +kernel)
theorem mX6_50 : Cond.methodLink RX6 50 iX6_measure.1 ∈ lw_g := mg 344 (by decide +kernel) (by decide +kernel)
theorem mX6_57 : Cond.methodLink RX6 57 iX6_shortenWay.1 ∈ lw_g := mg 348 (by decide +kernel) (by decide +kernel)
theorem mX6_65 : Cond.methodLink RX6 65 Lib.Math.min.name ∈ lw_g := mg 352 (by decide +kernel) (by decide +kernel)
theorem mX6_61 : Cond.methodLink RX6 61 iX6_shortest.1 ∈ lw_g := mg 355 (by decide +kernel) (by decide +kernel)
theorem mL_18 : Cond.methodLink RL 18 iX8_wipe.1 ∈ lw_g := mg 359 (by decide +kernel) (by decide +kernel)
theorem mX8_86 : Cond.methodLink RX8 86 iX6_shorten.1 ∈ lw_g := mg 363 (by decide +kernel) (by decide +kernel)
theorem mL_23 : Cond.methodLink RL 23 iX8_undo.1 ∈ lw_g := mg 367 (by decide +kernel) (by decide +kernel)
theorem mL_27 : Cond.methodLink RL 27 iX8_fault.1 ∈ lw_g := mg 371 (by decide +kernel) (by decide +kernel)
theorem mL_31 : Cond.methodLink RL 31 iX8_road.1 ∈ lw_g := mg 375 (by decide +kernel) (by decide +kernel)
theorem mX8_100 : Cond.methodLink RX8 100 iX6_end.1 ∈ lw_g := mg 379 (by decide +kernel) (by decide +kernel)
theorem mL_36 : Cond.methodLink RL 36 iX8_land.1 ∈ lw_g := mg 383 (by decide +kernel) (by decide +kernel)
theorem mX8_104 : Cond.methodLink RX8 104 iX8_isLand.1 ∈ lw_g := mg 387 (by decide +kernel) (by decide +kernel)
theorem mX8_107 : Cond.methodLink RX8 107 iX5_mostOf.1 ∈ lw_g := mg 390 (by decide +kernel) (by decide +kernel)
theorem mX8_111 : Cond.methodLink RX8 111 iX5_put.1 ∈ lw_g := mg 393 (by decide +kernel) (by decide +kernel)
theorem mX5_32 : Cond.methodLink RX5 32 iX5_at.1 ∈ lw_g := mg 397 (by decide +kernel) (by decide +kernel)
theorem mL_41 : Cond.methodLink RL 41 iX8_bell.1 ∈ lw_g := mg 401 (by decide +kernel) (by decide +kernel)
theorem mX8_115 : Cond.methodLink RX8 115 iX8_isParish.1 ∈ lw_g := mg 405 (by decide +kernel) (by decide +kernel)
theorem mX8_118 : Cond.methodLink RX8 118 iX0_put.1 ∈ lw_g := mg 408 (by decide +kernel) (by decide +kernel)
theorem mL_45 : Cond.methodLink RL 45 iX8_read.1 ∈ lw_g := mg 412 (by decide +kernel) (by decide +kernel)
theorem mX8_120 : Cond.methodLink RX8 120 iX8_isSheet.1 ∈ lw_g := mg 416 (by decide +kernel) (by decide +kernel)
theorem mX8_127 : Cond.methodLink RX8 127 iX8_found.1 ∈ lw_g := mg 419 (by decide +kernel) (by decide +kernel)
theorem mX8_133 : Cond.methodLink RX8 133 Lib.Math.min.name ∈ lw_g := mg 423 (by decide +kernel) (by decide +kernel)
theorem mL_49 : Cond.methodLink RL 49 iX8_feast.1 ∈ lw_g := mg 424 (by decide +kernel) (by decide +kernel)
theorem mX8_141 : Cond.methodLink RX8 141 iX5_addFeast.1 ∈ lw_g := mg 428 (by decide +kernel) (by decide +kernel)
theorem mX5_36 : Cond.methodLink RX5 36 iX5_gatherFeasts.1 ∈ lw_g := mg 432 (by decide +kernel) (by decide +kernel)
theorem mL_53 : Cond.methodLink RL 53 iX8_back.1 ∈ lw_g := mg 436 (by decide +kernel) (by decide +kernel)
theorem mX8_147 : Cond.methodLink RX8 147 iX5_dropFeast.1 ∈ lw_g := mg 440 (by decide +kernel) (by decide +kernel)
theorem mL_57 : Cond.methodLink RL 57 iX8_lent.1 ∈ lw_g := mg 444 (by decide +kernel) (by decide +kernel)
theorem mL_61 : Cond.methodLink RL 61 iX8_war.1 ∈ lw_g := mg 448 (by decide +kernel) (by decide +kernel)
theorem mX8_154 : Cond.methodLink RX8 154 iX8_isHour.1 ∈ lw_g := mg 452 (by decide +kernel) (by decide +kernel)
theorem mX8_157 : Cond.methodLink RX8 157 iX5_isWar.1 ∈ lw_g := mg 455 (by decide +kernel) (by decide +kernel)
theorem mX5_44 : Cond.methodLink RX5 44 iX5_isOpenDay.1 ∈ lw_g := mg 459 (by decide +kernel) (by decide +kernel)
theorem mX5_48 : Cond.methodLink RX5 48 iX5_bellOf.1 ∈ lw_g := mg 463 (by decide +kernel) (by decide +kernel)
theorem mL_65 : Cond.methodLink RL 65 iX8_strikes.1 ∈ lw_g := mg 467 (by decide +kernel) (by decide +kernel)
theorem mX8_160 : Cond.methodLink RX8 160 iX8_isKind.1 ∈ lw_g := mg 471 (by decide +kernel) (by decide +kernel)
theorem mL_70 : Cond.methodLink RL 70 iX8_next.1 ∈ lw_g := mg 474 (by decide +kernel) (by decide +kernel)
theorem mL_74 : Cond.methodLink RL 74 iX8_left.1 ∈ lw_g := mg 478 (by decide +kernel) (by decide +kernel)
theorem mX8_163 : Cond.methodLink RX8 163 iX5_warInWeek.1 ∈ lw_g := mg 482 (by decide +kernel) (by decide +kernel)
theorem mX5_51 : Cond.methodLink RX5 51 iX5_warInDay.1 ∈ lw_g := mg 486 (by decide +kernel) (by decide +kernel)
theorem mL_78 : Cond.methodLink RL 78 iX8_best.1 ∈ lw_g := mg 490 (by decide +kernel) (by decide +kernel)
theorem mL_82 : Cond.methodLink RL 82 iX8_unlike.1 ∈ lw_g := mg 494 (by decide +kernel) (by decide +kernel)
theorem mX8_166 : Cond.methodLink RX8 166 iX0_hoursUnlike.1 ∈ lw_g := mg 498 (by decide +kernel) (by decide +kernel)
theorem mX0_15 : Cond.methodLink RX0 15 iX0_at.1 ∈ lw_g := mg 502 (by decide +kernel) (by decide +kernel)
theorem mX0_19 : Cond.methodLink RX0 19 Lib.Math.abs.name ∈ lw_g := mg 506 (by decide +kernel) (by decide +kernel)
theorem mL_86 : Cond.methodLink RL 86 iX8_way.1 ∈ lw_g := mg 509 (by decide +kernel) (by decide +kernel)
theorem mX8_169 : Cond.methodLink RX8 169 iX8_areTwoLands.1 ∈ lw_g := mg 513 (by decide +kernel) (by decide +kernel)
theorem mX8_172 : Cond.methodLink RX8 172 iX6_reaches.1 ∈ lw_g := mg 516 (by decide +kernel) (by decide +kernel)
theorem mX8_175 : Cond.methodLink RX8 175 iX6_shortest.1 ∈ lw_g := mg 520 (by decide +kernel) (by decide +kernel)
theorem mX8_178 : Cond.methodLink RX8 178 iX6_nextLand.1 ∈ lw_g := mg 521 (by decide +kernel) (by decide +kernel)
theorem mX6_70 : Cond.methodLink RX6 70 iX6_across.1 ∈ lw_g := mg 525 (by decide +kernel) (by decide +kernel)
theorem mL_90 : Cond.methodLink RL 90 iX8_raid.1 ∈ lw_g := mg 529 (by decide +kernel) (by decide +kernel)
theorem mX8_181 : Cond.methodLink RX8 181 iX3_firstStart.1 ∈ lw_g := mg 533 (by decide +kernel) (by decide +kernel)
theorem mX3_30 : Cond.methodLink RX3 30 iX6_shortest.1 ∈ lw_g := mg 537 (by decide +kernel) (by decide +kernel)
theorem mX3_36 : Cond.methodLink RX3 36 iX3_goBetween.1 ∈ lw_g := mg 538 (by decide +kernel) (by decide +kernel)
theorem mX3_48 : Cond.methodLink RX3 48 iX6_nextLand.1 ∈ lw_g := mg 542 (by decide +kernel) (by decide +kernel)
theorem mX3_40 : Cond.methodLink RX3 40 iX3_need.1 ∈ lw_g := mg 543 (by decide +kernel) (by decide +kernel)
theorem mX3_44 : Cond.methodLink RX3 44 iX3_isAllowed.1 ∈ lw_g := mg 547 (by decide +kernel) (by decide +kernel)
theorem mX3_51 : Cond.methodLink RX3 51 iX5_isWar.1 ∈ lw_g := mg 551 (by decide +kernel) (by decide +kernel)
theorem mL_94 : Cond.methodLink RL 94 iX8_set.1 ∈ lw_g := mg 552 (by decide +kernel) (by decide +kernel)
theorem mL_98 : Cond.methodLink RL 98 iX8_siege.1 ∈ lw_g := mg 556 (by decide +kernel) (by decide +kernel)
theorem mX8_191 : Cond.methodLink RX8 191 iX8_isSiege.1 ∈ lw_g := mg 560 (by decide +kernel) (by decide +kernel)
theorem mX8_195 : Cond.methodLink RX8 195 iX1_batter.1 ∈ lw_g := mg 563 (by decide +kernel) (by decide +kernel)
theorem mX1_25 : Cond.methodLink RX1 25 iX5_isWar.1 ∈ lw_g := mg 567 (by decide +kernel) (by decide +kernel)
theorem mX1_31 : Cond.methodLink RX1 31 Lib.Math.min.name ∈ lw_g := mg 568 (by decide +kernel) (by decide +kernel)
theorem mL_102 : Cond.methodLink RL 102 iX8_holds.1 ∈ lw_g := mg 569 (by decide +kernel) (by decide +kernel)
theorem mX8_201 : Cond.methodLink RX8 201 iX1_leastMends.1 ∈ lw_g := mg 573 (by decide +kernel) (by decide +kernel)
theorem mX1_37 : Cond.methodLink RX1 37 iX1_batter.1 ∈ lw_g := mg 577 (by decide +kernel) (by decide +kernel)
theorem mL_106 : Cond.methodLink RL 106 iX8_home.1 ∈ lw_g := mg 578 (by decide +kernel) (by decide +kernel)
theorem mX8_204 : Cond.methodLink RX8 204 iX2_seek.1 ∈ lw_g := mg 582 (by decide +kernel) (by decide +kernel)
theorem kX2_45 : Cond.constant RX2 45 (iZ (16777216)) ∈ lw_g := mg 586 (by decide +kernel) (by decide +kernel)
theorem mX2_46 : Cond.methodLink RX2 46 iX2_walk.1 ∈ lw_g := mg 587 (by decide +kernel) (by decide +kernel)
theorem mX2_50 : Cond.methodLink RX2 50 iX2_arrive.1 ∈ lw_g := mg 591 (by decide +kernel) (by decide +kernel)
theorem mX2_78 : Cond.methodLink RX2 78 iX2_isBetter.1 ∈ lw_g := mg 595 (by decide +kernel) (by decide +kernel)
theorem mX2_81 : Cond.methodLink RX2 81 arraycopyName ∈ lw_g := mg 599 (by decide +kernel) (by decide +kernel)
theorem mX2_58 : Cond.methodLink RX2 58 iX6_across.1 ∈ lw_g := mg 602 (by decide +kernel) (by decide +kernel)
theorem mX2_65 : Cond.methodLink RX2 65 iX5_isWar.1 ∈ lw_g := mg 603 (by decide +kernel) (by decide +kernel)
theorem mX2_71 : Cond.methodLink RX2 71 iX2_freeOf.1 ∈ lw_g := mg 604 (by decide +kernel) (by decide +kernel)
theorem mX2_75 : Cond.methodLink RX2 75 iX5_at.1 ∈ lw_g := mg 608 (by decide +kernel) (by decide +kernel)
theorem mX8_208 : Cond.methodLink RX8 208 iX2_above.1 ∈ lw_g := mg 609 (by decide +kernel) (by decide +kernel)
theorem mX2_87 : Cond.methodLink RX2 87 iX2_commonBits.1 ∈ lw_g := mg 613 (by decide +kernel) (by decide +kernel)
theorem mX8_212 : Cond.methodLink RX8 212 iX2_below.1 ∈ lw_g := mg 617 (by decide +kernel) (by decide +kernel)
theorem mX8_218 : Cond.methodLink RX8 218 iX2_landAt.1 ∈ lw_g := mg 621 (by decide +kernel) (by decide +kernel)
theorem mL_110 : Cond.methodLink RL 110 iX8_agree.1 ∈ lw_g := mg 625 (by decide +kernel) (by decide +kernel)
theorem mX8_221 : Cond.methodLink RX8 221 iX0_commonest.1 ∈ lw_g := mg 629 (by decide +kernel) (by decide +kernel)
theorem mX0_28 : Cond.methodLink RX0 28 iX0_likeOnes.1 ∈ lw_g := mg 633 (by decide +kernel) (by decide +kernel)
theorem mX0_25 : Cond.methodLink RX0 25 iX0_hoursUnlike.1 ∈ lw_g := mg 637 (by decide +kernel) (by decide +kernel)
theorem mX0_31 : Cond.methodLink RX0 31 iX0_rank.1 ∈ lw_g := mg 638 (by decide +kernel) (by decide +kernel)
theorem mX8_224 : Cond.methodLink RX8 224 iX0_likeOnes.1 ∈ lw_g := mg 642 (by decide +kernel) (by decide +kernel)
theorem mX8_227 : Cond.methodLink RX8 227 iX0_at.1 ∈ lw_g := mg 643 (by decide +kernel) (by decide +kernel)
theorem mL_114 : Cond.methodLink RL 114 iX8_middle.1 ∈ lw_g := mg 644 (by decide +kernel) (by decide +kernel)
theorem mX8_230 : Cond.methodLink RX8 230 iX0_middleOf.1 ∈ lw_g := mg 648 (by decide +kernel) (by decide +kernel)
theorem mX0_34 : Cond.methodLink RX0 34 iX0_change.1 ∈ lw_g := mg 652 (by decide +kernel) (by decide +kernel)
theorem mX8_233 : Cond.methodLink RX8 233 iX0_change.1 ∈ lw_g := mg 656 (by decide +kernel) (by decide +kernel)
theorem mL_118 : Cond.methodLink RL 118 iX8_seen.1 ∈ lw_g := mg 657 (by decide +kernel) (by decide +kernel)
theorem mX8_236 : Cond.methodLink RX8 236 iX4_keep.1 ∈ lw_g := mg 661 (by decide +kernel) (by decide +kernel)
theorem mL_122 : Cond.methodLink RL 122 iX8_forget.1 ∈ lw_g := mg 665 (by decide +kernel) (by decide +kernel)
theorem mL_126 : Cond.methodLink RL 126 iX8_which.1 ∈ lw_g := mg 669 (by decide +kernel) (by decide +kernel)
theorem mX8_241 : Cond.methodLink RX8 241 iX4_fits.1 ∈ lw_g := mg 673 (by decide +kernel) (by decide +kernel)
theorem mX4_30 : Cond.methodLink RX4 30 iX5_isWar.1 ∈ lw_g := mg 677 (by decide +kernel) (by decide +kernel)
theorem mL_130 : Cond.methodLink RL 130 iX8_season.1 ∈ lw_g := mg 678 (by decide +kernel) (by decide +kernel)
theorem kX8_244 : Cond.constant RX8 244 (iZ (1103515245)) ∈ lw_g := mg 682 (by decide +kernel) (by decide +kernel)
theorem mX8_245 : Cond.methodLink RX8 245 iX5_warInDay.1 ∈ lw_g := mg 683 (by decide +kernel) (by decide +kernel)
theorem mL_134 : Cond.methodLink RL 134 iX8_sheet.1 ∈ lw_g := mg 684 (by decide +kernel) (by decide +kernel)
theorem mX8_248 : Cond.methodLink RX8 248 iX8_isForm.1 ∈ lw_g := mg 688 (by decide +kernel) (by decide +kernel)
theorem mX8_251 : Cond.methodLink RX8 251 iX7_renew.1 ∈ lw_g := mg 691 (by decide +kernel) (by decide +kernel)
theorem mX7_26 : Cond.methodLink RX7 26 iJ7_fill_53178.1 ∈ lw_g := mg 695 (by decide +kernel) (by decide +kernel)
theorem mL_138 : Cond.methodLink RL 138 iX8_lose.1 ∈ lw_g := mg 696 (by decide +kernel) (by decide +kernel)
theorem mL_142 : Cond.methodLink RL 142 iX8_lay.1 ∈ lw_g := mg 700 (by decide +kernel) (by decide +kernel)
theorem mX8_255 : Cond.methodLink RX8 255 iX8_wrongItem.1 ∈ lw_g := mg 704 (by decide +kernel) (by decide +kernel)
theorem mX8_258 : Cond.methodLink RX8 258 iX7_put.1 ∈ lw_g := mg 708 (by decide +kernel) (by decide +kernel)
theorem mL_146 : Cond.methodLink RL 146 iX8_get.1 ∈ lw_g := mg 712 (by decide +kernel) (by decide +kernel)
theorem kX8_260 : Cond.constant RX8 260 (iZ (-2147483648)) ∈ lw_g := mg 716 (by decide +kernel) (by decide +kernel)
theorem mL_150 : Cond.methodLink RL 150 iX8_copy.1 ∈ lw_g := mg 717 (by decide +kernel) (by decide +kernel)
theorem mX8_264 : Cond.methodLink RX8 264 iX7_holdsRun.1 ∈ lw_g := mg 721 (by decide +kernel) (by decide +kernel)
theorem mX8_267 : Cond.methodLink RX8 267 arraycopyName ∈ lw_g := mg 725 (by decide +kernel) (by decide +kernel)
theorem mL_155 : Cond.methodLink RL 155 iX8_write.1 ∈ lw_g := mg 726 (by decide +kernel) (by decide +kernel)
theorem mL_159 : Cond.methodLink RL 159 iX8_count.1 ∈ lw_g := mg 730 (by decide +kernel) (by decide +kernel)
theorem mX8_273 : Cond.methodLink RX8 273 iX5_swornLands.1 ∈ lw_g := mg 734 (by decide +kernel) (by decide +kernel)
theorem mX8_276 : Cond.methodLink RX8 276 iX6_allHours.1 ∈ lw_g := mg 738 (by decide +kernel) (by decide +kernel)
theorem mL_163 : Cond.methodLink RL 163 iX8_digest.1 ∈ lw_g := mg 742 (by decide +kernel) (by decide +kernel)
theorem kX8_279 : Cond.constantLong RX8 279 (lZ (17)) ∈ lw_g := mg 746 (by decide +kernel) (by decide +kernel)
theorem kX8_281 : Cond.constantLong RX8 281 (lZ (31)) ∈ lw_g := mg 747 (by decide +kernel) (by decide +kernel)
theorem mX8_283 : Cond.methodLink RX8 283 iX8_count.1 ∈ lw_g := mg 748 (by decide +kernel) (by decide +kernel)
theorem mX8_286 : Cond.methodLink RX8 286 iX8_fault.1 ∈ lw_g := mg 749 (by decide +kernel) (by decide +kernel)
theorem mX8_289 : Cond.methodLink RX8 289 iX8_digestOfRoads.1 ∈ lw_g := mg 750 (by decide +kernel) (by decide +kernel)
theorem mX8_305 : Cond.methodLink RX8 305 iX8_road.1 ∈ lw_g := mg 754 (by decide +kernel) (by decide +kernel)
theorem mX8_293 : Cond.methodLink RX8 293 iX8_digestOfLands.1 ∈ lw_g := mg 755 (by decide +kernel) (by decide +kernel)
theorem mX8_308 : Cond.methodLink RX8 308 iX8_left.1 ∈ lw_g := mg 759 (by decide +kernel) (by decide +kernel)
theorem mX8_311 : Cond.methodLink RX8 311 iX8_best.1 ∈ lw_g := mg 760 (by decide +kernel) (by decide +kernel)
theorem mX8_314 : Cond.methodLink RX8 314 iX8_next.1 ∈ lw_g := mg 761 (by decide +kernel) (by decide +kernel)
theorem mX8_317 : Cond.methodLink RX8 317 iX8_siege.1 ∈ lw_g := mg 762 (by decide +kernel) (by decide +kernel)
theorem mX8_320 : Cond.methodLink RX8 320 iX8_holds.1 ∈ lw_g := mg 763 (by decide +kernel) (by decide +kernel)
theorem mX8_323 : Cond.methodLink RX8 323 iX8_season.1 ∈ lw_g := mg 764 (by decide +kernel) (by decide +kernel)
theorem mX8_296 : Cond.methodLink RX8 296 iX8_digestOfJourneys.1 ∈ lw_g := mg 765 (by decide +kernel) (by decide +kernel)
theorem mX8_326 : Cond.methodLink RX8 326 iX8_way.1 ∈ lw_g := mg 769 (by decide +kernel) (by decide +kernel)
theorem mX8_329 : Cond.methodLink RX8 329 iX8_raid.1 ∈ lw_g := mg 770 (by decide +kernel) (by decide +kernel)
theorem mX8_332 : Cond.methodLink RX8 332 iX8_home.1 ∈ lw_g := mg 771 (by decide +kernel) (by decide +kernel)
theorem mX8_299 : Cond.methodLink RX8 299 iX8_digestOfKinds.1 ∈ lw_g := mg 772 (by decide +kernel) (by decide +kernel)
theorem mX8_335 : Cond.methodLink RX8 335 iX8_strikes.1 ∈ lw_g := mg 776 (by decide +kernel) (by decide +kernel)
theorem mX8_302 : Cond.methodLink RX8 302 iX8_digestOfParishes.1 ∈ lw_g := mg 777 (by decide +kernel) (by decide +kernel)
theorem mX8_338 : Cond.methodLink RX8 338 iX8_unlike.1 ∈ lw_g := mg 781 (by decide +kernel) (by decide +kernel)
theorem mX8_341 : Cond.methodLink RX8 341 iX8_agree.1 ∈ lw_g := mg 782 (by decide +kernel) (by decide +kernel)
theorem mX8_344 : Cond.methodLink RX8 344 iX8_middle.1 ∈ lw_g := mg 783 (by decide +kernel) (by decide +kernel)
theorem mX8_347 : Cond.methodLink RX8 347 iX8_which.1 ∈ lw_g := mg 784 (by decide +kernel) (by decide +kernel)
theorem qL_10 : Cond.classLink RL 10 RX9 ∈ lw_g := mg 785 (by decide +kernel) (by decide +kernel)
theorem mL_12 : Cond.methodLink RL 12 iX9_init.1 ∈ lw_g := mg 787 (by decide +kernel) (by decide +kernel)
theorem mX9_1 : Cond.methodLink RX9 1 objectInit ∈ lw_g := mg 790 (by decide +kernel) (by decide +kernel)
theorem fX9_7 : LF RX9 7 9 0 true (.array .int) := ⟨RX9, TX9, 29, rfl, by decide, mg 791 (by decide +kernel) (by decide +kernel), rfl, by decide +kernel, rfl⟩
theorem fX9_13 : LF RX9 13 9 1 true (.array .int) := ⟨RX9, TX9, 29, rfl, by decide, mg 792 (by decide +kernel) (by decide +kernel), rfl, by decide +kernel, rfl⟩
theorem fX9_16 : LF RX9 16 9 2 true (.array .int) := ⟨RX9, TX9, 29, rfl, by decide, mg 793 (by decide +kernel) (by decide +kernel), rfl, by decide +kernel, rfl⟩
theorem fX9_19 : LF RX9 19 9 3 true (.array .int) := ⟨RX9, TX9, 29, rfl, by decide, mg 794 (by decide +kernel) (by decide +kernel), rfl, by decide +kernel, rfl⟩
theorem fX9_69 : LF RX9 69 9 4 false .int := ⟨RX9, TX9, 29, rfl, by decide, mg 795 (by decide +kernel) (by decide +kernel), rfl, by decide +kernel, rfl⟩
theorem fX9_22 : LF RX9 22 9 5 true (.array .int) := ⟨RX9, TX9, 29, rfl, by decide, mg 796 (by decide +kernel) (by decide +kernel), rfl, by decide +kernel, rfl⟩
theorem fX9_95 : LF RX9 95 9 6 false .int := ⟨RX9, TX9, 29, rfl, by decide, mg 797 (by decide +kernel) (by decide +kernel), rfl, by decide +kernel, rfl⟩
theorem fX9_109 : LF RX9 109 9 7 false .int := ⟨RX9, TX9, 29, rfl, by decide, mg 798 (by decide +kernel) (by decide +kernel), rfl, by decide +kernel, rfl⟩
theorem fX9_106 : LF RX9 106 9 8 false .int := ⟨RX9, TX9, 29, rfl, by decide, mg 799 (by decide +kernel) (by decide +kernel), rfl, by decide +kernel, rfl⟩
theorem fX9_25 : LF RX9 25 9 9 true (.array .int) := ⟨RX9, TX9, 29, rfl, by decide, mg 800 (by decide +kernel) (by decide +kernel), rfl, by decide +kernel, rfl⟩
theorem fX9_28 : LF RX9 28 9 10 true (.array .int) := ⟨RX9, TX9, 29, rfl, by decide, mg 801 (by decide +kernel) (by decide +kernel), rfl, by decide +kernel, rfl⟩
theorem fX9_31 : LF RX9 31 9 11 true (.array .int) := ⟨RX9, TX9, 29, rfl, by decide, mg 802 (by decide +kernel) (by decide +kernel), rfl, by decide +kernel, rfl⟩
theorem fX9_148 : LF RX9 148 9 12 false .int := ⟨RX9, TX9, 29, rfl, by decide, mg 803 (by decide +kernel) (by decide +kernel), rfl, by decide +kernel, rfl⟩
theorem fX9_34 : LF RX9 34 9 13 true (.array .int) := ⟨RX9, TX9, 29, rfl, by decide, mg 804 (by decide +kernel) (by decide +kernel), rfl, by decide +kernel, rfl⟩
theorem fX9_153 : LF RX9 153 9 14 false .int := ⟨RX9, TX9, 29, rfl, by decide, mg 805 (by decide +kernel) (by decide +kernel), rfl, by decide +kernel, rfl⟩
theorem fX9_37 : LF RX9 37 9 15 true (.array .int) := ⟨RX9, TX9, 29, rfl, by decide, mg 806 (by decide +kernel) (by decide +kernel), rfl, by decide +kernel, rfl⟩
theorem fX9_40 : LF RX9 40 9 16 true (.array .int) := ⟨RX9, TX9, 29, rfl, by decide, mg 807 (by decide +kernel) (by decide +kernel), rfl, by decide +kernel, rfl⟩
theorem fX9_219 : LF RX9 219 9 17 false .int := ⟨RX9, TX9, 29, rfl, by decide, mg 808 (by decide +kernel) (by decide +kernel), rfl, by decide +kernel, rfl⟩
theorem fX9_43 : LF RX9 43 9 18 true (.array .int) := ⟨RX9, TX9, 29, rfl, by decide, mg 809 (by decide +kernel) (by decide +kernel), rfl, by decide +kernel, rfl⟩
theorem fX9_46 : LF RX9 46 9 19 true (.array .int) := ⟨RX9, TX9, 29, rfl, by decide, mg 810 (by decide +kernel) (by decide +kernel), rfl, by decide +kernel, rfl⟩
theorem fX9_49 : LF RX9 49 9 20 true (.array .int) := ⟨RX9, TX9, 29, rfl, by decide, mg 811 (by decide +kernel) (by decide +kernel), rfl, by decide +kernel, rfl⟩
theorem fX9_52 : LF RX9 52 9 21 true (.array .int) := ⟨RX9, TX9, 29, rfl, by decide, mg 812 (by decide +kernel) (by decide +kernel), rfl, by decide +kernel, rfl⟩
theorem fX9_233 : LF RX9 233 9 22 false .int := ⟨RX9, TX9, 29, rfl, by decide, mg 813 (by decide +kernel) (by decide +kernel), rfl, by decide +kernel, rfl⟩
theorem fX9_236 : LF RX9 236 9 23 false .int := ⟨RX9, TX9, 29, rfl, by decide, mg 814 (by decide +kernel) (by decide +kernel), rfl, by decide +kernel, rfl⟩
theorem fX9_239 : LF RX9 239 9 24 false .int := ⟨RX9, TX9, 29, rfl, by decide, mg 815 (by decide +kernel) (by decide +kernel), rfl, by decide +kernel, rfl⟩
theorem fX9_55 : LF RX9 55 9 25 true (.array .int) := ⟨RX9, TX9, 29, rfl, by decide, mg 816 (by decide +kernel) (by decide +kernel), rfl, by decide +kernel, rfl⟩
theorem fX9_285 : LF RX9 285 9 26 false .int := ⟨RX9, TX9, 29, rfl, by decide, mg 817 (by decide +kernel) (by decide +kernel), rfl, by decide +kernel, rfl⟩
theorem fX9_58 : LF RX9 58 9 27 true (.array .int) := ⟨RX9, TX9, 29, rfl, by decide, mg 818 (by decide +kernel) (by decide +kernel), rfl, by decide +kernel, rfl⟩
theorem fX9_61 : LF RX9 61 9 28 false .int := ⟨RX9, TX9, 29, rfl, by decide, mg 819 (by decide +kernel) (by decide +kernel), rfl, by decide +kernel, rfl⟩
theorem mL_137 : Cond.methodLink RL 137 iX9_sheet.1 ∈ lw_g := mg 879 (by decide +kernel) (by decide +kernel)
theorem mX9_74 : Cond.methodLink RX9 74 iX9_isSheet.1 ∈ lw_g := mg 883 (by decide +kernel) (by decide +kernel)
theorem kX9_72 : Cond.constantLong RX9 72 (lZ (3)) ∈ lw_g := mg 886 (by decide +kernel) (by decide +kernel)
theorem mX9_65 : Cond.methodLink RX9 65 iX9_in.1 ∈ lw_g := mg 887 (by decide +kernel) (by decide +kernel)
theorem kX9_78 : Cond.constantLong RX9 78 (lZ (2)) ∈ lw_g := mg 890 (by decide +kernel) (by decide +kernel)
theorem mX9_80 : Cond.methodLink RX9 80 iX9_finds.1 ∈ lw_g := mg 891 (by decide +kernel) (by decide +kernel)
theorem mL_141 : Cond.methodLink RL 141 iX9_lose.1 ∈ lw_g := mg 895 (by decide +kernel) (by decide +kernel)
theorem mL_145 : Cond.methodLink RL 145 iX9_lay.1 ∈ lw_g := mg 899 (by decide +kernel) (by decide +kernel)
theorem mX9_84 : Cond.methodLink RX9 84 iX9_lacks.1 ∈ lw_g := mg 903 (by decide +kernel) (by decide +kernel)
theorem mX9_88 : Cond.methodLink RX9 88 iX9_cut.1 ∈ lw_g := mg 907 (by decide +kernel) (by decide +kernel)
theorem mL_149 : Cond.methodLink RL 149 iX9_get.1 ∈ lw_g := mg 910 (by decide +kernel) (by decide +kernel)
theorem kX9_92 : Cond.constant RX9 92 (iZ (-2147483648)) ∈ lw_g := mg 914 (by decide +kernel) (by decide +kernel)
theorem mL_154 : Cond.methodLink RL 154 iX9_copy.1 ∈ lw_g := mg 915 (by decide +kernel) (by decide +kernel)
theorem mL_17 : Cond.methodLink RL 17 iX9_type.1 ∈ lw_g := mg 919 (by decide +kernel) (by decide +kernel)
theorem kX9_93 : Cond.constantLong RX9 93 (lZ (255)) ∈ lw_g := mg 923 (by decide +kernel) (by decide +kernel)
theorem mL_22 : Cond.methodLink RL 22 iX9_wipe.1 ∈ lw_g := mg 924 (by decide +kernel) (by decide +kernel)
theorem mL_26 : Cond.methodLink RL 26 iX9_undo.1 ∈ lw_g := mg 928 (by decide +kernel) (by decide +kernel)
theorem mL_30 : Cond.methodLink RL 30 iX9_fault.1 ∈ lw_g := mg 932 (by decide +kernel) (by decide +kernel)
theorem mX9_119 : Cond.methodLink RX9 119 iX9_reads.1 ∈ lw_g := mg 936 (by decide +kernel) (by decide +kernel)
theorem mX9_115 : Cond.methodLink RX9 115 iX9_readsRoad.1 ∈ lw_g := mg 940 (by decide +kernel) (by decide +kernel)
theorem mX9_112 : Cond.methodLink RX9 112 iX9_tellsOf.1 ∈ lw_g := mg 944 (by decide +kernel) (by decide +kernel)
theorem kX9_98 : Cond.constantLong RX9 98 (lZ (49)) ∈ lw_g := mg 948 (by decide +kernel) (by decide +kernel)
theorem kX9_100 : Cond.constantLong RX9 100 (lZ (57)) ∈ lw_g := mg 949 (by decide +kernel) (by decide +kernel)
theorem kX9_102 : Cond.constantLong RX9 102 (lZ (97)) ∈ lw_g := mg 950 (by decide +kernel) (by decide +kernel)
theorem kX9_104 : Cond.constantLong RX9 104 (lZ (104)) ∈ lw_g := mg 951 (by decide +kernel) (by decide +kernel)
theorem mL_35 : Cond.methodLink RL 35 iX9_road.1 ∈ lw_g := mg 952 (by decide +kernel) (by decide +kernel)
theorem mL_40 : Cond.methodLink RL 40 iX9_land.1 ∈ lw_g := mg 956 (by decide +kernel) (by decide +kernel)
theorem mX9_127 : Cond.methodLink RX9 127 iX9_isLand.1 ∈ lw_g := mg 960 (by decide +kernel) (by decide +kernel)
theorem kX9_123 : Cond.constantLong RX9 123 (lZ (7)) ∈ lw_g := mg 963 (by decide +kernel) (by decide +kernel)
theorem kX9_130 : Cond.constantLong RX9 130 (lZ (16)) ∈ lw_g := mg 964 (by decide +kernel) (by decide +kernel)
theorem mL_44 : Cond.methodLink RL 44 iX9_bell.1 ∈ lw_g := mg 965 (by decide +kernel) (by decide +kernel)
theorem mX9_132 : Cond.methodLink RX9 132 iX9_isParish.1 ∈ lw_g := mg 969 (by decide +kernel) (by decide +kernel)
theorem mX9_135 : Cond.methodLink RX9 135 iX9_isTwo.1 ∈ lw_g := mg 972 (by decide +kernel) (by decide +kernel)
theorem kX9_138 : Cond.constantLong RX9 138 (lZ (23)) ∈ lw_g := mg 975 (by decide +kernel) (by decide +kernel)
theorem mL_48 : Cond.methodLink RL 48 iX9_read.1 ∈ lw_g := mg 976 (by decide +kernel) (by decide +kernel)
theorem mX9_140 : Cond.methodLink RX9 140 iX9_lesser.1 ∈ lw_g := mg 980 (by decide +kernel) (by decide +kernel)
theorem mX9_143 : Cond.methodLink RX9 143 iX9_bell.1 ∈ lw_g := mg 983 (by decide +kernel) (by decide +kernel)
theorem mL_52 : Cond.methodLink RL 52 iX9_feast.1 ∈ lw_g := mg 984 (by decide +kernel) (by decide +kernel)
theorem kX9_146 : Cond.constantLong RX9 146 (lZ (27)) ∈ lw_g := mg 988 (by decide +kernel) (by decide +kernel)
theorem mL_56 : Cond.methodLink RL 56 iX9_back.1 ∈ lw_g := mg 989 (by decide +kernel) (by decide +kernel)
theorem mL_60 : Cond.methodLink RL 60 iX9_lent.1 ∈ lw_g := mg 993 (by decide +kernel) (by decide +kernel)
theorem kX9_151 : Cond.constantLong RX9 151 (lZ (15)) ∈ lw_g := mg 997 (by decide +kernel) (by decide +kernel)
theorem mL_64 : Cond.methodLink RL 64 iX9_war.1 ∈ lw_g := mg 998 (by decide +kernel) (by decide +kernel)
theorem mX9_166 : Cond.methodLink RX9 166 iX9_isHour.1 ∈ lw_g := mg 1002 (by decide +kernel) (by decide +kernel)
theorem kX9_125 : Cond.constantLong RX9 125 (lZ (671)) ∈ lw_g := mg 1005 (by decide +kernel) (by decide +kernel)
theorem mX9_169 : Cond.methodLink RX9 169 iX9_isWar.1 ∈ lw_g := mg 1006 (by decide +kernel) (by decide +kernel)
theorem mX9_156 : Cond.methodLink RX9 156 iX9_isIn.1 ∈ lw_g := mg 1010 (by decide +kernel) (by decide +kernel)
theorem mX9_160 : Cond.methodLink RX9 160 iX9_isWarBy.1 ∈ lw_g := mg 1013 (by decide +kernel) (by decide +kernel)
theorem mX9_163 : Cond.methodLink RX9 163 iX9_isFeast.1 ∈ lw_g := mg 1017 (by decide +kernel) (by decide +kernel)
theorem mL_69 : Cond.methodLink RL 69 iX9_strikes.1 ∈ lw_g := mg 1021 (by decide +kernel) (by decide +kernel)
theorem mX9_172 : Cond.methodLink RX9 172 iX9_strikesNow.1 ∈ lw_g := mg 1025 (by decide +kernel) (by decide +kernel)
theorem mL_73 : Cond.methodLink RL 73 iX9_next.1 ∈ lw_g := mg 1029 (by decide +kernel) (by decide +kernel)
theorem mX9_176 : Cond.methodLink RX9 176 iX9_nextOf.1 ∈ lw_g := mg 1033 (by decide +kernel) (by decide +kernel)
theorem mL_77 : Cond.methodLink RL 77 iX9_left.1 ∈ lw_g := mg 1037 (by decide +kernel) (by decide +kernel)
theorem mX9_179 : Cond.methodLink RX9 179 iX9_leftIn.1 ∈ lw_g := mg 1041 (by decide +kernel) (by decide +kernel)
theorem mL_81 : Cond.methodLink RL 81 iX9_best.1 ∈ lw_g := mg 1045 (by decide +kernel) (by decide +kernel)
theorem mX9_182 : Cond.methodLink RX9 182 iX9_bestOf.1 ∈ lw_g := mg 1049 (by decide +kernel) (by decide +kernel)
theorem mL_85 : Cond.methodLink RL 85 iX9_unlike.1 ∈ lw_g := mg 1053 (by decide +kernel) (by decide +kernel)
theorem mX9_185 : Cond.methodLink RX9 185 iX9_unlikeOf.1 ∈ lw_g := mg 1057 (by decide +kernel) (by decide +kernel)
theorem mL_89 : Cond.methodLink RL 89 iX9_way.1 ∈ lw_g := mg 1061 (by decide +kernel) (by decide +kernel)
theorem mX9_198 : Cond.methodLink RX9 198 iX9_areTwo.1 ∈ lw_g := mg 1065 (by decide +kernel) (by decide +kernel)
theorem mX9_201 : Cond.methodLink RX9 201 iX9_wayOf.1 ∈ lw_g := mg 1068 (by decide +kernel) (by decide +kernel)
theorem mX9_191 : Cond.methodLink RX9 191 iX9_findFar.1 ∈ lw_g := mg 1072 (by decide +kernel) (by decide +kernel)
theorem mX9_195 : Cond.methodLink RX9 195 iX9_nextLand.1 ∈ lw_g := mg 1076 (by decide +kernel) (by decide +kernel)
theorem mX9_188 : Cond.methodLink RX9 188 iX9_hoursOf.1 ∈ lw_g := mg 1080 (by decide +kernel) (by decide +kernel)
theorem mL_93 : Cond.methodLink RL 93 iX9_raid.1 ∈ lw_g := mg 1084 (by decide +kernel) (by decide +kernel)
theorem kX9_211 : Cond.constantLong RX9 211 (lZ (9)) ∈ lw_g := mg 1088 (by decide +kernel) (by decide +kernel)
theorem mX9_213 : Cond.methodLink RX9 213 iX9_raidOf.1 ∈ lw_g := mg 1089 (by decide +kernel) (by decide +kernel)
theorem mX9_208 : Cond.methodLink RX9 208 iX9_isRaid.1 ∈ lw_g := mg 1093 (by decide +kernel) (by decide +kernel)
theorem mX9_204 : Cond.methodLink RX9 204 iX9_goes.1 ∈ lw_g := mg 1097 (by decide +kernel) (by decide +kernel)
theorem mL_97 : Cond.methodLink RL 97 iX9_set.1 ∈ lw_g := mg 1101 (by decide +kernel) (by decide +kernel)
theorem kX9_217 : Cond.constantLong RX9 217 (lZ (99)) ∈ lw_g := mg 1105 (by decide +kernel) (by decide +kernel)
theorem mL_101 : Cond.methodLink RL 101 iX9_siege.1 ∈ lw_g := mg 1106 (by decide +kernel) (by decide +kernel)
theorem kX9_225 : Cond.constantLong RX9 225 (lZ (999)) ∈ lw_g := mg 1110 (by decide +kernel) (by decide +kernel)
theorem mX9_227 : Cond.methodLink RX9 227 iX9_siegeOf.1 ∈ lw_g := mg 1111 (by decide +kernel) (by decide +kernel)
theorem mX9_222 : Cond.methodLink RX9 222 iX9_falls.1 ∈ lw_g := mg 1115 (by decide +kernel) (by decide +kernel)
theorem mL_105 : Cond.methodLink RL 105 iX9_holds.1 ∈ lw_g := mg 1119 (by decide +kernel) (by decide +kernel)
theorem mX9_230 : Cond.methodLink RX9 230 iX9_holdsBy.1 ∈ lw_g := mg 1123 (by decide +kernel) (by decide +kernel)
theorem mL_109 : Cond.methodLink RL 109 iX9_home.1 ∈ lw_g := mg 1127 (by decide +kernel) (by decide +kernel)
theorem kX9_258 : Cond.constantLong RX9 258 (lZ (-4)) ∈ lw_g := mg 1131 (by decide +kernel) (by decide +kernel)
theorem mX9_260 : Cond.methodLink RX9 260 iX9_findHome.1 ∈ lw_g := mg 1132 (by decide +kernel) (by decide +kernel)
theorem kX9_245 : Cond.constant RX9 245 (iZ (268435456)) ∈ lw_g := mg 1136 (by decide +kernel) (by decide +kernel)
theorem mX9_246 : Cond.methodLink RX9 246 iX9_otherEnd.1 ∈ lw_g := mg 1137 (by decide +kernel) (by decide +kernel)
theorem mX9_249 : Cond.methodLink RX9 249 iX9_wasAt.1 ∈ lw_g := mg 1141 (by decide +kernel) (by decide +kernel)
theorem mX9_252 : Cond.methodLink RX9 252 iX9_comes.1 ∈ lw_g := mg 1145 (by decide +kernel) (by decide +kernel)
theorem mX9_242 : Cond.methodLink RX9 242 iX9_isLess.1 ∈ lw_g := mg 1149 (by decide +kernel) (by decide +kernel)
theorem mX9_264 : Cond.methodLink RX9 264 iX9_tellsHome.1 ∈ lw_g := mg 1153 (by decide +kernel) (by decide +kernel)
theorem mX9_255 : Cond.methodLink RX9 255 iX9_common.1 ∈ lw_g := mg 1157 (by decide +kernel) (by decide +kernel)
theorem mL_113 : Cond.methodLink RL 113 iX9_agree.1 ∈ lw_g := mg 1160 (by decide +kernel) (by decide +kernel)
theorem mX9_270 : Cond.methodLink RX9 270 iX9_agreeOf.1 ∈ lw_g := mg 1164 (by decide +kernel) (by decide +kernel)
theorem mX9_267 : Cond.methodLink RX9 267 iX9_pairOf.1 ∈ lw_g := mg 1168 (by decide +kernel) (by decide +kernel)
theorem mL_117 : Cond.methodLink RL 117 iX9_middle.1 ∈ lw_g := mg 1172 (by decide +kernel) (by decide +kernel)
theorem mX9_282 : Cond.methodLink RX9 282 iX9_middleOf.1 ∈ lw_g := mg 1176 (by decide +kernel) (by decide +kernel)
theorem mX9_279 : Cond.methodLink RX9 279 iX9_middleBell.1 ∈ lw_g := mg 1180 (by decide +kernel) (by decide +kernel)
theorem mX9_276 : Cond.methodLink RX9 276 iX9_changesBy.1 ∈ lw_g := mg 1184 (by decide +kernel) (by decide +kernel)
theorem mX9_273 : Cond.methodLink RX9 273 iX9_amount.1 ∈ lw_g := mg 1188 (by decide +kernel) (by decide +kernel)
theorem mL_121 : Cond.methodLink RL 121 iX9_seen.1 ∈ lw_g := mg 1191 (by decide +kernel) (by decide +kernel)
theorem mL_125 : Cond.methodLink RL 125 iX9_forget.1 ∈ lw_g := mg 1195 (by decide +kernel) (by decide +kernel)
theorem mL_129 : Cond.methodLink RL 129 iX9_which.1 ∈ lw_g := mg 1199 (by decide +kernel) (by decide +kernel)
theorem mX9_288 : Cond.methodLink RX9 288 iX9_whichNow.1 ∈ lw_g := mg 1203 (by decide +kernel) (by decide +kernel)
theorem mL_133 : Cond.methodLink RL 133 iX9_season.1 ∈ lw_g := mg 1207 (by decide +kernel) (by decide +kernel)
theorem mX9_292 : Cond.methodLink RX9 292 iX9_seasonOf.1 ∈ lw_g := mg 1211 (by decide +kernel) (by decide +kernel)
theorem kX9_291 : Cond.constant RX9 291 (iZ (1103515245)) ∈ lw_g := mg 1215 (by decide +kernel) (by decide +kernel)
theorem mL_158 : Cond.methodLink RL 158 iX9_write.1 ∈ lw_g := mg 1216 (by decide +kernel) (by decide +kernel)
theorem mL_162 : Cond.methodLink RL 162 iX9_count.1 ∈ lw_g := mg 1220 (by decide +kernel) (by decide +kernel)
theorem mL_167 : Cond.methodLink RL 167 iX9_digest.1 ∈ lw_g := mg 1224 (by decide +kernel) (by decide +kernel)
theorem kX9_297 : Cond.constantLong RX9 297 (lZ (17)) ∈ lw_g := mg 1228 (by decide +kernel) (by decide +kernel)
theorem kX9_295 : Cond.constantLong RX9 295 (lZ (31)) ∈ lw_g := mg 1229 (by decide +kernel) (by decide +kernel)
theorem mX9_299 : Cond.methodLink RX9 299 iX9_count.1 ∈ lw_g := mg 1230 (by decide +kernel) (by decide +kernel)
theorem mX9_302 : Cond.methodLink RX9 302 iX9_tellsLand.1 ∈ lw_g := mg 1231 (by decide +kernel) (by decide +kernel)
theorem mX9_306 : Cond.methodLink RX9 306 iX9_tellsWays.1 ∈ lw_g := mg 1235 (by decide +kernel) (by decide +kernel)
theorem inLi : Cond.initialized RL ∈ lw_g := mg 62 (by decide +kernel) (by decide +kernel)
theorem inX8i : Cond.initialized RX8 ∈ lw_g := mg 63 (by decide +kernel) (by decide +kernel)
theorem inX6i : Cond.initialized RX6 ∈ lw_g := mg 64 (by decide +kernel) (by decide +kernel)
theorem inJ7i : Cond.initialized RJ7 ∈ lw_g := mg 65 (by decide +kernel) (by decide +kernel)
theorem inX0i : Cond.initialized RX0 ∈ lw_g := mg 66 (by decide +kernel) (by decide +kernel)
theorem inX5i : Cond.initialized RX5 ∈ lw_g := mg 67 (by decide +kernel) (by decide +kernel)
theorem inX3i : Cond.initialized RX3 ∈ lw_g := mg 68 (by decide +kernel) (by decide +kernel)
theorem inX1i : Cond.initialized RX1 ∈ lw_g := mg 69 (by decide +kernel) (by decide +kernel)
theorem inX2i : Cond.initialized RX2 ∈ lw_g := mg 70 (by decide +kernel) (by decide +kernel)
theorem inX4i : Cond.initialized RX4 ∈ lw_g := mg 71 (by decide +kernel) (by decide +kernel)
theorem inX7i : Cond.initialized RX7 ∈ lw_g := mg 72 (by decide +kernel) (by decide +kernel)
theorem inX9i : Cond.initialized RX9 ∈ lw_g := mg 73 (by decide +kernel) (by decide +kernel)
theorem inJ9i : Cond.initialized RJ9 ∈ lw_g := mg 74 (by decide +kernel) (by decide +kernel)
theorem inJ10i : Cond.initialized RJ10 ∈ lw_g := mg 75 (by decide +kernel) (by decide +kernel)
theorem inX8s : Cond.instantiable RX8 9 ∈ lw_g := mg 77 (by decide +kernel) (by decide +kernel)
theorem inX6s : Cond.instantiable RX6 8 ∈ lw_g := mg 85 (by decide +kernel) (by decide +kernel)
theorem inX0s : Cond.instantiable RX0 1 ∈ lw_g := mg 126 (by decide +kernel) (by decide +kernel)
theorem inX5s : Cond.instantiable RX5 6 ∈ lw_g := mg 137 (by decide +kernel) (by decide +kernel)
theorem inX3s : Cond.instantiable RX3 5 ∈ lw_g := mg 164 (by decide +kernel) (by decide +kernel)
theorem inX1s : Cond.instantiable RX1 4 ∈ lw_g := mg 186 (by decide +kernel) (by decide +kernel)
theorem inX2s : Cond.instantiable RX2 10 ∈ lw_g := mg 208 (by decide +kernel) (by decide +kernel)
theorem inX4s : Cond.instantiable RX4 5 ∈ lw_g := mg 246 (by decide +kernel) (by decide +kernel)
theorem inX7s : Cond.instantiable RX7 4 ∈ lw_g := mg 271 (by decide +kernel) (by decide +kernel)
theorem inX9s : Cond.instantiable RX9 29 ∈ lw_g := mg 786 (by decide +kernel) (by decide +kernel)
theorem hX0_init : CN iX0_init 0 := ⟨mg 128 (by decide +kernel) (by decide +kernel), inX0i, mg 129 (by decide +kernel) (by decide +kernel), rfl, rfl, ⟨by decide +kernel, by decide +kernel, by decide +kernel⟩, by decide +kernel⟩
theorem hX0_at : CV iX0_at 2 0 := ⟨mg 503 (by decide +kernel) (by decide +kernel), mg 504 (by decide +kernel) (by decide +kernel), inX0i, mg 505 (by decide +kernel) (by decide +kernel), ⟨by decide +kernel, by decide +kernel, by decide +kernel⟩, ⟨TX0, 1, rfl⟩, by decide +kernel⟩
theorem hX0_put : CV iX0_put 2 0 := ⟨mg 409 (by decide +kernel) (by decide +kernel), mg 410 (by decide +kernel) (by decide +kernel), inX0i, mg 411 (by decide +kernel) (by decide +kernel), ⟨by decide +kernel, by decide +kernel, by decide +kernel⟩, ⟨TX0, 1, rfl⟩, by decide +kernel⟩
theorem hX0_hoursUnlike : CV iX0_hoursUnlike 2 0 := ⟨mg 499 (by decide +kernel) (by decide +kernel), mg 500 (by decide +kernel) (by decide +kernel), inX0i, mg 501 (by decide +kernel) (by decide +kernel), ⟨by decide +kernel, by decide +kernel, by decide +kernel⟩, ⟨TX0, 1, rfl⟩, by decide +kernel⟩
theorem hX0_likeOnes : CV iX0_likeOnes 1 0 := ⟨mg 634 (by decide +kernel) (by decide +kernel), mg 635 (by decide +kernel) (by decide +kernel), inX0i, mg 636 (by decide +kernel) (by decide +kernel), ⟨by decide +kernel, by decide +kernel, by decide +kernel⟩, ⟨TX0, 1, rfl⟩, by decide +kernel⟩
theorem hX0_commonest : CV iX0_commonest 0 0 := ⟨mg 630 (by decide +kernel) (by decide +kernel), mg 631 (by decide +kernel) (by decide +kernel), inX0i, mg 632 (by decide +kernel) (by decide +kernel), ⟨by decide +kernel, by decide +kernel, by decide +kernel⟩, ⟨TX0, 1, rfl⟩, by decide +kernel⟩
theorem hX0_rank : CV iX0_rank 1 0 := ⟨mg 640 (by decide +kernel) (by decide +kernel), mg 17 (by decide +kernel) (by decide +kernel), inX0i, mg 641 (by decide +kernel) (by decide +kernel), ⟨by decide +kernel, by decide +kernel, by decide +kernel⟩, ⟨TX0, 1, rfl⟩, by decide +kernel⟩
theorem hX0_middleOf : CV iX0_middleOf 1 0 := ⟨mg 649 (by decide +kernel) (by decide +kernel), mg 650 (by decide +kernel) (by decide +kernel), inX0i, mg 651 (by decide +kernel) (by decide +kernel), ⟨by decide +kernel, by decide +kernel, by decide +kernel⟩, ⟨TX0, 1, rfl⟩, by decide +kernel⟩
theorem hX0_change : CV iX0_change 2 0 := ⟨mg 653 (by decide +kernel) (by decide +kernel), mg 654 (by decide +kernel) (by decide +kernel), inX0i, mg 655 (by decide +kernel) (by decide +kernel), ⟨by decide +kernel, by decide +kernel, by decide +kernel⟩, ⟨TX0, 1, rfl⟩, by decide +kernel⟩
theorem hX1_init : CN iX1_init 1 := ⟨mg 188 (by decide +kernel) (by decide +kernel), inX1i, mg 189 (by decide +kernel) (by decide +kernel), rfl, rfl, ⟨by decide +kernel, by decide +kernel, by decide +kernel⟩, by decide +kernel⟩
theorem hX1_batter : CV iX1_batter 4 1 := ⟨mg 564 (by decide +kernel) (by decide +kernel), mg 565 (by decide +kernel) (by decide +kernel), inX1i, mg 566 (by decide +kernel) (by decide +kernel), ⟨by decide +kernel, by decide +kernel, by decide +kernel⟩, ⟨TX1, 4, rfl⟩, by decide +kernel⟩
theorem hX1_leastMends : CV iX1_leastMends 3 1 := ⟨mg 574 (by decide +kernel) (by decide +kernel), mg 575 (by decide +kernel) (by decide +kernel), inX1i, mg 576 (by decide +kernel) (by decide +kernel), ⟨by decide +kernel, by decide +kernel, by decide +kernel⟩, ⟨TX1, 4, rfl⟩, by decide +kernel⟩
theorem hX2_init : CN iX2_init 2 := ⟨mg 210 (by decide +kernel) (by decide +kernel), inX2i, mg 211 (by decide +kernel) (by decide +kernel), rfl, rfl, ⟨by decide +kernel, by decide +kernel, by decide +kernel⟩, by decide +kernel⟩
theorem hX2_seek : CV iX2_seek 3 2 := ⟨mg 583 (by decide +kernel) (by decide +kernel), mg 584 (by decide +kernel) (by decide +kernel), inX2i, mg 585 (by decide +kernel) (by decide +kernel), ⟨by decide +kernel, by decide +kernel, by decide +kernel⟩, ⟨TX2, 10, rfl⟩, by decide +kernel⟩
theorem hX2_walk : CV iX2_walk 3 2 := ⟨mg 589 (by decide +kernel) (by decide +kernel), mg 12 (by decide +kernel) (by decide +kernel), inX2i, mg 590 (by decide +kernel) (by decide +kernel), ⟨by decide +kernel, by decide +kernel, by decide +kernel⟩, ⟨TX2, 10, rfl⟩, by decide +kernel⟩
theorem hX2_freeOf : CV iX2_freeOf 1 2 := ⟨mg 606 (by decide +kernel) (by decide +kernel), mg 15 (by decide +kernel) (by decide +kernel), inX2i, mg 607 (by decide +kernel) (by decide +kernel), ⟨by decide +kernel, by decide +kernel, by decide +kernel⟩, ⟨TX2, 10, rfl⟩, by decide +kernel⟩
theorem hX2_arrive : CV iX2_arrive 3 2 := ⟨mg 593 (by decide +kernel) (by decide +kernel), mg 13 (by decide +kernel) (by decide +kernel), inX2i, mg 594 (by decide +kernel) (by decide +kernel), ⟨by decide +kernel, by decide +kernel, by decide +kernel⟩, ⟨TX2, 10, rfl⟩, by decide +kernel⟩
theorem hX2_isBetter : CV iX2_isBetter 2 2 := ⟨mg 597 (by decide +kernel) (by decide +kernel), mg 14 (by decide +kernel) (by decide +kernel), inX2i, mg 598 (by decide +kernel) (by decide +kernel), ⟨by decide +kernel, by decide +kernel, by decide +kernel⟩, ⟨TX2, 10, rfl⟩, by decide +kernel⟩
theorem hX2_commonBits : CV iX2_commonBits 0 2 := ⟨mg 615 (by decide +kernel) (by decide +kernel), mg 16 (by decide +kernel) (by decide +kernel), inX2i, mg 616 (by decide +kernel) (by decide +kernel), ⟨by decide +kernel, by decide +kernel, by decide +kernel⟩, ⟨TX2, 10, rfl⟩, by decide +kernel⟩
theorem hX2_above : CV iX2_above 0 2 := ⟨mg 610 (by decide +kernel) (by decide +kernel), mg 611 (by decide +kernel) (by decide +kernel), inX2i, mg 612 (by decide +kernel) (by decide +kernel), ⟨by decide +kernel, by decide +kernel, by decide +kernel⟩, ⟨TX2, 10, rfl⟩, by decide +kernel⟩
theorem hX2_below : CV iX2_below 0 2 := ⟨mg 618 (by decide +kernel) (by decide +kernel), mg 619 (by decide +kernel) (by decide +kernel), inX2i, mg 620 (by decide +kernel) (by decide +kernel), ⟨by decide +kernel, by decide +kernel, by decide +kernel⟩, ⟨TX2, 10, rfl⟩, by decide +kernel⟩
theorem hX2_landAt : CV iX2_landAt 1 2 := ⟨mg 622 (by decide +kernel) (by decide +kernel), mg 623 (by decide +kernel) (by decide +kernel), inX2i, mg 624 (by decide +kernel) (by decide +kernel), ⟨by decide +kernel, by decide +kernel, by decide +kernel⟩, ⟨TX2, 10, rfl⟩, by decide +kernel⟩
theorem hX3_init : CN iX3_init 2 := ⟨mg 166 (by decide +kernel) (by decide +kernel), inX3i, mg 167 (by decide +kernel) (by decide +kernel), rfl, rfl, ⟨by decide +kernel, by decide +kernel, by decide +kernel⟩, by decide +kernel⟩
theorem hX3_firstStart : CV iX3_firstStart 4 3 := ⟨mg 534 (by decide +kernel) (by decide +kernel), mg 535 (by decide +kernel) (by decide +kernel), inX3i, mg 536 (by decide +kernel) (by decide +kernel), ⟨by decide +kernel, by decide +kernel, by decide +kernel⟩, ⟨TX3, 5, rfl⟩, by decide +kernel⟩
theorem hX3_goBetween : CV iX3_goBetween 3 3 := ⟨mg 540 (by decide +kernel) (by decide +kernel), mg 9 (by decide +kernel) (by decide +kernel), inX3i, mg 541 (by decide +kernel) (by decide +kernel), ⟨by decide +kernel, by decide +kernel, by decide +kernel⟩, ⟨TX3, 5, rfl⟩, by decide +kernel⟩
theorem hX3_need : CV iX3_need 2 3 := ⟨mg 545 (by decide +kernel) (by decide +kernel), mg 10 (by decide +kernel) (by decide +kernel), inX3i, mg 546 (by decide +kernel) (by decide +kernel), ⟨by decide +kernel, by decide +kernel, by decide +kernel⟩, ⟨TX3, 5, rfl⟩, by decide +kernel⟩
theorem hX3_isAllowed : CV iX3_isAllowed 1 3 := ⟨mg 549 (by decide +kernel) (by decide +kernel), mg 11 (by decide +kernel) (by decide +kernel), inX3i, mg 550 (by decide +kernel) (by decide +kernel), ⟨by decide +kernel, by decide +kernel, by decide +kernel⟩, ⟨TX3, 5, rfl⟩, by decide +kernel⟩
theorem hX4_init : CN iX4_init 1 := ⟨mg 248 (by decide +kernel) (by decide +kernel), inX4i, mg 249 (by decide +kernel) (by decide +kernel), rfl, rfl, ⟨by decide +kernel, by decide +kernel, by decide +kernel⟩, by decide +kernel⟩
theorem hX4_keep : CV iX4_keep 3 4 := ⟨mg 662 (by decide +kernel) (by decide +kernel), mg 663 (by decide +kernel) (by decide +kernel), inX4i, mg 664 (by decide +kernel) (by decide +kernel), ⟨by decide +kernel, by decide +kernel, by decide +kernel⟩, ⟨TX4, 5, rfl⟩, by decide +kernel⟩
theorem hX4_fits : CV iX4_fits 1 4 := ⟨mg 674 (by decide +kernel) (by decide +kernel), mg 675 (by decide +kernel) (by decide +kernel), inX4i, mg 676 (by decide +kernel) (by decide +kernel), ⟨by decide +kernel, by decide +kernel, by decide +kernel⟩, ⟨TX4, 5, rfl⟩, by decide +kernel⟩
theorem hX5_init : CN iX5_init 1 := ⟨mg 139 (by decide +kernel) (by decide +kernel), inX5i, mg 140 (by decide +kernel) (by decide +kernel), rfl, rfl, ⟨by decide +kernel, by decide +kernel, by decide +kernel⟩, by decide +kernel⟩
theorem hX5_mostOf : CS iX5_mostOf 1 := ⟨mg 391 (by decide +kernel) (by decide +kernel), inX5i, mg 392 (by decide +kernel) (by decide +kernel), ⟨by decide +kernel, by decide +kernel, by decide +kernel⟩, by decide +kernel⟩
theorem hX5_at : CV iX5_at 2 5 := ⟨mg 398 (by decide +kernel) (by decide +kernel), mg 399 (by decide +kernel) (by decide +kernel), inX5i, mg 400 (by decide +kernel) (by decide +kernel), ⟨by decide +kernel, by decide +kernel, by decide +kernel⟩, ⟨TX5, 6, rfl⟩, by decide +kernel⟩
theorem hX5_put : CV iX5_put 3 5 := ⟨mg 394 (by decide +kernel) (by decide +kernel), mg 395 (by decide +kernel) (by decide +kernel), inX5i, mg 396 (by decide +kernel) (by decide +kernel), ⟨by decide +kernel, by decide +kernel, by decide +kernel⟩, ⟨TX5, 6, rfl⟩, by decide +kernel⟩
theorem hX5_swornLands : CV iX5_swornLands 0 5 := ⟨mg 735 (by decide +kernel) (by decide +kernel), mg 736 (by decide +kernel) (by decide +kernel), inX5i, mg 737 (by decide +kernel) (by decide +kernel), ⟨by decide +kernel, by decide +kernel, by decide +kernel⟩, ⟨TX5, 6, rfl⟩, by decide +kernel⟩
theorem hX5_addFeast : CV iX5_addFeast 1 5 := ⟨mg 429 (by decide +kernel) (by decide +kernel), mg 430 (by decide +kernel) (by decide +kernel), inX5i, mg 431 (by decide +kernel) (by decide +kernel), ⟨by decide +kernel, by decide +kernel, by decide +kernel⟩, ⟨TX5, 6, rfl⟩, by decide +kernel⟩
theorem hX5_dropFeast : CV iX5_dropFeast 0 5 := ⟨mg 441 (by decide +kernel) (by decide +kernel), mg 442 (by decide +kernel) (by decide +kernel), inX5i, mg 443 (by decide +kernel) (by decide +kernel), ⟨by decide +kernel, by decide +kernel, by decide +kernel⟩, ⟨TX5, 6, rfl⟩, by decide +kernel⟩
theorem hX5_gatherFeasts : CV iX5_gatherFeasts 0 5 := ⟨mg 434 (by decide +kernel) (by decide +kernel), mg 6 (by decide +kernel) (by decide +kernel), inX5i, mg 435 (by decide +kernel) (by decide +kernel), ⟨by decide +kernel, by decide +kernel, by decide +kernel⟩, ⟨TX5, 6, rfl⟩, by decide +kernel⟩
theorem hX5_isOpenDay : CV iX5_isOpenDay 2 5 := ⟨mg 461 (by decide +kernel) (by decide +kernel), mg 7 (by decide +kernel) (by decide +kernel), inX5i, mg 462 (by decide +kernel) (by decide +kernel), ⟨by decide +kernel, by decide +kernel, by decide +kernel⟩, ⟨TX5, 6, rfl⟩, by decide +kernel⟩
theorem hX5_bellOf : CV iX5_bellOf 2 5 := ⟨mg 465 (by decide +kernel) (by decide +kernel), mg 8 (by decide +kernel) (by decide +kernel), inX5i, mg 466 (by decide +kernel) (by decide +kernel), ⟨by decide +kernel, by decide +kernel, by decide +kernel⟩, ⟨TX5, 6, rfl⟩, by decide +kernel⟩
theorem hX5_isWar : CV iX5_isWar 2 5 := ⟨mg 456 (by decide +kernel) (by decide +kernel), mg 457 (by decide +kernel) (by decide +kernel), inX5i, mg 458 (by decide +kernel) (by decide +kernel), ⟨by decide +kernel, by decide +kernel, by decide +kernel⟩, ⟨TX5, 6, rfl⟩, by decide +kernel⟩
theorem hX5_warInDay : CV iX5_warInDay 2 5 := ⟨mg 487 (by decide +kernel) (by decide +kernel), mg 488 (by decide +kernel) (by decide +kernel), inX5i, mg 489 (by decide +kernel) (by decide +kernel), ⟨by decide +kernel, by decide +kernel, by decide +kernel⟩, ⟨TX5, 6, rfl⟩, by decide +kernel⟩
theorem hX5_warInWeek : CV iX5_warInWeek 2 5 := ⟨mg 483 (by decide +kernel) (by decide +kernel), mg 484 (by decide +kernel) (by decide +kernel), inX5i, mg 485 (by decide +kernel) (by decide +kernel), ⟨by decide +kernel, by decide +kernel, by decide +kernel⟩, ⟨TX5, 6, rfl⟩, by decide +kernel⟩
theorem hX6_init : CN iX6_init 0 := ⟨mg 87 (by decide +kernel) (by decide +kernel), inX6i, mg 88 (by decide +kernel) (by decide +kernel), rfl, rfl, ⟨by decide +kernel, by decide +kernel, by decide +kernel⟩, by decide +kernel⟩
theorem hX6_append : CV iX6_append 1 6 := ⟨mg 329 (by decide +kernel) (by decide +kernel), mg 330 (by decide +kernel) (by decide +kernel), inX6i, mg 331 (by decide +kernel) (by decide +kernel), ⟨by decide +kernel, by decide +kernel, by decide +kernel⟩, ⟨TX6, 8, rfl⟩, by decide +kernel⟩
theorem hX6_shorten : CV iX6_shorten 1 6 := ⟨mg 364 (by decide +kernel) (by decide +kernel), mg 365 (by decide +kernel) (by decide +kernel), inX6i, mg 366 (by decide +kernel) (by decide +kernel), ⟨by decide +kernel, by decide +kernel, by decide +kernel⟩, ⟨TX6, 8, rfl⟩, by decide +kernel⟩
theorem hX6_settle : CV iX6_settle 0 6 := ⟨mg 334 (by decide +kernel) (by decide +kernel), mg 0 (by decide +kernel) (by decide +kernel), inX6i, mg 335 (by decide +kernel) (by decide +kernel), ⟨by decide +kernel, by decide +kernel, by decide +kernel⟩, ⟨TX6, 8, rfl⟩, by decide +kernel⟩
theorem hX6_firstFault : CV iX6_firstFault 0 6 := ⟨mg 338 (by decide +kernel) (by decide +kernel), mg 1 (by decide +kernel) (by decide +kernel), inX6i, mg 339 (by decide +kernel) (by decide +kernel), ⟨by decide +kernel, by decide +kernel, by decide +kernel⟩, ⟨TX6, 8, rfl⟩, by decide +kernel⟩
theorem hX6_goesOn : CV iX6_goesOn 1 6 := ⟨mg 342 (by decide +kernel) (by decide +kernel), mg 2 (by decide +kernel) (by decide +kernel), inX6i, mg 343 (by decide +kernel) (by decide +kernel), ⟨by decide +kernel, by decide +kernel, by decide +kernel⟩, ⟨TX6, 8, rfl⟩, by decide +kernel⟩
theorem hX6_measure : CV iX6_measure 0 6 := ⟨mg 346 (by decide +kernel) (by decide +kernel), mg 3 (by decide +kernel) (by decide +kernel), inX6i, mg 347 (by decide +kernel) (by decide +kernel), ⟨by decide +kernel, by decide +kernel, by decide +kernel⟩, ⟨TX6, 8, rfl⟩, by decide +kernel⟩
theorem hX6_shortenWay : CV iX6_shortenWay 3 6 := ⟨mg 350 (by decide +kernel) (by decide +kernel), mg 4 (by decide +kernel) (by decide +kernel), inX6i, mg 351 (by decide +kernel) (by decide +kernel), ⟨by decide +kernel, by decide +kernel, by decide +kernel⟩, ⟨TX6, 8, rfl⟩, by decide +kernel⟩
theorem hX6_shortest : CV iX6_shortest 2 6 := ⟨mg 356 (by decide +kernel) (by decide +kernel), mg 357 (by decide +kernel) (by decide +kernel), inX6i, mg 358 (by decide +kernel) (by decide +kernel), ⟨by decide +kernel, by decide +kernel, by decide +kernel⟩, ⟨TX6, 8, rfl⟩, by decide +kernel⟩
theorem hX6_reaches : CV iX6_reaches 2 6 := ⟨mg 517 (by decide +kernel) (by decide +kernel), mg 518 (by decide +kernel) (by decide +kernel), inX6i, mg 519 (by decide +kernel) (by decide +kernel), ⟨by decide +kernel, by decide +kernel, by decide +kernel⟩, ⟨TX6, 8, rfl⟩, by decide +kernel⟩
theorem hX6_end : CV iX6_end 2 6 := ⟨mg 380 (by decide +kernel) (by decide +kernel), mg 381 (by decide +kernel) (by decide +kernel), inX6i, mg 382 (by decide +kernel) (by decide +kernel), ⟨by decide +kernel, by decide +kernel, by decide +kernel⟩, ⟨TX6, 8, rfl⟩, by decide +kernel⟩
theorem hX6_across : CV iX6_across 2 6 := ⟨mg 526 (by decide +kernel) (by decide +kernel), mg 527 (by decide +kernel) (by decide +kernel), inX6i, mg 528 (by decide +kernel) (by decide +kernel), ⟨by decide +kernel, by decide +kernel, by decide +kernel⟩, ⟨TX6, 8, rfl⟩, by decide +kernel⟩
theorem hX6_nextLand : CV iX6_nextLand 2 6 := ⟨mg 522 (by decide +kernel) (by decide +kernel), mg 523 (by decide +kernel) (by decide +kernel), inX6i, mg 524 (by decide +kernel) (by decide +kernel), ⟨by decide +kernel, by decide +kernel, by decide +kernel⟩, ⟨TX6, 8, rfl⟩, by decide +kernel⟩
theorem hX6_allHours : CV iX6_allHours 0 6 := ⟨mg 739 (by decide +kernel) (by decide +kernel), mg 740 (by decide +kernel) (by decide +kernel), inX6i, mg 741 (by decide +kernel) (by decide +kernel), ⟨by decide +kernel, by decide +kernel, by decide +kernel⟩, ⟨TX6, 8, rfl⟩, by decide +kernel⟩
theorem hX7_init : CN iX7_init 0 := ⟨mg 273 (by decide +kernel) (by decide +kernel), inX7i, mg 274 (by decide +kernel) (by decide +kernel), rfl, rfl, ⟨by decide +kernel, by decide +kernel, by decide +kernel⟩, by decide +kernel⟩
theorem hX7_renew : CV iX7_renew 2 7 := ⟨mg 692 (by decide +kernel) (by decide +kernel), mg 693 (by decide +kernel) (by decide +kernel), inX7i, mg 694 (by decide +kernel) (by decide +kernel), ⟨by decide +kernel, by decide +kernel, by decide +kernel⟩, ⟨TX7, 4, rfl⟩, by decide +kernel⟩
theorem hX7_put : CV iX7_put 2 7 := ⟨mg 709 (by decide +kernel) (by decide +kernel), mg 710 (by decide +kernel) (by decide +kernel), inX7i, mg 711 (by decide +kernel) (by decide +kernel), ⟨by decide +kernel, by decide +kernel, by decide +kernel⟩, ⟨TX7, 4, rfl⟩, by decide +kernel⟩
theorem hX7_holdsRun : CV iX7_holdsRun 2 7 := ⟨mg 722 (by decide +kernel) (by decide +kernel), mg 723 (by decide +kernel) (by decide +kernel), inX7i, mg 724 (by decide +kernel) (by decide +kernel), ⟨by decide +kernel, by decide +kernel, by decide +kernel⟩, ⟨TX7, 4, rfl⟩, by decide +kernel⟩
theorem hX8_init : CN iX8_init 0 := ⟨mg 79 (by decide +kernel) (by decide +kernel), inX8i, mg 80 (by decide +kernel) (by decide +kernel), rfl, rfl, ⟨by decide +kernel, by decide +kernel, by decide +kernel⟩, by decide +kernel⟩
theorem hX8_type : CV iX8_type 1 8 := ⟨mg 322 (by decide +kernel) (by decide +kernel), mg 323 (by decide +kernel) (by decide +kernel), inX8i, mg 324 (by decide +kernel) (by decide +kernel), ⟨by decide +kernel, by decide +kernel, by decide +kernel⟩, ⟨TX8, 9, rfl⟩, by decide +kernel⟩
theorem hX8_wipe : CV iX8_wipe 0 8 := ⟨mg 360 (by decide +kernel) (by decide +kernel), mg 361 (by decide +kernel) (by decide +kernel), inX8i, mg 362 (by decide +kernel) (by decide +kernel), ⟨by decide +kernel, by decide +kernel, by decide +kernel⟩, ⟨TX8, 9, rfl⟩, by decide +kernel⟩
theorem hX8_undo : CV iX8_undo 0 8 := ⟨mg 368 (by decide +kernel) (by decide +kernel), mg 369 (by decide +kernel) (by decide +kernel), inX8i, mg 370 (by decide +kernel) (by decide +kernel), ⟨by decide +kernel, by decide +kernel, by decide +kernel⟩, ⟨TX8, 9, rfl⟩, by decide +kernel⟩
theorem hX8_fault : CV iX8_fault 0 8 := ⟨mg 372 (by decide +kernel) (by decide +kernel), mg 373 (by decide +kernel) (by decide +kernel), inX8i, mg 374 (by decide +kernel) (by decide +kernel), ⟨by decide +kernel, by decide +kernel, by decide +kernel⟩, ⟨TX8, 9, rfl⟩, by decide +kernel⟩
theorem hX8_road : CV iX8_road 2 8 := ⟨mg 376 (by decide +kernel) (by decide +kernel), mg 377 (by decide +kernel) (by decide +kernel), inX8i, mg 378 (by decide +kernel) (by decide +kernel), ⟨by decide +kernel, by decide +kernel, by decide +kernel⟩, ⟨TX8, 9, rfl⟩, by decide +kernel⟩
theorem hX8_land : CV iX8_land 3 8 := ⟨mg 384 (by decide +kernel) (by decide +kernel), mg 385 (by decide +kernel) (by decide +kernel), inX8i, mg 386 (by decide +kernel) (by decide +kernel), ⟨by decide +kernel, by decide +kernel, by decide +kernel⟩, ⟨TX8, 9, rfl⟩, by decide +kernel⟩
theorem hX8_bell : CV iX8_bell 3 8 := ⟨mg 402 (by decide +kernel) (by decide +kernel), mg 403 (by decide +kernel) (by decide +kernel), inX8i, mg 404 (by decide +kernel) (by decide +kernel), ⟨by decide +kernel, by decide +kernel, by decide +kernel⟩, ⟨TX8, 9, rfl⟩, by decide +kernel⟩
theorem hX8_read : CV iX8_read 1 8 := ⟨mg 413 (by decide +kernel) (by decide +kernel), mg 414 (by decide +kernel) (by decide +kernel), inX8i, mg 415 (by decide +kernel) (by decide +kernel), ⟨by decide +kernel, by decide +kernel, by decide +kernel⟩, ⟨TX8, 9, rfl⟩, by decide +kernel⟩
theorem hX8_feast : CV iX8_feast 1 8 := ⟨mg 425 (by decide +kernel) (by decide +kernel), mg 426 (by decide +kernel) (by decide +kernel), inX8i, mg 427 (by decide +kernel) (by decide +kernel), ⟨by decide +kernel, by decide +kernel, by decide +kernel⟩, ⟨TX8, 9, rfl⟩, by decide +kernel⟩
theorem hX8_back : CV iX8_back 0 8 := ⟨mg 437 (by decide +kernel) (by decide +kernel), mg 438 (by decide +kernel) (by decide +kernel), inX8i, mg 439 (by decide +kernel) (by decide +kernel), ⟨by decide +kernel, by decide +kernel, by decide +kernel⟩, ⟨TX8, 9, rfl⟩, by decide +kernel⟩
theorem hX8_lent : CV iX8_lent 1 8 := ⟨mg 445 (by decide +kernel) (by decide +kernel), mg 446 (by decide +kernel) (by decide +kernel), inX8i, mg 447 (by decide +kernel) (by decide +kernel), ⟨by decide +kernel, by decide +kernel, by decide +kernel⟩, ⟨TX8, 9, rfl⟩, by decide +kernel⟩
theorem hX8_war : CV iX8_war 2 8 := ⟨mg 449 (by decide +kernel) (by decide +kernel), mg 450 (by decide +kernel) (by decide +kernel), inX8i, mg 451 (by decide +kernel) (by decide +kernel), ⟨by decide +kernel, by decide +kernel, by decide +kernel⟩, ⟨TX8, 9, rfl⟩, by decide +kernel⟩
theorem hX8_strikes : CV iX8_strikes 4 8 := ⟨mg 468 (by decide +kernel) (by decide +kernel), mg 469 (by decide +kernel) (by decide +kernel), inX8i, mg 470 (by decide +kernel) (by decide +kernel), ⟨by decide +kernel, by decide +kernel, by decide +kernel⟩, ⟨TX8, 9, rfl⟩, by decide +kernel⟩
theorem hX8_next : CV iX8_next 3 8 := ⟨mg 475 (by decide +kernel) (by decide +kernel), mg 476 (by decide +kernel) (by decide +kernel), inX8i, mg 477 (by decide +kernel) (by decide +kernel), ⟨by decide +kernel, by decide +kernel, by decide +kernel⟩, ⟨TX8, 9, rfl⟩, by decide +kernel⟩
theorem hX8_left : CV iX8_left 2 8 := ⟨mg 479 (by decide +kernel) (by decide +kernel), mg 480 (by decide +kernel) (by decide +kernel), inX8i, mg 481 (by decide +kernel) (by decide +kernel), ⟨by decide +kernel, by decide +kernel, by decide +kernel⟩, ⟨TX8, 9, rfl⟩, by decide +kernel⟩
theorem hX8_best : CV iX8_best 1 8 := ⟨mg 491 (by decide +kernel) (by decide +kernel), mg 492 (by decide +kernel) (by decide +kernel), inX8i, mg 493 (by decide +kernel) (by decide +kernel), ⟨by decide +kernel, by decide +kernel, by decide +kernel⟩, ⟨TX8, 9, rfl⟩, by decide +kernel⟩
theorem hX8_unlike : CV iX8_unlike 2 8 := ⟨mg 495 (by decide +kernel) (by decide +kernel), mg 496 (by decide +kernel) (by decide +kernel), inX8i, mg 497 (by decide +kernel) (by decide +kernel), ⟨by decide +kernel, by decide +kernel, by decide +kernel⟩, ⟨TX8, 9, rfl⟩, by decide +kernel⟩
theorem hX8_way : CV iX8_way 3 8 := ⟨mg 510 (by decide +kernel) (by decide +kernel), mg 511 (by decide +kernel) (by decide +kernel), inX8i, mg 512 (by decide +kernel) (by decide +kernel), ⟨by decide +kernel, by decide +kernel, by decide +kernel⟩, ⟨TX8, 9, rfl⟩, by decide +kernel⟩
theorem hX8_raid : CV iX8_raid 4 8 := ⟨mg 530 (by decide +kernel) (by decide +kernel), mg 531 (by decide +kernel) (by decide +kernel), inX8i, mg 532 (by decide +kernel) (by decide +kernel), ⟨by decide +kernel, by decide +kernel, by decide +kernel⟩, ⟨TX8, 9, rfl⟩, by decide +kernel⟩
theorem hX8_set : CV iX8_set 2 8 := ⟨mg 553 (by decide +kernel) (by decide +kernel), mg 554 (by decide +kernel) (by decide +kernel), inX8i, mg 555 (by decide +kernel) (by decide +kernel), ⟨by decide +kernel, by decide +kernel, by decide +kernel⟩, ⟨TX8, 9, rfl⟩, by decide +kernel⟩
theorem hX8_siege : CV iX8_siege 4 8 := ⟨mg 557 (by decide +kernel) (by decide +kernel), mg 558 (by decide +kernel) (by decide +kernel), inX8i, mg 559 (by decide +kernel) (by decide +kernel), ⟨by decide +kernel, by decide +kernel, by decide +kernel⟩, ⟨TX8, 9, rfl⟩, by decide +kernel⟩
theorem hX8_holds : CV iX8_holds 3 8 := ⟨mg 570 (by decide +kernel) (by decide +kernel), mg 571 (by decide +kernel) (by decide +kernel), inX8i, mg 572 (by decide +kernel) (by decide +kernel), ⟨by decide +kernel, by decide +kernel, by decide +kernel⟩, ⟨TX8, 9, rfl⟩, by decide +kernel⟩
theorem hX8_home : CV iX8_home 4 8 := ⟨mg 579 (by decide +kernel) (by decide +kernel), mg 580 (by decide +kernel) (by decide +kernel), inX8i, mg 581 (by decide +kernel) (by decide +kernel), ⟨by decide +kernel, by decide +kernel, by decide +kernel⟩, ⟨TX8, 9, rfl⟩, by decide +kernel⟩
theorem hX8_agree : CV iX8_agree 1 8 := ⟨mg 626 (by decide +kernel) (by decide +kernel), mg 627 (by decide +kernel) (by decide +kernel), inX8i, mg 628 (by decide +kernel) (by decide +kernel), ⟨by decide +kernel, by decide +kernel, by decide +kernel⟩, ⟨TX8, 9, rfl⟩, by decide +kernel⟩
theorem hX8_middle : CV iX8_middle 1 8 := ⟨mg 645 (by decide +kernel) (by decide +kernel), mg 646 (by decide +kernel) (by decide +kernel), inX8i, mg 647 (by decide +kernel) (by decide +kernel), ⟨by decide +kernel, by decide +kernel, by decide +kernel⟩, ⟨TX8, 9, rfl⟩, by decide +kernel⟩
theorem hX8_seen : CV iX8_seen 3 8 := ⟨mg 658 (by decide +kernel) (by decide +kernel), mg 659 (by decide +kernel) (by decide +kernel), inX8i, mg 660 (by decide +kernel) (by decide +kernel), ⟨by decide +kernel, by decide +kernel, by decide +kernel⟩, ⟨TX8, 9, rfl⟩, by decide +kernel⟩
theorem hX8_forget : CV iX8_forget 0 8 := ⟨mg 666 (by decide +kernel) (by decide +kernel), mg 667 (by decide +kernel) (by decide +kernel), inX8i, mg 668 (by decide +kernel) (by decide +kernel), ⟨by decide +kernel, by decide +kernel, by decide +kernel⟩, ⟨TX8, 9, rfl⟩, by decide +kernel⟩
theorem hX8_which : CV iX8_which 0 8 := ⟨mg 670 (by decide +kernel) (by decide +kernel), mg 671 (by decide +kernel) (by decide +kernel), inX8i, mg 672 (by decide +kernel) (by decide +kernel), ⟨by decide +kernel, by decide +kernel, by decide +kernel⟩, ⟨TX8, 9, rfl⟩, by decide +kernel⟩
theorem hX8_season : CV iX8_season 2 8 := ⟨mg 679 (by decide +kernel) (by decide +kernel), mg 680 (by decide +kernel) (by decide +kernel), inX8i, mg 681 (by decide +kernel) (by decide +kernel), ⟨by decide +kernel, by decide +kernel, by decide +kernel⟩, ⟨TX8, 9, rfl⟩, by decide +kernel⟩
theorem hX8_sheet : CV iX8_sheet 3 8 := ⟨mg 685 (by decide +kernel) (by decide +kernel), mg 686 (by decide +kernel) (by decide +kernel), inX8i, mg 687 (by decide +kernel) (by decide +kernel), ⟨by decide +kernel, by decide +kernel, by decide +kernel⟩, ⟨TX8, 9, rfl⟩, by decide +kernel⟩
theorem hX8_lose : CV iX8_lose 1 8 := ⟨mg 697 (by decide +kernel) (by decide +kernel), mg 698 (by decide +kernel) (by decide +kernel), inX8i, mg 699 (by decide +kernel) (by decide +kernel), ⟨by decide +kernel, by decide +kernel, by decide +kernel⟩, ⟨TX8, 9, rfl⟩, by decide +kernel⟩
theorem hX8_lay : CV iX8_lay 4 8 := ⟨mg 701 (by decide +kernel) (by decide +kernel), mg 702 (by decide +kernel) (by decide +kernel), inX8i, mg 703 (by decide +kernel) (by decide +kernel), ⟨by decide +kernel, by decide +kernel, by decide +kernel⟩, ⟨TX8, 9, rfl⟩, by decide +kernel⟩
theorem hX8_get : CV iX8_get 3 8 := ⟨mg 713 (by decide +kernel) (by decide +kernel), mg 714 (by decide +kernel) (by decide +kernel), inX8i, mg 715 (by decide +kernel) (by decide +kernel), ⟨by decide +kernel, by decide +kernel, by decide +kernel⟩, ⟨TX8, 9, rfl⟩, by decide +kernel⟩
theorem hX8_copy : CV iX8_copy 5 8 := ⟨mg 718 (by decide +kernel) (by decide +kernel), mg 719 (by decide +kernel) (by decide +kernel), inX8i, mg 720 (by decide +kernel) (by decide +kernel), ⟨by decide +kernel, by decide +kernel, by decide +kernel⟩, ⟨TX8, 9, rfl⟩, by decide +kernel⟩
theorem hX8_write : CV iX8_write 3 8 := ⟨mg 727 (by decide +kernel) (by decide +kernel), mg 728 (by decide +kernel) (by decide +kernel), inX8i, mg 729 (by decide +kernel) (by decide +kernel), ⟨by decide +kernel, by decide +kernel, by decide +kernel⟩, ⟨TX8, 9, rfl⟩, by decide +kernel⟩
theorem hX8_count : CV iX8_count 1 8 := ⟨mg 731 (by decide +kernel) (by decide +kernel), mg 732 (by decide +kernel) (by decide +kernel), inX8i, mg 733 (by decide +kernel) (by decide +kernel), ⟨by decide +kernel, by decide +kernel, by decide +kernel⟩, ⟨TX8, 9, rfl⟩, by decide +kernel⟩
theorem hX8_digest : CV iX8_digest 0 8 := ⟨mg 743 (by decide +kernel) (by decide +kernel), mg 744 (by decide +kernel) (by decide +kernel), inX8i, mg 745 (by decide +kernel) (by decide +kernel), ⟨by decide +kernel, by decide +kernel, by decide +kernel⟩, ⟨TX8, 9, rfl⟩, by decide +kernel⟩
theorem hX8_digestOfRoads : CV iX8_digestOfRoads 1 8 := ⟨mg 752 (by decide +kernel) (by decide +kernel), mg 19 (by decide +kernel) (by decide +kernel), inX8i, mg 753 (by decide +kernel) (by decide +kernel), ⟨by decide +kernel, by decide +kernel, by decide +kernel⟩, ⟨TX8, 9, rfl⟩, by decide +kernel⟩
theorem hX8_digestOfLands : CV iX8_digestOfLands 1 8 := ⟨mg 757 (by decide +kernel) (by decide +kernel), mg 20 (by decide +kernel) (by decide +kernel), inX8i, mg 758 (by decide +kernel) (by decide +kernel), ⟨by decide +kernel, by decide +kernel, by decide +kernel⟩, ⟨TX8, 9, rfl⟩, by decide +kernel⟩
theorem hX8_digestOfJourneys : CV iX8_digestOfJourneys 1 8 := ⟨mg 767 (by decide +kernel) (by decide +kernel), mg 21 (by decide +kernel) (by decide +kernel), inX8i, mg 768 (by decide +kernel) (by decide +kernel), ⟨by decide +kernel, by decide +kernel, by decide +kernel⟩, ⟨TX8, 9, rfl⟩, by decide +kernel⟩
theorem hX8_digestOfKinds : CV iX8_digestOfKinds 1 8 := ⟨mg 774 (by decide +kernel) (by decide +kernel), mg 22 (by decide +kernel) (by decide +kernel), inX8i, mg 775 (by decide +kernel) (by decide +kernel), ⟨by decide +kernel, by decide +kernel, by decide +kernel⟩, ⟨TX8, 9, rfl⟩, by decide +kernel⟩
theorem hX8_digestOfParishes : CV iX8_digestOfParishes 1 8 := ⟨mg 779 (by decide +kernel) (by decide +kernel), mg 23 (by decide +kernel) (by decide +kernel), inX8i, mg 780 (by decide +kernel) (by decide +kernel), ⟨by decide +kernel, by decide +kernel, by decide +kernel⟩, ⟨TX8, 9, rfl⟩, by decide +kernel⟩
theorem hX8_found : CV iX8_found 1 8 := ⟨mg 421 (by decide +kernel) (by decide +kernel), mg 5 (by decide +kernel) (by decide +kernel), inX8i, mg 422 (by decide +kernel) (by decide +kernel), ⟨by decide +kernel, by decide +kernel, by decide +kernel⟩, ⟨TX8, 9, rfl⟩, by decide +kernel⟩
theorem hX8_wrongItem : CV iX8_wrongItem 3 8 := ⟨mg 706 (by decide +kernel) (by decide +kernel), mg 18 (by decide +kernel) (by decide +kernel), inX8i, mg 707 (by decide +kernel) (by decide +kernel), ⟨by decide +kernel, by decide +kernel, by decide +kernel⟩, ⟨TX8, 9, rfl⟩, by decide +kernel⟩
theorem hX8_upTo : CS iX8_upTo 2 := ⟨mg 326 (by decide +kernel) (by decide +kernel), inX8i, mg 327 (by decide +kernel) (by decide +kernel), ⟨by decide +kernel, by decide +kernel, by decide +kernel⟩, by decide +kernel⟩
theorem hX8_isLand : CS iX8_isLand 1 := ⟨mg 388 (by decide +kernel) (by decide +kernel), inX8i, mg 389 (by decide +kernel) (by decide +kernel), ⟨by decide +kernel, by decide +kernel, by decide +kernel⟩, by decide +kernel⟩
theorem hX8_areTwoLands : CS iX8_areTwoLands 2 := ⟨mg 514 (by decide +kernel) (by decide +kernel), inX8i, mg 515 (by decide +kernel) (by decide +kernel), ⟨by decide +kernel, by decide +kernel, by decide +kernel⟩, by decide +kernel⟩
theorem hX8_isParish : CS iX8_isParish 1 := ⟨mg 406 (by decide +kernel) (by decide +kernel), inX8i, mg 407 (by decide +kernel) (by decide +kernel), ⟨by decide +kernel, by decide +kernel, by decide +kernel⟩, by decide +kernel⟩
theorem hX8_isKind : CS iX8_isKind 1 := ⟨mg 472 (by decide +kernel) (by decide +kernel), inX8i, mg 473 (by decide +kernel) (by decide +kernel), ⟨by decide +kernel, by decide +kernel, by decide +kernel⟩, by decide +kernel⟩
theorem hX8_isHour : CS iX8_isHour 1 := ⟨mg 453 (by decide +kernel) (by decide +kernel), inX8i, mg 454 (by decide +kernel) (by decide +kernel), ⟨by decide +kernel, by decide +kernel, by decide +kernel⟩, by decide +kernel⟩
theorem hX8_isSheet : CS iX8_isSheet 1 := ⟨mg 417 (by decide +kernel) (by decide +kernel), inX8i, mg 418 (by decide +kernel) (by decide +kernel), ⟨by decide +kernel, by decide +kernel, by decide +kernel⟩, by decide +kernel⟩
theorem hX8_isForm : CS iX8_isForm 1 := ⟨mg 689 (by decide +kernel) (by decide +kernel), inX8i, mg 690 (by decide +kernel) (by decide +kernel), ⟨by decide +kernel, by decide +kernel, by decide +kernel⟩, by decide +kernel⟩
theorem hX8_isSiege : CS iX8_isSiege 3 := ⟨mg 561 (by decide +kernel) (by decide +kernel), inX8i, mg 562 (by decide +kernel) (by decide +kernel), ⟨by decide +kernel, by decide +kernel, by decide +kernel⟩, by decide +kernel⟩
theorem hX9_init : CN iX9_init 0 := ⟨mg 788 (by decide +kernel) (by decide +kernel), inX9i, mg 789 (by decide +kernel) (by decide +kernel), rfl, rfl, ⟨by decide +kernel, by decide +kernel, by decide +kernel⟩, by decide +kernel⟩
theorem hX9_in : CS iX9_in 3 := ⟨mg 888 (by decide +kernel) (by decide +kernel), inX9i, mg 889 (by decide +kernel) (by decide +kernel), ⟨by decide +kernel, by decide +kernel, by decide +kernel⟩, by decide +kernel⟩
theorem hX9_isTwo : CS iX9_isTwo 1 := ⟨mg 973 (by decide +kernel) (by decide +kernel), inX9i, mg 974 (by decide +kernel) (by decide +kernel), ⟨by decide +kernel, by decide +kernel, by decide +kernel⟩, by decide +kernel⟩
theorem hX9_isIn : CS iX9_isIn 2 := ⟨mg 1011 (by decide +kernel) (by decide +kernel), inX9i, mg 1012 (by decide +kernel) (by decide +kernel), ⟨by decide +kernel, by decide +kernel, by decide +kernel⟩, by decide +kernel⟩
theorem hX9_lesser : CS iX9_lesser 2 := ⟨mg 981 (by decide +kernel) (by decide +kernel), inX9i, mg 982 (by decide +kernel) (by decide +kernel), ⟨by decide +kernel, by decide +kernel, by decide +kernel⟩, by decide +kernel⟩
theorem hX9_amount : CS iX9_amount 1 := ⟨mg 1189 (by decide +kernel) (by decide +kernel), inX9i, mg 1190 (by decide +kernel) (by decide +kernel), ⟨by decide +kernel, by decide +kernel, by decide +kernel⟩, by decide +kernel⟩
theorem hX9_common : CS iX9_common 2 := ⟨mg 1158 (by decide +kernel) (by decide +kernel), inX9i, mg 1159 (by decide +kernel) (by decide +kernel), ⟨by decide +kernel, by decide +kernel, by decide +kernel⟩, by decide +kernel⟩
theorem hX9_finds : CV iX9_finds 1 9 := ⟨mg 893 (by decide +kernel) (by decide +kernel), mg 24 (by decide +kernel) (by decide +kernel), inX9i, mg 894 (by decide +kernel) (by decide +kernel), ⟨by decide +kernel, by decide +kernel, by decide +kernel⟩, ⟨TX9, 29, rfl⟩, by decide +kernel⟩
theorem hX9_isSheet : CS iX9_isSheet 1 := ⟨mg 884 (by decide +kernel) (by decide +kernel), inX9i, mg 885 (by decide +kernel) (by decide +kernel), ⟨by decide +kernel, by decide +kernel, by decide +kernel⟩, by decide +kernel⟩
theorem hX9_sheet : CV iX9_sheet 3 9 := ⟨mg 880 (by decide +kernel) (by decide +kernel), mg 881 (by decide +kernel) (by decide +kernel), inX9i, mg 882 (by decide +kernel) (by decide +kernel), ⟨by decide +kernel, by decide +kernel, by decide +kernel⟩, ⟨TX9, 29, rfl⟩, by decide +kernel⟩
theorem hX9_lose : CV iX9_lose 1 9 := ⟨mg 896 (by decide +kernel) (by decide +kernel), mg 897 (by decide +kernel) (by decide +kernel), inX9i, mg 898 (by decide +kernel) (by decide +kernel), ⟨by decide +kernel, by decide +kernel, by decide +kernel⟩, ⟨TX9, 29, rfl⟩, by decide +kernel⟩
theorem hX9_lacks : CV iX9_lacks 3 9 := ⟨mg 905 (by decide +kernel) (by decide +kernel), mg 25 (by decide +kernel) (by decide +kernel), inX9i, mg 906 (by decide +kernel) (by decide +kernel), ⟨by decide +kernel, by decide +kernel, by decide +kernel⟩, ⟨TX9, 29, rfl⟩, by decide +kernel⟩
theorem hX9_cut : CS iX9_cut 2 := ⟨mg 908 (by decide +kernel) (by decide +kernel), inX9i, mg 909 (by decide +kernel) (by decide +kernel), ⟨by decide +kernel, by decide +kernel, by decide +kernel⟩, by decide +kernel⟩
theorem hX9_lay : CV iX9_lay 4 9 := ⟨mg 900 (by decide +kernel) (by decide +kernel), mg 901 (by decide +kernel) (by decide +kernel), inX9i, mg 902 (by decide +kernel) (by decide +kernel), ⟨by decide +kernel, by decide +kernel, by decide +kernel⟩, ⟨TX9, 29, rfl⟩, by decide +kernel⟩
theorem hX9_get : CV iX9_get 3 9 := ⟨mg 911 (by decide +kernel) (by decide +kernel), mg 912 (by decide +kernel) (by decide +kernel), inX9i, mg 913 (by decide +kernel) (by decide +kernel), ⟨by decide +kernel, by decide +kernel, by decide +kernel⟩, ⟨TX9, 29, rfl⟩, by decide +kernel⟩
theorem hX9_copy : CV iX9_copy 5 9 := ⟨mg 916 (by decide +kernel) (by decide +kernel), mg 917 (by decide +kernel) (by decide +kernel), inX9i, mg 918 (by decide +kernel) (by decide +kernel), ⟨by decide +kernel, by decide +kernel, by decide +kernel⟩, ⟨TX9, 29, rfl⟩, by decide +kernel⟩
theorem hX9_type : CV iX9_type 1 9 := ⟨mg 920 (by decide +kernel) (by decide +kernel), mg 921 (by decide +kernel) (by decide +kernel), inX9i, mg 922 (by decide +kernel) (by decide +kernel), ⟨by decide +kernel, by decide +kernel, by decide +kernel⟩, ⟨TX9, 29, rfl⟩, by decide +kernel⟩
theorem hX9_wipe : CV iX9_wipe 0 9 := ⟨mg 925 (by decide +kernel) (by decide +kernel), mg 926 (by decide +kernel) (by decide +kernel), inX9i, mg 927 (by decide +kernel) (by decide +kernel), ⟨by decide +kernel, by decide +kernel, by decide +kernel⟩, ⟨TX9, 29, rfl⟩, by decide +kernel⟩
theorem hX9_undo : CV iX9_undo 0 9 := ⟨mg 929 (by decide +kernel) (by decide +kernel), mg 930 (by decide +kernel) (by decide +kernel), inX9i, mg 931 (by decide +kernel) (by decide +kernel), ⟨by decide +kernel, by decide +kernel, by decide +kernel⟩, ⟨TX9, 29, rfl⟩, by decide +kernel⟩
theorem hX9_tellsOf : CV iX9_tellsOf 2 9 := ⟨mg 946 (by decide +kernel) (by decide +kernel), mg 28 (by decide +kernel) (by decide +kernel), inX9i, mg 947 (by decide +kernel) (by decide +kernel), ⟨by decide +kernel, by decide +kernel, by decide +kernel⟩, ⟨TX9, 29, rfl⟩, by decide +kernel⟩
theorem hX9_readsRoad : CV iX9_readsRoad 0 9 := ⟨mg 942 (by decide +kernel) (by decide +kernel), mg 27 (by decide +kernel) (by decide +kernel), inX9i, mg 943 (by decide +kernel) (by decide +kernel), ⟨by decide +kernel, by decide +kernel, by decide +kernel⟩, ⟨TX9, 29, rfl⟩, by decide +kernel⟩
theorem hX9_reads : CV iX9_reads 0 9 := ⟨mg 938 (by decide +kernel) (by decide +kernel), mg 26 (by decide +kernel) (by decide +kernel), inX9i, mg 939 (by decide +kernel) (by decide +kernel), ⟨by decide +kernel, by decide +kernel, by decide +kernel⟩, ⟨TX9, 29, rfl⟩, by decide +kernel⟩
theorem hX9_fault : CV iX9_fault 0 9 := ⟨mg 933 (by decide +kernel) (by decide +kernel), mg 934 (by decide +kernel) (by decide +kernel), inX9i, mg 935 (by decide +kernel) (by decide +kernel), ⟨by decide +kernel, by decide +kernel, by decide +kernel⟩, ⟨TX9, 29, rfl⟩, by decide +kernel⟩
theorem hX9_road : CV iX9_road 2 9 := ⟨mg 953 (by decide +kernel) (by decide +kernel), mg 954 (by decide +kernel) (by decide +kernel), inX9i, mg 955 (by decide +kernel) (by decide +kernel), ⟨by decide +kernel, by decide +kernel, by decide +kernel⟩, ⟨TX9, 29, rfl⟩, by decide +kernel⟩
theorem hX9_isLand : CS iX9_isLand 1 := ⟨mg 961 (by decide +kernel) (by decide +kernel), inX9i, mg 962 (by decide +kernel) (by decide +kernel), ⟨by decide +kernel, by decide +kernel, by decide +kernel⟩, by decide +kernel⟩
theorem hX9_isParish : CS iX9_isParish 1 := ⟨mg 970 (by decide +kernel) (by decide +kernel), inX9i, mg 971 (by decide +kernel) (by decide +kernel), ⟨by decide +kernel, by decide +kernel, by decide +kernel⟩, by decide +kernel⟩
theorem hX9_isHour : CS iX9_isHour 1 := ⟨mg 1003 (by decide +kernel) (by decide +kernel), inX9i, mg 1004 (by decide +kernel) (by decide +kernel), ⟨by decide +kernel, by decide +kernel, by decide +kernel⟩, by decide +kernel⟩
theorem hX9_land : CV iX9_land 3 9 := ⟨mg 957 (by decide +kernel) (by decide +kernel), mg 958 (by decide +kernel) (by decide +kernel), inX9i, mg 959 (by decide +kernel) (by decide +kernel), ⟨by decide +kernel, by decide +kernel, by decide +kernel⟩, ⟨TX9, 29, rfl⟩, by decide +kernel⟩
theorem hX9_bell : CV iX9_bell 3 9 := ⟨mg 966 (by decide +kernel) (by decide +kernel), mg 967 (by decide +kernel) (by decide +kernel), inX9i, mg 968 (by decide +kernel) (by decide +kernel), ⟨by decide +kernel, by decide +kernel, by decide +kernel⟩, ⟨TX9, 29, rfl⟩, by decide +kernel⟩
theorem hX9_read : CV iX9_read 1 9 := ⟨mg 977 (by decide +kernel) (by decide +kernel), mg 978 (by decide +kernel) (by decide +kernel), inX9i, mg 979 (by decide +kernel) (by decide +kernel), ⟨by decide +kernel, by decide +kernel, by decide +kernel⟩, ⟨TX9, 29, rfl⟩, by decide +kernel⟩
theorem hX9_feast : CV iX9_feast 1 9 := ⟨mg 985 (by decide +kernel) (by decide +kernel), mg 986 (by decide +kernel) (by decide +kernel), inX9i, mg 987 (by decide +kernel) (by decide +kernel), ⟨by decide +kernel, by decide +kernel, by decide +kernel⟩, ⟨TX9, 29, rfl⟩, by decide +kernel⟩
theorem hX9_back : CV iX9_back 0 9 := ⟨mg 990 (by decide +kernel) (by decide +kernel), mg 991 (by decide +kernel) (by decide +kernel), inX9i, mg 992 (by decide +kernel) (by decide +kernel), ⟨by decide +kernel, by decide +kernel, by decide +kernel⟩, ⟨TX9, 29, rfl⟩, by decide +kernel⟩
theorem hX9_lent : CV iX9_lent 1 9 := ⟨mg 994 (by decide +kernel) (by decide +kernel), mg 995 (by decide +kernel) (by decide +kernel), inX9i, mg 996 (by decide +kernel) (by decide +kernel), ⟨by decide +kernel, by decide +kernel, by decide +kernel⟩, ⟨TX9, 29, rfl⟩, by decide +kernel⟩
theorem hX9_isWarBy : CV iX9_isWarBy 2 9 := ⟨mg 1015 (by decide +kernel) (by decide +kernel), mg 30 (by decide +kernel) (by decide +kernel), inX9i, mg 1016 (by decide +kernel) (by decide +kernel), ⟨by decide +kernel, by decide +kernel, by decide +kernel⟩, ⟨TX9, 29, rfl⟩, by decide +kernel⟩
theorem hX9_isFeast : CV iX9_isFeast 1 9 := ⟨mg 1019 (by decide +kernel) (by decide +kernel), mg 31 (by decide +kernel) (by decide +kernel), inX9i, mg 1020 (by decide +kernel) (by decide +kernel), ⟨by decide +kernel, by decide +kernel, by decide +kernel⟩, ⟨TX9, 29, rfl⟩, by decide +kernel⟩
theorem hX9_isWar : CV iX9_isWar 2 9 := ⟨mg 1008 (by decide +kernel) (by decide +kernel), mg 29 (by decide +kernel) (by decide +kernel), inX9i, mg 1009 (by decide +kernel) (by decide +kernel), ⟨by decide +kernel, by decide +kernel, by decide +kernel⟩, ⟨TX9, 29, rfl⟩, by decide +kernel⟩
theorem hX9_war : CV iX9_war 2 9 := ⟨mg 999 (by decide +kernel) (by decide +kernel), mg 1000 (by decide +kernel) (by decide +kernel), inX9i, mg 1001 (by decide +kernel) (by decide +kernel), ⟨by decide +kernel, by decide +kernel, by decide +kernel⟩, ⟨TX9, 29, rfl⟩, by decide +kernel⟩
theorem hX9_strikesNow : CV iX9_strikesNow 4 9 := ⟨mg 1027 (by decide +kernel) (by decide +kernel), mg 32 (by decide +kernel) (by decide +kernel), inX9i, mg 1028 (by decide +kernel) (by decide +kernel), ⟨by decide +kernel, by decide +kernel, by decide +kernel⟩, ⟨TX9, 29, rfl⟩, by decide +kernel⟩
theorem hX9_strikes : CV iX9_strikes 4 9 := ⟨mg 1022 (by decide +kernel) (by decide +kernel), mg 1023 (by decide +kernel) (by decide +kernel), inX9i, mg 1024 (by decide +kernel) (by decide +kernel), ⟨by decide +kernel, by decide +kernel, by decide +kernel⟩, ⟨TX9, 29, rfl⟩, by decide +kernel⟩
theorem hX9_nextOf : CV iX9_nextOf 3 9 := ⟨mg 1035 (by decide +kernel) (by decide +kernel), mg 33 (by decide +kernel) (by decide +kernel), inX9i, mg 1036 (by decide +kernel) (by decide +kernel), ⟨by decide +kernel, by decide +kernel, by decide +kernel⟩, ⟨TX9, 29, rfl⟩, by decide +kernel⟩
theorem hX9_next : CV iX9_next 3 9 := ⟨mg 1030 (by decide +kernel) (by decide +kernel), mg 1031 (by decide +kernel) (by decide +kernel), inX9i, mg 1032 (by decide +kernel) (by decide +kernel), ⟨by decide +kernel, by decide +kernel, by decide +kernel⟩, ⟨TX9, 29, rfl⟩, by decide +kernel⟩
theorem hX9_leftIn : CV iX9_leftIn 2 9 := ⟨mg 1043 (by decide +kernel) (by decide +kernel), mg 34 (by decide +kernel) (by decide +kernel), inX9i, mg 1044 (by decide +kernel) (by decide +kernel), ⟨by decide +kernel, by decide +kernel, by decide +kernel⟩, ⟨TX9, 29, rfl⟩, by decide +kernel⟩
theorem hX9_left : CV iX9_left 2 9 := ⟨mg 1038 (by decide +kernel) (by decide +kernel), mg 1039 (by decide +kernel) (by decide +kernel), inX9i, mg 1040 (by decide +kernel) (by decide +kernel), ⟨by decide +kernel, by decide +kernel, by decide +kernel⟩, ⟨TX9, 29, rfl⟩, by decide +kernel⟩
theorem hX9_bestOf : CV iX9_bestOf 1 9 := ⟨mg 1051 (by decide +kernel) (by decide +kernel), mg 35 (by decide +kernel) (by decide +kernel), inX9i, mg 1052 (by decide +kernel) (by decide +kernel), ⟨by decide +kernel, by decide +kernel, by decide +kernel⟩, ⟨TX9, 29, rfl⟩, by decide +kernel⟩
theorem hX9_best : CV iX9_best 1 9 := ⟨mg 1046 (by decide +kernel) (by decide +kernel), mg 1047 (by decide +kernel) (by decide +kernel), inX9i, mg 1048 (by decide +kernel) (by decide +kernel), ⟨by decide +kernel, by decide +kernel, by decide +kernel⟩, ⟨TX9, 29, rfl⟩, by decide +kernel⟩
theorem hX9_unlikeOf : CV iX9_unlikeOf 2 9 := ⟨mg 1059 (by decide +kernel) (by decide +kernel), mg 36 (by decide +kernel) (by decide +kernel), inX9i, mg 1060 (by decide +kernel) (by decide +kernel), ⟨by decide +kernel, by decide +kernel, by decide +kernel⟩, ⟨TX9, 29, rfl⟩, by decide +kernel⟩
theorem hX9_unlike : CV iX9_unlike 2 9 := ⟨mg 1054 (by decide +kernel) (by decide +kernel), mg 1055 (by decide +kernel) (by decide +kernel), inX9i, mg 1056 (by decide +kernel) (by decide +kernel), ⟨by decide +kernel, by decide +kernel, by decide +kernel⟩, ⟨TX9, 29, rfl⟩, by decide +kernel⟩
theorem hX9_hoursOf : CV iX9_hoursOf 2 9 := ⟨mg 1082 (by decide +kernel) (by decide +kernel), mg 40 (by decide +kernel) (by decide +kernel), inX9i, mg 1083 (by decide +kernel) (by decide +kernel), ⟨by decide +kernel, by decide +kernel, by decide +kernel⟩, ⟨TX9, 29, rfl⟩, by decide +kernel⟩
theorem hX9_findFar : CV iX9_findFar 1 9 := ⟨mg 1074 (by decide +kernel) (by decide +kernel), mg 38 (by decide +kernel) (by decide +kernel), inX9i, mg 1075 (by decide +kernel) (by decide +kernel), ⟨by decide +kernel, by decide +kernel, by decide +kernel⟩, ⟨TX9, 29, rfl⟩, by decide +kernel⟩
theorem hX9_nextLand : CV iX9_nextLand 1 9 := ⟨mg 1078 (by decide +kernel) (by decide +kernel), mg 39 (by decide +kernel) (by decide +kernel), inX9i, mg 1079 (by decide +kernel) (by decide +kernel), ⟨by decide +kernel, by decide +kernel, by decide +kernel⟩, ⟨TX9, 29, rfl⟩, by decide +kernel⟩
theorem hX9_wayOf : CV iX9_wayOf 3 9 := ⟨mg 1070 (by decide +kernel) (by decide +kernel), mg 37 (by decide +kernel) (by decide +kernel), inX9i, mg 1071 (by decide +kernel) (by decide +kernel), ⟨by decide +kernel, by decide +kernel, by decide +kernel⟩, ⟨TX9, 29, rfl⟩, by decide +kernel⟩
theorem hX9_areTwo : CS iX9_areTwo 2 := ⟨mg 1066 (by decide +kernel) (by decide +kernel), inX9i, mg 1067 (by decide +kernel) (by decide +kernel), ⟨by decide +kernel, by decide +kernel, by decide +kernel⟩, by decide +kernel⟩
theorem hX9_way : CV iX9_way 3 9 := ⟨mg 1062 (by decide +kernel) (by decide +kernel), mg 1063 (by decide +kernel) (by decide +kernel), inX9i, mg 1064 (by decide +kernel) (by decide +kernel), ⟨by decide +kernel, by decide +kernel, by decide +kernel⟩, ⟨TX9, 29, rfl⟩, by decide +kernel⟩
theorem hX9_goes : CV iX9_goes 4 9 := ⟨mg 1099 (by decide +kernel) (by decide +kernel), mg 43 (by decide +kernel) (by decide +kernel), inX9i, mg 1100 (by decide +kernel) (by decide +kernel), ⟨by decide +kernel, by decide +kernel, by decide +kernel⟩, ⟨TX9, 29, rfl⟩, by decide +kernel⟩
theorem hX9_isRaid : CV iX9_isRaid 4 9 := ⟨mg 1095 (by decide +kernel) (by decide +kernel), mg 42 (by decide +kernel) (by decide +kernel), inX9i, mg 1096 (by decide +kernel) (by decide +kernel), ⟨by decide +kernel, by decide +kernel, by decide +kernel⟩, ⟨TX9, 29, rfl⟩, by decide +kernel⟩
theorem hX9_raidOf : CV iX9_raidOf 4 9 := ⟨mg 1091 (by decide +kernel) (by decide +kernel), mg 41 (by decide +kernel) (by decide +kernel), inX9i, mg 1092 (by decide +kernel) (by decide +kernel), ⟨by decide +kernel, by decide +kernel, by decide +kernel⟩, ⟨TX9, 29, rfl⟩, by decide +kernel⟩
theorem hX9_raid : CV iX9_raid 4 9 := ⟨mg 1085 (by decide +kernel) (by decide +kernel), mg 1086 (by decide +kernel) (by decide +kernel), inX9i, mg 1087 (by decide +kernel) (by decide +kernel), ⟨by decide +kernel, by decide +kernel, by decide +kernel⟩, ⟨TX9, 29, rfl⟩, by decide +kernel⟩
theorem hX9_set : CV iX9_set 2 9 := ⟨mg 1102 (by decide +kernel) (by decide +kernel), mg 1103 (by decide +kernel) (by decide +kernel), inX9i, mg 1104 (by decide +kernel) (by decide +kernel), ⟨by decide +kernel, by decide +kernel, by decide +kernel⟩, ⟨TX9, 29, rfl⟩, by decide +kernel⟩
theorem hX9_falls : CV iX9_falls 4 9 := ⟨mg 1117 (by decide +kernel) (by decide +kernel), mg 45 (by decide +kernel) (by decide +kernel), inX9i, mg 1118 (by decide +kernel) (by decide +kernel), ⟨by decide +kernel, by decide +kernel, by decide +kernel⟩, ⟨TX9, 29, rfl⟩, by decide +kernel⟩
theorem hX9_siegeOf : CV iX9_siegeOf 4 9 := ⟨mg 1113 (by decide +kernel) (by decide +kernel), mg 44 (by decide +kernel) (by decide +kernel), inX9i, mg 1114 (by decide +kernel) (by decide +kernel), ⟨by decide +kernel, by decide +kernel, by decide +kernel⟩, ⟨TX9, 29, rfl⟩, by decide +kernel⟩
theorem hX9_siege : CV iX9_siege 4 9 := ⟨mg 1107 (by decide +kernel) (by decide +kernel), mg 1108 (by decide +kernel) (by decide +kernel), inX9i, mg 1109 (by decide +kernel) (by decide +kernel), ⟨by decide +kernel, by decide +kernel, by decide +kernel⟩, ⟨TX9, 29, rfl⟩, by decide +kernel⟩
theorem hX9_holdsBy : CV iX9_holdsBy 3 9 := ⟨mg 1125 (by decide +kernel) (by decide +kernel), mg 46 (by decide +kernel) (by decide +kernel), inX9i, mg 1126 (by decide +kernel) (by decide +kernel), ⟨by decide +kernel, by decide +kernel, by decide +kernel⟩, ⟨TX9, 29, rfl⟩, by decide +kernel⟩
theorem hX9_holds : CV iX9_holds 3 9 := ⟨mg 1120 (by decide +kernel) (by decide +kernel), mg 1121 (by decide +kernel) (by decide +kernel), inX9i, mg 1122 (by decide +kernel) (by decide +kernel), ⟨by decide +kernel, by decide +kernel, by decide +kernel⟩, ⟨TX9, 29, rfl⟩, by decide +kernel⟩
theorem hX9_otherEnd : CV iX9_otherEnd 2 9 := ⟨mg 1139 (by decide +kernel) (by decide +kernel), mg 48 (by decide +kernel) (by decide +kernel), inX9i, mg 1140 (by decide +kernel) (by decide +kernel), ⟨by decide +kernel, by decide +kernel, by decide +kernel⟩, ⟨TX9, 29, rfl⟩, by decide +kernel⟩
theorem hX9_wasAt : CV iX9_wasAt 2 9 := ⟨mg 1143 (by decide +kernel) (by decide +kernel), mg 49 (by decide +kernel) (by decide +kernel), inX9i, mg 1144 (by decide +kernel) (by decide +kernel), ⟨by decide +kernel, by decide +kernel, by decide +kernel⟩, ⟨TX9, 29, rfl⟩, by decide +kernel⟩
theorem hX9_isLess : CV iX9_isLess 1 9 := ⟨mg 1151 (by decide +kernel) (by decide +kernel), mg 51 (by decide +kernel) (by decide +kernel), inX9i, mg 1152 (by decide +kernel) (by decide +kernel), ⟨by decide +kernel, by decide +kernel, by decide +kernel⟩, ⟨TX9, 29, rfl⟩, by decide +kernel⟩
theorem hX9_comes : CV iX9_comes 1 9 := ⟨mg 1147 (by decide +kernel) (by decide +kernel), mg 50 (by decide +kernel) (by decide +kernel), inX9i, mg 1148 (by decide +kernel) (by decide +kernel), ⟨by decide +kernel, by decide +kernel, by decide +kernel⟩, ⟨TX9, 29, rfl⟩, by decide +kernel⟩
theorem hX9_findHome : CV iX9_findHome 3 9 := ⟨mg 1134 (by decide +kernel) (by decide +kernel), mg 47 (by decide +kernel) (by decide +kernel), inX9i, mg 1135 (by decide +kernel) (by decide +kernel), ⟨by decide +kernel, by decide +kernel, by decide +kernel⟩, ⟨TX9, 29, rfl⟩, by decide +kernel⟩
theorem hX9_tellsHome : CV iX9_tellsHome 1 9 := ⟨mg 1155 (by decide +kernel) (by decide +kernel), mg 52 (by decide +kernel) (by decide +kernel), inX9i, mg 1156 (by decide +kernel) (by decide +kernel), ⟨by decide +kernel, by decide +kernel, by decide +kernel⟩, ⟨TX9, 29, rfl⟩, by decide +kernel⟩
theorem hX9_home : CV iX9_home 4 9 := ⟨mg 1128 (by decide +kernel) (by decide +kernel), mg 1129 (by decide +kernel) (by decide +kernel), inX9i, mg 1130 (by decide +kernel) (by decide +kernel), ⟨by decide +kernel, by decide +kernel, by decide +kernel⟩, ⟨TX9, 29, rfl⟩, by decide +kernel⟩
theorem hX9_pairOf : CV iX9_pairOf 1 9 := ⟨mg 1170 (by decide +kernel) (by decide +kernel), mg 54 (by decide +kernel) (by decide +kernel), inX9i, mg 1171 (by decide +kernel) (by decide +kernel), ⟨by decide +kernel, by decide +kernel, by decide +kernel⟩, ⟨TX9, 29, rfl⟩, by decide +kernel⟩
theorem hX9_agreeOf : CV iX9_agreeOf 1 9 := ⟨mg 1166 (by decide +kernel) (by decide +kernel), mg 53 (by decide +kernel) (by decide +kernel), inX9i, mg 1167 (by decide +kernel) (by decide +kernel), ⟨by decide +kernel, by decide +kernel, by decide +kernel⟩, ⟨TX9, 29, rfl⟩, by decide +kernel⟩
theorem hX9_agree : CV iX9_agree 1 9 := ⟨mg 1161 (by decide +kernel) (by decide +kernel), mg 1162 (by decide +kernel) (by decide +kernel), inX9i, mg 1163 (by decide +kernel) (by decide +kernel), ⟨by decide +kernel, by decide +kernel, by decide +kernel⟩, ⟨TX9, 29, rfl⟩, by decide +kernel⟩
theorem hX9_changesBy : CV iX9_changesBy 2 9 := ⟨mg 1186 (by decide +kernel) (by decide +kernel), mg 57 (by decide +kernel) (by decide +kernel), inX9i, mg 1187 (by decide +kernel) (by decide +kernel), ⟨by decide +kernel, by decide +kernel, by decide +kernel⟩, ⟨TX9, 29, rfl⟩, by decide +kernel⟩
theorem hX9_middleBell : CV iX9_middleBell 1 9 := ⟨mg 1182 (by decide +kernel) (by decide +kernel), mg 56 (by decide +kernel) (by decide +kernel), inX9i, mg 1183 (by decide +kernel) (by decide +kernel), ⟨by decide +kernel, by decide +kernel, by decide +kernel⟩, ⟨TX9, 29, rfl⟩, by decide +kernel⟩
theorem hX9_middleOf : CV iX9_middleOf 1 9 := ⟨mg 1178 (by decide +kernel) (by decide +kernel), mg 55 (by decide +kernel) (by decide +kernel), inX9i, mg 1179 (by decide +kernel) (by decide +kernel), ⟨by decide +kernel, by decide +kernel, by decide +kernel⟩, ⟨TX9, 29, rfl⟩, by decide +kernel⟩
theorem hX9_middle : CV iX9_middle 1 9 := ⟨mg 1173 (by decide +kernel) (by decide +kernel), mg 1174 (by decide +kernel) (by decide +kernel), inX9i, mg 1175 (by decide +kernel) (by decide +kernel), ⟨by decide +kernel, by decide +kernel, by decide +kernel⟩, ⟨TX9, 29, rfl⟩, by decide +kernel⟩
theorem hX9_seen : CV iX9_seen 3 9 := ⟨mg 1192 (by decide +kernel) (by decide +kernel), mg 1193 (by decide +kernel) (by decide +kernel), inX9i, mg 1194 (by decide +kernel) (by decide +kernel), ⟨by decide +kernel, by decide +kernel, by decide +kernel⟩, ⟨TX9, 29, rfl⟩, by decide +kernel⟩
theorem hX9_forget : CV iX9_forget 0 9 := ⟨mg 1196 (by decide +kernel) (by decide +kernel), mg 1197 (by decide +kernel) (by decide +kernel), inX9i, mg 1198 (by decide +kernel) (by decide +kernel), ⟨by decide +kernel, by decide +kernel, by decide +kernel⟩, ⟨TX9, 29, rfl⟩, by decide +kernel⟩
theorem hX9_whichNow : CV iX9_whichNow 0 9 := ⟨mg 1205 (by decide +kernel) (by decide +kernel), mg 58 (by decide +kernel) (by decide +kernel), inX9i, mg 1206 (by decide +kernel) (by decide +kernel), ⟨by decide +kernel, by decide +kernel, by decide +kernel⟩, ⟨TX9, 29, rfl⟩, by decide +kernel⟩
theorem hX9_which : CV iX9_which 0 9 := ⟨mg 1200 (by decide +kernel) (by decide +kernel), mg 1201 (by decide +kernel) (by decide +kernel), inX9i, mg 1202 (by decide +kernel) (by decide +kernel), ⟨by decide +kernel, by decide +kernel, by decide +kernel⟩, ⟨TX9, 29, rfl⟩, by decide +kernel⟩
theorem hX9_seasonOf : CV iX9_seasonOf 2 9 := ⟨mg 1213 (by decide +kernel) (by decide +kernel), mg 59 (by decide +kernel) (by decide +kernel), inX9i, mg 1214 (by decide +kernel) (by decide +kernel), ⟨by decide +kernel, by decide +kernel, by decide +kernel⟩, ⟨TX9, 29, rfl⟩, by decide +kernel⟩
theorem hX9_season : CV iX9_season 2 9 := ⟨mg 1208 (by decide +kernel) (by decide +kernel), mg 1209 (by decide +kernel) (by decide +kernel), inX9i, mg 1210 (by decide +kernel) (by decide +kernel), ⟨by decide +kernel, by decide +kernel, by decide +kernel⟩, ⟨TX9, 29, rfl⟩, by decide +kernel⟩
theorem hX9_write : CV iX9_write 3 9 := ⟨mg 1217 (by decide +kernel) (by decide +kernel), mg 1218 (by decide +kernel) (by decide +kernel), inX9i, mg 1219 (by decide +kernel) (by decide +kernel), ⟨by decide +kernel, by decide +kernel, by decide +kernel⟩, ⟨TX9, 29, rfl⟩, by decide +kernel⟩
theorem hX9_count : CV iX9_count 1 9 := ⟨mg 1221 (by decide +kernel) (by decide +kernel), mg 1222 (by decide +kernel) (by decide +kernel), inX9i, mg 1223 (by decide +kernel) (by decide +kernel), ⟨by decide +kernel, by decide +kernel, by decide +kernel⟩, ⟨TX9, 29, rfl⟩, by decide +kernel⟩
theorem hX9_tellsLand : CV iX9_tellsLand 2 9 := ⟨mg 1233 (by decide +kernel) (by decide +kernel), mg 60 (by decide +kernel) (by decide +kernel), inX9i, mg 1234 (by decide +kernel) (by decide +kernel), ⟨by decide +kernel, by decide +kernel, by decide +kernel⟩, ⟨TX9, 29, rfl⟩, by decide +kernel⟩
theorem hX9_tellsWays : CV iX9_tellsWays 2 9 := ⟨mg 1237 (by decide +kernel) (by decide +kernel), mg 61 (by decide +kernel) (by decide +kernel), inX9i, mg 1238 (by decide +kernel) (by decide +kernel), ⟨by decide +kernel, by decide +kernel, by decide +kernel⟩, ⟨TX9, 29, rfl⟩, by decide +kernel⟩
theorem hX9_digest : CV iX9_digest 0 9 := ⟨mg 1225 (by decide +kernel) (by decide +kernel), mg 1226 (by decide +kernel) (by decide +kernel), inX9i, mg 1227 (by decide +kernel) (by decide +kernel), ⟨by decide +kernel, by decide +kernel, by decide +kernel⟩, ⟨TX9, 29, rfl⟩, by decide +kernel⟩
theorem hJ7_fill_53178 : CS iJ7_fill_53178 2 := ⟨mg 91 (by decide +kernel) (by decide +kernel), inJ7i, mg 92 (by decide +kernel) (by decide +kernel), ⟨by decide +kernel, by decide +kernel, by decide +kernel⟩, by decide +kernel⟩
end
