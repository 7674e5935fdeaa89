section
-- ===== PART A: goes FIRST, ahead of the names: the tables' words, and 'selects' of the private methods out of them =====
/-- a private method of a class that the tables say can be made, by its rows of tables_1 -/
def lw_okq (q : MethodName × Nat) : Prop := (q.1.cls ≠ "java/lang/invoke/MethodHandle" ∧ q.1.cls ≠ "java/lang/invoke/VarHandle") ∧ Cond.instantiable q.1.cls q.2 ∈ tables_1 ∧ Cond.privateMethod q.1 ∈ tables_1 ∧ Cond.instanceMethod q.1 ∈ tables_1
theorem lw_p0 : lw_okq (⟨"TinCellar", "lossBy", "(II)I"⟩, 2) := ⟨⟨by decide +kernel, by decide +kernel⟩, List.mem_of_getElem? (i := 14) (by decide +kernel), List.mem_of_getElem? (i := 144) (by decide +kernel), List.mem_of_getElem? (i := 145) (by decide +kernel)⟩
theorem lw_p1 : lw_okq (⟨"TinCellar$Stock", "wearTins", "()V"⟩, 14) := ⟨⟨by decide +kernel, by decide +kernel⟩, List.mem_of_getElem? (i := 22) (by decide +kernel), List.mem_of_getElem? (i := 161) (by decide +kernel), List.mem_of_getElem? (i := 162) (by decide +kernel)⟩
theorem lw_p2 : lw_okq (⟨"TinCellar$Stock", "wearOn", "(II)I"⟩, 14) := ⟨⟨by decide +kernel, by decide +kernel⟩, List.mem_of_getElem? (i := 22) (by decide +kernel), List.mem_of_getElem? (i := 169) (by decide +kernel), List.mem_of_getElem? (i := 170) (by decide +kernel)⟩
theorem lw_p3 : lw_okq (⟨"TinCellar$Stock", "swellLid", "(I)V"⟩, 14) := ⟨⟨by decide +kernel, by decide +kernel⟩, List.mem_of_getElem? (i := 22) (by decide +kernel), List.mem_of_getElem? (i := 178) (by decide +kernel), List.mem_of_getElem? (i := 179) (by decide +kernel)⟩
theorem lw_p4 : lw_okq (⟨"TinCellar$Stock", "recallSwelled", "()V"⟩, 14) := ⟨⟨by decide +kernel, by decide +kernel⟩, List.mem_of_getElem? (i := 22) (by decide +kernel), List.mem_of_getElem? (i := 182) (by decide +kernel), List.mem_of_getElem? (i := 183) (by decide +kernel)⟩
theorem lw_p5 : lw_okq (⟨"TinCellar$Stock", "rankBy", "(II)I"⟩, 14) := ⟨⟨by decide +kernel, by decide +kernel⟩, List.mem_of_getElem? (i := 22) (by decide +kernel), List.mem_of_getElem? (i := 198) (by decide +kernel), List.mem_of_getElem? (i := 199) (by decide +kernel)⟩
theorem lw_p6 : lw_okq (⟨"TinCellar$Stock", "ship", "(I)V"⟩, 14) := ⟨⟨by decide +kernel, by decide +kernel⟩, List.mem_of_getElem? (i := 22) (by decide +kernel), List.mem_of_getElem? (i := 202) (by decide +kernel), List.mem_of_getElem? (i := 203) (by decide +kernel)⟩
theorem lw_p7 : lw_okq (⟨"java/lang/Throwable", "fillInStackTrace", "(I)Ljava/lang/Throwable;"⟩, 6) := ⟨⟨by decide +kernel, by decide +kernel⟩, List.mem_of_getElem? (i := 282) (by decide +kernel), List.mem_of_getElem? (i := 280) (by decide +kernel), List.mem_of_getElem? (i := 281) (by decide +kernel)⟩
theorem lw_p8 : lw_okq (⟨"TinCellar", "mixShelves", "(J)J"⟩, 2) := ⟨⟨by decide +kernel, by decide +kernel⟩, List.mem_of_getElem? (i := 14) (by decide +kernel), List.mem_of_getElem? (i := 315) (by decide +kernel), List.mem_of_getElem? (i := 316) (by decide +kernel)⟩
theorem lw_p9 : lw_okq (⟨"TinCellar", "mixBatches", "(J)J"⟩, 2) := ⟨⟨by decide +kernel, by decide +kernel⟩, List.mem_of_getElem? (i := 14) (by decide +kernel), List.mem_of_getElem? (i := 350) (by decide +kernel), List.mem_of_getElem? (i := 351) (by decide +kernel)⟩
theorem lw_p10 : lw_okq (⟨"TinCellar", "needBatch", "(I)V"⟩, 2) := ⟨⟨by decide +kernel, by decide +kernel⟩, List.mem_of_getElem? (i := 14) (by decide +kernel), List.mem_of_getElem? (i := 358) (by decide +kernel), List.mem_of_getElem? (i := 359) (by decide +kernel)⟩
theorem lw_p11 : lw_okq (⟨"TinCellar", "mixTins", "(J)J"⟩, 2) := ⟨⟨by decide +kernel, by decide +kernel⟩, List.mem_of_getElem? (i := 14) (by decide +kernel), List.mem_of_getElem? (i := 376) (by decide +kernel), List.mem_of_getElem? (i := 377) (by decide +kernel)⟩
theorem lw_p12 : lw_okq (⟨"TinCellar", "needTin", "(I)V"⟩, 2) := ⟨⟨by decide +kernel, by decide +kernel⟩, List.mem_of_getElem? (i := 14) (by decide +kernel), List.mem_of_getElem? (i := 384) (by decide +kernel), List.mem_of_getElem? (i := 385) (by decide +kernel)⟩
theorem lw_p13 : lw_okq (⟨"TinCellarModel", "no", "(I)I"⟩, 12) := ⟨⟨by decide +kernel, by decide +kernel⟩, List.mem_of_getElem? (i := 583) (by decide +kernel), List.mem_of_getElem? (i := 637) (by decide +kernel), List.mem_of_getElem? (i := 638) (by decide +kernel)⟩
theorem lw_p14 : lw_okq (⟨"TinCellarModel", "isBatch", "(I)Z"⟩, 12) := ⟨⟨by decide +kernel, by decide +kernel⟩, List.mem_of_getElem? (i := 583) (by decide +kernel), List.mem_of_getElem? (i := 645) (by decide +kernel), List.mem_of_getElem? (i := 646) (by decide +kernel)⟩
theorem lw_p15 : lw_okq (⟨"TinCellarModel", "isTin", "(I)Z"⟩, 12) := ⟨⟨by decide +kernel, by decide +kernel⟩, List.mem_of_getElem? (i := 583) (by decide +kernel), List.mem_of_getElem? (i := 656) (by decide +kernel), List.mem_of_getElem? (i := 657) (by decide +kernel)⟩
def lw_privs_1 : List (MethodName × Nat) := [(⟨"TinCellar", "lossBy", "(II)I"⟩, 2), (⟨"TinCellar$Stock", "wearTins", "()V"⟩, 14), (⟨"TinCellar$Stock", "wearOn", "(II)I"⟩, 14), (⟨"TinCellar$Stock", "swellLid", "(I)V"⟩, 14), (⟨"TinCellar$Stock", "recallSwelled", "()V"⟩, 14), (⟨"TinCellar$Stock", "rankBy", "(II)I"⟩, 14), (⟨"TinCellar$Stock", "ship", "(I)V"⟩, 14), (⟨"java/lang/Throwable", "fillInStackTrace", "(I)Ljava/lang/Throwable;"⟩, 6), (⟨"TinCellar", "mixShelves", "(J)J"⟩, 2), (⟨"TinCellar", "mixBatches", "(J)J"⟩, 2), (⟨"TinCellar", "needBatch", "(I)V"⟩, 2), (⟨"TinCellar", "mixTins", "(J)J"⟩, 2), (⟨"TinCellar", "needTin", "(I)V"⟩, 2), (⟨"TinCellarModel", "no", "(I)I"⟩, 12), (⟨"TinCellarModel", "isBatch", "(I)Z"⟩, 12), (⟨"TinCellarModel", "isTin", "(I)Z"⟩, 12)]
theorem lw_r1 : ∀ q ∈ lw_privs_1, lw_okq q := List.forall_mem_cons.mpr ⟨lw_p0, List.forall_mem_cons.mpr ⟨lw_p1, List.forall_mem_cons.mpr ⟨lw_p2, List.forall_mem_cons.mpr ⟨lw_p3, List.forall_mem_cons.mpr ⟨lw_p4, List.forall_mem_cons.mpr ⟨lw_p5, List.forall_mem_cons.mpr ⟨lw_p6, List.forall_mem_cons.mpr ⟨lw_p7, List.forall_mem_cons.mpr ⟨lw_p8, List.forall_mem_cons.mpr ⟨lw_p9, List.forall_mem_cons.mpr ⟨lw_p10, List.forall_mem_cons.mpr ⟨lw_p11, List.forall_mem_cons.mpr ⟨lw_p12, List.forall_mem_cons.mpr ⟨lw_p13, List.forall_mem_cons.mpr ⟨lw_p14, List.forall_mem_cons.mpr ⟨lw_p15, fun _ h => absurd h List.not_mem_nil⟩⟩⟩⟩⟩⟩⟩⟩⟩⟩⟩⟩⟩⟩⟩⟩
theorem lw_p16 : lw_okq (⟨"TinCellarModel", "isHere", "(I)Z"⟩, 12) := ⟨⟨by decide +kernel, by decide +kernel⟩, List.mem_of_getElem? (i := 583) (by decide +kernel), List.mem_of_getElem? (i := 660) (by decide +kernel), List.mem_of_getElem? (i := 661) (by decide +kernel)⟩
theorem lw_p17 : lw_okq (⟨"TinCellarModel", "takeBack", "(I)I"⟩, 12) := ⟨⟨by decide +kernel, by decide +kernel⟩, List.mem_of_getElem? (i := 583) (by decide +kernel), List.mem_of_getElem? (i := 679) (by decide +kernel), List.mem_of_getElem? (i := 680) (by decide +kernel)⟩
theorem lw_p18 : lw_okq (⟨"TinCellarModel", "count", "(I)I"⟩, 12) := ⟨⟨by decide +kernel, by decide +kernel⟩, List.mem_of_getElem? (i := 583) (by decide +kernel), List.mem_of_getElem? (i := 687) (by decide +kernel), List.mem_of_getElem? (i := 688) (by decide +kernel)⟩
theorem lw_p19 : lw_okq (⟨"TinCellarModel", "daysOn", "(I)V"⟩, 12) := ⟨⟨by decide +kernel, by decide +kernel⟩, List.mem_of_getElem? (i := 583) (by decide +kernel), List.mem_of_getElem? (i := 691) (by decide +kernel), List.mem_of_getElem? (i := 692) (by decide +kernel)⟩
theorem lw_p20 : lw_okq (⟨"TinCellarModel", "dayOn", "()V"⟩, 12) := ⟨⟨by decide +kernel, by decide +kernel⟩, List.mem_of_getElem? (i := 583) (by decide +kernel), List.mem_of_getElem? (i := 695) (by decide +kernel), List.mem_of_getElem? (i := 696) (by decide +kernel)⟩
theorem lw_p21 : lw_okq (⟨"TinCellarModel", "leak", "(I)V"⟩, 12) := ⟨⟨by decide +kernel, by decide +kernel⟩, List.mem_of_getElem? (i := 583) (by decide +kernel), List.mem_of_getElem? (i := 699) (by decide +kernel), List.mem_of_getElem? (i := 700) (by decide +kernel)⟩
theorem lw_p22 : lw_okq (⟨"TinCellarModel", "rate", "(II)I"⟩, 12) := ⟨⟨by decide +kernel, by decide +kernel⟩, List.mem_of_getElem? (i := 583) (by decide +kernel), List.mem_of_getElem? (i := 703) (by decide +kernel), List.mem_of_getElem? (i := 704) (by decide +kernel)⟩
theorem lw_p23 : lw_okq (⟨"TinCellarModel", "firstBy", "(I)I"⟩, 12) := ⟨⟨by decide +kernel, by decide +kernel⟩, List.mem_of_getElem? (i := 583) (by decide +kernel), List.mem_of_getElem? (i := 708) (by decide +kernel), List.mem_of_getElem? (i := 709) (by decide +kernel)⟩
theorem lw_p24 : lw_okq (⟨"TinCellarModel", "key", "(II)I"⟩, 12) := ⟨⟨by decide +kernel, by decide +kernel⟩, List.mem_of_getElem? (i := 583) (by decide +kernel), List.mem_of_getElem? (i := 712) (by decide +kernel), List.mem_of_getElem? (i := 713) (by decide +kernel)⟩
theorem lw_p25 : lw_okq (⟨"TinCellarModel", "ok", "(I)I"⟩, 12) := ⟨⟨by decide +kernel, by decide +kernel⟩, List.mem_of_getElem? (i := 583) (by decide +kernel), List.mem_of_getElem? (i := 720) (by decide +kernel), List.mem_of_getElem? (i := 721) (by decide +kernel)⟩
theorem lw_p26 : lw_okq (⟨"TinCellarModel", "allSwelled", "()I"⟩, 12) := ⟨⟨by decide +kernel, by decide +kernel⟩, List.mem_of_getElem? (i := 583) (by decide +kernel), List.mem_of_getElem? (i := 748) (by decide +kernel), List.mem_of_getElem? (i := 749) (by decide +kernel)⟩
theorem lw_p27 : lw_okq (⟨"TinCellarModel", "on", "(I)I"⟩, 12) := ⟨⟨by decide +kernel, by decide +kernel⟩, List.mem_of_getElem? (i := 583) (by decide +kernel), List.mem_of_getElem? (i := 756) (by decide +kernel), List.mem_of_getElem? (i := 757) (by decide +kernel)⟩
theorem lw_p28 : lw_okq (⟨"TinCellarModel", "place", "(I)I"⟩, 12) := ⟨⟨by decide +kernel, by decide +kernel⟩, List.mem_of_getElem? (i := 583) (by decide +kernel), List.mem_of_getElem? (i := 772) (by decide +kernel), List.mem_of_getElem? (i := 773) (by decide +kernel)⟩
theorem lw_p29 : lw_okq (⟨"TinCellarModel", "is", "(II)Z"⟩, 12) := ⟨⟨by decide +kernel, by decide +kernel⟩, List.mem_of_getElem? (i := 583) (by decide +kernel), List.mem_of_getElem? (i := 784) (by decide +kernel), List.mem_of_getElem? (i := 785) (by decide +kernel)⟩
theorem lw_p30 : lw_okq (⟨"TinCellarModel", "isNot", "(I)Z"⟩, 12) := ⟨⟨by decide +kernel, by decide +kernel⟩, List.mem_of_getElem? (i := 583) (by decide +kernel), List.mem_of_getElem? (i := 788) (by decide +kernel), List.mem_of_getElem? (i := 789) (by decide +kernel)⟩
theorem lw_p31 : lw_okq (⟨"TinCellarModel", "left", "(I)I"⟩, 12) := ⟨⟨by decide +kernel, by decide +kernel⟩, List.mem_of_getElem? (i := 583) (by decide +kernel), List.mem_of_getElem? (i := 804) (by decide +kernel), List.mem_of_getElem? (i := 805) (by decide +kernel)⟩
def lw_privs_2 : List (MethodName × Nat) := [(⟨"TinCellarModel", "isHere", "(I)Z"⟩, 12), (⟨"TinCellarModel", "takeBack", "(I)I"⟩, 12), (⟨"TinCellarModel", "count", "(I)I"⟩, 12), (⟨"TinCellarModel", "daysOn", "(I)V"⟩, 12), (⟨"TinCellarModel", "dayOn", "()V"⟩, 12), (⟨"TinCellarModel", "leak", "(I)V"⟩, 12), (⟨"TinCellarModel", "rate", "(II)I"⟩, 12), (⟨"TinCellarModel", "firstBy", "(I)I"⟩, 12), (⟨"TinCellarModel", "key", "(II)I"⟩, 12), (⟨"TinCellarModel", "ok", "(I)I"⟩, 12), (⟨"TinCellarModel", "allSwelled", "()I"⟩, 12), (⟨"TinCellarModel", "on", "(I)I"⟩, 12), (⟨"TinCellarModel", "place", "(I)I"⟩, 12), (⟨"TinCellarModel", "is", "(II)Z"⟩, 12), (⟨"TinCellarModel", "isNot", "(I)Z"⟩, 12), (⟨"TinCellarModel", "left", "(I)I"⟩, 12)]
theorem lw_r2 : ∀ q ∈ lw_privs_2, lw_okq q := List.forall_mem_cons.mpr ⟨lw_p16, List.forall_mem_cons.mpr ⟨lw_p17, List.forall_mem_cons.mpr ⟨lw_p18, List.forall_mem_cons.mpr ⟨lw_p19, List.forall_mem_cons.mpr ⟨lw_p20, List.forall_mem_cons.mpr ⟨lw_p21, List.forall_mem_cons.mpr ⟨lw_p22, List.forall_mem_cons.mpr ⟨lw_p23, List.forall_mem_cons.mpr ⟨lw_p24, List.forall_mem_cons.mpr ⟨lw_p25, List.forall_mem_cons.mpr ⟨lw_p26, List.forall_mem_cons.mpr ⟨lw_p27, List.forall_mem_cons.mpr ⟨lw_p28, List.forall_mem_cons.mpr ⟨lw_p29, List.forall_mem_cons.mpr ⟨lw_p30, List.forall_mem_cons.mpr ⟨lw_p31, fun _ h => absurd h List.not_mem_nil⟩⟩⟩⟩⟩⟩⟩⟩⟩⟩⟩⟩⟩⟩⟩⟩
theorem lw_p32 : lw_okq (⟨"TinCellarModel", "ahead", "(II)I"⟩, 12) := ⟨⟨by decide +kernel, by decide +kernel⟩, List.mem_of_getElem? (i := 583) (by decide +kernel), List.mem_of_getElem? (i := 820) (by decide +kernel), List.mem_of_getElem? (i := 821) (by decide +kernel)⟩
theorem lw_p33 : lw_okq (⟨"TinCellarModel", "until", "(II)I"⟩, 12) := ⟨⟨by decide +kernel, by decide +kernel⟩, List.mem_of_getElem? (i := 583) (by decide +kernel), List.mem_of_getElem? (i := 828) (by decide +kernel), List.mem_of_getElem? (i := 829) (by decide +kernel)⟩
theorem lw_p34 : lw_okq (⟨"TinCellarModel", "untilRecalled", "(I)I"⟩, 12) := ⟨⟨by decide +kernel, by decide +kernel⟩, List.mem_of_getElem? (i := 583) (by decide +kernel), List.mem_of_getElem? (i := 836) (by decide +kernel), List.mem_of_getElem? (i := 837) (by decide +kernel)⟩
theorem lw_p35 : lw_okq (⟨"TinCellarModel", "keep", "()V"⟩, 12) := ⟨⟨by decide +kernel, by decide +kernel⟩, List.mem_of_getElem? (i := 583) (by decide +kernel), List.mem_of_getElem? (i := 840) (by decide +kernel), List.mem_of_getElem? (i := 841) (by decide +kernel)⟩
theorem lw_p36 : lw_okq (⟨"TinCellarModel", "bringBack", "()V"⟩, 12) := ⟨⟨by decide +kernel, by decide +kernel⟩, List.mem_of_getElem? (i := 583) (by decide +kernel), List.mem_of_getElem? (i := 847) (by decide +kernel), List.mem_of_getElem? (i := 848) (by decide +kernel)⟩
theorem lw_p37 : lw_okq (⟨"TinCellarModel", "lostBehind", "(II)I"⟩, 12) := ⟨⟨by decide +kernel, by decide +kernel⟩, List.mem_of_getElem? (i := 583) (by decide +kernel), List.mem_of_getElem? (i := 855) (by decide +kernel), List.mem_of_getElem? (i := 856) (by decide +kernel)⟩
theorem lw_p38 : lw_okq (⟨"TinCellarModel", "best", "()I"⟩, 12) := ⟨⟨by decide +kernel, by decide +kernel⟩, List.mem_of_getElem? (i := 583) (by decide +kernel), List.mem_of_getElem? (i := 863) (by decide +kernel), List.mem_of_getElem? (i := 864) (by decide +kernel)⟩
theorem lw_p39 : lw_okq (⟨"TinCellarModel", "wanted", "()I"⟩, 12) := ⟨⟨by decide +kernel, by decide +kernel⟩, List.mem_of_getElem? (i := 583) (by decide +kernel), List.mem_of_getElem? (i := 871) (by decide +kernel), List.mem_of_getElem? (i := 872) (by decide +kernel)⟩
theorem lw_p40 : lw_okq (⟨"TinCellarModel", "shelfFor", "(I)I"⟩, 12) := ⟨⟨by decide +kernel, by decide +kernel⟩, List.mem_of_getElem? (i := 583) (by decide +kernel), List.mem_of_getElem? (i := 879) (by decide +kernel), List.mem_of_getElem? (i := 880) (by decide +kernel)⟩
def lw_privs_3 : List (MethodName × Nat) := [(⟨"TinCellarModel", "ahead", "(II)I"⟩, 12), (⟨"TinCellarModel", "until", "(II)I"⟩, 12), (⟨"TinCellarModel", "untilRecalled", "(I)I"⟩, 12), (⟨"TinCellarModel", "keep", "()V"⟩, 12), (⟨"TinCellarModel", "bringBack", "()V"⟩, 12), (⟨"TinCellarModel", "lostBehind", "(II)I"⟩, 12), (⟨"TinCellarModel", "best", "()I"⟩, 12), (⟨"TinCellarModel", "wanted", "()I"⟩, 12), (⟨"TinCellarModel", "shelfFor", "(I)I"⟩, 12)]
theorem lw_r3 : ∀ q ∈ lw_privs_3, lw_okq q := List.forall_mem_cons.mpr ⟨lw_p32, List.forall_mem_cons.mpr ⟨lw_p33, List.forall_mem_cons.mpr ⟨lw_p34, List.forall_mem_cons.mpr ⟨lw_p35, List.forall_mem_cons.mpr ⟨lw_p36, List.forall_mem_cons.mpr ⟨lw_p37, List.forall_mem_cons.mpr ⟨lw_p38, List.forall_mem_cons.mpr ⟨lw_p39, List.forall_mem_cons.mpr ⟨lw_p40, fun _ h => absurd h List.not_mem_nil⟩⟩⟩⟩⟩⟩⟩⟩⟩
def lw_privs : List (MethodName × Nat) := lw_privs_1 ++ (lw_privs_2 ++ (lw_privs_3))
def lw_tbl : List Cond := k2_sels lw_privs ++ tables_1
theorem lw_privs_ok : ∀ q ∈ lw_privs, lw_okq q := by
  show ∀ q ∈ lw_privs_1 ++ (lw_privs_2 ++ (lw_privs_3)), lw_okq q
  exact List.forall_mem_append.mpr ⟨lw_r1, List.forall_mem_append.mpr ⟨lw_r2, lw_r3⟩⟩
/-- the streams that the claim lets the run draw from -/
abbrev lw_cs : List Choice := [Jvm.Choice.named "NaN.bits"]
theorem lw_bits : nanBits ∈ lw_cs := by first | decide | exact List.mem_cons_self | simp [lw_cs, nanBits]
-- ===== end of PART A; then your names; then what follows =====
end
section
/-! ===== BEGIN words of one list among another's, by their places ===== -/
theorem goodIn_r {big : List Cond} (ws : List Cond) (ps : List Nat) (hp : ws = ps.filterMap (fun i => big[i]?)) (h : ws.all goodWord = true) : GoodIn big ws := by
  intro w hw
  have h1 := List.all_eq_true.mp h w hw
  rw [hp] at hw
  obtain ⟨i, -, hi⟩ := List.mem_filterMap.mp hw
  have hm : w ∈ big := by first | exact List.mem_of_getElem? hi | exact List.getElem?_mem hi
  exact ⟨hm, good_of_word h1⟩
theorem goodIn_app {big a b : List Cond} (ha : GoodIn big a) (hb : GoodIn big b) : GoodIn big (a ++ b) := fun w h => (List.mem_append.mp h).elim (ha w) (hb w)
theorem goodIn_ca {big a b : List Cond} {c : Cond} (ha : GoodIn big (c :: a)) (hb : GoodIn big b) : GoodIn big (c :: (a ++ b)) := fun w h => (List.mem_cons.mp h).elim (fun e => ha w (List.mem_cons.mpr (Or.inl e))) (fun h => (List.mem_append.mp h).elim (fun h => ha w (List.mem_cons.mpr (Or.inr h))) (hb w))
theorem goodIn_sub {big ws : List Cond} (hm : ∀ w ∈ ws, w ∈ big) (h : ws.all goodWord = true) : GoodIn big ws := fun w hw => ⟨hm w hw, good_of_word (List.all_eq_true.mp h w hw)⟩
/-! ===== END ===== -/

/-! ===== BEGIN exceptions that leave a method, and their catching by the caller (launches without stack traces) ===== -/
section VXA
/-! The laws vx_back, vx_callV, vx_callS, vx_callSW, vx_throw0, vx_throwS follow proofs of the library, with one case more: JvmDerived/Free/Laws.lean (Back.of_free), Shelf42/LK1.lean (callV, callS), Shelf/KitTraced.lean (throwNew0V, throwNewS). -/
/-- where a method has thrown q: the class by its name, the cell, what was written, the world -/
def vx_T (XC : String → State → State → Prop) (st : State) (q : Addr) (t : State) (mc ms : Nat) (free : Addr → Prop) : Prop :=
  ∃ (E : String) (ce : Cell) (L : List Loc), XC E st t ∧ t.heap[q]? = some ce ∧ ce.vm = .none ∧ st.vm.findClass E = some ce.cls ∧ st.WarmedH t.vm ∧ st.sameButNew ({ t with vm := st.vm } : State) L mc ms ∧ ∀ z ∈ L, free z.base
def vx_Q (Qc : Array Value → State → Outcome → State → Prop) (XC : String → State → State → Prop) (mc ms : Nat) (free : Addr → Prop) : Array Value → State → Outcome → State → Prop := fun a st o t =>
  (Qc a st o t ∧ ∃ L, FrameEnd st o t L mc ms ∧ ∀ q ∈ L, free q.base) ∨ ∃ q, o = .threw q ∧ vx_T XC st q t mc ms free
/-- a callee that returns or throws -/
def vx_Met (l : Launch) (y : MethodName) (ws : List Cond) (rm : Room) (Pc : Array Value → State → Prop) (Qc : Array Value → State → Outcome → State → Prop) (XC : String → State → State → Prop) (mc ms : Nat) (free : Addr → Prop) : Prop :=
  MetFree l y (headSpec ws rm) Pc (fun _ _ _ _ _ => True) (vx_Q Qc XC mc ms free)
def vx_Post (XC : String → State → State → Prop) (mc ms : Nat) (free : Addr → Prop) : Pt → Array Value → Addr → Pt → Prop := fun A a q B =>
  ∃ (g : JFrame) (mk : MethodId) (t : State) (L : List Loc) (E : String) (ce : Cell), B.U.heap = t.heap ∧ B.U.vm = t.vm ∧ XC E (A.U.calling g mk a) t ∧ t.heap[q]? = some ce ∧ ce.vm = .none ∧ A.U.vm.findClass E = some ce.cls ∧ B.locs = A.locs ++ L ∧ (∀ z ∈ L, free z.base) ∧ B.cells = A.cells + mc ∧ B.slots = A.slots + ms
def vx_Back (l : Launch) (R : Room) (p : Program) (e : Env) (below : List Frame) (s : State) (sargs : Array Value) (y : MethodName) (len W9 : Nat)
    (Pre : Pt → Array Value → Prop) (Post : Pt → Array Value → Option Value → Pt → Prop) (PostX : Pt → Array Value → Addr → Pt → Prop) : Prop :=
  ∀ (m : MethodId) (meth : Method) (c : Code) (A : Pt) (g : JFrame) (ig : Instr) (mk : MethodId) (a : Array Value),
    Stand p l e R s m sargs below meth c A.U A.locs A.cells A.slots → g.method = m → g.locals.size = c.maxLocals → decode c.code g.pc = .ok (ig, len) →
    2 * g.monitorRoom + (g.stack.map fun v => v.category).sum ≤ W9 → A.U.methodNamed? y = some mk → Pre A a →
    (∃ (v : Option Value) (B : Pt), Stand p l e R s m sargs below meth c B.U B.locs B.cells B.slots ∧ Post A a v B ∧
      Steps p.tables e below (doInvoke e (A.U.setTop g) [] mk a).1 (B.U.setTop { g with pc := g.pc + len, stack := v.toList ++ g.stack })) ∨
    (∃ (q : Addr) (B : Pt), Stand p l e R s m sargs below meth c B.U B.locs B.cells B.slots ∧ PostX A a q B ∧
      Steps p.tables e below (doInvoke e (A.U.setTop g) [] mk a).1 ((B.U.setTop g).pushFrame (.throwing q)))
section Payer
variable {l : Launch} {R : Room} {p : Program} {e : Env} {below : List Frame} {s : State} {sargs : Array Value} {y : MethodName} {len W9 : Nat}
theorem vx_back {ws : List Cond} {rm : Room} {Pc : Array Value → State → Prop} {Qc : Array Value → State → Outcome → State → Prop} {XC : String → State → State → Prop} {mc ms : Nat} {free : Addr → Prop} {bytes : ByteArray} {maxL : Nat} {ret : Option FieldType}
    (hM : vx_Met l y ws rm Pc Qc XC mc ms free) (hblind : FrameBlind Pc) (hrc : rm.cells = mc) (hrs : rm.slots = ms)
    (hframes : rm.frames + 1 ≤ R.frames) (hlocals : W9 + (maxL + 11) + rm.locals ≤ R.locals)
    (hws : ∀ w ∈ ws, ∀ a' U, s.WarmedH U.vm → w.before a' U = true) (hcode : Cond.code y bytes maxL ret ∈ ws) (hinit : ∀ a' U, s.WarmedH U.vm → (Cond.initialized y.cls).before a' U = true) :
    vx_Back l R p e below s sargs y len W9 (PreOf R mc ms Pc) (PostOf Qc mc ms free) (vx_Post XC mc ms free) := by
  intro m meth c A g ig mk a X hg hsize hdg hW hn hp
  have h1 : (headSpec ws rm).pre.before a A.U = true := atoms_intro fun w hw => hws w hw _ _ X.warmed
  have h2 : (Cond.code y bytes maxL ret).before a A.U = true := hws _ hcode _ _ X.warmed
  have h3 : (Cond.initialized y.cls).before a A.U = true := hinit _ _ X.warmed
  have h4 : A.cells + (headSpec ws rm).room.cells ≤ R.cells := by rw [show (headSpec ws rm).room.cells = mc from hrc]; exact hp.1
  have h5 : A.slots + (headSpec ws rm).room.slots ≤ R.slots := by rw [show (headSpec ws rm).room.slots = ms from hrs]; exact hp.2.1
  have hPc : Pc a (A.U.calling g mk a) := hblind _ _ _ _ hp.2.2
  obtain ⟨U, Ls, c0, s0⟩ := A
  dsimp only [Pt.U, Pt.locs, Pt.cells, Pt.slots] at h1 h2 h3 h4 h5 X hn hPc ⊢
  obtain ⟨methY, cY, hmY, hcY, -, hlY, -, -, -, -⟩ := Cond.code_spec hn h2
  obtain ⟨kY, hkY, -⟩ := className_of_methodNamed hn
  have hinitY : kY.init = .initialized := Cond.initialized_spec (findClass_of_methodNamed hn) hkY h3
  have h : At U g.method c below := by rw [hg]; exact X.here
  have hlocals9 : W9 + (maxL + 11) + (headSpec ws rm).room.locals ≤ R.locals := hlocals
  have happ : (headSpec ws rm).appliesLoose y e.platform (U.calling g mk a) = true :=
    Spec.appliesLoose_calling (g := g) h hdg hn hkY hinitY
      (X.room_calling (g := g) (R' := (headSpec ws rm).room) hsize hmY hcY hframes (by rw [hlY]; omega) h4 h5) h1
  obtain ⟨mid, hmid⟩ := h.above
  have hfr : (U.setTop g).frames = (.java g :: mid) ++ below := by rw [State.frames_setTop' g h.top, hmid]; rfl
  obtain ⟨o, s₂, hsteps, -, hend, hq⟩ := Steps.callFree hM p X.admits X.cas X.clock (acts := []) hfr happ hPc trivial
  have hq' : vx_Q Qc XC mc ms free a (U.calling g mk a) o s₂ := hq
  rw [State.frames_setTop' g h.top] at hend
  obtain ⟨g₀, hg0⟩ := Option.isSome_iff_exists.mp h.top
  obtain ⟨r, hr⟩ := State.topJava?_eq_some.mp hg0
  have hr' : (({ U with heap := s₂.heap, slotsUsed := s₂.slotsUsed } : State).setVm s₂.vm).frames = .java g₀ :: r := hr
  rcases hq' with ⟨hqc, L, hfe, hL⟩ | ⟨q, rfl, E, ce, L, hx, hce, hcv, hcl, hW₂, hsm, hL⟩
  · obtain ⟨⟨v, rfl⟩, hW₂, e2, q2, q3, q4, q5, q6⟩ := id hfe
    have e3 : s₂ = ({ (U.calling g mk a).setFrames s₂.frames with heap := s₂.heap, slotsUsed := s₂.slotsUsed } : State).setVm s₂.vm := by
      have : s₂ = ({ s₂ with vm := (U.calling g mk a).vm } : State).setVm s₂.vm := rfl
      rw [e2] at this
      exact this
    obtain ⟨c₂, i₂, len₂, hc₂, hd₂, hf₂⟩ := hend
    have hW' : U.WarmedH s₂.vm := hW₂
    have hcc : c₂ = c := by
      have h1 : s₂.code? g.method = U.code? g.method := by
        rw [State.code?_eq, State.code?_eq, hW'.alike.method?]
      exact Option.some.inj (hc₂.symm.trans (h1.trans h.code))
    subst hcc
    have hlen : len₂ = len := by rw [hdg] at hd₂; cases hd₂; rfl
    subst hlen
    have hs₂ : s₂ = (({ U with heap := s₂.heap, slotsUsed := s₂.slotsUsed } : State).setVm s₂.vm).setTop { g with pc := g.pc + len₂, stack := v.toList ++ g.stack } := by
      refine e3.trans ?_
      rw [hf₂, State.calling_eq h.top, State.setFrames_setFrames, State.setTop_of_frames _ hr', hr]
      rfl
    have hsame : U.sameButNew ({ U with heap := s₂.heap, slotsUsed := s₂.slotsUsed } : State) L mc ms := by
      refine ⟨?_, q2, q3, q4, q5, q6⟩
      obtain ⟨t, ht, -⟩ := State.frames_cons hr
      show ({ U with heap := s₂.heap, slotsUsed := s₂.slotsUsed } : State) = { U.setFrames U.frames with heap := s₂.heap, slotsUsed := s₂.slotsUsed }
      rw [State.setFrames_self ht]
    subst hg
    refine Or.inl ⟨v, ⟨(({ U with heap := s₂.heap, slotsUsed := s₂.slotsUsed } : State).setVm s₂.vm), Ls ++ L, c0 + mc, s0 + ms⟩,
      ⟨X.admits, X.cas, X.clock, X.frames, X.room, X.hears, X.method, X.code, (X.here.setHeapUsed s₂.heap s₂.slotsUsed).setVm hW'.alike, X.tail, State.WarmedH.trans X.warmed hW', X.limits, X.bytes, X.same.trans (hsame.setVm s.vm)⟩,
      ⟨g, mk, s₂, L, rfl, rfl, hqc, rfl, hL, rfl, rfl⟩, ?_⟩
    show Steps p.tables e below _ ((({ U with heap := s₂.heap, slotsUsed := s₂.slotsUsed } : State).setVm s₂.vm).setTop { g with pc := g.pc + len₂, stack := v.toList ++ g.stack })
    rw [← hs₂]
    exact hsteps
  · obtain ⟨e2, q2, q3, q4, q5, q6⟩ := id hsm
    have e3 : s₂ = ({ (U.calling g mk a).setFrames s₂.frames with heap := s₂.heap, slotsUsed := s₂.slotsUsed } : State).setVm s₂.vm := by
      have : s₂ = ({ s₂ with vm := (U.calling g mk a).vm } : State).setVm s₂.vm := rfl
      rw [e2] at this
      exact this
    have hf₂ : s₂.frames = .throwing q :: .java g :: U.frames.tail := hend
    have hW' : U.WarmedH s₂.vm := hW₂
    have hs₂ : s₂ = ((({ U with heap := s₂.heap, slotsUsed := s₂.slotsUsed } : State).setVm s₂.vm).setTop g).pushFrame (.throwing q) := by
      refine e3.trans ?_
      rw [hf₂, State.calling_eq h.top, State.setFrames_setFrames, State.pushFrame, State.frames_setTop _ hr', State.setTop_of_frames _ hr', State.setFrames_setFrames, hr]
      rfl
    have hsame : U.sameButNew ({ U with heap := s₂.heap, slotsUsed := s₂.slotsUsed } : State) L mc ms := by
      refine ⟨?_, q2, q3, q4, q5, q6⟩
      obtain ⟨t, ht, -⟩ := State.frames_cons hr
      show ({ U with heap := s₂.heap, slotsUsed := s₂.slotsUsed } : State) = { U.setFrames U.frames with heap := s₂.heap, slotsUsed := s₂.slotsUsed }
      rw [State.setFrames_self ht]
    subst hg
    refine Or.inr ⟨q, ⟨(({ U with heap := s₂.heap, slotsUsed := s₂.slotsUsed } : State).setVm s₂.vm), Ls ++ L, c0 + mc, s0 + ms⟩,
      ⟨X.admits, X.cas, X.clock, X.frames, X.room, X.hears, X.method, X.code, (X.here.setHeapUsed s₂.heap s₂.slotsUsed).setVm hW'.alike, X.tail, State.WarmedH.trans X.warmed hW', X.limits, X.bytes, X.same.trans (hsame.setVm s.vm)⟩,
      ⟨g, mk, s₂, L, E, ce, rfl, rfl, hx, hce, hcv, hcl, rfl, hL, rfl, rfl⟩, ?_⟩
    show Steps p.tables e below _ (((({ U with heap := s₂.heap, slotsUsed := s₂.slotsUsed } : State).setVm s₂.vm).setTop g).pushFrame (.throwing q))
    rw [← hs₂]
    exact hsteps
end Payer
section Calls
variable {p : Program} {l : Launch} {e : Env} {R : Room} {s : State} {m : MethodId} {args : Array Value} {below : List Frame} {meth : Method} {c : Code} {T : State} {locs : List Loc} {cells slots : Nat}
theorem vx_callV (X : Stand p l e R s m args below meth c T locs cells slots) (hexec : p.tables.exec = Jvm.exec) {own C : String} {index : Nat} {y : MethodName} {bytes : ByteArray} {maxL : Nat} {ret : Option FieldType}
    (hown : s.vm.findClass own = some m.cls) (hlink : (Cond.methodLink own index y).before args s = true) (hinst : (Cond.instanceMethod y).before args s = true) (hsel : (Cond.selects C y y).before args s = true)
    (hcode : (Cond.code y bytes maxL ret).before args s = true) (hy : y.cls ≠ "java/lang/invoke/MethodHandle" ∧ y.cls ≠ "java/lang/invoke/VarHandle")
    {W9 : Nat} {Pre : Pt → Array Value → Prop} {Post : Pt → Array Value → Option Value → Pt → Prop} {PostX : Pt → Array Value → Addr → Pt → Prop} (hK : vx_Back l R p e below s args y 3 W9 Pre Post PostX)
    {b : Addr} {cellB : Cell} (hcell : T.heap[b]? = some cellB) (hobj : cellB.vm.isStatics = false) (hcls : s.vm.findClass C = some cellB.cls)
    {g : JFrame} (hg : g.method = m) (hsize : g.locals.size = c.maxLocals) {argsL rest : List Value} (hlen : ∀ sig, parseMethodDescriptor y.desc = some sig → argsL.length = sig.parameters.length)
    (hstack : g.stack = argsL.reverse ++ .ref b :: rest) (hW : 2 * g.monitorRoom + (rest.map fun v => v.category).sum ≤ W9) (hdg : decode c.code g.pc = .ok (.invokevirtual index, 3))
    (hpre : ∀ vm₁, s.WarmedH vm₁ → Pre ⟨T.setVm vm₁, locs, cells, slots⟩ (Value.ref b :: argsL).toArray) :
    (∃ (v : Option Value) (vm₁ : Vm) (B : Pt), s.WarmedH vm₁ ∧ Stand p l e R s m args below meth c B.U B.locs B.cells B.slots ∧ Post ⟨T.setVm vm₁, locs, cells, slots⟩ (Value.ref b :: argsL).toArray v B ∧
      ∀ target, Steps p.tables e below (B.U.setTop { g with pc := g.pc + 3, stack := v.toList ++ rest }) target → Steps p.tables e below (T.setTop g) target) ∨
    (∃ (q : Addr) (vm₁ : Vm) (B : Pt), s.WarmedH vm₁ ∧ Stand p l e R s m args below meth c B.U B.locs B.cells B.slots ∧ PostX ⟨T.setVm vm₁, locs, cells, slots⟩ (Value.ref b :: argsL).toArray q B ∧
      Steps p.tables e below (T.setTop g) ((B.U.setTop { g with stack := rest }).pushFrame (.throwing q))) := by
  obtain ⟨mk, methM, hnamed, hmethM, hstM, habM⟩ := Cond.instanceMethod_spec hinst
  obtain ⟨methM', cM, hmethM', -, -, -, -, -, -, hsigM⟩ := Cond.code_spec hnamed hcode
  cases hmethM.symm.trans hmethM'
  obtain ⟨c2, r2, m2, q1, q2, q3, q4, kP, hkP, hkPi⟩ := Cond.selects_spec hsel
  cases hcls.symm.trans q1
  cases (State.methodFound?_of_named hnamed hy).symm.trans q2
  cases hnamed.symm.trans q3
  have hselP : selectMethod e.platform s.vm cellB.cls mk = .method mk := by rw [Launch.admits_selectMethod X.admits]; exact q4
  obtain ⟨vm₁, X₁, hstep₁⟩ := X.invokevirtual hexec hown hlink hnamed hmethM hstM hkP hkPi hy (a := b) (cell := cellB) hcell
    (fun z h => by rw [h] at hobj; cases hobj) hselP hmethM habM hkP hkPi (g := g) hg (argsL := argsL) (rest := rest) (hlen _ hsigM) hstack hdg
  rcases hK m meth c ⟨T.setVm vm₁, locs, cells, slots⟩ { g with stack := rest } (.invokevirtual index) mk (Value.ref b :: argsL).toArray X₁ hg hsize hdg hW (X₁.named hnamed) (hpre vm₁ X₁.warmed) with ⟨v, B, X', hpost, hsteps⟩ | ⟨q, B, X', hpost, hsteps⟩
  · exact Or.inl ⟨v, vm₁, B, X₁.warmed, X', hpost, fun target h => hstep₁ _ fun acts => by rw [doInvoke_state]; exact hsteps.trans h⟩
  · exact Or.inr ⟨q, vm₁, B, X₁.warmed, X', hpost, hstep₁ _ fun acts => by rw [doInvoke_state]; exact hsteps⟩
theorem vx_callS (X : Stand p l e R s m args below meth c T locs cells slots) (hexec : p.tables.exec = Jvm.exec) {own : String} {index : Nat} {y : MethodName} {bytes : ByteArray} {maxL : Nat} {ret : Option FieldType}
    (hown : s.vm.findClass own = some m.cls) (hlink : (Cond.methodLink own index y).before args s = true) (hstat : (Cond.static y).before args s = true) (hinit : (Cond.initialized y.cls).before args s = true)
    (hcode : (Cond.code y bytes maxL ret).before args s = true) (hy : y.cls ≠ "java/lang/invoke/MethodHandle" ∧ y.cls ≠ "java/lang/invoke/VarHandle")
    {W9 : Nat} {Pre : Pt → Array Value → Prop} {Post : Pt → Array Value → Option Value → Pt → Prop} {PostX : Pt → Array Value → Addr → Pt → Prop} (hK : vx_Back l R p e below s args y 3 W9 Pre Post PostX)
    {g : JFrame} (hg : g.method = m) (hsize : g.locals.size = c.maxLocals) {argsL rest : List Value} (hlen : ∀ sig, parseMethodDescriptor y.desc = some sig → argsL.length = sig.parameters.length)
    (hstack : g.stack = argsL.reverse ++ rest) (hW : 2 * g.monitorRoom + (rest.map fun v => v.category).sum ≤ W9) (hdg : decode c.code g.pc = .ok (.invokestatic index, 3))
    (hpre : ∀ vm₁, s.WarmedH vm₁ → Pre ⟨T.setVm vm₁, locs, cells, slots⟩ argsL.toArray) :
    (∃ (v : Option Value) (vm₁ : Vm) (B : Pt), s.WarmedH vm₁ ∧ Stand p l e R s m args below meth c B.U B.locs B.cells B.slots ∧ Post ⟨T.setVm vm₁, locs, cells, slots⟩ argsL.toArray v B ∧
      ∀ target, Steps p.tables e below (B.U.setTop { g with pc := g.pc + 3, stack := v.toList ++ rest }) target → Steps p.tables e below (T.setTop g) target) ∨
    (∃ (q : Addr) (vm₁ : Vm) (B : Pt), s.WarmedH vm₁ ∧ Stand p l e R s m args below meth c B.U B.locs B.cells B.slots ∧ PostX ⟨T.setVm vm₁, locs, cells, slots⟩ argsL.toArray q B ∧
      Steps p.tables e below (T.setTop g) ((B.U.setTop { g with stack := rest }).pushFrame (.throwing q))) := by
  obtain ⟨mk, hnamed⟩ := Cond.code_named hcode
  obtain ⟨methM, cM, hmethM, -, -, -, -, -, -, hsigM⟩ := Cond.code_spec hnamed hcode
  have hstatic : methM.isStatic = true := Cond.static_spec hnamed hmethM hstat
  obtain ⟨kP, hkP, -⟩ := className_of_methodNamed hnamed
  have hinitP : kP.init = .initialized := Cond.initialized_spec (findClass_of_methodNamed hnamed) hkP hinit
  obtain ⟨vm₁, X₁, hstep₁⟩ := X.invokestatic hexec hown hlink hnamed hmethM hstatic hkP hinitP hy (g := g) hg (argsL := argsL) (rest := rest) (hlen _ hsigM) hstack hdg
  rcases hK m meth c ⟨T.setVm vm₁, locs, cells, slots⟩ { g with stack := rest } (.invokestatic index) mk argsL.toArray X₁ hg hsize hdg hW (X₁.named hnamed) (hpre vm₁ X₁.warmed) with ⟨v, B, X', hpost, hsteps⟩ | ⟨q, B, X', hpost, hsteps⟩
  · exact Or.inl ⟨v, vm₁, B, X₁.warmed, X', hpost, fun target h => hstep₁ _ fun acts => by rw [doInvoke_state]; exact hsteps.trans h⟩
  · exact Or.inr ⟨q, vm₁, B, X₁.warmed, X', hpost, hstep₁ _ fun acts => by rw [doInvoke_state]; exact hsteps⟩
end Calls
theorem vx_cls {s : State} {T : State} {vm₁ : Vm} {E : String} {k : ClassId} (hW : s.WarmedH vm₁) (h : (T.setVm vm₁).vm.findClass E = some k) : s.vm.findClass E = some k := by
  have h1 : vm₁.findClass E = some k := h
  rw [hW.alike.findClass] at h1
  exact h1
/-- the method's frame g, with q thrown over it -/
def vx_W (p : Program) (l : Launch) (e : Env) (R : Room) (s : State) (m : MethodId) (args : Array Value) (below : List Frame) (meth : Method) (c : Code) (H : Heap) (locs : List Loc) (cells slots : Nat) (Q : State → Prop) (g : JFrame) (q : Addr) : Prop :=
  ∀ T : State, T.heap = H → Stand p l e R s m args below meth c T locs cells slots → ∃ t, Steps p.tables e below ((T.setTop g).pushFrame (.throwing q)) t ∧ Q t
def vx_Run (p : Program) (l : Launch) (e : Env) (R : Room) (s : State) (m : MethodId) (args : Array Value) (below : List Frame) (meth : Method) (c : Code) (H : Heap) (locs : List Loc) (cells slots mc ms : Nat) (g : JFrame) (rest : List Value) (Qa : State → Outcome → State → Prop) (XC : String → State → State → Prop) (free : Addr → Prop) : Prop :=
  ∀ T : State, T.heap = H → Stand p l e R s m args below meth c T locs cells slots →
    (∃ (v : Option Value) (st₀ t T' : State) (L : List Loc), st₀.heap = H ∧ Stand p l e R s m args below meth c T' (locs ++ L) (cells + mc) (slots + ms) ∧ (∀ q ∈ L, free q.base) ∧ T'.heap = t.heap ∧ T'.vm = t.vm ∧ Qa st₀ (.returned v) t ∧
      Goes p e below T g T' { g with pc := g.pc + 3, stack := v.toList ++ rest }) ∨
    (∃ (q : Addr) (st₀ t T' : State) (L : List Loc) (E : String) (ce : Cell), st₀.heap = H ∧ Stand p l e R s m args below meth c T' (locs ++ L) (cells + mc) (slots + ms) ∧ (∀ z ∈ L, free z.base) ∧ T'.heap = t.heap ∧ T'.vm = t.vm ∧ XC E st₀ t ∧ t.heap[q]? = some ce ∧ ce.vm = .none ∧ s.vm.findClass E = some ce.cls ∧
      Steps p.tables e below (T.setTop g) ((T'.setTop { g with stack := rest }).pushFrame (.throwing q)))
def vx_X {S : Type} (px : S → Prop) (B : String → S → State → Prop) (A : Nat → Prop) : String → State → State → Prop := fun E st t => ∃ u : S, px u ∧ B E u t ∧ va_F A st t
section Runs
variable {p : Program} {l : Launch} {e : Env} {R : Room} {s : State} {m : MethodId} {args : Array Value} {below : List Frame} {meth : Method} {c : Code} {H : Heap} {locs : List Loc} {cells slots : Nat}
variable {y : MethodName} {bytes cc : ByteArray} {maxL nL mc ms n index : Nat} {ret : Option FieldType} {ws : List Cond} {rm : Room} {Pc : Array Value → State → Prop} {Qc : Array Value → State → Outcome → State → Prop} {XC : String → State → State → Prop} {free : Addr → Prop} {Ts : List Cond} {own C : String} {b : Addr} {As rest : List Value} {g : JFrame}
theorem vx_callBack (cb : CallB R s args own index y bytes maxL ret ws rm mc ms n) (hM : vx_Met l y ws rm Pc Qc XC mc ms free) (hbl : FrameBlind Pc) : vx_Back l R p e below s args y 3 8 (PreOf R mc ms Pc) (PostOf Qc mc ms free) (vx_Post XC mc ms free) := by
  obtain ⟨hrc, hrs, hfr, hlo, hws, hcw, -, hini, -⟩ := cb
  exact vx_back (bytes := bytes) (maxL := maxL) (ret := ret) hM hbl hrc hrs hfr hlo hws hcw (fun a' U hW => word_at hW (Or.inl (by first | rfl | simp [Cond.onTables, Cond.keeps, Cond.steady])) hini)
theorem vx_runV (S : CallFix p m c cc nL s args Ts own) (hM : vx_Met l y ws rm Pc Qc XC mc ms free) (cw : CallW R s args own C index y bytes maxL ret ws rm mc ms n) (hp : PreV s H C b Pc As)
    (hg : g.method = m) (hn : As.length = n) (hsize : g.locals.size = nL) (hstack : g.stack = As.reverse ++ .ref b :: rest) (hW : 2 * g.monitorRoom + (rest.map fun v => v.category).sum ≤ 8) (hdg : decode cc g.pc = .ok (.invokevirtual index, 3)) (hf : cells + mc ≤ R.cells ∧ slots + ms ≤ R.slots) :
    vx_Run p l e R s m args below meth c H locs cells slots mc ms g rest (Qc (Value.ref b :: As).toArray) XC free := by
  have hK : vx_Back l R p e below s args y 3 8 (PreOf R mc ms Pc) (PostOf Qc mc ms free) (vx_Post XC mc ms free) := vx_callBack cw.1 hM hp.1
  obtain ⟨⟨-, -, -, -, -, -, hcode, -, hy, hlen, hl⟩, hin, hse⟩ := cw
  obtain ⟨hx, hb, hml, ho, -⟩ := S
  obtain ⟨-, ⟨cellB, hcB, hoB, hclB⟩, hPc⟩ := hp
  intro T hT X
  rcases vx_callV X hx (C := C) (bytes := bytes) (maxL := maxL) (ret := ret) ho hl hin hse hcode hy hK (by rw [hT]; exact hcB) hoB hclB hg (hsize.trans hml.symm) (argsL := As) (rest := rest) (fun sig h => hn.trans (hlen sig h)) hstack hW (by rw [hb]; exact hdg)
    (fun vm₁ hW₁ => ⟨hf.1, hf.2, hPc (T.setVm vm₁) hT hW₁⟩) with ⟨v, vm₁, ⟨U', l2, c2, s2⟩, hW₁, X', ⟨g', mk, t, L, e1, e2, hq, h1, hL, h2, h3⟩, st⟩ | ⟨q, vm₁, ⟨U', l2, c2, s2⟩, hW₁, X', ⟨g', mk, t, L, E, ce, e1, e2, hq, hce, hcv, hcl, h1, hL, h2, h3⟩, st⟩
  · dsimp only [Pt.U, Pt.locs, Pt.cells, Pt.slots] at X' e1 e2 h1 h2 h3 st
    subst h1; subst h2; subst h3
    exact Or.inl ⟨v, (T.setVm vm₁).calling g' mk (Value.ref b :: As).toArray, t, U', L, hT, X', hL, e1, e2, hq, st⟩
  · dsimp only [Pt.U, Pt.locs, Pt.cells, Pt.slots] at X' e1 e2 h1 h2 h3 st hcl
    subst h1; subst h2; subst h3
    exact Or.inr ⟨q, (T.setVm vm₁).calling g' mk (Value.ref b :: As).toArray, t, U', L, E, ce, hT, X', hL, e1, e2, hq, hce, hcv, vx_cls hW₁ hcl, st⟩
theorem vx_runS (S : CallFix p m c cc nL s args Ts own) (hM : vx_Met l y ws rm Pc Qc XC mc ms free) (cw : CallB R s args own index y bytes maxL ret ws rm mc ms n ∧ (Cond.static y).before args s = true) (hp : PreS s H Pc As)
    (hg : g.method = m) (hn : As.length = n) (hsize : g.locals.size = nL) (hstack : g.stack = As.reverse ++ rest) (hW : 2 * g.monitorRoom + (rest.map fun v => v.category).sum ≤ 8) (hdg : decode cc g.pc = .ok (.invokestatic index, 3)) (hf : cells + mc ≤ R.cells ∧ slots + ms ≤ R.slots) :
    vx_Run p l e R s m args below meth c H locs cells slots mc ms g rest (Qc As.toArray) XC free := by
  have hK : vx_Back l R p e below s args y 3 8 (PreOf R mc ms Pc) (PostOf Qc mc ms free) (vx_Post XC mc ms free) := vx_callBack cw.1 hM hp.1
  obtain ⟨⟨-, -, -, -, -, -, hcode, hini, hy, hlen, hl⟩, hstt⟩ := cw
  obtain ⟨hx, hb, hml, ho, -⟩ := S
  intro T hT X
  rcases vx_callS X hx (bytes := bytes) (maxL := maxL) (ret := ret) ho hl hstt hini hcode hy hK hg (hsize.trans hml.symm) (argsL := As) (rest := rest) (fun sig h => hn.trans (hlen sig h)) hstack hW (by rw [hb]; exact hdg)
    (fun vm₁ hW₁ => ⟨hf.1, hf.2, hp.2 (T.setVm vm₁) hT hW₁⟩) with ⟨v, vm₁, ⟨U', l2, c2, s2⟩, hW₁, X', ⟨g', mk, t, L, e1, e2, hq, h1, hL, h2, h3⟩, st⟩ | ⟨q, vm₁, ⟨U', l2, c2, s2⟩, hW₁, X', ⟨g', mk, t, L, E, ce, e1, e2, hq, hce, hcv, hcl, h1, hL, h2, h3⟩, st⟩
  · dsimp only [Pt.U, Pt.locs, Pt.cells, Pt.slots] at X' e1 e2 h1 h2 h3 st
    subst h1; subst h2; subst h3
    exact Or.inl ⟨v, (T.setVm vm₁).calling g' mk As.toArray, t, U', L, hT, X', hL, e1, e2, hq, st⟩
  · dsimp only [Pt.U, Pt.locs, Pt.cells, Pt.slots] at X' e1 e2 h1 h2 h3 st hcl
    subst h1; subst h2; subst h3
    exact Or.inr ⟨q, (T.setVm vm₁).calling g' mk As.toArray, t, U', L, E, ce, hT, X', hL, e1, e2, hq, hce, hcv, vx_cls hW₁ hcl, st⟩
end Runs
section Rows
variable {p : Program} {l : Launch} {e : Env} {R : Room} {s : State} {m : MethodId} {args : Array Value} {below : List Frame} {meth : Method} {c : Code} {H : Heap} {locs : List Loc} {cells slots : Nat} {Q : State → Prop}
variable {mc ms : Nat} {free : Addr → Prop} {A0 A1 : Nat → Prop} {H0 : Heap} {a : Array Value} {pc : Nat} {ls : Array Slot} {st0 rest : List Value}
theorem vx_keep {st₀ t T' : State} {L : List Loc} (h0 : st₀.heap = H) (e1 : T'.heap = t.heap) (hS : va_S A0 H0 H locs) (hA : ∀ q, q < H.size → A1 q → A0 q) (hf : ∀ q, free q → A0 q) (hL : ∀ q ∈ L, free q.base) (hF : va_F A1 st₀ t) :
    H.size ≤ T'.heap.size ∧ (∀ q : Nat, q < H.size → ¬ A1 q → T'.heap[q]? = H[q]?) ∧ va_S A0 H0 T'.heap (locs ++ L) := by
  obtain ⟨hz, hk⟩ := hF
  rw [h0] at hz hk
  exact ⟨by rw [e1]; exact hz, fun q h1 h2 => by rw [e1]; exact hk q h1 h2,
    ⟨Nat.le_trans hS.1 (by rw [e1]; exact hz), fun q h1 h2 => by rw [e1, hk q (Nat.lt_of_lt_of_le h1 hS.1) (fun z => h2 (hA q (Nat.lt_of_lt_of_le h1 hS.1) z))]; exact hS.2.1 q h1 h2, fun q hq => by
      rcases List.mem_append.mp hq with h | h
      · exact hS.2.2 q h
      · exact hf _ (hL q h)⟩⟩
theorem vx_calli {S SX : Type} {post : Int32 → S → Prop} {px : SX → Prop} {B : S → State → Prop} {BX : String → SX → State → Prop} {AX : Nat → Prop} (hr : vx_Run p l e R s m args below meth c H locs cells slots mc ms (F0 m pc ls st0) rest (va_Qi post B A1 a) (vx_X px BX AX) free) (hS : va_S A0 H0 H locs) (hA : ∀ q, q < H.size → A1 q → A0 q) (hf : ∀ q, free q → A0 q) (hAX : ∀ q, q < H.size → AX q → A0 q)
    (kx : ∀ (E : String) (ce : Cell) (q9 : Addr) (u : SX) (t : State) (H1 : Heap) (locs1 : List Loc), t.heap = H1 → s.vm.Alike t.vm → px u → BX E u t → H.size ≤ H1.size → (∀ q : Nat, q < H.size → ¬ AX q → H1[q]? = H[q]?) → va_S A0 H0 H1 locs1 → H1[q9]? = some ce → ce.vm = .none → s.vm.findClass E = some ce.cls → vx_W p l e R s m args below meth c H1 locs1 (cells + mc) (slots + ms) Q (F0 m pc ls rest) q9)
    (kk : ∀ (r : Int32) (u : S) (t : State) (H1 : Heap) (locs1 : List Loc), t.heap = H1 → s.vm.Alike t.vm → post r u → B u t → H.size ≤ H1.size → (∀ q : Nat, q < H.size → ¬ A1 q → H1[q]? = H[q]?) → va_S A0 H0 H1 locs1 → W p l e R s m args below meth c H1 locs1 (cells + mc) (slots + ms) Q (F0 m (pc + 3) ls (.int r :: rest))) : W p l e R s m args below meth c H locs cells slots Q (F0 m pc ls st0) := by
  intro T hT X
  rcases hr T hT X with ⟨v, st₀, t, T', L, h0, X', hL, e1, e2, ⟨⟨r, u, hv, hp, hb⟩, hF⟩, st⟩ | ⟨q, st₀, t, T', L, E, ce, h0, X', hL, e1, e2, ⟨u, hp, hb, hF⟩, hce, hcv, hcl, st⟩
  · cases hv
    obtain ⟨k1, k2, k3⟩ := vx_keep h0 e1 hS hA hf hL hF
    obtain ⟨t2, a1, b1⟩ := kk r u t T'.heap (locs ++ L) e1.symm (by rw [← e2]; exact X'.warmed.alike) hp hb k1 k2 k3 T' rfl X'
    exact ⟨t2, st t2 a1, b1⟩
  · obtain ⟨k1, k2, k3⟩ := vx_keep h0 e1 hS hAX hf hL hF
    obtain ⟨t2, a1, b1⟩ := kx E ce q u t T'.heap (locs ++ L) e1.symm (by rw [← e2]; exact X'.warmed.alike) hp hb k1 k2 k3 (by rw [e1]; exact hce) hcv hcl T' rfl X'
    exact ⟨t2, st.trans a1, b1⟩
theorem vx_calll {S SX : Type} {post : Int64 → S → Prop} {px : SX → Prop} {B : S → State → Prop} {BX : String → SX → State → Prop} {AX : Nat → Prop} (hr : vx_Run p l e R s m args below meth c H locs cells slots mc ms (F0 m pc ls st0) rest (va_Ql post B A1 a) (vx_X px BX AX) free) (hS : va_S A0 H0 H locs) (hA : ∀ q, q < H.size → A1 q → A0 q) (hf : ∀ q, free q → A0 q) (hAX : ∀ q, q < H.size → AX q → A0 q)
    (kx : ∀ (E : String) (ce : Cell) (q9 : Addr) (u : SX) (t : State) (H1 : Heap) (locs1 : List Loc), t.heap = H1 → s.vm.Alike t.vm → px u → BX E u t → H.size ≤ H1.size → (∀ q : Nat, q < H.size → ¬ AX q → H1[q]? = H[q]?) → va_S A0 H0 H1 locs1 → H1[q9]? = some ce → ce.vm = .none → s.vm.findClass E = some ce.cls → vx_W p l e R s m args below meth c H1 locs1 (cells + mc) (slots + ms) Q (F0 m pc ls rest) q9)
    (kk : ∀ (r : Int64) (u : S) (t : State) (H1 : Heap) (locs1 : List Loc), t.heap = H1 → s.vm.Alike t.vm → post r u → B u t → H.size ≤ H1.size → (∀ q : Nat, q < H.size → ¬ A1 q → H1[q]? = H[q]?) → va_S A0 H0 H1 locs1 → W p l e R s m args below meth c H1 locs1 (cells + mc) (slots + ms) Q (F0 m (pc + 3) ls (.long r :: rest))) : W p l e R s m args below meth c H locs cells slots Q (F0 m pc ls st0) := by
  intro T hT X
  rcases hr T hT X with ⟨v, st₀, t, T', L, h0, X', hL, e1, e2, ⟨⟨r, u, hv, hp, hb⟩, hF⟩, st⟩ | ⟨q, st₀, t, T', L, E, ce, h0, X', hL, e1, e2, ⟨u, hp, hb, hF⟩, hce, hcv, hcl, st⟩
  · cases hv
    obtain ⟨k1, k2, k3⟩ := vx_keep h0 e1 hS hA hf hL hF
    obtain ⟨t2, a1, b1⟩ := kk r u t T'.heap (locs ++ L) e1.symm (by rw [← e2]; exact X'.warmed.alike) hp hb k1 k2 k3 T' rfl X'
    exact ⟨t2, st t2 a1, b1⟩
  · obtain ⟨k1, k2, k3⟩ := vx_keep h0 e1 hS hAX hf hL hF
    obtain ⟨t2, a1, b1⟩ := kx E ce q u t T'.heap (locs ++ L) e1.symm (by rw [← e2]; exact X'.warmed.alike) hp hb k1 k2 k3 (by rw [e1]; exact hce) hcv hcl T' rfl X'
    exact ⟨t2, st.trans a1, b1⟩
theorem vx_callf {S SX : Type} {post : UInt32 → S → Prop} {px : SX → Prop} {B : S → State → Prop} {BX : String → SX → State → Prop} {AX : Nat → Prop} (hr : vx_Run p l e R s m args below meth c H locs cells slots mc ms (F0 m pc ls st0) rest (va_Qf post B A1 a) (vx_X px BX AX) free) (hS : va_S A0 H0 H locs) (hA : ∀ q, q < H.size → A1 q → A0 q) (hf : ∀ q, free q → A0 q) (hAX : ∀ q, q < H.size → AX q → A0 q)
    (kx : ∀ (E : String) (ce : Cell) (q9 : Addr) (u : SX) (t : State) (H1 : Heap) (locs1 : List Loc), t.heap = H1 → s.vm.Alike t.vm → px u → BX E u t → H.size ≤ H1.size → (∀ q : Nat, q < H.size → ¬ AX q → H1[q]? = H[q]?) → va_S A0 H0 H1 locs1 → H1[q9]? = some ce → ce.vm = .none → s.vm.findClass E = some ce.cls → vx_W p l e R s m args below meth c H1 locs1 (cells + mc) (slots + ms) Q (F0 m pc ls rest) q9)
    (kk : ∀ (r : UInt32) (u : S) (t : State) (H1 : Heap) (locs1 : List Loc), t.heap = H1 → s.vm.Alike t.vm → post r u → B u t → H.size ≤ H1.size → (∀ q : Nat, q < H.size → ¬ A1 q → H1[q]? = H[q]?) → va_S A0 H0 H1 locs1 → W p l e R s m args below meth c H1 locs1 (cells + mc) (slots + ms) Q (F0 m (pc + 3) ls (.float r :: rest))) : W p l e R s m args below meth c H locs cells slots Q (F0 m pc ls st0) := by
  intro T hT X
  rcases hr T hT X with ⟨v, st₀, t, T', L, h0, X', hL, e1, e2, ⟨⟨r, u, hv, hp, hb⟩, hF⟩, st⟩ | ⟨q, st₀, t, T', L, E, ce, h0, X', hL, e1, e2, ⟨u, hp, hb, hF⟩, hce, hcv, hcl, st⟩
  · cases hv
    obtain ⟨k1, k2, k3⟩ := vx_keep h0 e1 hS hA hf hL hF
    obtain ⟨t2, a1, b1⟩ := kk r u t T'.heap (locs ++ L) e1.symm (by rw [← e2]; exact X'.warmed.alike) hp hb k1 k2 k3 T' rfl X'
    exact ⟨t2, st t2 a1, b1⟩
  · obtain ⟨k1, k2, k3⟩ := vx_keep h0 e1 hS hAX hf hL hF
    obtain ⟨t2, a1, b1⟩ := kx E ce q u t T'.heap (locs ++ L) e1.symm (by rw [← e2]; exact X'.warmed.alike) hp hb k1 k2 k3 (by rw [e1]; exact hce) hcv hcl T' rfl X'
    exact ⟨t2, st.trans a1, b1⟩
theorem vx_calld {S SX : Type} {post : UInt64 → S → Prop} {px : SX → Prop} {B : S → State → Prop} {BX : String → SX → State → Prop} {AX : Nat → Prop} (hr : vx_Run p l e R s m args below meth c H locs cells slots mc ms (F0 m pc ls st0) rest (va_Qd post B A1 a) (vx_X px BX AX) free) (hS : va_S A0 H0 H locs) (hA : ∀ q, q < H.size → A1 q → A0 q) (hf : ∀ q, free q → A0 q) (hAX : ∀ q, q < H.size → AX q → A0 q)
    (kx : ∀ (E : String) (ce : Cell) (q9 : Addr) (u : SX) (t : State) (H1 : Heap) (locs1 : List Loc), t.heap = H1 → s.vm.Alike t.vm → px u → BX E u t → H.size ≤ H1.size → (∀ q : Nat, q < H.size → ¬ AX q → H1[q]? = H[q]?) → va_S A0 H0 H1 locs1 → H1[q9]? = some ce → ce.vm = .none → s.vm.findClass E = some ce.cls → vx_W p l e R s m args below meth c H1 locs1 (cells + mc) (slots + ms) Q (F0 m pc ls rest) q9)
    (kk : ∀ (r : UInt64) (u : S) (t : State) (H1 : Heap) (locs1 : List Loc), t.heap = H1 → s.vm.Alike t.vm → post r u → B u t → H.size ≤ H1.size → (∀ q : Nat, q < H.size → ¬ A1 q → H1[q]? = H[q]?) → va_S A0 H0 H1 locs1 → W p l e R s m args below meth c H1 locs1 (cells + mc) (slots + ms) Q (F0 m (pc + 3) ls (.double r :: rest))) : W p l e R s m args below meth c H locs cells slots Q (F0 m pc ls st0) := by
  intro T hT X
  rcases hr T hT X with ⟨v, st₀, t, T', L, h0, X', hL, e1, e2, ⟨⟨r, u, hv, hp, hb⟩, hF⟩, st⟩ | ⟨q, st₀, t, T', L, E, ce, h0, X', hL, e1, e2, ⟨u, hp, hb, hF⟩, hce, hcv, hcl, st⟩
  · cases hv
    obtain ⟨k1, k2, k3⟩ := vx_keep h0 e1 hS hA hf hL hF
    obtain ⟨t2, a1, b1⟩ := kk r u t T'.heap (locs ++ L) e1.symm (by rw [← e2]; exact X'.warmed.alike) hp hb k1 k2 k3 T' rfl X'
    exact ⟨t2, st t2 a1, b1⟩
  · obtain ⟨k1, k2, k3⟩ := vx_keep h0 e1 hS hAX hf hL hF
    obtain ⟨t2, a1, b1⟩ := kx E ce q u t T'.heap (locs ++ L) e1.symm (by rw [← e2]; exact X'.warmed.alike) hp hb k1 k2 k3 (by rw [e1]; exact hce) hcv hcl T' rfl X'
    exact ⟨t2, st.trans a1, b1⟩
theorem vx_callv {S SX : Type} {post : S → Prop} {px : SX → Prop} {B : S → State → Prop} {BX : String → SX → State → Prop} {AX : Nat → Prop} (hr : vx_Run p l e R s m args below meth c H locs cells slots mc ms (F0 m pc ls st0) rest (va_Qv post B A1 a) (vx_X px BX AX) free) (hS : va_S A0 H0 H locs) (hA : ∀ q, q < H.size → A1 q → A0 q) (hf : ∀ q, free q → A0 q) (hAX : ∀ q, q < H.size → AX q → A0 q)
    (kx : ∀ (E : String) (ce : Cell) (q9 : Addr) (u : SX) (t : State) (H1 : Heap) (locs1 : List Loc), t.heap = H1 → s.vm.Alike t.vm → px u → BX E u t → H.size ≤ H1.size → (∀ q : Nat, q < H.size → ¬ AX q → H1[q]? = H[q]?) → va_S A0 H0 H1 locs1 → H1[q9]? = some ce → ce.vm = .none → s.vm.findClass E = some ce.cls → vx_W p l e R s m args below meth c H1 locs1 (cells + mc) (slots + ms) Q (F0 m pc ls rest) q9)
    (kk : ∀ (u : S) (t : State) (H1 : Heap) (locs1 : List Loc), t.heap = H1 → s.vm.Alike t.vm → post u → B u t → H.size ≤ H1.size → (∀ q : Nat, q < H.size → ¬ A1 q → H1[q]? = H[q]?) → va_S A0 H0 H1 locs1 → W p l e R s m args below meth c H1 locs1 (cells + mc) (slots + ms) Q (F0 m (pc + 3) ls (rest))) : W p l e R s m args below meth c H locs cells slots Q (F0 m pc ls st0) := by
  intro T hT X
  rcases hr T hT X with ⟨v, st₀, t, T', L, h0, X', hL, e1, e2, ⟨⟨u, hv, hp, hb⟩, hF⟩, st⟩ | ⟨q, st₀, t, T', L, E, ce, h0, X', hL, e1, e2, ⟨u, hp, hb, hF⟩, hce, hcv, hcl, st⟩
  · cases hv
    obtain ⟨k1, k2, k3⟩ := vx_keep h0 e1 hS hA hf hL hF
    obtain ⟨t2, a1, b1⟩ := kk u t T'.heap (locs ++ L) e1.symm (by rw [← e2]; exact X'.warmed.alike) hp hb k1 k2 k3 T' rfl X'
    exact ⟨t2, st t2 a1, b1⟩
  · obtain ⟨k1, k2, k3⟩ := vx_keep h0 e1 hS hAX hf hL hF
    obtain ⟨t2, a1, b1⟩ := kx E ce q u t T'.heap (locs ++ L) e1.symm (by rw [← e2]; exact X'.warmed.alike) hp hb k1 k2 k3 (by rw [e1]; exact hce) hcv hcl T' rfl X'
    exact ⟨t2, st.trans a1, b1⟩
/-- caught by the row x of this method's table; the rows ahead don't take it -/
theorem vx_catch {own name : String} {E : String} {ce : Cell} {q : Addr} (hown : s.vm.findClass own = some m.cls) (pre : List ExceptionTableEntry) (x : ExceptionTableEntry) (suf : List ExceptionTableEntry) (hsplit : c.exceptionTable.toList = pre ++ x :: suf)
    (hpass : ∀ z ∈ pre, covers z pc = false ∨ (z.catchType ≠ 0 ∧ ∃ nm : String, (Cond.classLink own z.catchType nm).before args s = true ∧ va_Nc E nm s)) (hx : covers x pc = true) (h0 : x.catchType ≠ 0)
    (hlink : (Cond.classLink own x.catchType name).before args s = true) (hcast : (Cond.castable E name).before args s = true) (hcell : H[q]? = some ce) (hv : ce.vm = .none) (hcl : s.vm.findClass E = some ce.cls)
    (kk : W p l e R s m args below meth c H locs cells slots Q (F0 m x.handlerPc ls [.ref q])) : vx_W p l e R s m args below meth c H locs cells slots Q (F0 m pc ls rest) q := by
  intro T hT X
  have hpl : e.platform.magicAccessors = ({} : Platform).magicAccessors := by rw [X.admits.platform]
  obtain ⟨c3, c4, hc3, hc4, hasg⟩ := Cond.castable_spec hcast
  cases Option.some.inj (hc3.symm.trans hcl)
  obtain ⟨c5, hc5, hcl5⟩ := Cond.classLink_spec hown hlink e.platform hpl
  cases Option.some.inj (hc4.symm.trans hc5)
  obtain ⟨vm', X', st⟩ := X.thenCaughtThrough q (g := F0 m pc ls rest) rfl (Steps.refl _) (by rw [hT]; exact hcell) (by rw [hv]; rfl) (by obtain ⟨k9, h9, -⟩ := Vm.findClass_spec hcl; exact ⟨k9, h9⟩) pre x suf hsplit
    (fun z hz => by
      rcases hpass z hz with h | ⟨hz0, nm, hl1, hn1⟩
      · exact Or.inl h
      · obtain ⟨c6, hc6, hcl6⟩ := Cond.classLink_spec hown hl1 e.platform hpl
        obtain ⟨a8, b8, h1, h2, h3⟩ := hn1
        cases Option.some.inj (h1.symm.trans hcl)
        cases Option.some.inj (h2.symm.trans hc6)
        exact Or.inr ⟨hz0, _, hcl6, h3⟩) hx (Or.inr ⟨h0, c4, hcl5, hasg⟩)
  obtain ⟨t, a1, b1⟩ := kk (T.setVm vm') hT X'
  exact ⟨t, st.trans a1, b1⟩
end Rows
section Ends
variable {p : Program} {l : Launch} {e : Env} {R : Room} {s : State} {m : MethodId} {args : Array Value} {below : List Frame} {meth : Method} {c : Code} {H : Heap} {locs : List Loc} {cells slots : Nat} {Q : State → Prop}
variable {mc ms : Nat} {free : Addr → Prop} {A0 A1 : Nat → Prop} {H0 : Heap} {a : Array Value} {ls : Array Slot} {st0 rest : List Value}
variable {Qc : Array Value → State → Outcome → State → Prop} {XC : String → State → State → Prop}
/-- what a body that may throw owes at its end -/
def vx_MQ (below : List Frame) (Qc : Array Value → State → Outcome → State → Prop) (XC : String → State → State → Prop) (a : Array Value) (s : State) (mc ms : Nat) (free : Addr → Prop) : State → Prop := fun t =>
  ∃ o, t.status = .running ∧ Ended t below o ∧ vx_Q Qc XC mc ms free a s o t
theorem vx_ret {g : JFrame} {mc ms : Nat} (k : W p l e R s m args below meth c H locs cells slots (MQ below Qc args s mc ms free) g) : W p l e R s m args below meth c H locs cells slots (vx_MQ below Qc XC args s mc ms free) g := by
  intro T hT X
  obtain ⟨t, a1, o, b1, b2, b3, b4⟩ := k T hT X
  exact ⟨t, a1, o, b1, b2, Or.inl ⟨b3, b4⟩⟩
/-- not caught here: it goes on to the caller -/
theorem vx_widen {g : JFrame} {q : Addr} {k n : Nat} (h1 : cells ≤ k) (h2 : slots ≤ n) (kk : vx_W p l e R s m args below meth c H locs k n Q g q) : vx_W p l e R s m args below meth c H locs cells slots Q g q := fun T hT X => kk T hT (stand_widen X h1 h2)
theorem vx_out {pc : Nat} {E : String} {ce : Cell} {q : Addr} {mc ms : Nat} (hout : ∀ x ∈ c.exceptionTable.toList, covers x pc = false) (hlocks : meth.locks = false) (hcell : H[q]? = some ce) (hv : ce.vm = .none) (hcl : s.vm.findClass E = some ce.cls)
    (hx : ∀ t : State, t.heap = H → s.vm.Alike t.vm → XC E s t) (hf : ∀ z ∈ locs, free z.base) (hc : cells ≤ mc) (hs : slots ≤ ms) :
    vx_W p l e R s m args below meth c H locs cells slots (vx_MQ below Qc XC args s mc ms free) (F0 m pc ls rest) q := by
  intro T hT X
  obtain ⟨st1, hrun, hend, hW, hsm⟩ := X.leaveThrown q (g := F0 m pc ls rest) rfl rfl rfl hout hlocks
  have hcell9 : (T.setFrames (.throwing q :: below)).heap[q]? = some ce := by
    show T.heap[q]? = some ce
    rw [hT]; exact hcell
  exact ⟨_, st1, .threw q, hrun, hend, Or.inr ⟨q, rfl, E, ce, locs, hx _ hT hW.alike, hcell9, hv, hcl, hW, hsm.mono hc hs, hf⟩⟩
theorem vx_frame {U : State} {k n : Nat} (h : s.sameButNew ({ U with vm := s.vm } : State) locs k n) : s.heap.size ≤ U.heap.size ∧ ∀ q : Nat, q < s.heap.size → (∀ z ∈ locs, z.base ≠ q) → U.heap[q]? = s.heap[q]? := by
  obtain ⟨-, h2, -, -, -, h6⟩ := h
  refine ⟨h2, fun q hq hz => ?_⟩
  obtain ⟨c9, e1, e2, e3, e4⟩ := h6 q _ (Array.getElem?_eq_getElem hq)
  have hs : c9.slots = (s.heap[q]).slots := Array.ext_getElem? fun i => e4 i fun hm => hz _ hm rfl
  have h9 : c9 = s.heap[q] := by
    rw [hs] at e2
    exact e2
  have e5 : U.heap[q]? = some c9 := e1
  rw [e5, h9, Array.getElem?_eq_getElem hq]
/-- the words of a throw but the four that speak of the heap -/
def vx_no (w : Cond) : Bool := decide (w ≠ .isRef (.static Bundle.tN "UNASSIGNED_STACK" Bundle.steD)) && decide (w ≠ .isRef (.static Bundle.tN "SUPPRESSED_SENTINEL" Bundle.listD)) && decide (w ≠ .laysStatic Bundle.tN "UNASSIGNED_STACK" Bundle.steD) && decide (w ≠ .laysStatic Bundle.tN "SUPPRESSED_SENTINEL" Bundle.listD)
def vx_at0 (own : String) (ic : Nat) (X : String) (names : List String) : List Cond := (Bundle.ownAtoms0 own ic X names).filter vx_no
def vx_atS (own : String) (ic : Nat) (X : String) (names : List String) : List Cond := (Bundle.ownAtoms own ic X names).filter vx_no
/-- a word that the tables alone decide, or a good one -/
def vx_ot (w : Cond) : Bool := w.onTables || goodWord w
theorem vx_ot_at {args a' : Array Value} {s U : State} {w : Cond} (hW : s.WarmedH U.vm) (hvm : s.vm = U.vm) (hg : vx_ot w = true) (h : w.before args s = true) : w.before a' U = true := by
  simp only [vx_ot, Bool.or_eq_true] at hg
  rcases hg with hg | hg
  · exact va_tabs hg hvm h
  · exact word_at hW (good_of_word hg) h
/-- a list's words: the good ones out of the method's own list, the others by premises of their own -/
theorem vx_hat {args : Array Value} {s : State} {L B : List Cond} (h1 : ∀ w ∈ L.filter goodWord, w.before args s = true) (h2 : ∀ w ∈ L.filter (fun w => !goodWord w), w ∈ B) (h3 : ∀ w ∈ B, w.before args s = true) : ∀ w ∈ L, w.before args s = true := by
  intro w hw
  by_cases g : goodWord w = true
  · exact h1 w (List.mem_filter.mpr ⟨hw, g⟩)
  · refine h3 w (h2 w (List.mem_filter.mpr ⟨hw, ?_⟩))
    show (!goodWord w) = true
    cases hgw : goodWord w
    · rfl
    · exact absurd hgw g
theorem vx_c {args : Array Value} {s : State} {w : Cond} {B : List Cond} (h : w.before args s = true) (t : ∀ w ∈ B, w.before args s = true) : ∀ w' ∈ w :: B, w'.before args s = true := fun w' h' => (List.mem_cons.mp h').elim (fun e => by rw [e]; exact h) (t w')
theorem vx_n {args : Array Value} {s : State} : ∀ w ∈ ([] : List Cond), w.before args s = true := fun _ h => nomatch h
theorem vx_own {args : Array Value} {s : State} {L : List Cond} (h1 : ∀ w ∈ L.filter vx_no, w.before args s = true)
    (hU : (Cond.isRef (.static Bundle.tN "UNASSIGNED_STACK" Bundle.steD)).before args s = true) (hN : (Cond.isRef (.static Bundle.tN "SUPPRESSED_SENTINEL" Bundle.listD)).before args s = true)
    (lU : (Cond.laysStatic Bundle.tN "UNASSIGNED_STACK" Bundle.steD).before args s = true) (lN : (Cond.laysStatic Bundle.tN "SUPPRESSED_SENTINEL" Bundle.listD).before args s = true) : ∀ w ∈ L, w.before args s = true := by
  intro w hw
  by_cases e1 : w = .isRef (.static Bundle.tN "UNASSIGNED_STACK" Bundle.steD)
  · rw [e1]; exact hU
  · by_cases e2 : w = .isRef (.static Bundle.tN "SUPPRESSED_SENTINEL" Bundle.listD)
    · rw [e2]; exact hN
    · by_cases e3 : w = .laysStatic Bundle.tN "UNASSIGNED_STACK" Bundle.steD
      · rw [e3]; exact lU
      · by_cases e4 : w = .laysStatic Bundle.tN "SUPPRESSED_SENTINEL" Bundle.listD
        · rw [e4]; exact lN
        · exact h1 w (List.mem_filter.mpr ⟨hw, by unfold vx_no; rw [decide_eq_true e1, decide_eq_true e2, decide_eq_true e3, decide_eq_true e4]; rfl⟩)
/-- where a static field lies, its class's statics cell in H -/
def vx_L (C n d : String) (A : Nat → Prop) (U : State) (H : Heap) : Prop := ∃ (c : ClassId) (k : Class) (i : Nat) (f : Field) (a : Nat) (cell : Cell), U.vm.findClass C = some c ∧ U.fieldFound? C n d = some (c, k, i, f) ∧ f.isStatic = true ∧ k.statics = some a ∧ H[a]? = some cell ∧ cell.vm.isStatics = true ∧ cell.cls = c ∧ f.slot < cell.slots.size ∧ k.staticTypes[f.slot]? = some f.type ∧ ¬ A a
theorem vx_L.moved {C n d : String} {A : Nat → Prop} {u U : State} {H : Heap} (hvm : u.vm.Alike U.vm) (h : vx_L C n d A u H) : vx_L C n d A U H := by
  obtain ⟨c, k, i, f, a, cell, h1, h2, h3, h4, h5, h6, h7, h8, h9, h10⟩ := h
  obtain ⟨k', hi', he⟩ := State.fieldFound?_setVm hvm h2
  exact ⟨c, k', i, f, a, cell, by rw [hvm.findClass]; exact h1, hi', h3, by rw [he]; exact h4, h5, h6, h7, h8, by rw [he]; exact h9, h10⟩
theorem vx_L.kept {C n d : String} {A : Nat → Prop} {U : State} {H H1 : Heap} (h : vx_L C n d A U H) (hq : ∀ a : Nat, a < H.size → ¬ A a → H1[a]? = H[a]?) : vx_L C n d A U H1 := by
  obtain ⟨c, k, i, f, a, cell, h1, h2, h3, h4, h5, h6, h7, h8, h9, h10⟩ := h
  exact ⟨c, k, i, f, a, cell, h1, h2, h3, h4, by rw [hq a (Array.getElem?_eq_some_iff.mp h5).1 h10]; exact h5, h6, h7, h8, h9, h10⟩
theorem vx_L.narrow {C n d : String} {A B : Nat → Prop} {U : State} {H : Heap} (h : vx_L C n d A U H) (hAB : ∀ q, B q → A q) : vx_L C n d B U H := by
  obtain ⟨c, k, i, f, a, cell, h1, h2, h3, h4, h5, h6, h7, h8, h9, h10⟩ := h
  exact ⟨c, k, i, f, a, cell, h1, h2, h3, h4, h5, h6, h7, h8, h9, fun z => h10 (hAB _ z)⟩
theorem vx_L.word {C n d : String} {A : Nat → Prop} {s : State} {args : Array Value} (h : vx_L C n d A s s.heap) : (Cond.laysStatic C n d).before args s = true := by
  obtain ⟨c, k, i, f, a, cell, h1, h2, h3, h4, h5, h6, h7, h8, h9, -⟩ := h
  show (Cond.laysStatic C n d).holds args s none s [] = true
  exact Cond.laysStatic_of h1 h2 h3 h4 h5 h6 h7 h8 h9
/-- .. and what it holds: null or some reference -/
def vx_Zq (C n d : String) (A : Nat → Prop) (U : State) (H : Heap) : Prop := va_Zq C n d A U H ∧ vx_L C n d A U H
theorem vx_Zq.moved {C n d : String} {A : Nat → Prop} {u U : State} {H : Heap} (hvm : u.vm.Alike U.vm) (h : vx_Zq C n d A u H) : vx_Zq C n d A U H := ⟨va_Zq.moved hvm h.1, vx_L.moved hvm h.2⟩
theorem vx_Zq.kept {C n d : String} {A : Nat → Prop} {U : State} {H H1 : Heap} (h : vx_Zq C n d A U H) (hq : ∀ a : Nat, a < H.size → ¬ A a → H1[a]? = H[a]?) : vx_Zq C n d A U H1 := ⟨va_Zq.kept h.1 hq, vx_L.kept h.2 hq⟩
theorem vx_Zq.narrow {C n d : String} {A B : Nat → Prop} {U : State} {H : Heap} (h : vx_Zq C n d A U H) (hAB : ∀ q, B q → A q) : vx_Zq C n d B U H := ⟨va_Zq.narrow h.1 hAB, vx_L.narrow h.2 hAB⟩
theorem vx_Zqof {args : Array Value} {s : State} {C n d : String} {A : Nat → Prop} (hl : (Cond.laysStatic C n d).before args s = true) (hini : (Cond.initialized C).before args s = true) (h : (Cond.isRef (.static C n d)).before args s = true) (hA : ∀ a : Nat, a < s.heap.size → ¬ A a) : vx_Zq C n d A s s.heap := by
  refine ⟨va_Zqof hl hini h hA, ?_⟩
  obtain ⟨c, k, i, f, a, cell, h1, h2, h3, h4, h5, h6, h7, h8, h9⟩ := Cond.laysStatic_spec hl
  exact ⟨c, k, i, f, a, cell, h1, h2, h3, h4, h5, h6, h7, h8, h9, hA a (Array.getElem?_eq_some_iff.mp h5).1⟩
theorem vx_isRef {C n d : String} {v : Value} {A : Nat → Prop} {s : State} {args : Array Value} (h : va_Z C n d v A s s.heap) (hv : v.isRef = true) : (Cond.isRef (.static C n d)).before args s = true := by
  obtain ⟨cf, kf, fi, f, a, cell, h1, h2, h3, h4, h5, h6, h7, -⟩ := h
  have he : (Term.static C n d).eval args s none [] s = some v := by
    simp [Term.eval, State.fieldNamed?, h1, h2, h4, h5, h6, h7]
  simp only [Cond.before, Cond.holds, Cond.value, he]
  cases v <;> simp_all [Value.isRef]
theorem vx_isRefq {C n d : String} {A : Nat → Prop} {s : State} {args : Array Value} (h : va_Zq C n d A s s.heap) : (Cond.isRef (.static C n d)).before args s = true := by
  rcases h with h | ⟨t, h⟩
  · exact vx_isRef h rfl
  · exact vx_isRef h rfl
/-- the same frame, seen from here: as if the method were called anew in this heap -/
theorem vx_rebase {T : State} (X : Stand p l e R s m args below meth c T locs cells slots) {R' : Room} (hf : R'.frames ≤ R.frames) (hl : R'.locals ≤ R.locals) (hc : cells + R'.cells ≤ R.cells) (hs : slots + R'.slots ≤ R.slots) :
    Stand p l e R' ((T.setVm s.vm).setFrames (.invoking m args :: below)) m args below meth c T [] 0 0 := by
  have htop : (T.setVm s.vm).topJava?.isSome := X.here.top
  have hF : ((T.setVm s.vm).setFrames (.invoking m args :: below)).frames = .invoking m args :: below := State.frames_setFrames _ (State.cur_lt_of_top htop)
  obtain ⟨g₀, hg0⟩ := Option.isSome_iff_exists.mp htop
  obtain ⟨r, hr⟩ := State.topJava?_eq_some.mp hg0
  have hl9 : e.platform.stackLimits (T.setVm s.vm).me = e.platform.stackLimits s.me := X.limits
  have hb9 : (T.setVm s.vm).me.stackBytes = s.me.stackBytes := X.bytes
  refine ⟨X.admits, X.cas, X.clock, hF, ?_, X.hears, X.method, X.code, X.here, X.tail, X.warmed, ?_, ?_, ?_⟩
  · have h := X.room
    have hU : ((T.setVm s.vm).setFrames (.invoking m args :: below)).localsInUse = s.localsInUse := by
      rw [State.localsInUse_invoking hF (meth := meth) (c := c) X.method X.code, State.localsInUse_invoking X.frames X.method X.code]
    simp only [State.hasRoom, Bool.and_eq_true, decide_eq_true_eq] at h ⊢
    obtain ⟨⟨⟨⟨h1, h2, h3, h4, h5, h6⟩, h7⟩, h8⟩, h9⟩ := h
    rw [X.frames, List.length_cons] at h2 h3
    have q1 := X.heapSize
    have q2 := X.used
    simp only [hF, hU, List.length_cons, State.stackLimits_setFrames, State.stackBytes_setFrames, hl9, hb9]
    refine ⟨⟨⟨⟨by omega, by omega, by omega, by omega, by omega, h6⟩, ?_⟩, ?_⟩, X.book⟩
    · show T.heap.size + R'.cells ≤ e.platform.maxCells
      omega
    · show T.slotsUsed + R'.slots ≤ e.platform.maxSlots
      omega
  · rw [State.stackLimits_setFrames]; rfl
  · rw [State.stackBytes_setFrames]; rfl
  · refine ⟨?_, Nat.le_refl _, Nat.le_refl _, ?_, ?_, fun a c9 h9 => ⟨c9, h9, rfl, rfl, fun _ _ => rfl⟩⟩
    · obtain ⟨t, ht, -⟩ := State.frames_cons hr
      show T.setVm s.vm = { ((T.setVm s.vm).setFrames (.invoking m args :: below)).setFrames (T.setVm s.vm).frames with heap := T.heap, slotsUsed := T.slotsUsed }
      rw [State.setFrames_setFrames, State.setFrames_self ht]
      rfl
    · show T.slotsUsed = T.slotsUsed + ((T.heap.toList.drop T.heap.size).map (·.slots.size)).sum
      rw [List.drop_eq_nil_of_le (Nat.le_of_eq Array.length_toList)]
      rfl
    · show ((T.heap.toList.drop T.heap.size).map (·.slots.size)).sum ≤ 0
      rw [List.drop_eq_nil_of_le (Nat.le_of_eq Array.length_toList)]
      exact Nat.le_refl _
/-- 'throw new E()': new; dup; invokespecial; athrow -/
theorem vx_throw0 {cc : ByteArray} {pc : Nat} (hexec : p.tables.exec = Jvm.exec) (hb : c.code = cc) (hl : l.stackTraces = false) {own cls : String} {names : List String} {ik ic mc ms : Nat} {A : Nat → Prop}
    (hown : s.vm.findClass own = some m.cls) (hcls : Bundle.fit cls = true) (hnames : ∀ n ∈ names, Bundle.fit n = true)
    (hk : (Cond.classLink own ik cls).before args s = true) (hini : (Cond.initialized cls).before args s = true) (hat : ∀ w ∈ vx_at0 own ic cls names, w.before args s = true)
    (hgood : ∀ w ∈ Cond.classLink own ik cls :: Cond.initialized cls :: vx_at0 own ic cls names, vx_ot w = true)
    (hU : vx_Zq Bundle.tN "UNASSIGNED_STACK" Bundle.steD A s s.heap) (hN : vx_Zq Bundle.tN "SUPPRESSED_SENTINEL" Bundle.listD A s s.heap) (hS : va_S A s.heap H locs) (hsize : ls.size = c.maxLocals)
    (d0 : decode cc pc = .ok (.new ik, 3)) (d3 : decode cc (pc + 3) = .ok (.dup, 1)) (d4 : decode cc (pc + 4) = .ok (.invokespecial ic, 3)) (d7 : decode cc (pc + 7) = .ok (.athrow, 1))
    (hout : ∀ x ∈ c.exceptionTable.toList, covers x (pc + 7) = false)
    (hRframes : names.length + 3 < R.frames) (hRlocals : (rest.map fun v => v.category).sum + (13 * (names.length + 1) + 42) ≤ R.locals) (hRcells : cells + 1 ≤ R.cells) (hRslots : slots + 6 ≤ R.slots) (hlocks : meth.locks = false)
    (hx : ∀ t : State, s.vm.Alike t.vm → H.size ≤ t.heap.size → (∀ q : Nat, q < H.size → t.heap[q]? = H[q]?) → XC cls s t)
    (hf : ∀ z ∈ locs, free z.base) (hc : cells + 1 ≤ mc) (hs : slots + 6 ≤ ms) :
    W p l e R s m args below meth c H locs cells slots (vx_MQ below Qc XC args s mc ms free) (F0 m pc ls rest) := by
  intro T hT X
  have htr : e.platform.stackTraces = false := (show e.platform.stackTraces = l.stackTraces by rw [X.admits.platform]).trans hl
  have Y := vx_rebase X (R' := { frames := R.frames, locals := R.locals, cells := 1, slots := 6 }) (Nat.le_refl _) (Nat.le_refl _) hRcells hRslots
  obtain ⟨s', hA⟩ : ∃ z, z = (T.setVm s.vm).setFrames (.invoking m args :: below) := ⟨_, rfl⟩
  rw [← hA] at Y
  have hvm : s'.vm = s.vm := by rw [hA]; rfl
  have hhp : s'.heap = H := by rw [hA]; exact hT
  have hW0 : s.WarmedH s'.vm := by rw [hvm]; exact State.WarmedH.refl s
  have hat' : ∀ w ∈ vx_at0 own ic cls names, w.before args s' = true := fun w hw => vx_ot_at hW0 hvm.symm (hgood w (List.mem_cons_of_mem _ (List.mem_cons_of_mem _ hw))) (hat w hw)
  have hk' : (Cond.classLink own ik cls).before args s' = true := vx_ot_at hW0 hvm.symm (hgood _ List.mem_cons_self) hk
  have hini' : (Cond.initialized cls).before args s' = true := vx_ot_at hW0 hvm.symm (hgood _ (List.mem_cons_of_mem _ List.mem_cons_self)) hini
  have hU' : vx_Zq Bundle.tN "UNASSIGNED_STACK" Bundle.steD A s' s'.heap := by rw [hhp]; exact vx_Zq.moved hW0.alike (hU.kept hS.2.1)
  have hN' : vx_Zq Bundle.tN "SUPPRESSED_SENTINEL" Bundle.listD A s' s'.heap := by rw [hhp]; exact vx_Zq.moved hW0.alike (hN.kept hS.2.1)
  have h : ∀ w ∈ Bundle.ownAtoms0 own ic cls names, w.before args s' = true := vx_own hat' (vx_isRefq hU'.1) (vx_isRefq hN'.1) hU'.2.word hN'.2.word
  have hown' : s'.vm.findClass own = some m.cls := by rw [hvm]; exact hown
  have hins : (Cond.instantiable cls 6).before args s' = true := h _ (by simp [Bundle.ownAtoms0])
  obtain ⟨vm₁, cX, kX, hfX, hkX, -, -, X₁, st1⟩ := Y.newCold hexec (own := own) (C := cls) (index := ik) (n := 6) hown' hk' hins hini'
    (g := F0 m pc ls rest) rfl (by rw [hb]; exact d0) (Nat.le_refl _) (Nat.le_refl _)
  generalize hT1 : (T.setVm vm₁).pushCell { cls := cX, slots := kX.instanceTypes.map defaultValue, vm := .none } = T1 at X₁ st1
  have hcat : (Value.ref T.heap.size).category = 1 := rfl
  have hcellA : T1.heap[T.heap.size]? = some (freshCell cX kX) := by rw [← hT1]; exact State.heap_pushCell_size _ _
  have d3' : decode c.code (pc + 3) = .ok (.dup, 1) := by rw [hb]; exact d3
  obtain ⟨U, hsteps, hrun, hend, hW, hsame, ce, hce, hO⟩ := X₁.ctorThrow0 hexec htr (own := own) (cls := cls) (names := names) (ic := ic) hown' hcls hnames h (fun x hx => nomatch hx) hfX hkX hcellA (by rw [hhp, hT]; exact Nat.le_refl _)
    (g := { method := m, pc := pc + 4, locals := ls, stack := .ref T.heap.size :: .ref T.heap.size :: rest, locked := none }) rfl hsize rfl rfl (rest := rest) rfl
    (by rw [hb]; exact d4) (by rw [hb]; exact d7) hout hRframes (by simp only [List.map_cons, List.sum_cons, hcat]; omega) hlocks
  obtain ⟨f1, f2⟩ := vx_frame hsame
  rw [hhp] at f1 f2
  have hWs : s.WarmedH U.vm := State.WarmedH.trans hW0 hW
  have hcl : s.vm.findClass cls = some ce.cls := by
    have h9 := hO.cls
    rw [hvm] at h9
    exact h9
  have hall : s.sameButNew ({ U with vm := s.vm } : State) locs mc ms := by
    subst hA
    obtain ⟨e1, e2⟩ := hsame
    rw [State.setFrames_setFrames] at e1
    have h2 : (T.setVm s.vm).sameButNew ({ U with vm := s.vm } : State) [] (0 + 1) (0 + 6) := ⟨e1, e2⟩
    have h3 := X.same.trans h2
    rw [List.append_nil] at h3
    exact h3.mono hc hs
  refine ⟨U, ?_, .threw T.heap.size, hrun, hend, Or.inr ⟨T.heap.size, rfl, cls, ce, locs, hx U hWs.alike f1 (fun q hq => f2 q hq (fun z hz => nomatch hz)), hce, hO.vm, hcl, hWs, hall, hf⟩⟩
  refine st1 _ ?_
  show Steps p.tables e below (T1.setTop { method := m, pc := pc + 3, locals := ls, stack := .ref T.heap.size :: rest, locked := none }) _
  jvm_step X₁.here [X₁.here.top, hexec, d3', Value.category]
  exact hsteps
/-- 'throw new E("text")': new; dup; ldc; invokespecial; athrow -/
theorem vx_throwS {cc : ByteArray} {pc : Nat} (hexec : p.tables.exec = Jvm.exec) (hb : c.code = cc) (hl : l.stackTraces = false) {own cls text : String} {names : List String} {ik is ic mc ms sa : Nat} {A : Nat → Prop}
    (hown : s.vm.findClass own = some m.cls) (hcls : Bundle.fit cls = true) (hnames : ∀ n ∈ names, Bundle.fit n = true)
    (hk : (Cond.classLink own ik cls).before args s = true) (hini : (Cond.initialized cls).before args s = true) (hstr : vk_R own is text sa s) (hat : ∀ w ∈ vx_atS own ic cls names, w.before args s = true)
    (hgood : ∀ w ∈ Cond.classLink own ik cls :: Cond.initialized cls :: vx_atS own ic cls names, vx_ot w = true)
    (hU : vx_Zq Bundle.tN "UNASSIGNED_STACK" Bundle.steD A s s.heap) (hN : vx_Zq Bundle.tN "SUPPRESSED_SENTINEL" Bundle.listD A s s.heap) (hS : va_S A s.heap H locs) (hsize : ls.size = c.maxLocals)
    (d0 : decode cc pc = .ok (.new ik, 3)) (d3 : decode cc (pc + 3) = .ok (.dup, 1)) (d4 : decode cc (pc + 4) = .ok (.ldc is, 2)) (d6 : decode cc (pc + 6) = .ok (.invokespecial ic, 3)) (d9 : decode cc (pc + 9) = .ok (.athrow, 1))
    (hout : ∀ x ∈ c.exceptionTable.toList, covers x (pc + 9) = false)
    (hRframes : names.length + 3 < R.frames) (hRlocals : (rest.map fun v => v.category).sum + (13 * (names.length + 1) + 43) ≤ R.locals) (hRcells : cells + 1 ≤ R.cells) (hRslots : slots + 6 ≤ R.slots) (hlocks : meth.locks = false)
    (hx : ∀ t : State, s.vm.Alike t.vm → H.size ≤ t.heap.size → (∀ q : Nat, q < H.size → t.heap[q]? = H[q]?) → XC cls s t)
    (hf : ∀ z ∈ locs, free z.base) (hc : cells + 1 ≤ mc) (hs : slots + 6 ≤ ms) :
    W p l e R s m args below meth c H locs cells slots (vx_MQ below Qc XC args s mc ms free) (F0 m pc ls rest) := by
  intro T hT X
  have htr : e.platform.stackTraces = false := (show e.platform.stackTraces = l.stackTraces by rw [X.admits.platform]).trans hl
  have Y := vx_rebase X (R' := { frames := R.frames, locals := R.locals, cells := 1, slots := 6 }) (Nat.le_refl _) (Nat.le_refl _) hRcells hRslots
  obtain ⟨s', hA⟩ : ∃ z, z = (T.setVm s.vm).setFrames (.invoking m args :: below) := ⟨_, rfl⟩
  rw [← hA] at Y
  have hvm : s'.vm = s.vm := by rw [hA]; rfl
  have hhp : s'.heap = H := by rw [hA]; exact hT
  have hW0 : s.WarmedH s'.vm := by rw [hvm]; exact State.WarmedH.refl s
  have hat' : ∀ w ∈ vx_atS own ic cls names, w.before args s' = true := fun w hw => vx_ot_at hW0 hvm.symm (hgood w (List.mem_cons_of_mem _ (List.mem_cons_of_mem _ hw))) (hat w hw)
  have hk' : (Cond.classLink own ik cls).before args s' = true := vx_ot_at hW0 hvm.symm (hgood _ List.mem_cons_self) hk
  have hini' : (Cond.initialized cls).before args s' = true := vx_ot_at hW0 hvm.symm (hgood _ (List.mem_cons_of_mem _ List.mem_cons_self)) hini
  have hU' : vx_Zq Bundle.tN "UNASSIGNED_STACK" Bundle.steD A s' s'.heap := by rw [hhp]; exact vx_Zq.moved hW0.alike (hU.kept hS.2.1)
  have hN' : vx_Zq Bundle.tN "SUPPRESSED_SENTINEL" Bundle.listD A s' s'.heap := by rw [hhp]; exact vx_Zq.moved hW0.alike (hN.kept hS.2.1)
  have h : ∀ w ∈ Bundle.ownAtoms own ic cls names, w.before args s' = true := vx_own hat' (vx_isRefq hU'.1) (vx_isRefq hN'.1) hU'.2.word hN'.2.word
  have hown' : s'.vm.findClass own = some m.cls := by rw [hvm]; exact hown
  have hins : (Cond.instantiable cls 6).before args s' = true := h _ (by simp [Bundle.ownAtoms])
  obtain ⟨vm₁, cX, kX, hfX, hkX, -, -, X₁, st1⟩ := Y.newCold hexec (own := own) (C := cls) (index := ik) (n := 6) hown' hk' hins hini'
    (g := F0 m pc ls rest) rfl (by rw [hb]; exact d0) (Nat.le_refl _) (Nat.le_refl _)
  generalize hT1 : (T.setVm vm₁).pushCell { cls := cX, slots := kX.instanceTypes.map defaultValue, vm := .none } = T1 at X₁ st1
  have hcat : (Value.ref T.heap.size).category = 1 := rfl
  have hcellA : T1.heap[T.heap.size]? = some (freshCell cX kX) := by rw [← hT1]; exact State.heap_pushCell_size _ _
  have d3' : decode c.code (pc + 3) = .ok (.dup, 1) := by rw [hb]; exact d3
  have d4' : decode c.code (pc + 4) = .ok (.ldc is, 2) := by rw [hb]; exact d4
  have hstr' : vk_R own is text sa s' := vk_R.warm hW0 hstr
  obtain ⟨U, hsteps, hrun, hend, hW, hsame, ce, hce, hO⟩ := X₁.ctorThrowS hexec htr (own := own) (cls := cls) (names := names) (ic := ic) hown' hcls hnames h (fun x hx => nomatch hx) hfX hkX hcellA (by rw [hhp, hT]; exact Nat.le_refl _) (msg := .ref sa) rfl
    (g := { method := m, pc := pc + 6, locals := ls, stack := .ref sa :: .ref T.heap.size :: .ref T.heap.size :: rest, locked := none }) rfl hsize rfl rfl (rest := rest) rfl
    (by rw [hb]; exact d6) (by rw [hb]; exact d9) hout hRframes (by simp only [List.map_cons, List.sum_cons, hcat]; omega) hlocks
  obtain ⟨f1, f2⟩ := vx_frame hsame
  rw [hhp] at f1 f2
  have hWs : s.WarmedH U.vm := State.WarmedH.trans hW0 hW
  have hcl : s.vm.findClass cls = some ce.cls := by
    have h9 := hO.cls
    rw [hvm] at h9
    exact h9
  have hall : s.sameButNew ({ U with vm := s.vm } : State) locs mc ms := by
    subst hA
    obtain ⟨e1, e2⟩ := hsame
    rw [State.setFrames_setFrames] at e1
    have h2 : (T.setVm s.vm).sameButNew ({ U with vm := s.vm } : State) [] (0 + 1) (0 + 6) := ⟨e1, e2⟩
    have h3 := X.same.trans h2
    rw [List.append_nil] at h3
    exact h3.mono hc hs
  refine ⟨U, ?_, .threw T.heap.size, hrun, hend, Or.inr ⟨T.heap.size, rfl, cls, ce, locs, hx U hWs.alike f1 (fun q hq => f2 q hq (fun z hz => nomatch hz)), hce, hO.vm, hcl, hWs, hall, hf⟩⟩
  refine st1 _ ?_
  show Steps p.tables e below (T1.setTop { method := m, pc := pc + 3, locals := ls, stack := .ref T.heap.size :: rest, locked := none }) _
  jvm_step X₁.here [X₁.here.top, hexec, d3', Value.category]
  exact X₁.ldcString hexec (own := own) (text := text) (index := is) (a := sa) hown' hstr'.1 hstr'.2
    (g := { method := m, pc := pc + 4, locals := ls, stack := .ref T.heap.size :: .ref T.heap.size :: rest, locked := none }) rfl d4' _ hsteps
/-- 'throw new E("text")', the text by a wide index -/
theorem vx_throwSW {cc : ByteArray} {pc : Nat} (hexec : p.tables.exec = Jvm.exec) (hb : c.code = cc) (hl : l.stackTraces = false) {own cls text : String} {names : List String} {ik is ic mc ms sa : Nat} {A : Nat → Prop}
    (hown : s.vm.findClass own = some m.cls) (hcls : Bundle.fit cls = true) (hnames : ∀ n ∈ names, Bundle.fit n = true)
    (hk : (Cond.classLink own ik cls).before args s = true) (hini : (Cond.initialized cls).before args s = true) (hstr : vk_R own is text sa s) (hat : ∀ w ∈ vx_atS own ic cls names, w.before args s = true)
    (hgood : ∀ w ∈ Cond.classLink own ik cls :: Cond.initialized cls :: vx_atS own ic cls names, vx_ot w = true)
    (hU : vx_Zq Bundle.tN "UNASSIGNED_STACK" Bundle.steD A s s.heap) (hN : vx_Zq Bundle.tN "SUPPRESSED_SENTINEL" Bundle.listD A s s.heap) (hS : va_S A s.heap H locs) (hsize : ls.size = c.maxLocals)
    (d0 : decode cc pc = .ok (.new ik, 3)) (d3 : decode cc (pc + 3) = .ok (.dup, 1)) (d4 : decode cc (pc + 4) = .ok (.ldc_w is, 3)) (d7 : decode cc (pc + 7) = .ok (.invokespecial ic, 3)) (d10 : decode cc (pc + 10) = .ok (.athrow, 1))
    (hout : ∀ x ∈ c.exceptionTable.toList, covers x (pc + 10) = false)
    (hRframes : names.length + 3 < R.frames) (hRlocals : (rest.map fun v => v.category).sum + (13 * (names.length + 1) + 43) ≤ R.locals) (hRcells : cells + 1 ≤ R.cells) (hRslots : slots + 6 ≤ R.slots) (hlocks : meth.locks = false)
    (hx : ∀ t : State, s.vm.Alike t.vm → H.size ≤ t.heap.size → (∀ q : Nat, q < H.size → t.heap[q]? = H[q]?) → XC cls s t)
    (hf : ∀ z ∈ locs, free z.base) (hc : cells + 1 ≤ mc) (hs : slots + 6 ≤ ms) :
    W p l e R s m args below meth c H locs cells slots (vx_MQ below Qc XC args s mc ms free) (F0 m pc ls rest) := by
  intro T hT X
  have htr : e.platform.stackTraces = false := (show e.platform.stackTraces = l.stackTraces by rw [X.admits.platform]).trans hl
  have Y := vx_rebase X (R' := { frames := R.frames, locals := R.locals, cells := 1, slots := 6 }) (Nat.le_refl _) (Nat.le_refl _) hRcells hRslots
  obtain ⟨s', hA⟩ : ∃ z, z = (T.setVm s.vm).setFrames (.invoking m args :: below) := ⟨_, rfl⟩
  rw [← hA] at Y
  have hvm : s'.vm = s.vm := by rw [hA]; rfl
  have hhp : s'.heap = H := by rw [hA]; exact hT
  have hW0 : s.WarmedH s'.vm := by rw [hvm]; exact State.WarmedH.refl s
  have hat' : ∀ w ∈ vx_atS own ic cls names, w.before args s' = true := fun w hw => vx_ot_at hW0 hvm.symm (hgood w (List.mem_cons_of_mem _ (List.mem_cons_of_mem _ hw))) (hat w hw)
  have hk' : (Cond.classLink own ik cls).before args s' = true := vx_ot_at hW0 hvm.symm (hgood _ List.mem_cons_self) hk
  have hini' : (Cond.initialized cls).before args s' = true := vx_ot_at hW0 hvm.symm (hgood _ (List.mem_cons_of_mem _ List.mem_cons_self)) hini
  have hU' : vx_Zq Bundle.tN "UNASSIGNED_STACK" Bundle.steD A s' s'.heap := by rw [hhp]; exact vx_Zq.moved hW0.alike (hU.kept hS.2.1)
  have hN' : vx_Zq Bundle.tN "SUPPRESSED_SENTINEL" Bundle.listD A s' s'.heap := by rw [hhp]; exact vx_Zq.moved hW0.alike (hN.kept hS.2.1)
  have h : ∀ w ∈ Bundle.ownAtoms own ic cls names, w.before args s' = true := vx_own hat' (vx_isRefq hU'.1) (vx_isRefq hN'.1) hU'.2.word hN'.2.word
  have hown' : s'.vm.findClass own = some m.cls := by rw [hvm]; exact hown
  have hins : (Cond.instantiable cls 6).before args s' = true := h _ (by simp [Bundle.ownAtoms])
  obtain ⟨vm₁, cX, kX, hfX, hkX, -, -, X₁, st1⟩ := Y.newCold hexec (own := own) (C := cls) (index := ik) (n := 6) hown' hk' hins hini'
    (g := F0 m pc ls rest) rfl (by rw [hb]; exact d0) (Nat.le_refl _) (Nat.le_refl _)
  generalize hT1 : (T.setVm vm₁).pushCell { cls := cX, slots := kX.instanceTypes.map defaultValue, vm := .none } = T1 at X₁ st1
  have hcat : (Value.ref T.heap.size).category = 1 := rfl
  have hcellA : T1.heap[T.heap.size]? = some (freshCell cX kX) := by rw [← hT1]; exact State.heap_pushCell_size _ _
  have d3' : decode c.code (pc + 3) = .ok (.dup, 1) := by rw [hb]; exact d3
  have d4' : decode c.code (pc + 4) = .ok (.ldc_w is, 3) := by rw [hb]; exact d4
  have hstr' : vk_R own is text sa s' := vk_R.warm hW0 hstr
  obtain ⟨U, hsteps, hrun, hend, hW, hsame, ce, hce, hO⟩ := X₁.ctorThrowS hexec htr (own := own) (cls := cls) (names := names) (ic := ic) hown' hcls hnames h (fun x hx => nomatch hx) hfX hkX hcellA (by rw [hhp, hT]; exact Nat.le_refl _) (msg := .ref sa) rfl
    (g := { method := m, pc := pc + 7, locals := ls, stack := .ref sa :: .ref T.heap.size :: .ref T.heap.size :: rest, locked := none }) rfl hsize rfl rfl (rest := rest) rfl
    (by rw [hb]; exact d7) (by rw [hb]; exact d10) hout hRframes (by simp only [List.map_cons, List.sum_cons, hcat]; omega) hlocks
  obtain ⟨f1, f2⟩ := vx_frame hsame
  rw [hhp] at f1 f2
  have hWs : s.WarmedH U.vm := State.WarmedH.trans hW0 hW
  have hcl : s.vm.findClass cls = some ce.cls := by
    have h9 := hO.cls
    rw [hvm] at h9
    exact h9
  have hall : s.sameButNew ({ U with vm := s.vm } : State) locs mc ms := by
    subst hA
    obtain ⟨e1, e2⟩ := hsame
    rw [State.setFrames_setFrames] at e1
    have h2 : (T.setVm s.vm).sameButNew ({ U with vm := s.vm } : State) [] (0 + 1) (0 + 6) := ⟨e1, e2⟩
    have h3 := X.same.trans h2
    rw [List.append_nil] at h3
    exact h3.mono hc hs
  refine ⟨U, ?_, .threw T.heap.size, hrun, hend, Or.inr ⟨T.heap.size, rfl, cls, ce, locs, hx U hWs.alike f1 (fun q hq => f2 q hq (fun z hz => nomatch hz)), hce, hO.vm, hcl, hWs, hall, hf⟩⟩
  refine st1 _ ?_
  show Steps p.tables e below (T1.setTop { method := m, pc := pc + 3, locals := ls, stack := .ref T.heap.size :: rest, locked := none }) _
  jvm_step X₁.here [X₁.here.top, hexec, d3', Value.category]
  exact X₁.ldcStringW hexec (own := own) (text := text) (index := is) (a := sa) hown' hstr'.1 hstr'.2
    (g := { method := m, pc := pc + 4, locals := ls, stack := .ref T.heap.size :: .ref T.heap.size :: rest, locked := none }) rfl d4' _ hsteps
end Ends
section Bodies
variable {l : Launch}
theorem vx_ofW {y : MethodName} {ws ws' : List Cond} {rm : Room} {Pc : Array Value → State → Prop} {Qc : Array Value → State → Outcome → State → Prop} {XC : String → State → State → Prop} {mc ms : Nat} {free : Addr → Prop} {cc : ByteArray} {maxL : Nat} {ret : Option FieldType}
    (hy : plainName y.cls = true) (hw : ws = Cond.code y cc maxL ret :: ws')
    (body : ∀ p e s m args below meth c s₁, BodyLoose p l y (headSpec ws rm) cc maxL ret e s m args below meth c s₁ → c.maxLocals = maxL → (∀ x ∈ c.exceptionTable.toList, False) → Pc args s →
      W p l e (headSpec ws rm).room s m args below meth c s.heap [] 0 0 (vx_MQ below Qc XC args s mc ms free) (entryFrame m args maxL)) : vx_Met l y ws rm Pc Qc XC mc ms free := by
  refine MetFree.of_bodyS (code := cc) (maxLocals := maxL) (ret := ret) hy ?_ ?_
  · intro args s m h hn
    obtain ⟨meth, c, h1, h2, h3, h4, h5, h6, -, -⟩ := Cond.code_spec hn (atoms_spec (ws := ws) h _ (by rw [hw]; exact List.mem_cons_self))
    exact ⟨meth, c, h1, h2, h3, h4, h5, h6⟩
  · intro p e s m args below meth c s₁ B hml hP _
    have hh0 : s₁.heap = s.heap := by rw [B.state]; rfl
    have ht : ∀ x ∈ c.exceptionTable.toList, False := by
      obtain ⟨meth9, c9, h1, h2, -, -, -, -, h7, -⟩ := Cond.code_spec B.named (atoms_spec (ws := ws) B.pre _ (by rw [hw]; exact List.mem_cons_self))
      cases Option.some.inj (h1.symm.trans B.method)
      cases Option.some.inj (h2.symm.trans (Stand.of_body B).code)
      intro x hx
      rw [Array.isEmpty_iff.mp h7] at hx
      cases hx
    obtain ⟨t, a1, o, b1, b2, b3⟩ := body p e s m args below meth c s₁ B hml ht hP s₁ hh0 (Stand.of_body B)
    exact ⟨t, o, a1, b1, b2, b3⟩
/-- the table of a body with handlers -/
theorem vx_table {p : Program} {x y : MethodName} {S : Spec} {cc bytes : ByteArray} {maxL maxL' : Nat} {ret ret' : Option FieldType} {e : Env} {s s₁ : State} {m : MethodId} {args : Array Value} {below : List Frame} {meth : Method} {c : Code} {hh : List (Nat × Nat × Nat × Nat)}
    (B : BodyLoose p l y S cc maxL ret e s m args below meth c s₁) (h : (Cond.codeWith y bytes maxL' ret' hh).before args s = true) : c.exceptionTable.toList = tableOf hh := by
  obtain ⟨m9, meth9, c9, hn9, h1, h2, -, -, h6, -⟩ := Cond.codeWith_spec h
  cases Option.some.inj (hn9.symm.trans B.named)
  cases Option.some.inj (h1.symm.trans B.method)
  cases Option.some.inj (h2.symm.trans (Stand.of_body B).code)
  rw [← h6, table_eq]
end Bodies
end VXA
/-! ===== END ===== -/
/-! ===== BEGIN a static call of a method with an exception table ===== -/
section VXS
variable {p : Program} {l : Launch} {e : Env} {R : Room} {s : State} {m : MethodId} {args : Array Value} {below : List Frame} {meth : Method} {c : Code} {T : State} {H : Heap} {locs : List Loc} {cells slots : Nat}
abbrev vx_CSW (R : Room) (s : State) (args : Array Value) (own : String) (index : Nat) (y : MethodName) (bytes : ByteArray) (maxL : Nat) (ret : Option FieldType) (hh : List (Nat × Nat × Nat × Nat)) (ws : List Cond) (rm : Room) (mc ms n : Nat) : Prop :=
  (rm.cells = mc ∧ rm.slots = ms ∧ rm.frames + 1 ≤ R.frames ∧ 8 + (maxL + 11) + rm.locals ≤ R.locals ∧ (∀ w ∈ ws, ∀ (a' : Array Value) (U : State), s.WarmedH U.vm → w.before a' U = true) ∧ Cond.codeWith y bytes maxL ret hh ∈ ws) ∧
  (Cond.codeWith y bytes maxL ret hh).before args s = true ∧ (Cond.initialized y.cls).before args s = true ∧ (y.cls ≠ "java/lang/invoke/MethodHandle" ∧ y.cls ≠ "java/lang/invoke/VarHandle") ∧
  (∀ sig, parseMethodDescriptor y.desc = some sig → n = sig.parameters.length) ∧ (Cond.methodLink own index y).before args s = true ∧ (Cond.static y).before args s = true
theorem vx_cwSW {own : String} {index maxL mc ms : Nat} {y : MethodName} {bytes : ByteArray} {ret : Option FieldType} {hh : List (Nat × Nat × Nat × Nat)} {Ts ws ws' : List Cond} {rm : Room} (n : Nat) (ht : ∀ w ∈ Ts, w.before args s = true) (hT : GoodIn Ts (va_wsS own index y ws)) (hw : ws = Cond.codeWith y bytes maxL ret hh :: ws') (hrc : rm.cells = mc) (hrs : rm.slots = ms)
    (hd : y.cls ≠ "java/lang/invoke/MethodHandle" ∧ y.cls ≠ "java/lang/invoke/VarHandle" ∧ (parseMethodDescriptor y.desc).map (fun d => d.parameters.length) = some n) (hR : rm.frames + 1 ≤ R.frames ∧ 8 + (maxL + 11) + rm.locals ≤ R.locals) :
    vx_CSW R s args own index y bytes maxL ret hh ws rm mc ms n := by
  have ok : ∀ w ∈ va_wsS own index y ws, w.before args s = true := fun w h => ht w (hT w h).1
  have hG : GoodIn Ts ws := fun w h => hT w (by unfold va_wsS; exact List.mem_append_right _ h)
  have hc : Cond.codeWith y bytes maxL ret hh ∈ ws := by rw [hw]; exact List.mem_cons_self
  refine ⟨⟨hrc, hrs, hR.1, hR.2, pay_in ht hG, hc⟩, ht _ (hG _ hc).1, ok _ (by simp [va_wsS]), ⟨hd.1, hd.2.1⟩, fun sig h => ?_, ok _ (by simp [va_wsS]), ok _ (by simp [va_wsS])⟩
  have h2 := hd.2.2
  rw [h] at h2
  exact (Option.some.inj h2).symm
theorem vx_callSW (X : Stand p l e R s m args below meth c T locs cells slots) (hexec : p.tables.exec = Jvm.exec) {own : String} {index : Nat} {y : MethodName} {bytes : ByteArray} {maxL : Nat} {ret : Option FieldType} {hh : List (Nat × Nat × Nat × Nat)}
    (hown : s.vm.findClass own = some m.cls) (hlink : (Cond.methodLink own index y).before args s = true) (hstat : (Cond.static y).before args s = true) (hinit : (Cond.initialized y.cls).before args s = true)
    (hcode : (Cond.codeWith y bytes maxL ret hh).before args s = true) (hy : y.cls ≠ "java/lang/invoke/MethodHandle" ∧ y.cls ≠ "java/lang/invoke/VarHandle")
    {W9 : Nat} {Pre : Pt → Array Value → Prop} {Post : Pt → Array Value → Option Value → Pt → Prop} (hK : Back l R p e below s args y 3 W9 Pre Post)
    {g : JFrame} (hg : g.method = m) (hsize : g.locals.size = c.maxLocals) {argsL rest : List Value} (hlen : ∀ sig, parseMethodDescriptor y.desc = some sig → argsL.length = sig.parameters.length)
    (hstack : g.stack = argsL.reverse ++ rest) (hW : 2 * g.monitorRoom + (rest.map fun v => v.category).sum ≤ W9) (hdg : decode c.code g.pc = .ok (.invokestatic index, 3))
    (hpre : ∀ vm₁, s.WarmedH vm₁ → Pre ⟨T.setVm vm₁, locs, cells, slots⟩ argsL.toArray) :
    ∃ (v : Option Value) (vm₁ : Vm) (B : Pt), s.WarmedH vm₁ ∧ Stand p l e R s m args below meth c B.U B.locs B.cells B.slots ∧ Post ⟨T.setVm vm₁, locs, cells, slots⟩ argsL.toArray v B ∧
      ∀ target, Steps p.tables e below (B.U.setTop { g with pc := g.pc + 3, stack := v.toList ++ rest }) target → Steps p.tables e below (T.setTop g) target := by
  obtain ⟨mk, methM, cM, hnamed, hmethM, -, -, -, -, -, -, hsigM⟩ := Cond.codeWith_spec hcode
  have hstatic : methM.isStatic = true := Cond.static_spec hnamed hmethM hstat
  obtain ⟨kP, hkP, -⟩ := className_of_methodNamed hnamed
  have hinitP : kP.init = .initialized := Cond.initialized_spec (findClass_of_methodNamed hnamed) hkP hinit
  obtain ⟨vm₁, X₁, hstep₁⟩ := X.invokestatic hexec hown hlink hnamed hmethM hstatic hkP hinitP hy (g := g) hg (argsL := argsL) (rest := rest) (hlen _ hsigM) hstack hdg
  obtain ⟨v, B, X', hpost, hsteps⟩ := hK m meth c ⟨T.setVm vm₁, locs, cells, slots⟩ { g with stack := rest } (.invokestatic index) mk argsL.toArray X₁ hg hsize hdg hW (X₁.named hnamed) (hpre vm₁ X₁.warmed)
  exact ⟨v, vm₁, B, X₁.warmed, X', hpost, fun target h => hstep₁ _ fun acts => by rw [doInvoke_state]; exact hsteps.trans h⟩
theorem vx_runSW {y : MethodName} {bytes cc : ByteArray} {maxL nL mc ms n index : Nat} {ret : Option FieldType} {hh : List (Nat × Nat × Nat × Nat)} {ws : List Cond} {rm : Room} {Pc : Array Value → State → Prop} {Qc : Array Value → State → Outcome → State → Prop} {free : Addr → Prop} {Ts : List Cond} {own : String} {As rest : List Value} {g : JFrame}
    (S : CallFix p m c cc nL s args Ts own) (hM : Met l y ws rm Pc Qc mc ms free) (cw : vx_CSW R s args own index y bytes maxL ret hh ws rm mc ms n) (hp : PreS s H Pc As)
    (hg : g.method = m) (hn : As.length = n) (hsize : g.locals.size = nL) (hstack : g.stack = As.reverse ++ rest) (hW : 2 * g.monitorRoom + (rest.map fun v => v.category).sum ≤ 8) (hdg : decode cc g.pc = .ok (.invokestatic index, 3)) (hf : cells + mc ≤ R.cells ∧ slots + ms ≤ R.slots) :
    va_Run p l e R s m args below meth c H locs cells slots mc ms g rest (Qc As.toArray) (free) := by
  obtain ⟨⟨hrc, hrs, hfr, hlo, hws, hcw⟩, hcode, hini, hy, hlen, hl, hstt⟩ := cw
  have hK : Back l R p e below s args y 3 8 (PreOf R mc ms Pc) (PostOf Qc mc ms free) := va_backW (hh := hh) (bytes := bytes) (maxL := maxL) (ret := ret) hM hp.1 hrc hrs hfr hlo hws hcw (fun a' U hW => word_at hW (Or.inl (by first | rfl | simp [Cond.onTables, Cond.keeps, Cond.steady])) hini)
  obtain ⟨hx, hb, hml, ho, -⟩ := S
  intro T hT X
  obtain ⟨v, vm₁, ⟨U', l2, c2, s2⟩, hW₁, X', ⟨g', mk, t, L, e1, e2, hq, h1, hL, h2, h3⟩, st⟩ := vx_callSW X hx (hh := hh) (bytes := bytes) (maxL := maxL) (ret := ret) ho hl hstt hini hcode hy hK hg (hsize.trans hml.symm) (argsL := As) (rest := rest) (fun sig h => hn.trans (hlen sig h)) hstack hW (by rw [hb]; exact hdg)
    (fun vm₁ hW₁ => ⟨hf.1, hf.2, hp.2 (T.setVm vm₁) hT hW₁⟩)
  dsimp only [Pt.U, Pt.locs, Pt.cells, Pt.slots] at X' e1 e2 h1 h2 h3 st
  subst h1; subst h2; subst h3
  exact ⟨v, (T.setVm vm₁).calling g' mk As.toArray, t, U', L, hT, X', hL, e1, e2, hq, st⟩
/-- not caught here, past rows that name other classes: it goes on to the caller -/
theorem vx_outP {p : Program} {l : Launch} {e : Env} {R : Room} {s : State} {m : MethodId} {args : Array Value} {below : List Frame} {meth : Method} {c : Code} {H : Heap} {locs : List Loc} {cells slots : Nat} {free : Addr → Prop} {ls : Array Slot} {rest : List Value} {Qc : Array Value → State → Outcome → State → Prop} {XC : String → State → State → Prop}
    {pc : Nat} {own E : String} {ce : Cell} {q : Addr} {mc ms : Nat} (hown : s.vm.findClass own = some m.cls) (hlocks : meth.locks = false)
    (hpass : ∀ z ∈ c.exceptionTable.toList, covers z pc = false ∨ (z.catchType ≠ 0 ∧ ∃ nm : String, (Cond.classLink own z.catchType nm).before args s = true ∧ va_Nc E nm s)) (hcell : H[q]? = some ce) (hv : ce.vm = .none) (hcl : s.vm.findClass E = some ce.cls)
    (hx : ∀ t : State, t.heap = H → s.vm.Alike t.vm → XC E s t) (hf : ∀ z ∈ locs, free z.base) (hc : cells ≤ mc) (hs : slots ≤ ms) :
    vx_W p l e R s m args below meth c H locs cells slots (vx_MQ below Qc XC args s mc ms free) (F0 m pc ls rest) q := by
  intro T hT X
  have hpl : e.platform.magicAccessors = ({} : Platform).magicAccessors := by rw [X.admits.platform]
  obtain ⟨vm', hW', X', st⟩ := X.outThrough hlocks q (g := F0 m pc ls rest) rfl rfl rfl (cell := ce) (by rw [hT]; exact hcell) (by rw [hv]; rfl)
    (by obtain ⟨k9, h9, -⟩ := Vm.findClass_spec hcl; exact ⟨k9, h9⟩) (fun z hz => by
      rcases hpass z hz with h | ⟨hz0, nm, hl1, hn1⟩
      · exact Or.inl h
      · obtain ⟨c6, hc6, hcl6⟩ := Cond.classLink_spec hown hl1 e.platform hpl
        obtain ⟨a8, b8, h1, h2, h3⟩ := hn1
        cases Option.some.inj (h1.symm.trans hcl)
        cases Option.some.inj (h2.symm.trans hc6)
        exact Or.inr ⟨hz0, _, hcl6, h3⟩)
  obtain ⟨g₀, hfr⟩ := X'.frames_eq
  have hcell9 : ((T.setVm vm').setFrames (.throwing q :: below)).heap[q]? = some ce := by
    show T.heap[q]? = some ce
    rw [hT]; exact hcell
  have hend : Ended ((T.setVm vm').setFrames (.throwing q :: below)) below (.threw q) := State.frames_setFrames _ (State.cur_lt_of_frames hfr)
  refine ⟨(T.setVm vm').setFrames (.throwing q :: below), ?_, .threw q, X'.here.running, hend, Or.inr ⟨q, rfl, E, ce, locs, hx _ hT (X'.ends _).1.alike, hcell9, hv, hcl, (X'.ends _).1, (X'.ends _).2.mono hc hs, hf⟩⟩
  rw [X.pushThrowing_eq]
  exact st
/-- a thing of a world lies in the heap -/
theorem vx_lt {D : va_G} {cl : List vw_C} {ws : va_W} {H1 : Heap} (h : va_P D cl ws H1) {k : Nat} {q : Nat × va_E} (hk : ws[k]? = some q) : q.1 < H1.size := (h k q hk).lt
end VXS
/-! ===== END ===== -/
/-! ===== BEGIN methods with a table of their own: called by a name, returning or throwing ===== -/
section VXH
/-! vx_backW, vx_callVX, vx_callSX, vx_callVW, vx_runVW, vx_runVX, vx_runSX, vx_ofWH follow the same proofs as their sisters above (Free/Laws.lean, Shelf42/LK1.lean); vx_outP calls Shelf42/NT130.lean (outThrough). -/
section
variable {l : Launch} {R : Room} {p : Program} {e : Env} {below : List Frame} {s : State} {sargs : Array Value} {y : MethodName} {len W9 : Nat}
theorem vx_backW {ws : List Cond} {rm : Room} {Pc : Array Value → State → Prop} {Qc : Array Value → State → Outcome → State → Prop} {XC : String → State → State → Prop} {mc ms : Nat} {free : Addr → Prop} {bytes : ByteArray} {maxL : Nat} {ret : Option FieldType} {hh : List (Nat × Nat × Nat × Nat)}
    (hM : vx_Met l y ws rm Pc Qc XC mc ms free) (hblind : FrameBlind Pc) (hrc : rm.cells = mc) (hrs : rm.slots = ms)
    (hframes : rm.frames + 1 ≤ R.frames) (hlocals : W9 + (maxL + 11) + rm.locals ≤ R.locals)
    (hws : ∀ w ∈ ws, ∀ a' U, s.WarmedH U.vm → w.before a' U = true) (hcode : Cond.codeWith y bytes maxL ret hh ∈ ws) (hinit : ∀ a' U, s.WarmedH U.vm → (Cond.initialized y.cls).before a' U = true) :
    vx_Back l R p e below s sargs y len W9 (PreOf R mc ms Pc) (PostOf Qc mc ms free) (vx_Post XC mc ms free) := by
  intro m meth c A g ig mk a X hg hsize hdg hW hn hp
  have h1 : (headSpec ws rm).pre.before a A.U = true := atoms_intro fun w hw => hws w hw _ _ X.warmed
  have h2 : (Cond.codeWith y bytes maxL ret hh).before a A.U = true := hws _ hcode _ _ X.warmed
  have h3 : (Cond.initialized y.cls).before a A.U = true := hinit _ _ X.warmed
  have h4 : A.cells + (headSpec ws rm).room.cells ≤ R.cells := by rw [show (headSpec ws rm).room.cells = mc from hrc]; exact hp.1
  have h5 : A.slots + (headSpec ws rm).room.slots ≤ R.slots := by rw [show (headSpec ws rm).room.slots = ms from hrs]; exact hp.2.1
  have hPc : Pc a (A.U.calling g mk a) := hblind _ _ _ _ hp.2.2
  obtain ⟨U, Ls, c0, s0⟩ := A
  dsimp only [Pt.U, Pt.locs, Pt.cells, Pt.slots] at h1 h2 h3 h4 h5 X hn hPc ⊢
  obtain ⟨m9, methY, cY, hn9, hmY, hcY, -, hlY, -⟩ := Cond.codeWith_spec h2
  cases Option.some.inj (hn9.symm.trans hn)
  obtain ⟨kY, hkY, -⟩ := className_of_methodNamed hn
  have hinitY : kY.init = .initialized := Cond.initialized_spec (findClass_of_methodNamed hn) hkY h3
  have h : At U g.method c below := by rw [hg]; exact X.here
  have hlocals9 : W9 + (maxL + 11) + (headSpec ws rm).room.locals ≤ R.locals := hlocals
  have happ : (headSpec ws rm).appliesLoose y e.platform (U.calling g mk a) = true :=
    Spec.appliesLoose_calling (g := g) h hdg hn hkY hinitY
      (X.room_calling (g := g) (R' := (headSpec ws rm).room) hsize hmY hcY hframes (by rw [hlY]; omega) h4 h5) h1
  obtain ⟨mid, hmid⟩ := h.above
  have hfr : (U.setTop g).frames = (.java g :: mid) ++ below := by rw [State.frames_setTop' g h.top, hmid]; rfl
  obtain ⟨o, s₂, hsteps, -, hend, hq⟩ := Steps.callFree hM p X.admits X.cas X.clock (acts := []) hfr happ hPc trivial
  have hq' : vx_Q Qc XC mc ms free a (U.calling g mk a) o s₂ := hq
  rw [State.frames_setTop' g h.top] at hend
  obtain ⟨g₀, hg0⟩ := Option.isSome_iff_exists.mp h.top
  obtain ⟨r, hr⟩ := State.topJava?_eq_some.mp hg0
  have hr' : (({ U with heap := s₂.heap, slotsUsed := s₂.slotsUsed } : State).setVm s₂.vm).frames = .java g₀ :: r := hr
  rcases hq' with ⟨hqc, L, hfe, hL⟩ | ⟨q, rfl, E, ce, L, hx, hce, hcv, hcl, hW₂, hsm, hL⟩
  · obtain ⟨⟨v, rfl⟩, hW₂, e2, q2, q3, q4, q5, q6⟩ := id hfe
    have e3 : s₂ = ({ (U.calling g mk a).setFrames s₂.frames with heap := s₂.heap, slotsUsed := s₂.slotsUsed } : State).setVm s₂.vm := by
      have : s₂ = ({ s₂ with vm := (U.calling g mk a).vm } : State).setVm s₂.vm := rfl
      rw [e2] at this
      exact this
    obtain ⟨c₂, i₂, len₂, hc₂, hd₂, hf₂⟩ := hend
    have hW' : U.WarmedH s₂.vm := hW₂
    have hcc : c₂ = c := by
      have h1 : s₂.code? g.method = U.code? g.method := by
        rw [State.code?_eq, State.code?_eq, hW'.alike.method?]
      exact Option.some.inj (hc₂.symm.trans (h1.trans h.code))
    subst hcc
    have hlen : len₂ = len := by rw [hdg] at hd₂; cases hd₂; rfl
    subst hlen
    have hs₂ : s₂ = (({ U with heap := s₂.heap, slotsUsed := s₂.slotsUsed } : State).setVm s₂.vm).setTop { g with pc := g.pc + len₂, stack := v.toList ++ g.stack } := by
      refine e3.trans ?_
      rw [hf₂, State.calling_eq h.top, State.setFrames_setFrames, State.setTop_of_frames _ hr', hr]
      rfl
    have hsame : U.sameButNew ({ U with heap := s₂.heap, slotsUsed := s₂.slotsUsed } : State) L mc ms := by
      refine ⟨?_, q2, q3, q4, q5, q6⟩
      obtain ⟨t, ht, -⟩ := State.frames_cons hr
      show ({ U with heap := s₂.heap, slotsUsed := s₂.slotsUsed } : State) = { U.setFrames U.frames with heap := s₂.heap, slotsUsed := s₂.slotsUsed }
      rw [State.setFrames_self ht]
    subst hg
    refine Or.inl ⟨v, ⟨(({ U with heap := s₂.heap, slotsUsed := s₂.slotsUsed } : State).setVm s₂.vm), Ls ++ L, c0 + mc, s0 + ms⟩,
      ⟨X.admits, X.cas, X.clock, X.frames, X.room, X.hears, X.method, X.code, (X.here.setHeapUsed s₂.heap s₂.slotsUsed).setVm hW'.alike, X.tail, State.WarmedH.trans X.warmed hW', X.limits, X.bytes, X.same.trans (hsame.setVm s.vm)⟩,
      ⟨g, mk, s₂, L, rfl, rfl, hqc, rfl, hL, rfl, rfl⟩, ?_⟩
    show Steps p.tables e below _ ((({ U with heap := s₂.heap, slotsUsed := s₂.slotsUsed } : State).setVm s₂.vm).setTop { g with pc := g.pc + len₂, stack := v.toList ++ g.stack })
    rw [← hs₂]
    exact hsteps
  · obtain ⟨e2, q2, q3, q4, q5, q6⟩ := id hsm
    have e3 : s₂ = ({ (U.calling g mk a).setFrames s₂.frames with heap := s₂.heap, slotsUsed := s₂.slotsUsed } : State).setVm s₂.vm := by
      have : s₂ = ({ s₂ with vm := (U.calling g mk a).vm } : State).setVm s₂.vm := rfl
      rw [e2] at this
      exact this
    have hf₂ : s₂.frames = .throwing q :: .java g :: U.frames.tail := hend
    have hW' : U.WarmedH s₂.vm := hW₂
    have hs₂ : s₂ = ((({ U with heap := s₂.heap, slotsUsed := s₂.slotsUsed } : State).setVm s₂.vm).setTop g).pushFrame (.throwing q) := by
      refine e3.trans ?_
      rw [hf₂, State.calling_eq h.top, State.setFrames_setFrames, State.pushFrame, State.frames_setTop _ hr', State.setTop_of_frames _ hr', State.setFrames_setFrames, hr]
      rfl
    have hsame : U.sameButNew ({ U with heap := s₂.heap, slotsUsed := s₂.slotsUsed } : State) L mc ms := by
      refine ⟨?_, q2, q3, q4, q5, q6⟩
      obtain ⟨t, ht, -⟩ := State.frames_cons hr
      show ({ U with heap := s₂.heap, slotsUsed := s₂.slotsUsed } : State) = { U.setFrames U.frames with heap := s₂.heap, slotsUsed := s₂.slotsUsed }
      rw [State.setFrames_self ht]
    subst hg
    refine Or.inr ⟨q, ⟨(({ U with heap := s₂.heap, slotsUsed := s₂.slotsUsed } : State).setVm s₂.vm), Ls ++ L, c0 + mc, s0 + ms⟩,
      ⟨X.admits, X.cas, X.clock, X.frames, X.room, X.hears, X.method, X.code, (X.here.setHeapUsed s₂.heap s₂.slotsUsed).setVm hW'.alike, X.tail, State.WarmedH.trans X.warmed hW', X.limits, X.bytes, X.same.trans (hsame.setVm s.vm)⟩,
      ⟨g, mk, s₂, L, E, ce, rfl, rfl, hx, hce, hcv, hcl, rfl, hL, rfl, rfl⟩, ?_⟩
    show Steps p.tables e below _ (((({ U with heap := s₂.heap, slotsUsed := s₂.slotsUsed } : State).setVm s₂.vm).setTop g).pushFrame (.throwing q))
    rw [← hs₂]
    exact hsteps
end
variable {p : Program} {l : Launch} {e : Env} {R : Room} {s : State} {m : MethodId} {args : Array Value} {below : List Frame} {meth : Method} {c : Code} {T : State} {H : Heap} {locs : List Loc} {cells slots : Nat}
theorem vx_callVX (X : Stand p l e R s m args below meth c T locs cells slots) (hexec : p.tables.exec = Jvm.exec) {own C : String} {index : Nat} {y : MethodName} {bytes : ByteArray} {maxL : Nat} {ret : Option FieldType} {hh : List (Nat × Nat × Nat × Nat)}
    (hown : s.vm.findClass own = some m.cls) (hlink : (Cond.methodLink own index y).before args s = true) (hinst : (Cond.instanceMethod y).before args s = true) (hsel : (Cond.selects C y y).before args s = true)
    (hcode : (Cond.codeWith y bytes maxL ret hh).before args s = true) (hy : y.cls ≠ "java/lang/invoke/MethodHandle" ∧ y.cls ≠ "java/lang/invoke/VarHandle")
    {W9 : Nat} {Pre : Pt → Array Value → Prop} {Post : Pt → Array Value → Option Value → Pt → Prop} {PostX : Pt → Array Value → Addr → Pt → Prop} (hK : vx_Back l R p e below s args y 3 W9 Pre Post PostX)
    {b : Addr} {cellB : Cell} (hcell : T.heap[b]? = some cellB) (hobj : cellB.vm.isStatics = false) (hcls : s.vm.findClass C = some cellB.cls)
    {g : JFrame} (hg : g.method = m) (hsize : g.locals.size = c.maxLocals) {argsL rest : List Value} (hlen : ∀ sig, parseMethodDescriptor y.desc = some sig → argsL.length = sig.parameters.length)
    (hstack : g.stack = argsL.reverse ++ .ref b :: rest) (hW : 2 * g.monitorRoom + (rest.map fun v => v.category).sum ≤ W9) (hdg : decode c.code g.pc = .ok (.invokevirtual index, 3))
    (hpre : ∀ vm₁, s.WarmedH vm₁ → Pre ⟨T.setVm vm₁, locs, cells, slots⟩ (Value.ref b :: argsL).toArray) :
    (∃ (v : Option Value) (vm₁ : Vm) (B : Pt), s.WarmedH vm₁ ∧ Stand p l e R s m args below meth c B.U B.locs B.cells B.slots ∧ Post ⟨T.setVm vm₁, locs, cells, slots⟩ (Value.ref b :: argsL).toArray v B ∧
      ∀ target, Steps p.tables e below (B.U.setTop { g with pc := g.pc + 3, stack := v.toList ++ rest }) target → Steps p.tables e below (T.setTop g) target) ∨
    (∃ (q : Addr) (vm₁ : Vm) (B : Pt), s.WarmedH vm₁ ∧ Stand p l e R s m args below meth c B.U B.locs B.cells B.slots ∧ PostX ⟨T.setVm vm₁, locs, cells, slots⟩ (Value.ref b :: argsL).toArray q B ∧
      Steps p.tables e below (T.setTop g) ((B.U.setTop { g with stack := rest }).pushFrame (.throwing q))) := by
  obtain ⟨mk, methM, hnamed, hmethM, hstM, habM⟩ := Cond.instanceMethod_spec hinst
  obtain ⟨m8, methM', cM, hn8, hmethM', -, -, -, -, -, -, hsigM⟩ := Cond.codeWith_spec hcode
  cases Option.some.inj (hn8.symm.trans hnamed)
  cases hmethM.symm.trans hmethM'
  obtain ⟨c2, r2, m2, q1, q2, q3, q4, kP, hkP, hkPi⟩ := Cond.selects_spec hsel
  cases hcls.symm.trans q1
  cases (State.methodFound?_of_named hnamed hy).symm.trans q2
  cases hnamed.symm.trans q3
  have hselP : selectMethod e.platform s.vm cellB.cls mk = .method mk := by rw [Launch.admits_selectMethod X.admits]; exact q4
  obtain ⟨vm₁, X₁, hstep₁⟩ := X.invokevirtual hexec hown hlink hnamed hmethM hstM hkP hkPi hy (a := b) (cell := cellB) hcell
    (fun z h => by rw [h] at hobj; cases hobj) hselP hmethM habM hkP hkPi (g := g) hg (argsL := argsL) (rest := rest) (hlen _ hsigM) hstack hdg
  rcases hK m meth c ⟨T.setVm vm₁, locs, cells, slots⟩ { g with stack := rest } (.invokevirtual index) mk (Value.ref b :: argsL).toArray X₁ hg hsize hdg hW (X₁.named hnamed) (hpre vm₁ X₁.warmed) with ⟨v, B, X', hpost, hsteps⟩ | ⟨q, B, X', hpost, hsteps⟩
  · exact Or.inl ⟨v, vm₁, B, X₁.warmed, X', hpost, fun target h => hstep₁ _ fun acts => by rw [doInvoke_state]; exact hsteps.trans h⟩
  · exact Or.inr ⟨q, vm₁, B, X₁.warmed, X', hpost, hstep₁ _ fun acts => by rw [doInvoke_state]; exact hsteps⟩
theorem vx_callSX (X : Stand p l e R s m args below meth c T locs cells slots) (hexec : p.tables.exec = Jvm.exec) {own : String} {index : Nat} {y : MethodName} {bytes : ByteArray} {maxL : Nat} {ret : Option FieldType} {hh : List (Nat × Nat × Nat × Nat)}
    (hown : s.vm.findClass own = some m.cls) (hlink : (Cond.methodLink own index y).before args s = true) (hstat : (Cond.static y).before args s = true) (hinit : (Cond.initialized y.cls).before args s = true)
    (hcode : (Cond.codeWith y bytes maxL ret hh).before args s = true) (hy : y.cls ≠ "java/lang/invoke/MethodHandle" ∧ y.cls ≠ "java/lang/invoke/VarHandle")
    {W9 : Nat} {Pre : Pt → Array Value → Prop} {Post : Pt → Array Value → Option Value → Pt → Prop} {PostX : Pt → Array Value → Addr → Pt → Prop} (hK : vx_Back l R p e below s args y 3 W9 Pre Post PostX)
    {g : JFrame} (hg : g.method = m) (hsize : g.locals.size = c.maxLocals) {argsL rest : List Value} (hlen : ∀ sig, parseMethodDescriptor y.desc = some sig → argsL.length = sig.parameters.length)
    (hstack : g.stack = argsL.reverse ++ rest) (hW : 2 * g.monitorRoom + (rest.map fun v => v.category).sum ≤ W9) (hdg : decode c.code g.pc = .ok (.invokestatic index, 3))
    (hpre : ∀ vm₁, s.WarmedH vm₁ → Pre ⟨T.setVm vm₁, locs, cells, slots⟩ argsL.toArray) :
    (∃ (v : Option Value) (vm₁ : Vm) (B : Pt), s.WarmedH vm₁ ∧ Stand p l e R s m args below meth c B.U B.locs B.cells B.slots ∧ Post ⟨T.setVm vm₁, locs, cells, slots⟩ argsL.toArray v B ∧
      ∀ target, Steps p.tables e below (B.U.setTop { g with pc := g.pc + 3, stack := v.toList ++ rest }) target → Steps p.tables e below (T.setTop g) target) ∨
    (∃ (q : Addr) (vm₁ : Vm) (B : Pt), s.WarmedH vm₁ ∧ Stand p l e R s m args below meth c B.U B.locs B.cells B.slots ∧ PostX ⟨T.setVm vm₁, locs, cells, slots⟩ argsL.toArray q B ∧
      Steps p.tables e below (T.setTop g) ((B.U.setTop { g with stack := rest }).pushFrame (.throwing q))) := by
  obtain ⟨mk, methM, cM, hnamed, hmethM, -, -, -, -, -, -, hsigM⟩ := Cond.codeWith_spec hcode
  have hstatic : methM.isStatic = true := Cond.static_spec hnamed hmethM hstat
  obtain ⟨kP, hkP, -⟩ := className_of_methodNamed hnamed
  have hinitP : kP.init = .initialized := Cond.initialized_spec (findClass_of_methodNamed hnamed) hkP hinit
  obtain ⟨vm₁, X₁, hstep₁⟩ := X.invokestatic hexec hown hlink hnamed hmethM hstatic hkP hinitP hy (g := g) hg (argsL := argsL) (rest := rest) (hlen _ hsigM) hstack hdg
  rcases hK m meth c ⟨T.setVm vm₁, locs, cells, slots⟩ { g with stack := rest } (.invokestatic index) mk argsL.toArray X₁ hg hsize hdg hW (X₁.named hnamed) (hpre vm₁ X₁.warmed) with ⟨v, B, X', hpost, hsteps⟩ | ⟨q, B, X', hpost, hsteps⟩
  · exact Or.inl ⟨v, vm₁, B, X₁.warmed, X', hpost, fun target h => hstep₁ _ fun acts => by rw [doInvoke_state]; exact hsteps.trans h⟩
  · exact Or.inr ⟨q, vm₁, B, X₁.warmed, X', hpost, hstep₁ _ fun acts => by rw [doInvoke_state]; exact hsteps⟩
theorem vx_callVW (X : Stand p l e R s m args below meth c T locs cells slots) (hexec : p.tables.exec = Jvm.exec) {own C : String} {index : Nat} {y : MethodName} {bytes : ByteArray} {maxL : Nat} {ret : Option FieldType} {hh : List (Nat × Nat × Nat × Nat)}
    (hown : s.vm.findClass own = some m.cls) (hlink : (Cond.methodLink own index y).before args s = true) (hinst : (Cond.instanceMethod y).before args s = true) (hsel : (Cond.selects C y y).before args s = true)
    (hcode : (Cond.codeWith y bytes maxL ret hh).before args s = true) (hy : y.cls ≠ "java/lang/invoke/MethodHandle" ∧ y.cls ≠ "java/lang/invoke/VarHandle")
    {W9 : Nat} {Pre : Pt → Array Value → Prop} {Post : Pt → Array Value → Option Value → Pt → Prop} (hK : Back l R p e below s args y 3 W9 Pre Post)
    {b : Addr} {cellB : Cell} (hcell : T.heap[b]? = some cellB) (hobj : cellB.vm.isStatics = false) (hcls : s.vm.findClass C = some cellB.cls)
    {g : JFrame} (hg : g.method = m) (hsize : g.locals.size = c.maxLocals) {argsL rest : List Value} (hlen : ∀ sig, parseMethodDescriptor y.desc = some sig → argsL.length = sig.parameters.length)
    (hstack : g.stack = argsL.reverse ++ .ref b :: rest) (hW : 2 * g.monitorRoom + (rest.map fun v => v.category).sum ≤ W9) (hdg : decode c.code g.pc = .ok (.invokevirtual index, 3))
    (hpre : ∀ vm₁, s.WarmedH vm₁ → Pre ⟨T.setVm vm₁, locs, cells, slots⟩ (Value.ref b :: argsL).toArray) :
    ∃ (v : Option Value) (vm₁ : Vm) (B : Pt), s.WarmedH vm₁ ∧ Stand p l e R s m args below meth c B.U B.locs B.cells B.slots ∧ Post ⟨T.setVm vm₁, locs, cells, slots⟩ (Value.ref b :: argsL).toArray v B ∧
      ∀ target, Steps p.tables e below (B.U.setTop { g with pc := g.pc + 3, stack := v.toList ++ rest }) target → Steps p.tables e below (T.setTop g) target := by
  obtain ⟨mk, methM, hnamed, hmethM, hstM, habM⟩ := Cond.instanceMethod_spec hinst
  obtain ⟨m8, methM', cM, hn8, hmethM', -, -, -, -, -, -, hsigM⟩ := Cond.codeWith_spec hcode
  cases Option.some.inj (hn8.symm.trans hnamed)
  cases hmethM.symm.trans hmethM'
  obtain ⟨c2, r2, m2, q1, q2, q3, q4, kP, hkP, hkPi⟩ := Cond.selects_spec hsel
  cases hcls.symm.trans q1
  cases (State.methodFound?_of_named hnamed hy).symm.trans q2
  cases hnamed.symm.trans q3
  have hselP : selectMethod e.platform s.vm cellB.cls mk = .method mk := by rw [Launch.admits_selectMethod X.admits]; exact q4
  obtain ⟨vm₁, X₁, hstep₁⟩ := X.invokevirtual hexec hown hlink hnamed hmethM hstM hkP hkPi hy (a := b) (cell := cellB) hcell
    (fun z h => by rw [h] at hobj; cases hobj) hselP hmethM habM hkP hkPi (g := g) hg (argsL := argsL) (rest := rest) (hlen _ hsigM) hstack hdg
  obtain ⟨v, B, X', hpost, hsteps⟩ := hK m meth c ⟨T.setVm vm₁, locs, cells, slots⟩ { g with stack := rest } (.invokevirtual index) mk (Value.ref b :: argsL).toArray X₁ hg hsize hdg hW (X₁.named hnamed) (hpre vm₁ X₁.warmed)
  exact ⟨v, vm₁, B, X₁.warmed, X', hpost, fun target h => hstep₁ _ fun acts => by rw [doInvoke_state]; exact hsteps.trans h⟩
abbrev vx_CVW (R : Room) (s : State) (args : Array Value) (own C : String) (index : Nat) (y : MethodName) (bytes : ByteArray) (maxL : Nat) (ret : Option FieldType) (hh : List (Nat × Nat × Nat × Nat)) (ws : List Cond) (rm : Room) (mc ms n : Nat) : Prop :=
  (rm.cells = mc ∧ rm.slots = ms ∧ rm.frames + 1 ≤ R.frames ∧ 8 + (maxL + 11) + rm.locals ≤ R.locals ∧ (∀ w ∈ ws, ∀ (a' : Array Value) (U : State), s.WarmedH U.vm → w.before a' U = true) ∧ Cond.codeWith y bytes maxL ret hh ∈ ws) ∧
  (Cond.codeWith y bytes maxL ret hh).before args s = true ∧ (Cond.initialized y.cls).before args s = true ∧ (y.cls ≠ "java/lang/invoke/MethodHandle" ∧ y.cls ≠ "java/lang/invoke/VarHandle") ∧
  (∀ sig, parseMethodDescriptor y.desc = some sig → n = sig.parameters.length) ∧ (Cond.methodLink own index y).before args s = true ∧ (Cond.instanceMethod y).before args s = true ∧ (Cond.selects C y y).before args s = true
theorem vx_cwVW {own C : String} {index maxL mc ms : Nat} {y : MethodName} {bytes : ByteArray} {ret : Option FieldType} {hh : List (Nat × Nat × Nat × Nat)} {Ts ws ws' : List Cond} {rm : Room} (n : Nat) (ht : ∀ w ∈ Ts, w.before args s = true) (hT : GoodIn Ts (wsV own index C y ws)) (hw : ws = Cond.codeWith y bytes maxL ret hh :: ws') (hrc : rm.cells = mc) (hrs : rm.slots = ms)
    (hd : y.cls = C ∧ y.cls ≠ "java/lang/invoke/MethodHandle" ∧ y.cls ≠ "java/lang/invoke/VarHandle" ∧ (parseMethodDescriptor y.desc).map (fun d => d.parameters.length) = some n) (hR : rm.frames + 1 ≤ R.frames ∧ 8 + (maxL + 11) + rm.locals ≤ R.locals) :
    vx_CVW R s args own C index y bytes maxL ret hh ws rm mc ms n := by
  obtain ⟨hC, hd⟩ := hd
  subst hC
  have ok : ∀ w ∈ wsV own index y.cls y ws, w.before args s = true := fun w h => ht w (hT w h).1
  have hG : GoodIn Ts ws := fun w h => hT w (by unfold wsV; exact List.mem_append_right _ h)
  have hc : Cond.codeWith y bytes maxL ret hh ∈ ws := by rw [hw]; exact List.mem_cons_self
  refine ⟨⟨hrc, hrs, hR.1, hR.2, pay_in ht hG, hc⟩, ht _ (hG _ hc).1, ok _ (by simp [wsV]), ⟨hd.1, hd.2.1⟩, fun sig h => ?_, ok _ (by simp [wsV]), ok _ (by simp [wsV]), ok _ (by simp [wsV])⟩
  have h2 := hd.2.2
  rw [h] at h2
  exact (Option.some.inj h2).symm
theorem vx_runVW {y : MethodName} {bytes cc : ByteArray} {maxL nL mc ms n index : Nat} {ret : Option FieldType} {hh : List (Nat × Nat × Nat × Nat)} {ws : List Cond} {rm : Room} {Pc : Array Value → State → Prop} {Qc : Array Value → State → Outcome → State → Prop} {free : Addr → Prop} {Ts : List Cond} {own C : String} {b : Addr} {As rest : List Value} {g : JFrame}
    (S : CallFix p m c cc nL s args Ts own) (hM : Met l y ws rm Pc Qc mc ms free) (cw : vx_CVW R s args own C index y bytes maxL ret hh ws rm mc ms n) (hp : PreV s H C b Pc As)
    (hg : g.method = m) (hn : As.length = n) (hsize : g.locals.size = nL) (hstack : g.stack = As.reverse ++ .ref b :: rest) (hW : 2 * g.monitorRoom + (rest.map fun v => v.category).sum ≤ 8) (hdg : decode cc g.pc = .ok (.invokevirtual index, 3)) (hf : cells + mc ≤ R.cells ∧ slots + ms ≤ R.slots) :
    va_Run p l e R s m args below meth c H locs cells slots mc ms g rest (Qc (Value.ref b :: As).toArray) free := by
  obtain ⟨⟨hrc, hrs, hfr, hlo, hws, hcw⟩, hcode, hini, hy, hlen, hl, hin, hse⟩ := cw
  have hK : Back l R p e below s args y 3 8 (PreOf R mc ms Pc) (PostOf Qc mc ms free) := va_backW (hh := hh) (bytes := bytes) (maxL := maxL) (ret := ret) hM hp.1 hrc hrs hfr hlo hws hcw (fun a' U hW => word_at hW (Or.inl (by first | rfl | simp [Cond.onTables, Cond.keeps, Cond.steady])) hini)
  obtain ⟨hx, hb, hml, ho, -⟩ := S
  obtain ⟨-, ⟨cellB, hcB, hoB, hclB⟩, hPc⟩ := hp
  intro T hT X
  obtain ⟨v, vm₁, ⟨U', l2, c2, s2⟩, hW₁, X', ⟨g', mk, t, L, e1, e2, hq, h1, hL, h2, h3⟩, st⟩ := vx_callVW X hx (C := C) (hh := hh) (bytes := bytes) (maxL := maxL) (ret := ret) ho hl hin hse hcode hy hK (by rw [hT]; exact hcB) hoB hclB hg (hsize.trans hml.symm) (argsL := As) (rest := rest) (fun sig h => hn.trans (hlen sig h)) hstack hW (by rw [hb]; exact hdg)
    (fun vm₁ hW₁ => ⟨hf.1, hf.2, hPc (T.setVm vm₁) hT hW₁⟩)
  dsimp only [Pt.U, Pt.locs, Pt.cells, Pt.slots] at X' e1 e2 h1 h2 h3 st
  subst h1; subst h2; subst h3
  exact ⟨v, (T.setVm vm₁).calling g' mk (Value.ref b :: As).toArray, t, U', L, hT, X', hL, e1, e2, hq, st⟩
section
variable {y : MethodName} {bytes cc : ByteArray} {maxL nL mc ms n index : Nat} {ret : Option FieldType} {ws : List Cond} {rm : Room} {Pc : Array Value → State → Prop} {Qc : Array Value → State → Outcome → State → Prop} {XC : String → State → State → Prop} {free : Addr → Prop} {Ts : List Cond} {own C : String} {b : Addr} {As rest : List Value} {g : JFrame}
theorem vx_runVX {hh : List (Nat × Nat × Nat × Nat)} (S : CallFix p m c cc nL s args Ts own) (hM : vx_Met l y ws rm Pc Qc XC mc ms free) (cw : vx_CVW R s args own C index y bytes maxL ret hh ws rm mc ms n) (hp : PreV s H C b Pc As)
    (hg : g.method = m) (hn : As.length = n) (hsize : g.locals.size = nL) (hstack : g.stack = As.reverse ++ .ref b :: rest) (hW : 2 * g.monitorRoom + (rest.map fun v => v.category).sum ≤ 8) (hdg : decode cc g.pc = .ok (.invokevirtual index, 3)) (hf : cells + mc ≤ R.cells ∧ slots + ms ≤ R.slots) :
    vx_Run p l e R s m args below meth c H locs cells slots mc ms g rest (Qc (Value.ref b :: As).toArray) XC free := by
  obtain ⟨⟨hrc, hrs, hfr, hlo, hws, hcw⟩, hcode, hini, hy, hlen, hl, hin, hse⟩ := cw
  have hK : vx_Back l R p e below s args y 3 8 (PreOf R mc ms Pc) (PostOf Qc mc ms free) (vx_Post XC mc ms free) := vx_backW (hh := hh) (bytes := bytes) (maxL := maxL) (ret := ret) hM hp.1 hrc hrs hfr hlo hws hcw (fun a' U hW => word_at hW (Or.inl (by first | rfl | simp [Cond.onTables, Cond.keeps, Cond.steady])) hini)
  obtain ⟨hx, hb, hml, ho, -⟩ := S
  obtain ⟨-, ⟨cellB, hcB, hoB, hclB⟩, hPc⟩ := hp
  intro T hT X
  rcases vx_callVX X hx (C := C) (hh := hh) (bytes := bytes) (maxL := maxL) (ret := ret) ho hl hin hse hcode hy hK (by rw [hT]; exact hcB) hoB hclB hg (hsize.trans hml.symm) (argsL := As) (rest := rest) (fun sig h => hn.trans (hlen sig h)) hstack hW (by rw [hb]; exact hdg)
    (fun vm₁ hW₁ => ⟨hf.1, hf.2, hPc (T.setVm vm₁) hT hW₁⟩) with ⟨v, vm₁, ⟨U', l2, c2, s2⟩, hW₁, X', ⟨g', mk, t, L, e1, e2, hq, h1, hL, h2, h3⟩, st⟩ | ⟨q, vm₁, ⟨U', l2, c2, s2⟩, hW₁, X', ⟨g', mk, t, L, E, ce, e1, e2, hq, hce, hcv, hcl, h1, hL, h2, h3⟩, st⟩
  · dsimp only [Pt.U, Pt.locs, Pt.cells, Pt.slots] at X' e1 e2 h1 h2 h3 st
    subst h1; subst h2; subst h3
    exact Or.inl ⟨v, (T.setVm vm₁).calling g' mk (Value.ref b :: As).toArray, t, U', L, hT, X', hL, e1, e2, hq, st⟩
  · dsimp only [Pt.U, Pt.locs, Pt.cells, Pt.slots] at X' e1 e2 h1 h2 h3 st hcl
    subst h1; subst h2; subst h3
    exact Or.inr ⟨q, (T.setVm vm₁).calling g' mk (Value.ref b :: As).toArray, t, U', L, E, ce, hT, X', hL, e1, e2, hq, hce, hcv, vx_cls hW₁ hcl, st⟩
theorem vx_runSX {hh : List (Nat × Nat × Nat × Nat)} (S : CallFix p m c cc nL s args Ts own) (hM : vx_Met l y ws rm Pc Qc XC mc ms free) (cw : vx_CSW R s args own index y bytes maxL ret hh ws rm mc ms n) (hp : PreS s H Pc As)
    (hg : g.method = m) (hn : As.length = n) (hsize : g.locals.size = nL) (hstack : g.stack = As.reverse ++ rest) (hW : 2 * g.monitorRoom + (rest.map fun v => v.category).sum ≤ 8) (hdg : decode cc g.pc = .ok (.invokestatic index, 3)) (hf : cells + mc ≤ R.cells ∧ slots + ms ≤ R.slots) :
    vx_Run p l e R s m args below meth c H locs cells slots mc ms g rest (Qc As.toArray) XC free := by
  obtain ⟨⟨hrc, hrs, hfr, hlo, hws, hcw⟩, hcode, hini, hy, hlen, hl, hstt⟩ := cw
  have hK : vx_Back l R p e below s args y 3 8 (PreOf R mc ms Pc) (PostOf Qc mc ms free) (vx_Post XC mc ms free) := vx_backW (hh := hh) (bytes := bytes) (maxL := maxL) (ret := ret) hM hp.1 hrc hrs hfr hlo hws hcw (fun a' U hW => word_at hW (Or.inl (by first | rfl | simp [Cond.onTables, Cond.keeps, Cond.steady])) hini)
  obtain ⟨hx, hb, hml, ho, -⟩ := S
  intro T hT X
  rcases vx_callSX X hx (hh := hh) (bytes := bytes) (maxL := maxL) (ret := ret) ho hl hstt hini hcode hy hK hg (hsize.trans hml.symm) (argsL := As) (rest := rest) (fun sig h => hn.trans (hlen sig h)) hstack hW (by rw [hb]; exact hdg)
    (fun vm₁ hW₁ => ⟨hf.1, hf.2, hp.2 (T.setVm vm₁) hT hW₁⟩) with ⟨v, vm₁, ⟨U', l2, c2, s2⟩, hW₁, X', ⟨g', mk, t, L, e1, e2, hq, h1, hL, h2, h3⟩, st⟩ | ⟨q, vm₁, ⟨U', l2, c2, s2⟩, hW₁, X', ⟨g', mk, t, L, E, ce, e1, e2, hq, hce, hcv, hcl, h1, hL, h2, h3⟩, st⟩
  · dsimp only [Pt.U, Pt.locs, Pt.cells, Pt.slots] at X' e1 e2 h1 h2 h3 st
    subst h1; subst h2; subst h3
    exact Or.inl ⟨v, (T.setVm vm₁).calling g' mk As.toArray, t, U', L, hT, X', hL, e1, e2, hq, st⟩
  · dsimp only [Pt.U, Pt.locs, Pt.cells, Pt.slots] at X' e1 e2 h1 h2 h3 st hcl
    subst h1; subst h2; subst h3
    exact Or.inr ⟨q, (T.setVm vm₁).calling g' mk As.toArray, t, U', L, E, ce, hT, X', hL, e1, e2, hq, hce, hcv, vx_cls hW₁ hcl, st⟩
end
end VXH
theorem vx_ofWH {l : Launch} {y : MethodName} {ws ws' : List Cond} {rm : Room} {Pc : Array Value → State → Prop} {Qc : Array Value → State → Outcome → State → Prop} {XC : String → State → State → Prop} {mc ms : Nat} {free : Addr → Prop} {cc : ByteArray} {maxL : Nat} {ret : Option FieldType} {hh : List (Nat × Nat × Nat × Nat)}
    (hy : plainName y.cls = true) (hw : ws = Cond.codeWith y cc maxL ret hh :: ws')
    (body : ∀ p e s m args below meth c s₁, BodyLoose p l y (headSpec ws rm) cc maxL ret e s m args below meth c s₁ → c.maxLocals = maxL → Pc args s →
      W p l e (headSpec ws rm).room s m args below meth c s.heap [] 0 0 (vx_MQ below Qc XC args s mc ms free) (entryFrame m args maxL)) : vx_Met l y ws rm Pc Qc XC mc ms free := by
  refine MetFree.of_bodyS (code := cc) (maxLocals := maxL) (ret := ret) hy ?_ ?_
  · intro args s m h hn
    obtain ⟨m9, meth, c, hn9, h1, h2, h3, h4, -, h5, h6, -⟩ := Cond.codeWith_spec (atoms_spec (ws := ws) h _ (by rw [hw]; exact List.mem_cons_self))
    cases hn.symm.trans hn9
    exact ⟨meth, c, h1, h2, h3, h4, h5, h6⟩
  · intro p e s m args below meth c s₁ B hml hP _
    have hh0 : s₁.heap = s.heap := by rw [B.state]; rfl
    obtain ⟨t, a1, o, b1, b2, b3⟩ := body p e s m args below meth c s₁ B hml hP s₁ hh0 (Stand.of_body B)
    exact ⟨t, o, a1, b1, b2, b3⟩
/-! ===== END ===== -/
end
section
/-! ===== BEGIN printed: names, fields, word lists, decode rows ===== -/
def RX0 : String := "TinCellar$Row"
def TX0 : u_T := fun k => match k with
  | _ => ("TinCellar$Row", "cells", "[I", true)
def tyX0 : Nat → FieldType := fun k => match k with
  | _ => .array .int
abbrev wsX00 : List Cond := u_ws RX0 TX0 1
theorem nmX0 : ∀ a, a < 1 → ∀ b, b < 1 → a ≠ b → (TX0 a).2.1 ≠ (TX0 b).2.1 := by decide +kernel
theorem tyX0_ok : ∀ k, k < 1 → parseFieldDescriptor (TX0 k).2.2.1 = some (tyX0 k) := by decide +kernel
abbrev cX0_init : ByteArray := prog_2_method_1_code
def yX0_init : MethodName := ⟨RX0, "<init>", "(I)V"⟩
abbrev cX0_get : ByteArray := prog_2_method_2_code
def yX0_get : MethodName := ⟨RX0, "get", "(I)I"⟩
abbrev cX0_set : ByteArray := prog_2_method_3_code
def yX0_set : MethodName := ⟨RX0, "set", "(II)V"⟩
abbrev cX0_copyFrom : ByteArray := prog_2_method_4_code
def yX0_copyFrom : MethodName := ⟨RX0, "copyFrom", "(LTinCellar$Row;)V"⟩
def RX1 : String := "TinCellar$Stock"
def TX1 : u_T := fun k => match k with
  | 0 => ("TinCellar$Stock", "warm", "LTinCellar$Row;", true)
  | 1 => ("TinCellar$Stock", "vacuumAtFirst", "LTinCellar$Row;", true)
  | 2 => ("TinCellar$Stock", "leaks", "LTinCellar$Row;", true)
  | 3 => ("TinCellar$Stock", "swelledLids", "LTinCellar$Row;", true)
  | 4 => ("TinCellar$Stock", "recalled", "LTinCellar$Row;", true)
  | 5 => ("TinCellar$Stock", "batchCount", "I", false)
  | 6 => ("TinCellar$Stock", "batch", "LTinCellar$Row;", true)
  | 7 => ("TinCellar$Stock", "shelf", "LTinCellar$Row;", true)
  | 8 => ("TinCellar$Stock", "vacuum", "LTinCellar$Row;", true)
  | 9 => ("TinCellar$Stock", "place", "LTinCellar$Row;", true)
  | 10 => ("TinCellar$Stock", "tinCount", "I", false)
  | 11 => ("TinCellar$Stock", "shippedADay", "I", false)
  | 12 => ("TinCellar$Stock", "order", "I", false)
  | _ => ("TinCellar$Stock", "day", "I", false)
def tyX1 : Nat → FieldType := fun k => match k with
  | 0 => .object "TinCellar$Row"
  | 1 => .object "TinCellar$Row"
  | 2 => .object "TinCellar$Row"
  | 3 => .object "TinCellar$Row"
  | 4 => .object "TinCellar$Row"
  | 5 => .int
  | 6 => .object "TinCellar$Row"
  | 7 => .object "TinCellar$Row"
  | 8 => .object "TinCellar$Row"
  | 9 => .object "TinCellar$Row"
  | 10 => .int
  | 11 => .int
  | 12 => .int
  | _ => .int
abbrev wsX10 : List Cond := u_ws RX1 TX1 14
theorem nmX1 : ∀ a, a < 14 → ∀ b, b < 14 → a ≠ b → (TX1 a).2.1 ≠ (TX1 b).2.1 := by decide +kernel
theorem tyX1_ok : ∀ k, k < 14 → parseFieldDescriptor (TX1 k).2.2.1 = some (tyX1 k) := by decide +kernel
abbrev cX1_init : ByteArray := prog_3_method_1_code
def yX1_init : MethodName := ⟨RX1, "<init>", "()V"⟩
abbrev cX1_copyFrom : ByteArray := prog_3_method_2_code
def yX1_copyFrom : MethodName := ⟨RX1, "copyFrom", "(LTinCellar$Stock;)V"⟩
abbrev cX1_takeBatch : ByteArray := prog_3_method_3_code
def yX1_takeBatch : MethodName := ⟨RX1, "takeBatch", "(II)I"⟩
abbrev cX1_takeTins : ByteArray := prog_3_method_4_code
def yX1_takeTins : MethodName := ⟨RX1, "takeTins", "(III)I"⟩
abbrev cX1_holds : ByteArray := prog_3_method_5_code
def yX1_holds : MethodName := ⟨RX1, "holds", "(I)Z"⟩
abbrev cX1_isBatchRecalled : ByteArray := prog_3_method_6_code
def yX1_isBatchRecalled : MethodName := ⟨RX1, "isBatchRecalled", "(I)Z"⟩
abbrev cX1_passDay : ByteArray := prog_3_method_7_code
def yX1_passDay : MethodName := ⟨RX1, "passDay", "()V"⟩
abbrev cX1_wearTins : ByteArray := prog_3_method_8_code
def yX1_wearTins : MethodName := ⟨RX1, "wearTins", "()V"⟩
abbrev cX1_swellLid : ByteArray := prog_3_method_9_code
def yX1_swellLid : MethodName := ⟨RX1, "swellLid", "(I)V"⟩
abbrev cX1_recallSwelled : ByteArray := prog_3_method_10_code
def yX1_recallSwelled : MethodName := ⟨RX1, "recallSwelled", "()V"⟩
abbrev cX1_ship : ByteArray := prog_3_method_11_code
def yX1_ship : MethodName := ⟨RX1, "ship", "(I)V"⟩
abbrev cX1_recallBatch : ByteArray := prog_3_method_12_code
def yX1_recallBatch : MethodName := ⟨RX1, "recallBatch", "(I)I"⟩
abbrev cX1_firstBy : ByteArray := prog_3_method_13_code
def yX1_firstBy : MethodName := ⟨RX1, "firstBy", "(I)I"⟩
abbrev cX1_countAheadOf : ByteArray := prog_3_method_14_code
def yX1_countAheadOf : MethodName := ⟨RX1, "countAheadOf", "(II)I"⟩
abbrev cX1_rankBy : ByteArray := prog_3_method_15_code
def yX1_rankBy : MethodName := ⟨RX1, "rankBy", "(II)I"⟩
abbrev cX1_wearOn : ByteArray := prog_3_method_16_code
def yX1_wearOn : MethodName := ⟨RX1, "wearOn", "(II)I"⟩
abbrev cX1_daysToSwell : ByteArray := prog_3_method_17_code
def yX1_daysToSwell : MethodName := ⟨RX1, "daysToSwell", "(II)I"⟩
abbrev cX1_countAt : ByteArray := prog_3_method_18_code
def yX1_countAt : MethodName := ⟨RX1, "countAt", "(I)I"⟩
abbrev cX1_countHeldWith : ByteArray := prog_3_method_19_code
def yX1_countHeldWith : MethodName := ⟨RX1, "countHeldWith", "(LTinCellar$Row;I)I"⟩
abbrev cX1_vacuumHeld : ByteArray := prog_3_method_20_code
def yX1_vacuumHeld : MethodName := ⟨RX1, "vacuumHeld", "()I"⟩
def RX2 : String := "TinCellar"
def TX2 : u_T := fun k => match k with
  | 0 => ("TinCellar", "now", "LTinCellar$Stock;", true)
  | _ => ("TinCellar", "trial", "LTinCellar$Stock;", true)
def tyX2 : Nat → FieldType := fun k => match k with
  | 0 => .object "TinCellar$Stock"
  | _ => .object "TinCellar$Stock"
abbrev wsX20 : List Cond := u_ws RX2 TX2 2
theorem nmX2 : ∀ a, a < 2 → ∀ b, b < 2 → a ≠ b → (TX2 a).2.1 ≠ (TX2 b).2.1 := by decide +kernel
theorem tyX2_ok : ∀ k, k < 2 → parseFieldDescriptor (TX2 k).2.2.1 = some (tyX2 k) := by decide +kernel
abbrev cX2_init : ByteArray := prog_1_method_1_code
def yX2_init : MethodName := ⟨RX2, "<init>", "()V"⟩
abbrev cX2_addBatch : ByteArray := prog_1_method_2_code
def yX2_addBatch : MethodName := ⟨RX2, "addBatch", "(II)I"⟩
abbrev cX2_seal : ByteArray := prog_1_method_3_code
def yX2_seal : MethodName := ⟨RX2, "seal", "(III)I"⟩
abbrev cX2_move : ByteArray := prog_1_method_4_code
def yX2_move : MethodName := ⟨RX2, "move", "(II)I"⟩
abbrev cX2_setWarm : ByteArray := prog_1_method_5_code
def yX2_setWarm : MethodName := ⟨RX2, "setWarm", "(II)I"⟩
abbrev cX2_setShipping : ByteArray := prog_1_method_6_code
def yX2_setShipping : MethodName := ⟨RX2, "setShipping", "(II)I"⟩
abbrev cX2_recall : ByteArray := prog_1_method_7_code
def yX2_recall : MethodName := ⟨RX2, "recall", "(I)I"⟩
abbrev cX2_pass : ByteArray := prog_1_method_8_code
def yX2_pass : MethodName := ⟨RX2, "pass", "(I)I"⟩
abbrev cX2_day : ByteArray := prog_1_method_9_code
def yX2_day : MethodName := ⟨RX2, "day", "()I"⟩
abbrev cX2_batches : ByteArray := prog_1_method_10_code
def yX2_batches : MethodName := ⟨RX2, "batches", "()I"⟩
abbrev cX2_tins : ByteArray := prog_1_method_11_code
def yX2_tins : MethodName := ⟨RX2, "tins", "()I"⟩
abbrev cX2_inCellar : ByteArray := prog_1_method_12_code
def yX2_inCellar : MethodName := ⟨RX2, "inCellar", "()I"⟩
abbrev cX2_shipped : ByteArray := prog_1_method_13_code
def yX2_shipped : MethodName := ⟨RX2, "shipped", "()I"⟩
abbrev cX2_lost : ByteArray := prog_1_method_14_code
def yX2_lost : MethodName := ⟨RX2, "lost", "()I"⟩
abbrev cX2_swelled : ByteArray := prog_1_method_15_code
def yX2_swelled : MethodName := ⟨RX2, "swelled", "()I"⟩
abbrev cX2_standOn : ByteArray := prog_1_method_16_code
def yX2_standOn : MethodName := ⟨RX2, "standOn", "(I)I"⟩
abbrev cX2_warmOf : ByteArray := prog_1_method_17_code
def yX2_warmOf : MethodName := ⟨RX2, "warmOf", "(I)I"⟩
abbrev cX2_batchOf : ByteArray := prog_1_method_18_code
def yX2_batchOf : MethodName := ⟨RX2, "batchOf", "(I)I"⟩
abbrev cX2_shelfOf : ByteArray := prog_1_method_19_code
def yX2_shelfOf : MethodName := ⟨RX2, "shelfOf", "(I)I"⟩
abbrev cX2_vacuumOf : ByteArray := prog_1_method_20_code
def yX2_vacuumOf : MethodName := ⟨RX2, "vacuumOf", "(I)I"⟩
abbrev cX2_isShipped : ByteArray := prog_1_method_21_code
def yX2_isShipped : MethodName := ⟨RX2, "isShipped", "(I)Z"⟩
abbrev cX2_isLost : ByteArray := prog_1_method_22_code
def yX2_isLost : MethodName := ⟨RX2, "isLost", "(I)Z"⟩
abbrev cX2_swelledOf : ByteArray := prog_1_method_23_code
def yX2_swelledOf : MethodName := ⟨RX2, "swelledOf", "(I)I"⟩
abbrev cX2_leftOf : ByteArray := prog_1_method_24_code
def yX2_leftOf : MethodName := ⟨RX2, "leftOf", "(I)I"⟩
abbrev cX2_isRecalled : ByteArray := prog_1_method_25_code
def yX2_isRecalled : MethodName := ⟨RX2, "isRecalled", "(I)Z"⟩
abbrev cX2_first : ByteArray := prog_1_method_26_code
def yX2_first : MethodName := ⟨RX2, "first", "(I)I"⟩
abbrev cX2_placeBy : ByteArray := prog_1_method_27_code
def yX2_placeBy : MethodName := ⟨RX2, "placeBy", "(II)I"⟩
abbrev cX2_daysOf : ByteArray := prog_1_method_28_code
def yX2_daysOf : MethodName := ⟨RX2, "daysOf", "(I)I"⟩
abbrev cX2_daysUntilRecalled : ByteArray := prog_1_method_29_code
def yX2_daysUntilRecalled : MethodName := ⟨RX2, "daysUntilRecalled", "(I)I"⟩
abbrev cX2_lostWith : ByteArray := prog_1_method_30_code
def yX2_lostWith : MethodName := ⟨RX2, "lostWith", "(II)I"⟩
abbrev cX2_bestOrder : ByteArray := prog_1_method_31_code
def yX2_bestOrder : MethodName := ⟨RX2, "bestOrder", "()I"⟩
abbrev cX2_shippingWanted : ByteArray := prog_1_method_32_code
def yX2_shippingWanted : MethodName := ⟨RX2, "shippingWanted", "()I"⟩
abbrev cX2_bestShelf : ByteArray := prog_1_method_33_code
def yX2_bestShelf : MethodName := ⟨RX2, "bestShelf", "(I)I"⟩
abbrev cX2_meanVacuum : ByteArray := prog_1_method_34_code
def yX2_meanVacuum : MethodName := ⟨RX2, "meanVacuum", "()D"⟩
abbrev cX2_digest : ByteArray := prog_1_method_35_code
def yX2_digest : MethodName := ⟨RX2, "digest", "()J"⟩
abbrev cX2_mixShelves : ByteArray := prog_1_method_36_code
def yX2_mixShelves : MethodName := ⟨RX2, "mixShelves", "(J)J"⟩
abbrev cX2_mixBatches : ByteArray := prog_1_method_37_code
def yX2_mixBatches : MethodName := ⟨RX2, "mixBatches", "(J)J"⟩
abbrev cX2_mixTins : ByteArray := prog_1_method_38_code
def yX2_mixTins : MethodName := ⟨RX2, "mixTins", "(J)J"⟩
abbrev cX2_mix : ByteArray := prog_1_method_39_code
def yX2_mix : MethodName := ⟨RX2, "mix", "(JJ)J"⟩
abbrev cX2_lossBy : ByteArray := prog_1_method_40_code
def yX2_lossBy : MethodName := ⟨RX2, "lossBy", "(II)I"⟩
abbrev cX2_isLater : ByteArray := prog_1_method_41_code
def yX2_isLater : MethodName := ⟨RX2, "isLater", "(II)Z"⟩
abbrev cX2_isWithin : ByteArray := prog_1_method_42_code
def yX2_isWithin : MethodName := ⟨RX2, "isWithin", "(III)Z"⟩
abbrev cX2_needShelf : ByteArray := prog_1_method_43_code
def yX2_needShelf : MethodName := ⟨RX2, "needShelf", "(I)V"⟩
abbrev cX2_needBatch : ByteArray := prog_1_method_44_code
def yX2_needBatch : MethodName := ⟨RX2, "needBatch", "(I)V"⟩
abbrev cX2_needTin : ByteArray := prog_1_method_45_code
def yX2_needTin : MethodName := ⟨RX2, "needTin", "(I)V"⟩
abbrev cX2_needOrder : ByteArray := prog_1_method_46_code
def yX2_needOrder : MethodName := ⟨RX2, "needOrder", "(I)V"⟩
abbrev cX2_needShipping : ByteArray := prog_1_method_47_code
def yX2_needShipping : MethodName := ⟨RX2, "needShipping", "(II)V"⟩
def RX3 : String := "TinCellarModel"
def TX3 : u_T := fun k => match k with
  | 0 => ("TinCellarModel", "thrown", "I", false)
  | 1 => ("TinCellarModel", "batches", "I", false)
  | 2 => ("TinCellarModel", "tins", "I", false)
  | 3 => ("TinCellarModel", "many", "I", false)
  | 4 => ("TinCellarModel", "order", "I", false)
  | 5 => ("TinCellarModel", "vacuum", "[I", true)
  | 6 => ("TinCellarModel", "leaks", "[I", true)
  | 7 => ("TinCellarModel", "warm", "[I", true)
  | 8 => ("TinCellarModel", "batch", "[I", true)
  | 9 => ("TinCellarModel", "shelf", "[I", true)
  | 10 => ("TinCellarModel", "now", "[I", true)
  | _ => ("TinCellarModel", "kept", "[I", true)
def tyX3 : Nat → FieldType := fun k => match k with
  | 0 => .int
  | 1 => .int
  | 2 => .int
  | 3 => .int
  | 4 => .int
  | 5 => .array .int
  | 6 => .array .int
  | 7 => .array .int
  | 8 => .array .int
  | 9 => .array .int
  | 10 => .array .int
  | _ => .array .int
abbrev wsX30 : List Cond := u_ws RX3 TX3 12
theorem nmX3 : ∀ a, a < 12 → ∀ b, b < 12 → a ≠ b → (TX3 a).2.1 ≠ (TX3 b).2.1 := by decide +kernel
theorem tyX3_ok : ∀ k, k < 12 → parseFieldDescriptor (TX3 k).2.2.1 = some (tyX3 k) := by decide +kernel
abbrev cX3_init : ByteArray := prog_5_method_1_code
def yX3_init : MethodName := ⟨RX3, "<init>", "()V"⟩
abbrev cX3_thrown : ByteArray := prog_5_method_2_code
def yX3_thrown : MethodName := ⟨RX3, "thrown", "()I"⟩
abbrev cX3_no : ByteArray := prog_5_method_3_code
def yX3_no : MethodName := ⟨RX3, "no", "(I)I"⟩
abbrev cX3_isNot : ByteArray := prog_5_method_4_code
def yX3_isNot : MethodName := ⟨RX3, "isNot", "(I)Z"⟩
abbrev cX3_ok : ByteArray := prog_5_method_5_code
def yX3_ok : MethodName := ⟨RX3, "ok", "(I)I"⟩
abbrev cX3_isIn : ByteArray := prog_5_method_6_code
def yX3_isIn : MethodName := ⟨RX3, "isIn", "(III)Z"⟩
abbrev cX3_isShelf : ByteArray := prog_5_method_7_code
def yX3_isShelf : MethodName := ⟨RX3, "isShelf", "(I)Z"⟩
abbrev cX3_isOrder : ByteArray := prog_5_method_8_code
def yX3_isOrder : MethodName := ⟨RX3, "isOrder", "(I)Z"⟩
abbrev cX3_isBatch : ByteArray := prog_5_method_9_code
def yX3_isBatch : MethodName := ⟨RX3, "isBatch", "(I)Z"⟩
abbrev cX3_isTin : ByteArray := prog_5_method_10_code
def yX3_isTin : MethodName := ⟨RX3, "isTin", "(I)Z"⟩
abbrev cX3_keep : ByteArray := prog_5_method_11_code
def yX3_keep : MethodName := ⟨RX3, "keep", "()V"⟩
abbrev cX3_bringBack : ByteArray := prog_5_method_12_code
def yX3_bringBack : MethodName := ⟨RX3, "bringBack", "()V"⟩
abbrev cX3_isHere : ByteArray := prog_5_method_13_code
def yX3_isHere : MethodName := ⟨RX3, "isHere", "(I)Z"⟩
abbrev cX3_rate : ByteArray := prog_5_method_14_code
def yX3_rate : MethodName := ⟨RX3, "rate", "(II)I"⟩
abbrev cX3_key : ByteArray := prog_5_method_15_code
def yX3_key : MethodName := ⟨RX3, "key", "(II)I"⟩
abbrev cX3_firstBy : ByteArray := prog_5_method_16_code
def yX3_firstBy : MethodName := ⟨RX3, "firstBy", "(I)I"⟩
abbrev cX3_leak : ByteArray := prog_5_method_17_code
def yX3_leak : MethodName := ⟨RX3, "leak", "(I)V"⟩
abbrev cX3_takeBack : ByteArray := prog_5_method_18_code
def yX3_takeBack : MethodName := ⟨RX3, "takeBack", "(I)I"⟩
abbrev cX3_dayOn : ByteArray := prog_5_method_19_code
def yX3_dayOn : MethodName := ⟨RX3, "dayOn", "()V"⟩
abbrev cX3_daysOn : ByteArray := prog_5_method_20_code
def yX3_daysOn : MethodName := ⟨RX3, "daysOn", "(I)V"⟩
abbrev cX3_count : ByteArray := prog_5_method_21_code
def yX3_count : MethodName := ⟨RX3, "count", "(I)I"⟩
abbrev cX3_addBatch : ByteArray := prog_5_method_22_code
def yX3_addBatch : MethodName := ⟨RX3, "addBatch", "(II)I"⟩
abbrev cX3_seal : ByteArray := prog_5_method_23_code
def yX3_seal : MethodName := ⟨RX3, "seal", "(III)I"⟩
abbrev cX3_move : ByteArray := prog_5_method_24_code
def yX3_move : MethodName := ⟨RX3, "move", "(II)I"⟩
abbrev cX3_setWarm : ByteArray := prog_5_method_25_code
def yX3_setWarm : MethodName := ⟨RX3, "setWarm", "(II)I"⟩
abbrev cX3_setShipping : ByteArray := prog_5_method_26_code
def yX3_setShipping : MethodName := ⟨RX3, "setShipping", "(II)I"⟩
abbrev cX3_recall : ByteArray := prog_5_method_27_code
def yX3_recall : MethodName := ⟨RX3, "recall", "(I)I"⟩
abbrev cX3_pass : ByteArray := prog_5_method_28_code
def yX3_pass : MethodName := ⟨RX3, "pass", "(I)I"⟩
abbrev cX3_day : ByteArray := prog_5_method_29_code
def yX3_day : MethodName := ⟨RX3, "day", "()I"⟩
abbrev cX3_batches : ByteArray := prog_5_method_30_code
def yX3_batches : MethodName := ⟨RX3, "batches", "()I"⟩
abbrev cX3_tins : ByteArray := prog_5_method_31_code
def yX3_tins : MethodName := ⟨RX3, "tins", "()I"⟩
abbrev cX3_inCellar : ByteArray := prog_5_method_32_code
def yX3_inCellar : MethodName := ⟨RX3, "inCellar", "()I"⟩
abbrev cX3_shipped : ByteArray := prog_5_method_33_code
def yX3_shipped : MethodName := ⟨RX3, "shipped", "()I"⟩
abbrev cX3_lost : ByteArray := prog_5_method_34_code
def yX3_lost : MethodName := ⟨RX3, "lost", "()I"⟩
abbrev cX3_allSwelled : ByteArray := prog_5_method_35_code
def yX3_allSwelled : MethodName := ⟨RX3, "allSwelled", "()I"⟩
abbrev cX3_swelled : ByteArray := prog_5_method_36_code
def yX3_swelled : MethodName := ⟨RX3, "swelled", "()I"⟩
abbrev cX3_on : ByteArray := prog_5_method_37_code
def yX3_on : MethodName := ⟨RX3, "on", "(I)I"⟩
abbrev cX3_standOn : ByteArray := prog_5_method_38_code
def yX3_standOn : MethodName := ⟨RX3, "standOn", "(I)I"⟩
abbrev cX3_warmOf : ByteArray := prog_5_method_39_code
def yX3_warmOf : MethodName := ⟨RX3, "warmOf", "(I)I"⟩
abbrev cX3_batchOf : ByteArray := prog_5_method_40_code
def yX3_batchOf : MethodName := ⟨RX3, "batchOf", "(I)I"⟩
abbrev cX3_place : ByteArray := prog_5_method_41_code
def yX3_place : MethodName := ⟨RX3, "place", "(I)I"⟩
abbrev cX3_shelfOf : ByteArray := prog_5_method_42_code
def yX3_shelfOf : MethodName := ⟨RX3, "shelfOf", "(I)I"⟩
abbrev cX3_vacuumOf : ByteArray := prog_5_method_43_code
def yX3_vacuumOf : MethodName := ⟨RX3, "vacuumOf", "(I)I"⟩
abbrev cX3_is : ByteArray := prog_5_method_44_code
def yX3_is : MethodName := ⟨RX3, "is", "(II)Z"⟩
abbrev cX3_isShipped : ByteArray := prog_5_method_45_code
def yX3_isShipped : MethodName := ⟨RX3, "isShipped", "(I)Z"⟩
abbrev cX3_isLost : ByteArray := prog_5_method_46_code
def yX3_isLost : MethodName := ⟨RX3, "isLost", "(I)Z"⟩
abbrev cX3_swelledOf : ByteArray := prog_5_method_47_code
def yX3_swelledOf : MethodName := ⟨RX3, "swelledOf", "(I)I"⟩
abbrev cX3_left : ByteArray := prog_5_method_48_code
def yX3_left : MethodName := ⟨RX3, "left", "(I)I"⟩
abbrev cX3_leftOf : ByteArray := prog_5_method_49_code
def yX3_leftOf : MethodName := ⟨RX3, "leftOf", "(I)I"⟩
abbrev cX3_isRecalled : ByteArray := prog_5_method_50_code
def yX3_isRecalled : MethodName := ⟨RX3, "isRecalled", "(I)Z"⟩
abbrev cX3_first : ByteArray := prog_5_method_51_code
def yX3_first : MethodName := ⟨RX3, "first", "(I)I"⟩
abbrev cX3_ahead : ByteArray := prog_5_method_52_code
def yX3_ahead : MethodName := ⟨RX3, "ahead", "(II)I"⟩
abbrev cX3_placeBy : ByteArray := prog_5_method_53_code
def yX3_placeBy : MethodName := ⟨RX3, "placeBy", "(II)I"⟩
abbrev cX3_until : ByteArray := prog_5_method_54_code
def yX3_until : MethodName := ⟨RX3, "until", "(II)I"⟩
abbrev cX3_daysOf : ByteArray := prog_5_method_55_code
def yX3_daysOf : MethodName := ⟨RX3, "daysOf", "(I)I"⟩
abbrev cX3_untilRecalled : ByteArray := prog_5_method_56_code
def yX3_untilRecalled : MethodName := ⟨RX3, "untilRecalled", "(I)I"⟩
abbrev cX3_daysUntilRecalled : ByteArray := prog_5_method_57_code
def yX3_daysUntilRecalled : MethodName := ⟨RX3, "daysUntilRecalled", "(I)I"⟩
abbrev cX3_lostBehind : ByteArray := prog_5_method_58_code
def yX3_lostBehind : MethodName := ⟨RX3, "lostBehind", "(II)I"⟩
abbrev cX3_lostWith : ByteArray := prog_5_method_59_code
def yX3_lostWith : MethodName := ⟨RX3, "lostWith", "(II)I"⟩
abbrev cX3_best : ByteArray := prog_5_method_60_code
def yX3_best : MethodName := ⟨RX3, "best", "()I"⟩
abbrev cX3_bestOrder : ByteArray := prog_5_method_61_code
def yX3_bestOrder : MethodName := ⟨RX3, "bestOrder", "()I"⟩
abbrev cX3_wanted : ByteArray := prog_5_method_62_code
def yX3_wanted : MethodName := ⟨RX3, "wanted", "()I"⟩
abbrev cX3_shippingWanted : ByteArray := prog_5_method_63_code
def yX3_shippingWanted : MethodName := ⟨RX3, "shippingWanted", "()I"⟩
abbrev cX3_shelfFor : ByteArray := prog_5_method_64_code
def yX3_shelfFor : MethodName := ⟨RX3, "shelfFor", "(I)I"⟩
abbrev cX3_bestShelf : ByteArray := prog_5_method_65_code
def yX3_bestShelf : MethodName := ⟨RX3, "bestShelf", "(I)I"⟩
abbrev cX3_meanVacuum : ByteArray := prog_5_method_66_code
def yX3_meanVacuum : MethodName := ⟨RX3, "meanVacuum", "()D"⟩
abbrev cX3_digest : ByteArray := prog_5_method_67_code
def yX3_digest : MethodName := ⟨RX3, "digest", "()J"⟩
def RJ9 : String := "java/lang/Math"
def TJ9 : u_T := fun k => match k with
  | _ => ("", "", "", false)
def tyJ9 : Nat → FieldType := fun k => match k with
  | _ => .int
abbrev wsJ90 : List Cond := u_ws RJ9 TJ9 0
theorem nmJ9 : ∀ a, a < 0 → ∀ b, b < 0 → a ≠ b → (TJ9 a).2.1 ≠ (TJ9 b).2.1 := by decide +kernel
theorem tyJ9_ok : ∀ k, k < 0 → parseFieldDescriptor (TJ9 k).2.2.1 = some (tyJ9 k) := by decide +kernel
abbrev cJ9_max_7cf53 : ByteArray := prog_10_method_65_code
def yJ9_max_7cf53 : MethodName := ⟨RJ9, "max", "(II)I"⟩
def RJ0 : String := "java/lang/String"
def TJ0 : u_T := fun k => match k with
  | _ => ("", "", "", false)
def tyJ0 : Nat → FieldType := fun k => match k with
  | _ => .int
abbrev wsJ00 : List Cond := u_ws RJ0 TJ0 0
theorem nmJ0 : ∀ a, a < 0 → ∀ b, b < 0 → a ≠ b → (TJ0 a).2.1 ≠ (TJ0 b).2.1 := by decide +kernel
theorem tyJ0_ok : ∀ k, k < 0 → parseFieldDescriptor (TJ0 k).2.2.1 = some (tyJ0 k) := by decide +kernel
def RJ10 : String := "java/lang/System"
def TJ10 : u_T := fun k => match k with
  | _ => ("", "", "", false)
def tyJ10 : Nat → FieldType := fun k => match k with
  | _ => .int
abbrev wsJ100 : List Cond := u_ws RJ10 TJ10 0
theorem nmJ10 : ∀ a, a < 0 → ∀ b, b < 0 → a ≠ b → (TJ10 a).2.1 ≠ (TJ10 b).2.1 := by decide +kernel
theorem tyJ10_ok : ∀ k, k < 0 → parseFieldDescriptor (TJ10 k).2.2.1 = some (tyJ10 k) := by decide +kernel
def RL : String := "TinCellarLaw"
abbrev cL_addBatch : ByteArray := method_3_code
def yL_addBatch : MethodName := ⟨RL, "addBatch", "(LTinCellar;II[J)I"⟩
abbrev cL_seal : ByteArray := method_4_code
def yL_seal : MethodName := ⟨RL, "seal", "(LTinCellar;III[J)I"⟩
abbrev cL_move : ByteArray := method_5_code
def yL_move : MethodName := ⟨RL, "move", "(LTinCellar;II[J)I"⟩
abbrev cL_setWarm : ByteArray := method_6_code
def yL_setWarm : MethodName := ⟨RL, "setWarm", "(LTinCellar;II[J)I"⟩
abbrev cL_setShipping : ByteArray := method_7_code
def yL_setShipping : MethodName := ⟨RL, "setShipping", "(LTinCellar;II[J)I"⟩
abbrev cL_recall : ByteArray := method_8_code
def yL_recall : MethodName := ⟨RL, "recall", "(LTinCellar;I[J)I"⟩
abbrev cL_pass : ByteArray := method_9_code
def yL_pass : MethodName := ⟨RL, "pass", "(LTinCellar;I[J)I"⟩
abbrev cL_standOn : ByteArray := method_10_code
def yL_standOn : MethodName := ⟨RL, "standOn", "(LTinCellar;I[J)I"⟩
abbrev cL_warmOf : ByteArray := method_11_code
def yL_warmOf : MethodName := ⟨RL, "warmOf", "(LTinCellar;I[J)I"⟩
abbrev cL_batchOf : ByteArray := method_12_code
def yL_batchOf : MethodName := ⟨RL, "batchOf", "(LTinCellar;I[J)I"⟩
abbrev cL_shelfOf : ByteArray := method_13_code
def yL_shelfOf : MethodName := ⟨RL, "shelfOf", "(LTinCellar;I[J)I"⟩
abbrev cL_vacuumOf : ByteArray := method_14_code
def yL_vacuumOf : MethodName := ⟨RL, "vacuumOf", "(LTinCellar;I[J)I"⟩
abbrev cL_isShipped : ByteArray := method_15_code
def yL_isShipped : MethodName := ⟨RL, "isShipped", "(LTinCellar;I[J)I"⟩
abbrev cL_isLost : ByteArray := method_16_code
def yL_isLost : MethodName := ⟨RL, "isLost", "(LTinCellar;I[J)I"⟩
abbrev cL_swelledOf : ByteArray := method_17_code
def yL_swelledOf : MethodName := ⟨RL, "swelledOf", "(LTinCellar;I[J)I"⟩
abbrev cL_leftOf : ByteArray := method_18_code
def yL_leftOf : MethodName := ⟨RL, "leftOf", "(LTinCellar;I[J)I"⟩
abbrev cL_isRecalled : ByteArray := method_19_code
def yL_isRecalled : MethodName := ⟨RL, "isRecalled", "(LTinCellar;I[J)I"⟩
abbrev cL_first : ByteArray := method_20_code
def yL_first : MethodName := ⟨RL, "first", "(LTinCellar;I[J)I"⟩
abbrev cL_placeBy : ByteArray := method_21_code
def yL_placeBy : MethodName := ⟨RL, "placeBy", "(LTinCellar;II[J)I"⟩
abbrev cL_daysOf : ByteArray := method_22_code
def yL_daysOf : MethodName := ⟨RL, "daysOf", "(LTinCellar;I[J)I"⟩
abbrev cL_daysUntilRecalled : ByteArray := method_23_code
def yL_daysUntilRecalled : MethodName := ⟨RL, "daysUntilRecalled", "(LTinCellar;I[J)I"⟩
abbrev cL_lostWith : ByteArray := method_24_code
def yL_lostWith : MethodName := ⟨RL, "lostWith", "(LTinCellar;II[J)I"⟩
abbrev cL_bestShelf : ByteArray := method_25_code
def yL_bestShelf : MethodName := ⟨RL, "bestShelf", "(LTinCellar;I[J)I"⟩
abbrev cL_law : ByteArray := code
def yL_law : MethodName := ⟨RL, "law", "([I)Z"⟩
def wsX0_init : List Cond := .code yX0_init cX0_init 2 none :: ([.methodLink RX0 1 objectInit, .instanceMethod objectInit, .code objectInit ⟨#[0xb1]⟩ 1 none, .methodLink RX0 7 Lib.Math.max.name, .static Lib.Math.max.name, .initialized "java/lang/Math", .code Lib.Math.max.name Lib.Math.max.code 2 (some .int), .arrayClass .int, .fieldLink RX0 13 "TinCellar$Row" "cells" "[I"] ++ wsX00)
def wsX0_get : List Cond := .code yX0_get cX0_get 2 (some .int) :: ([.fieldLink RX0 13 "TinCellar$Row" "cells" "[I"] ++ wsX00)
def wsX0_set : List Cond := .code yX0_set cX0_set 3 none :: ([.fieldLink RX0 13 "TinCellar$Row" "cells" "[I"] ++ wsX00)
def wsX0_copyFrom : List Cond := .code yX0_copyFrom cX0_copyFrom 3 none :: ([.fieldLink RX0 13 "TinCellar$Row" "cells" "[I", .methodLink RX0 19 yX0_get, .instanceMethod yX0_get, .selects RX0 yX0_get yX0_get, .initialized RX0, .code yX0_get cX0_get 2 (some .int)] ++ wsX00)
def wsX1_init_r1 : List Cond := [Cond.methodLink RX1 3 objectInit, Cond.instanceMethod objectInit, Cond.code objectInit ⟨#[0xb1]⟩ 1 none, Cond.classLink RX1 9 RX0, Cond.instantiable RX0 1, Cond.initialized RX0, Cond.fieldLink RX1 14 "TinCellar$Stock" "warm" "LTinCellar$Row;", Cond.fieldLink RX1 20 "TinCellar$Stock" "vacuumAtFirst" "LTinCellar$Row;", Cond.fieldLink RX1 23 "TinCellar$Stock" "leaks" "LTinCellar$Row;", Cond.fieldLink RX1 26 "TinCellar$Stock" "swelledLids" "LTinCellar$Row;", Cond.fieldLink RX1 29 "TinCellar$Stock" "recalled" "LTinCellar$Row;", Cond.fieldLink RX1 32 "TinCellar$Stock" "batch" "LTinCellar$Row;", Cond.fieldLink RX1 35 "TinCellar$Stock" "shelf" "LTinCellar$Row;", Cond.fieldLink RX1 38 "TinCellar$Stock" "vacuum" "LTinCellar$Row;", Cond.fieldLink RX1 41 "TinCellar$Stock" "place" "LTinCellar$Row;", Cond.fieldLink RX1 44 "TinCellar$Stock" "order" "I", Cond.methodLink RX1 11 yX0_init, Cond.instanceMethod yX0_init, Cond.code yX0_init cX0_init 2 none, Cond.methodLink RX0 1 objectInit, Cond.methodLink RX0 7 Lib.Math.max.name, Cond.static Lib.Math.max.name, Cond.initialized "java/lang/Math", Cond.code Lib.Math.max.name Lib.Math.max.code 2 (some .int)]
def wsX1_init_r2 : List Cond := [Cond.arrayClass .int, Cond.fieldLink RX0 13 "TinCellar$Row" "cells" "[I"]
def wsX1_init : List Cond := .code yX1_init cX1_init 1 none :: ((wsX1_init_r1 ++ wsX1_init_r2) ++ wsX00 ++ wsX10)
def wsX1_copyFrom : List Cond := .code yX1_copyFrom cX1_copyFrom 2 none :: ([.fieldLink RX1 14 "TinCellar$Stock" "warm" "LTinCellar$Row;", .fieldLink RX1 20 "TinCellar$Stock" "vacuumAtFirst" "LTinCellar$Row;", .fieldLink RX1 23 "TinCellar$Stock" "leaks" "LTinCellar$Row;", .fieldLink RX1 26 "TinCellar$Stock" "swelledLids" "LTinCellar$Row;", .fieldLink RX1 29 "TinCellar$Stock" "recalled" "LTinCellar$Row;", .fieldLink RX1 52 "TinCellar$Stock" "batchCount" "I", .fieldLink RX1 32 "TinCellar$Stock" "batch" "LTinCellar$Row;", .fieldLink RX1 35 "TinCellar$Stock" "shelf" "LTinCellar$Row;", .fieldLink RX1 38 "TinCellar$Stock" "vacuum" "LTinCellar$Row;", .fieldLink RX1 41 "TinCellar$Stock" "place" "LTinCellar$Row;", .fieldLink RX1 55 "TinCellar$Stock" "tinCount" "I", .fieldLink RX1 58 "TinCellar$Stock" "shippedADay" "I", .fieldLink RX1 44 "TinCellar$Stock" "order" "I", .fieldLink RX1 61 "TinCellar$Stock" "day" "I", .methodLink RX1 48 yX0_copyFrom, .instanceMethod yX0_copyFrom, .selects RX0 yX0_copyFrom yX0_copyFrom, .initialized RX0, .code yX0_copyFrom cX0_copyFrom 3 none, .fieldLink RX0 13 "TinCellar$Row" "cells" "[I", .methodLink RX0 19 yX0_get, .instanceMethod yX0_get, .selects RX0 yX0_get yX0_get, .code yX0_get cX0_get 2 (some .int)] ++ wsX10 ++ wsX00)
def wsX1_takeBatch : List Cond := .code yX1_takeBatch cX1_takeBatch 4 (some .int) :: ([.fieldLink RX1 52 "TinCellar$Stock" "batchCount" "I", .fieldLink RX1 20 "TinCellar$Stock" "vacuumAtFirst" "LTinCellar$Row;", .fieldLink RX1 23 "TinCellar$Stock" "leaks" "LTinCellar$Row;", .methodLink RX1 64 yX0_set, .instanceMethod yX0_set, .selects RX0 yX0_set yX0_set, .initialized RX0, .code yX0_set cX0_set 3 none, .fieldLink RX0 13 "TinCellar$Row" "cells" "[I"] ++ wsX10 ++ wsX00)
def wsX1_takeTins : List Cond := .code yX1_takeTins cX1_takeTins 6 (some .int) :: ([.fieldLink RX1 55 "TinCellar$Stock" "tinCount" "I", .fieldLink RX1 32 "TinCellar$Stock" "batch" "LTinCellar$Row;", .fieldLink RX1 35 "TinCellar$Stock" "shelf" "LTinCellar$Row;", .fieldLink RX1 38 "TinCellar$Stock" "vacuum" "LTinCellar$Row;", .fieldLink RX1 20 "TinCellar$Stock" "vacuumAtFirst" "LTinCellar$Row;", .fieldLink RX1 41 "TinCellar$Stock" "place" "LTinCellar$Row;", .methodLink RX1 64 yX0_set, .instanceMethod yX0_set, .selects RX0 yX0_set yX0_set, .initialized RX0, .code yX0_set cX0_set 3 none, .fieldLink RX0 13 "TinCellar$Row" "cells" "[I", .methodLink RX1 68 yX0_get, .instanceMethod yX0_get, .selects RX0 yX0_get yX0_get, .code yX0_get cX0_get 2 (some .int)] ++ wsX10 ++ wsX00)
def wsX1_holds : List Cond := .code yX1_holds cX1_holds 2 (some .boolean) :: ([.fieldLink RX1 41 "TinCellar$Stock" "place" "LTinCellar$Row;", .methodLink RX1 68 yX0_get, .instanceMethod yX0_get, .selects RX0 yX0_get yX0_get, .initialized RX0, .code yX0_get cX0_get 2 (some .int), .fieldLink RX0 13 "TinCellar$Row" "cells" "[I"] ++ wsX10 ++ wsX00)
def wsX1_isBatchRecalled : List Cond := .code yX1_isBatchRecalled cX1_isBatchRecalled 2 (some .boolean) :: ([.fieldLink RX1 29 "TinCellar$Stock" "recalled" "LTinCellar$Row;", .methodLink RX1 68 yX0_get, .instanceMethod yX0_get, .selects RX0 yX0_get yX0_get, .initialized RX0, .code yX0_get cX0_get 2 (some .int), .fieldLink RX0 13 "TinCellar$Row" "cells" "[I"] ++ wsX10 ++ wsX00)
def wsX1_wearOn : List Cond := .code yX1_wearOn cX1_wearOn 3 (some .int) :: ([.fieldLink RX1 23 "TinCellar$Stock" "leaks" "LTinCellar$Row;", .fieldLink RX1 32 "TinCellar$Stock" "batch" "LTinCellar$Row;", .fieldLink RX1 14 "TinCellar$Stock" "warm" "LTinCellar$Row;", .methodLink RX1 68 yX0_get, .instanceMethod yX0_get, .selects RX0 yX0_get yX0_get, .initialized RX0, .code yX0_get cX0_get 2 (some .int), .fieldLink RX0 13 "TinCellar$Row" "cells" "[I"] ++ wsX10 ++ wsX00)
def wsX1_swellLid : List Cond := .code yX1_swellLid cX1_swellLid 3 none :: ([.fieldLink RX1 32 "TinCellar$Stock" "batch" "LTinCellar$Row;", .fieldLink RX1 26 "TinCellar$Stock" "swelledLids" "LTinCellar$Row;", .fieldLink RX1 41 "TinCellar$Stock" "place" "LTinCellar$Row;", .methodLink RX1 68 yX0_get, .instanceMethod yX0_get, .selects RX0 yX0_get yX0_get, .initialized RX0, .code yX0_get cX0_get 2 (some .int), .fieldLink RX0 13 "TinCellar$Row" "cells" "[I", .methodLink RX1 64 yX0_set, .instanceMethod yX0_set, .selects RX0 yX0_set yX0_set, .code yX0_set cX0_set 3 none] ++ wsX10 ++ wsX00)
def wsX1_wearTins_r1 : List Cond := [Cond.fieldLink RX1 55 "TinCellar$Stock" "tinCount" "I", Cond.fieldLink RX1 38 "TinCellar$Stock" "vacuum" "LTinCellar$Row;", Cond.fieldLink RX1 35 "TinCellar$Stock" "shelf" "LTinCellar$Row;", Cond.methodLink RX1 92 Lib.Math.max.name, Cond.static Lib.Math.max.name, Cond.initialized "java/lang/Math", Cond.code Lib.Math.max.name Lib.Math.max.code 2 (some .int), Cond.methodLink RX1 84 yX1_holds, Cond.instanceMethod yX1_holds, Cond.selects RX1 yX1_holds yX1_holds, Cond.initialized RX1, Cond.code yX1_holds cX1_holds 2 (some .boolean), Cond.fieldLink RX1 41 "TinCellar$Stock" "place" "LTinCellar$Row;", Cond.methodLink RX1 68 yX0_get, Cond.instanceMethod yX0_get, Cond.selects RX0 yX0_get yX0_get, Cond.initialized RX0, Cond.code yX0_get cX0_get 2 (some .int), Cond.fieldLink RX0 13 "TinCellar$Row" "cells" "[I", Cond.methodLink RX1 88 yX1_wearOn, Cond.instanceMethod yX1_wearOn, Cond.selects RX1 yX1_wearOn yX1_wearOn, Cond.code yX1_wearOn cX1_wearOn 3 (some .int), Cond.fieldLink RX1 23 "TinCellar$Stock" "leaks" "LTinCellar$Row;"]
def wsX1_wearTins_r2 : List Cond := [Cond.fieldLink RX1 32 "TinCellar$Stock" "batch" "LTinCellar$Row;", Cond.fieldLink RX1 14 "TinCellar$Stock" "warm" "LTinCellar$Row;", Cond.methodLink RX1 64 yX0_set, Cond.instanceMethod yX0_set, Cond.selects RX0 yX0_set yX0_set, Cond.code yX0_set cX0_set 3 none, Cond.methodLink RX1 97 yX1_swellLid, Cond.instanceMethod yX1_swellLid, Cond.selects RX1 yX1_swellLid yX1_swellLid, Cond.code yX1_swellLid cX1_swellLid 3 none, Cond.fieldLink RX1 26 "TinCellar$Stock" "swelledLids" "LTinCellar$Row;"]
def wsX1_wearTins : List Cond := .code yX1_wearTins cX1_wearTins 2 none :: ((wsX1_wearTins_r1 ++ wsX1_wearTins_r2) ++ wsX10 ++ wsX00)
def wsX1_recallBatch : List Cond := .code yX1_recallBatch cX1_recallBatch 4 (some .int) :: ([.fieldLink RX1 29 "TinCellar$Stock" "recalled" "LTinCellar$Row;", .fieldLink RX1 55 "TinCellar$Stock" "tinCount" "I", .fieldLink RX1 41 "TinCellar$Stock" "place" "LTinCellar$Row;", .fieldLink RX1 32 "TinCellar$Stock" "batch" "LTinCellar$Row;", .methodLink RX1 64 yX0_set, .instanceMethod yX0_set, .selects RX0 yX0_set yX0_set, .initialized RX0, .code yX0_set cX0_set 3 none, .fieldLink RX0 13 "TinCellar$Row" "cells" "[I", .methodLink RX1 68 yX0_get, .instanceMethod yX0_get, .selects RX0 yX0_get yX0_get, .code yX0_get cX0_get 2 (some .int)] ++ wsX10 ++ wsX00)
def wsX1_recallSwelled_r1 : List Cond := [Cond.fieldLink RX1 52 "TinCellar$Stock" "batchCount" "I", Cond.fieldLink RX1 26 "TinCellar$Stock" "swelledLids" "LTinCellar$Row;", Cond.methodLink RX1 100 yX1_isBatchRecalled, Cond.instanceMethod yX1_isBatchRecalled, Cond.selects RX1 yX1_isBatchRecalled yX1_isBatchRecalled, Cond.initialized RX1, Cond.code yX1_isBatchRecalled cX1_isBatchRecalled 2 (some .boolean), Cond.fieldLink RX1 29 "TinCellar$Stock" "recalled" "LTinCellar$Row;", Cond.methodLink RX1 68 yX0_get, Cond.instanceMethod yX0_get, Cond.selects RX0 yX0_get yX0_get, Cond.initialized RX0, Cond.code yX0_get cX0_get 2 (some .int), Cond.fieldLink RX0 13 "TinCellar$Row" "cells" "[I", Cond.methodLink RX1 103 yX1_recallBatch, Cond.instanceMethod yX1_recallBatch, Cond.selects RX1 yX1_recallBatch yX1_recallBatch, Cond.code yX1_recallBatch cX1_recallBatch 4 (some .int), Cond.fieldLink RX1 55 "TinCellar$Stock" "tinCount" "I", Cond.fieldLink RX1 41 "TinCellar$Stock" "place" "LTinCellar$Row;", Cond.fieldLink RX1 32 "TinCellar$Stock" "batch" "LTinCellar$Row;", Cond.methodLink RX1 64 yX0_set, Cond.instanceMethod yX0_set, Cond.selects RX0 yX0_set yX0_set]
def wsX1_recallSwelled_r2 : List Cond := [Cond.code yX0_set cX0_set 3 none]
def wsX1_recallSwelled : List Cond := .code yX1_recallSwelled cX1_recallSwelled 2 none :: ((wsX1_recallSwelled_r1 ++ wsX1_recallSwelled_r2) ++ wsX10 ++ wsX00)
def wsX1_rankBy : List Cond := .code yX1_rankBy cX1_rankBy 3 (some .int) :: ([.fieldLink RX1 38 "TinCellar$Stock" "vacuum" "LTinCellar$Row;", .fieldLink RX1 14 "TinCellar$Stock" "warm" "LTinCellar$Row;", .fieldLink RX1 35 "TinCellar$Stock" "shelf" "LTinCellar$Row;", .methodLink RX1 68 yX0_get, .instanceMethod yX0_get, .selects RX0 yX0_get yX0_get, .initialized RX0, .code yX0_get cX0_get 2 (some .int), .fieldLink RX0 13 "TinCellar$Row" "cells" "[I"] ++ wsX10 ++ wsX00)
def wsX1_firstBy : List Cond := .code yX1_firstBy cX1_firstBy 6 (some .int) :: ([.fieldLink RX1 55 "TinCellar$Stock" "tinCount" "I", .methodLink RX1 84 yX1_holds, .instanceMethod yX1_holds, .selects RX1 yX1_holds yX1_holds, .initialized RX1, .code yX1_holds cX1_holds 2 (some .boolean), .fieldLink RX1 41 "TinCellar$Stock" "place" "LTinCellar$Row;", .methodLink RX1 68 yX0_get, .instanceMethod yX0_get, .selects RX0 yX0_get yX0_get, .initialized RX0, .code yX0_get cX0_get 2 (some .int), .fieldLink RX0 13 "TinCellar$Row" "cells" "[I", .methodLink RX1 106 yX1_rankBy, .instanceMethod yX1_rankBy, .selects RX1 yX1_rankBy yX1_rankBy, .code yX1_rankBy cX1_rankBy 3 (some .int), .fieldLink RX1 38 "TinCellar$Stock" "vacuum" "LTinCellar$Row;", .fieldLink RX1 14 "TinCellar$Stock" "warm" "LTinCellar$Row;", .fieldLink RX1 35 "TinCellar$Stock" "shelf" "LTinCellar$Row;"] ++ wsX10 ++ wsX00)
def wsX1_ship : List Cond := .code yX1_ship cX1_ship 2 none :: ([.fieldLink RX1 41 "TinCellar$Stock" "place" "LTinCellar$Row;", .methodLink RX1 64 yX0_set, .instanceMethod yX0_set, .selects RX0 yX0_set yX0_set, .initialized RX0, .code yX0_set cX0_set 3 none, .fieldLink RX0 13 "TinCellar$Row" "cells" "[I"] ++ wsX10 ++ wsX00)
def wsX1_passDay_r1 : List Cond := [Cond.fieldLink RX1 58 "TinCellar$Stock" "shippedADay" "I", Cond.fieldLink RX1 44 "TinCellar$Stock" "order" "I", Cond.fieldLink RX1 61 "TinCellar$Stock" "day" "I", Cond.methodLink RX1 72 yX1_wearTins, Cond.instanceMethod yX1_wearTins, Cond.selects RX1 yX1_wearTins yX1_wearTins, Cond.initialized RX1, Cond.code yX1_wearTins cX1_wearTins 2 none, Cond.fieldLink RX1 55 "TinCellar$Stock" "tinCount" "I", Cond.fieldLink RX1 38 "TinCellar$Stock" "vacuum" "LTinCellar$Row;", Cond.fieldLink RX1 35 "TinCellar$Stock" "shelf" "LTinCellar$Row;", Cond.methodLink RX1 92 Lib.Math.max.name, Cond.static Lib.Math.max.name, Cond.initialized "java/lang/Math", Cond.code Lib.Math.max.name Lib.Math.max.code 2 (some .int), Cond.methodLink RX1 84 yX1_holds, Cond.instanceMethod yX1_holds, Cond.selects RX1 yX1_holds yX1_holds, Cond.code yX1_holds cX1_holds 2 (some .boolean), Cond.fieldLink RX1 41 "TinCellar$Stock" "place" "LTinCellar$Row;", Cond.methodLink RX1 68 yX0_get, Cond.instanceMethod yX0_get, Cond.selects RX0 yX0_get yX0_get, Cond.initialized RX0]
def wsX1_passDay_r2 : List Cond := [Cond.code yX0_get cX0_get 2 (some .int), Cond.fieldLink RX0 13 "TinCellar$Row" "cells" "[I", Cond.methodLink RX1 88 yX1_wearOn, Cond.instanceMethod yX1_wearOn, Cond.selects RX1 yX1_wearOn yX1_wearOn, Cond.code yX1_wearOn cX1_wearOn 3 (some .int), Cond.fieldLink RX1 23 "TinCellar$Stock" "leaks" "LTinCellar$Row;", Cond.fieldLink RX1 32 "TinCellar$Stock" "batch" "LTinCellar$Row;", Cond.fieldLink RX1 14 "TinCellar$Stock" "warm" "LTinCellar$Row;", Cond.methodLink RX1 64 yX0_set, Cond.instanceMethod yX0_set, Cond.selects RX0 yX0_set yX0_set, Cond.code yX0_set cX0_set 3 none, Cond.methodLink RX1 97 yX1_swellLid, Cond.instanceMethod yX1_swellLid, Cond.selects RX1 yX1_swellLid yX1_swellLid, Cond.code yX1_swellLid cX1_swellLid 3 none, Cond.fieldLink RX1 26 "TinCellar$Stock" "swelledLids" "LTinCellar$Row;", Cond.methodLink RX1 75 yX1_recallSwelled, Cond.instanceMethod yX1_recallSwelled, Cond.selects RX1 yX1_recallSwelled yX1_recallSwelled, Cond.code yX1_recallSwelled cX1_recallSwelled 2 none, Cond.fieldLink RX1 52 "TinCellar$Stock" "batchCount" "I", Cond.methodLink RX1 100 yX1_isBatchRecalled]
def wsX1_passDay_r3 : List Cond := [Cond.instanceMethod yX1_isBatchRecalled, Cond.selects RX1 yX1_isBatchRecalled yX1_isBatchRecalled, Cond.code yX1_isBatchRecalled cX1_isBatchRecalled 2 (some .boolean), Cond.fieldLink RX1 29 "TinCellar$Stock" "recalled" "LTinCellar$Row;", Cond.methodLink RX1 103 yX1_recallBatch, Cond.instanceMethod yX1_recallBatch, Cond.selects RX1 yX1_recallBatch yX1_recallBatch, Cond.code yX1_recallBatch cX1_recallBatch 4 (some .int), Cond.methodLink RX1 78 yX1_firstBy, Cond.instanceMethod yX1_firstBy, Cond.selects RX1 yX1_firstBy yX1_firstBy, Cond.code yX1_firstBy cX1_firstBy 6 (some .int), Cond.methodLink RX1 106 yX1_rankBy, Cond.instanceMethod yX1_rankBy, Cond.selects RX1 yX1_rankBy yX1_rankBy, Cond.code yX1_rankBy cX1_rankBy 3 (some .int), Cond.methodLink RX1 81 yX1_ship, Cond.instanceMethod yX1_ship, Cond.selects RX1 yX1_ship yX1_ship, Cond.code yX1_ship cX1_ship 2 none]
def wsX1_passDay : List Cond := .code yX1_passDay cX1_passDay 2 none :: ((wsX1_passDay_r1 ++ (wsX1_passDay_r2 ++ wsX1_passDay_r3)) ++ wsX10 ++ wsX00)
def wsX1_countAheadOf : List Cond := .code yX1_countAheadOf cX1_countAheadOf 6 (some .int) :: ([.fieldLink RX1 55 "TinCellar$Stock" "tinCount" "I", .methodLink RX1 106 yX1_rankBy, .instanceMethod yX1_rankBy, .selects RX1 yX1_rankBy yX1_rankBy, .initialized RX1, .code yX1_rankBy cX1_rankBy 3 (some .int), .fieldLink RX1 38 "TinCellar$Stock" "vacuum" "LTinCellar$Row;", .fieldLink RX1 14 "TinCellar$Stock" "warm" "LTinCellar$Row;", .fieldLink RX1 35 "TinCellar$Stock" "shelf" "LTinCellar$Row;", .methodLink RX1 68 yX0_get, .instanceMethod yX0_get, .selects RX0 yX0_get yX0_get, .initialized RX0, .code yX0_get cX0_get 2 (some .int), .fieldLink RX0 13 "TinCellar$Row" "cells" "[I", .methodLink RX1 84 yX1_holds, .instanceMethod yX1_holds, .selects RX1 yX1_holds yX1_holds, .code yX1_holds cX1_holds 2 (some .boolean), .fieldLink RX1 41 "TinCellar$Stock" "place" "LTinCellar$Row;"] ++ wsX10 ++ wsX00)
def wsX1_daysToSwell : List Cond := .code yX1_daysToSwell cX1_daysToSwell 4 (some .int) :: ([.fieldLink RX1 38 "TinCellar$Stock" "vacuum" "LTinCellar$Row;", .methodLink RX1 88 yX1_wearOn, .instanceMethod yX1_wearOn, .selects RX1 yX1_wearOn yX1_wearOn, .initialized RX1, .code yX1_wearOn cX1_wearOn 3 (some .int), .fieldLink RX1 23 "TinCellar$Stock" "leaks" "LTinCellar$Row;", .fieldLink RX1 32 "TinCellar$Stock" "batch" "LTinCellar$Row;", .fieldLink RX1 14 "TinCellar$Stock" "warm" "LTinCellar$Row;", .methodLink RX1 68 yX0_get, .instanceMethod yX0_get, .selects RX0 yX0_get yX0_get, .initialized RX0, .code yX0_get cX0_get 2 (some .int), .fieldLink RX0 13 "TinCellar$Row" "cells" "[I"] ++ wsX10 ++ wsX00)
def wsX1_countAt : List Cond := .code yX1_countAt cX1_countAt 4 (some .int) :: ([.fieldLink RX1 55 "TinCellar$Stock" "tinCount" "I", .fieldLink RX1 41 "TinCellar$Stock" "place" "LTinCellar$Row;", .methodLink RX1 68 yX0_get, .instanceMethod yX0_get, .selects RX0 yX0_get yX0_get, .initialized RX0, .code yX0_get cX0_get 2 (some .int), .fieldLink RX0 13 "TinCellar$Row" "cells" "[I"] ++ wsX10 ++ wsX00)
def wsX1_countHeldWith : List Cond := .code yX1_countHeldWith cX1_countHeldWith 5 (some .int) :: ([.fieldLink RX1 55 "TinCellar$Stock" "tinCount" "I", .methodLink RX1 84 yX1_holds, .instanceMethod yX1_holds, .selects RX1 yX1_holds yX1_holds, .initialized RX1, .code yX1_holds cX1_holds 2 (some .boolean), .fieldLink RX1 41 "TinCellar$Stock" "place" "LTinCellar$Row;", .methodLink RX1 68 yX0_get, .instanceMethod yX0_get, .selects RX0 yX0_get yX0_get, .initialized RX0, .code yX0_get cX0_get 2 (some .int), .fieldLink RX0 13 "TinCellar$Row" "cells" "[I"] ++ wsX10 ++ wsX00)
def wsX1_vacuumHeld : List Cond := .code yX1_vacuumHeld cX1_vacuumHeld 3 (some .int) :: ([.fieldLink RX1 55 "TinCellar$Stock" "tinCount" "I", .fieldLink RX1 38 "TinCellar$Stock" "vacuum" "LTinCellar$Row;", .methodLink RX1 84 yX1_holds, .instanceMethod yX1_holds, .selects RX1 yX1_holds yX1_holds, .initialized RX1, .code yX1_holds cX1_holds 2 (some .boolean), .fieldLink RX1 41 "TinCellar$Stock" "place" "LTinCellar$Row;", .methodLink RX1 68 yX0_get, .instanceMethod yX0_get, .selects RX0 yX0_get yX0_get, .initialized RX0, .code yX0_get cX0_get 2 (some .int), .fieldLink RX0 13 "TinCellar$Row" "cells" "[I"] ++ wsX10 ++ wsX00)
def wsX2_init_r1 : List Cond := [Cond.methodLink RX2 1 objectInit, Cond.instanceMethod objectInit, Cond.code objectInit ⟨#[0xb1]⟩ 1 none, Cond.classLink RX2 7 RX1, Cond.instantiable RX1 14, Cond.initialized RX1, Cond.fieldLink RX2 10 "TinCellar" "now" "LTinCellar$Stock;", Cond.fieldLink RX2 16 "TinCellar" "trial" "LTinCellar$Stock;", Cond.instanceMethod yX1_init, Cond.code yX1_init cX1_init 1 none, Cond.methodLink RX1 3 objectInit, Cond.classLink RX1 9 RX0, Cond.instantiable RX0 1, Cond.initialized RX0, Cond.fieldLink RX1 14 "TinCellar$Stock" "warm" "LTinCellar$Row;", Cond.fieldLink RX1 20 "TinCellar$Stock" "vacuumAtFirst" "LTinCellar$Row;", Cond.fieldLink RX1 23 "TinCellar$Stock" "leaks" "LTinCellar$Row;", Cond.fieldLink RX1 26 "TinCellar$Stock" "swelledLids" "LTinCellar$Row;", Cond.fieldLink RX1 29 "TinCellar$Stock" "recalled" "LTinCellar$Row;", Cond.fieldLink RX1 32 "TinCellar$Stock" "batch" "LTinCellar$Row;", Cond.fieldLink RX1 35 "TinCellar$Stock" "shelf" "LTinCellar$Row;", Cond.fieldLink RX1 38 "TinCellar$Stock" "vacuum" "LTinCellar$Row;", Cond.fieldLink RX1 41 "TinCellar$Stock" "place" "LTinCellar$Row;", Cond.fieldLink RX1 44 "TinCellar$Stock" "order" "I"]
def wsX2_init_r2 : List Cond := [Cond.methodLink RX1 11 yX0_init, Cond.instanceMethod yX0_init, Cond.code yX0_init cX0_init 2 none, Cond.methodLink RX0 1 objectInit, Cond.methodLink RX0 7 Lib.Math.max.name, Cond.static Lib.Math.max.name, Cond.initialized "java/lang/Math", Cond.code Lib.Math.max.name Lib.Math.max.code 2 (some .int), Cond.arrayClass .int, Cond.fieldLink RX0 13 "TinCellar$Row" "cells" "[I"]
def wsX2_init : List Cond := .code yX2_init cX2_init 1 none :: ((wsX2_init_r1 ++ wsX2_init_r2) ++ wsX10 ++ wsX20 ++ wsX00)
def wsX2_isWithin : List Cond := .code yX2_isWithin cX2_isWithin 3 (some .boolean) :: ([])
def wsX2_addBatch : List Cond := .code yX2_addBatch cX2_addBatch 3 (some .int) :: ([.classLink RX2 23 "java/lang/IllegalArgumentException", .initialized "java/lang/IllegalArgumentException", .classLink RX2 34 "java/lang/IllegalStateException", .initialized "java/lang/IllegalStateException", .fieldLink RX2 10 "TinCellar" "now" "LTinCellar$Stock;", .methodLink RX2 19 yX2_isWithin, .static yX2_isWithin, .initialized RX2, .code yX2_isWithin cX2_isWithin 3 (some .boolean), .methodLink RX2 39 yX1_takeBatch, .instanceMethod yX1_takeBatch, .selects RX1 yX1_takeBatch yX1_takeBatch, .initialized RX1, .code yX1_takeBatch cX1_takeBatch 4 (some .int), .fieldLink RX1 52 "TinCellar$Stock" "batchCount" "I", .fieldLink RX1 20 "TinCellar$Stock" "vacuumAtFirst" "LTinCellar$Row;", .fieldLink RX1 23 "TinCellar$Stock" "leaks" "LTinCellar$Row;", .methodLink RX1 64 yX0_set, .instanceMethod yX0_set, .selects RX0 yX0_set yX0_set, .initialized RX0, .code yX0_set cX0_set 3 none, .fieldLink RX0 13 "TinCellar$Row" "cells" "[I"] ++ wsX20 ++ wsX10 ++ wsX00 ++ (vx_atS RX2 27 "java/lang/IllegalArgumentException" ["java/lang/RuntimeException", "java/lang/Exception"]).filter goodWord ++ (vx_atS RX2 38 "java/lang/IllegalStateException" ["java/lang/RuntimeException", "java/lang/Exception"]).filter goodWord)
def wsX2_needBatch : List Cond := .code yX2_needBatch cX2_needBatch 2 none :: ([.classLink RX2 243 "java/lang/IndexOutOfBoundsException", .initialized "java/lang/IndexOutOfBoundsException", .fieldLink RX2 10 "TinCellar" "now" "LTinCellar$Stock;", .methodLink RX2 19 yX2_isWithin, .static yX2_isWithin, .initialized RX2, .code yX2_isWithin cX2_isWithin 3 (some .boolean)] ++ wsX20 ++ wsX10 ++ (vx_atS RX2 247 "java/lang/IndexOutOfBoundsException" ["java/lang/RuntimeException", "java/lang/Exception"]).filter goodWord)
def wsX2_needShelf : List Cond := .code yX2_needShelf cX2_needShelf 1 none :: ([.classLink RX2 243 "java/lang/IndexOutOfBoundsException", .initialized "java/lang/IndexOutOfBoundsException", .methodLink RX2 19 yX2_isWithin, .static yX2_isWithin, .initialized RX2, .code yX2_isWithin cX2_isWithin 3 (some .boolean)] ++ (vx_atS RX2 247 "java/lang/IndexOutOfBoundsException" ["java/lang/RuntimeException", "java/lang/Exception"]).filter goodWord)
def wsX2_seal_r1 : List Cond := [Cond.classLink RX2 23 "java/lang/IllegalArgumentException", Cond.initialized "java/lang/IllegalArgumentException", Cond.classLink RX2 34 "java/lang/IllegalStateException", Cond.initialized "java/lang/IllegalStateException", Cond.fieldLink RX2 10 "TinCellar" "now" "LTinCellar$Stock;", Cond.methodLink RX2 43 yX2_needBatch, Cond.instanceMethod yX2_needBatch, Cond.selects RX2 yX2_needBatch yX2_needBatch, Cond.initialized RX2, Cond.code yX2_needBatch cX2_needBatch 2 none, Cond.classLink RX2 243 "java/lang/IndexOutOfBoundsException", Cond.initialized "java/lang/IndexOutOfBoundsException", Cond.methodLink RX2 19 yX2_isWithin, Cond.static yX2_isWithin, Cond.code yX2_isWithin cX2_isWithin 3 (some .boolean), Cond.methodLink RX2 47 yX2_needShelf, Cond.static yX2_needShelf, Cond.code yX2_needShelf cX2_needShelf 1 none, Cond.methodLink RX2 55 yX1_isBatchRecalled, Cond.instanceMethod yX1_isBatchRecalled, Cond.selects RX1 yX1_isBatchRecalled yX1_isBatchRecalled, Cond.initialized RX1, Cond.code yX1_isBatchRecalled cX1_isBatchRecalled 2 (some .boolean), Cond.fieldLink RX1 29 "TinCellar$Stock" "recalled" "LTinCellar$Row;"]
def wsX2_seal_r2 : List Cond := [Cond.methodLink RX1 68 yX0_get, Cond.instanceMethod yX0_get, Cond.selects RX0 yX0_get yX0_get, Cond.initialized RX0, Cond.code yX0_get cX0_get 2 (some .int), Cond.fieldLink RX0 13 "TinCellar$Row" "cells" "[I", Cond.methodLink RX2 61 yX1_takeTins, Cond.instanceMethod yX1_takeTins, Cond.selects RX1 yX1_takeTins yX1_takeTins, Cond.code yX1_takeTins cX1_takeTins 6 (some .int), Cond.fieldLink RX1 55 "TinCellar$Stock" "tinCount" "I", Cond.fieldLink RX1 32 "TinCellar$Stock" "batch" "LTinCellar$Row;", Cond.fieldLink RX1 35 "TinCellar$Stock" "shelf" "LTinCellar$Row;", Cond.fieldLink RX1 38 "TinCellar$Stock" "vacuum" "LTinCellar$Row;", Cond.fieldLink RX1 20 "TinCellar$Stock" "vacuumAtFirst" "LTinCellar$Row;", Cond.fieldLink RX1 41 "TinCellar$Stock" "place" "LTinCellar$Row;", Cond.methodLink RX1 64 yX0_set, Cond.instanceMethod yX0_set, Cond.selects RX0 yX0_set yX0_set, Cond.code yX0_set cX0_set 3 none]
def wsX2_seal : List Cond := .code yX2_seal cX2_seal 4 (some .int) :: ((wsX2_seal_r1 ++ wsX2_seal_r2) ++ wsX20 ++ wsX10 ++ wsX00 ++ (vx_atS RX2 27 "java/lang/IllegalArgumentException" ["java/lang/RuntimeException", "java/lang/Exception"]).filter goodWord ++ (vx_atS RX2 38 "java/lang/IllegalStateException" ["java/lang/RuntimeException", "java/lang/Exception"]).filter goodWord ++ (vx_atS RX2 247 "java/lang/IndexOutOfBoundsException" ["java/lang/RuntimeException", "java/lang/Exception"]).filter goodWord)
def wsX2_needTin : List Cond := .code yX2_needTin cX2_needTin 2 none :: ([.classLink RX2 243 "java/lang/IndexOutOfBoundsException", .initialized "java/lang/IndexOutOfBoundsException", .fieldLink RX2 10 "TinCellar" "now" "LTinCellar$Stock;", .methodLink RX2 19 yX2_isWithin, .static yX2_isWithin, .initialized RX2, .code yX2_isWithin cX2_isWithin 3 (some .boolean)] ++ wsX20 ++ wsX10 ++ (vx_atS RX2 247 "java/lang/IndexOutOfBoundsException" ["java/lang/RuntimeException", "java/lang/Exception"]).filter goodWord)
def wsX2_move_r1 : List Cond := [Cond.classLink RX2 34 "java/lang/IllegalStateException", Cond.initialized "java/lang/IllegalStateException", Cond.fieldLink RX2 10 "TinCellar" "now" "LTinCellar$Stock;", Cond.methodLink RX2 65 yX2_needTin, Cond.instanceMethod yX2_needTin, Cond.selects RX2 yX2_needTin yX2_needTin, Cond.initialized RX2, Cond.code yX2_needTin cX2_needTin 2 none, Cond.classLink RX2 243 "java/lang/IndexOutOfBoundsException", Cond.initialized "java/lang/IndexOutOfBoundsException", Cond.methodLink RX2 19 yX2_isWithin, Cond.static yX2_isWithin, Cond.code yX2_isWithin cX2_isWithin 3 (some .boolean), Cond.methodLink RX2 47 yX2_needShelf, Cond.static yX2_needShelf, Cond.code yX2_needShelf cX2_needShelf 1 none, Cond.methodLink RX2 68 yX1_holds, Cond.instanceMethod yX1_holds, Cond.selects RX1 yX1_holds yX1_holds, Cond.initialized RX1, Cond.code yX1_holds cX1_holds 2 (some .boolean), Cond.fieldLink RX1 41 "TinCellar$Stock" "place" "LTinCellar$Row;", Cond.methodLink RX1 68 yX0_get, Cond.instanceMethod yX0_get]
def wsX2_move_r2 : List Cond := [Cond.selects RX0 yX0_get yX0_get, Cond.initialized RX0, Cond.code yX0_get cX0_get 2 (some .int), Cond.fieldLink RX0 13 "TinCellar$Row" "cells" "[I", Cond.methodLink RX2 77 yX0_get, Cond.methodLink RX2 83 yX0_set, Cond.instanceMethod yX0_set, Cond.selects RX0 yX0_set yX0_set, Cond.code yX0_set cX0_set 3 none]
def wsX2_move : List Cond := .code yX2_move cX2_move 4 (some .int) :: ((wsX2_move_r1 ++ wsX2_move_r2) ++ wsX20 ++ wsX10 ++ wsX00 ++ (vx_atS RX2 38 "java/lang/IllegalStateException" ["java/lang/RuntimeException", "java/lang/Exception"]).filter goodWord ++ (vx_atS RX2 247 "java/lang/IndexOutOfBoundsException" ["java/lang/RuntimeException", "java/lang/Exception"]).filter goodWord)
def wsX2_setWarm : List Cond := .code yX2_setWarm cX2_setWarm 4 (some .int) :: ([.classLink RX2 23 "java/lang/IllegalArgumentException", .initialized "java/lang/IllegalArgumentException", .fieldLink RX2 10 "TinCellar" "now" "LTinCellar$Stock;", .methodLink RX2 47 yX2_needShelf, .static yX2_needShelf, .initialized RX2, .code yX2_needShelf cX2_needShelf 1 none, .classLink RX2 243 "java/lang/IndexOutOfBoundsException", .initialized "java/lang/IndexOutOfBoundsException", .methodLink RX2 19 yX2_isWithin, .static yX2_isWithin, .code yX2_isWithin cX2_isWithin 3 (some .boolean), .methodLink RX2 77 yX0_get, .instanceMethod yX0_get, .selects RX0 yX0_get yX0_get, .initialized RX0, .code yX0_get cX0_get 2 (some .int), .fieldLink RX0 13 "TinCellar$Row" "cells" "[I", .methodLink RX2 83 yX0_set, .instanceMethod yX0_set, .selects RX0 yX0_set yX0_set, .code yX0_set cX0_set 3 none] ++ wsX20 ++ wsX10 ++ wsX00 ++ (vx_atS RX2 27 "java/lang/IllegalArgumentException" ["java/lang/RuntimeException", "java/lang/Exception"]).filter goodWord ++ (vx_atS RX2 247 "java/lang/IndexOutOfBoundsException" ["java/lang/RuntimeException", "java/lang/Exception"]).filter goodWord)
def wsX2_needOrder : List Cond := .code yX2_needOrder cX2_needOrder 1 none :: ([.classLink RX2 23 "java/lang/IllegalArgumentException", .initialized "java/lang/IllegalArgumentException", .methodLink RX2 19 yX2_isWithin, .static yX2_isWithin, .initialized RX2, .code yX2_isWithin cX2_isWithin 3 (some .boolean)] ++ (vx_atS RX2 27 "java/lang/IllegalArgumentException" ["java/lang/RuntimeException", "java/lang/Exception"]).filter goodWord)
def wsX2_needShipping : List Cond := .code yX2_needShipping cX2_needShipping 2 none :: ([.classLink RX2 23 "java/lang/IllegalArgumentException", .initialized "java/lang/IllegalArgumentException", .methodLink RX2 19 yX2_isWithin, .static yX2_isWithin, .initialized RX2, .code yX2_isWithin cX2_isWithin 3 (some .boolean), .methodLink RX2 133 yX2_needOrder, .static yX2_needOrder, .code yX2_needOrder cX2_needOrder 1 none] ++ (vx_atS RX2 27 "java/lang/IllegalArgumentException" ["java/lang/RuntimeException", "java/lang/Exception"]).filter goodWord)
def wsX2_setShipping : List Cond := .code yX2_setShipping cX2_setShipping 4 (some .int) :: ([.fieldLink RX2 10 "TinCellar" "now" "LTinCellar$Stock;", .methodLink RX2 92 yX2_needShipping, .static yX2_needShipping, .initialized RX2, .code yX2_needShipping cX2_needShipping 2 none, .classLink RX2 23 "java/lang/IllegalArgumentException", .initialized "java/lang/IllegalArgumentException", .methodLink RX2 19 yX2_isWithin, .static yX2_isWithin, .code yX2_isWithin cX2_isWithin 3 (some .boolean), .methodLink RX2 133 yX2_needOrder, .static yX2_needOrder, .code yX2_needOrder cX2_needOrder 1 none] ++ wsX20 ++ wsX10 ++ (vx_atS RX2 27 "java/lang/IllegalArgumentException" ["java/lang/RuntimeException", "java/lang/Exception"]).filter goodWord)
def wsX2_recall_r1 : List Cond := [Cond.classLink RX2 34 "java/lang/IllegalStateException", Cond.initialized "java/lang/IllegalStateException", Cond.fieldLink RX2 10 "TinCellar" "now" "LTinCellar$Stock;", Cond.methodLink RX2 43 yX2_needBatch, Cond.instanceMethod yX2_needBatch, Cond.selects RX2 yX2_needBatch yX2_needBatch, Cond.initialized RX2, Cond.code yX2_needBatch cX2_needBatch 2 none, Cond.classLink RX2 243 "java/lang/IndexOutOfBoundsException", Cond.initialized "java/lang/IndexOutOfBoundsException", Cond.methodLink RX2 19 yX2_isWithin, Cond.static yX2_isWithin, Cond.code yX2_isWithin cX2_isWithin 3 (some .boolean), Cond.methodLink RX2 55 yX1_isBatchRecalled, Cond.instanceMethod yX1_isBatchRecalled, Cond.selects RX1 yX1_isBatchRecalled yX1_isBatchRecalled, Cond.initialized RX1, Cond.code yX1_isBatchRecalled cX1_isBatchRecalled 2 (some .boolean), Cond.fieldLink RX1 29 "TinCellar$Stock" "recalled" "LTinCellar$Row;", Cond.methodLink RX1 68 yX0_get, Cond.instanceMethod yX0_get, Cond.selects RX0 yX0_get yX0_get, Cond.initialized RX0, Cond.code yX0_get cX0_get 2 (some .int)]
def wsX2_recall_r2 : List Cond := [Cond.fieldLink RX0 13 "TinCellar$Row" "cells" "[I", Cond.methodLink RX2 103 yX1_recallBatch, Cond.instanceMethod yX1_recallBatch, Cond.selects RX1 yX1_recallBatch yX1_recallBatch, Cond.code yX1_recallBatch cX1_recallBatch 4 (some .int), Cond.fieldLink RX1 55 "TinCellar$Stock" "tinCount" "I", Cond.fieldLink RX1 41 "TinCellar$Stock" "place" "LTinCellar$Row;", Cond.fieldLink RX1 32 "TinCellar$Stock" "batch" "LTinCellar$Row;", Cond.methodLink RX1 64 yX0_set, Cond.instanceMethod yX0_set, Cond.selects RX0 yX0_set yX0_set, Cond.code yX0_set cX0_set 3 none]
def wsX2_recall : List Cond := .code yX2_recall cX2_recall 2 (some .int) :: ((wsX2_recall_r1 ++ wsX2_recall_r2) ++ wsX20 ++ wsX10 ++ wsX00 ++ (vx_atS RX2 38 "java/lang/IllegalStateException" ["java/lang/RuntimeException", "java/lang/Exception"]).filter goodWord ++ (vx_atS RX2 247 "java/lang/IndexOutOfBoundsException" ["java/lang/RuntimeException", "java/lang/Exception"]).filter goodWord)
def wsX2_pass_r1 : List Cond := [Cond.classLink RX2 23 "java/lang/IllegalArgumentException", Cond.initialized "java/lang/IllegalArgumentException", Cond.fieldLink RX2 10 "TinCellar" "now" "LTinCellar$Stock;", Cond.methodLink RX2 19 yX2_isWithin, Cond.static yX2_isWithin, Cond.initialized RX2, Cond.code yX2_isWithin cX2_isWithin 3 (some .boolean), Cond.methodLink RX2 108 yX1_countAt, Cond.instanceMethod yX1_countAt, Cond.selects RX1 yX1_countAt yX1_countAt, Cond.initialized RX1, Cond.code yX1_countAt cX1_countAt 4 (some .int), Cond.fieldLink RX1 55 "TinCellar$Stock" "tinCount" "I", Cond.fieldLink RX1 41 "TinCellar$Stock" "place" "LTinCellar$Row;", Cond.methodLink RX1 68 yX0_get, Cond.instanceMethod yX0_get, Cond.selects RX0 yX0_get yX0_get, Cond.initialized RX0, Cond.code yX0_get cX0_get 2 (some .int), Cond.fieldLink RX0 13 "TinCellar$Row" "cells" "[I", Cond.methodLink RX2 111 yX1_passDay, Cond.instanceMethod yX1_passDay, Cond.selects RX1 yX1_passDay yX1_passDay, Cond.code yX1_passDay cX1_passDay 2 none]
def wsX2_pass_r2 : List Cond := [Cond.fieldLink RX1 58 "TinCellar$Stock" "shippedADay" "I", Cond.fieldLink RX1 44 "TinCellar$Stock" "order" "I", Cond.fieldLink RX1 61 "TinCellar$Stock" "day" "I", Cond.methodLink RX1 72 yX1_wearTins, Cond.instanceMethod yX1_wearTins, Cond.selects RX1 yX1_wearTins yX1_wearTins, Cond.code yX1_wearTins cX1_wearTins 2 none, Cond.fieldLink RX1 38 "TinCellar$Stock" "vacuum" "LTinCellar$Row;", Cond.fieldLink RX1 35 "TinCellar$Stock" "shelf" "LTinCellar$Row;", Cond.methodLink RX1 92 Lib.Math.max.name, Cond.static Lib.Math.max.name, Cond.initialized "java/lang/Math", Cond.code Lib.Math.max.name Lib.Math.max.code 2 (some .int), Cond.methodLink RX1 84 yX1_holds, Cond.instanceMethod yX1_holds, Cond.selects RX1 yX1_holds yX1_holds, Cond.code yX1_holds cX1_holds 2 (some .boolean), Cond.methodLink RX1 88 yX1_wearOn, Cond.instanceMethod yX1_wearOn, Cond.selects RX1 yX1_wearOn yX1_wearOn, Cond.code yX1_wearOn cX1_wearOn 3 (some .int), Cond.fieldLink RX1 23 "TinCellar$Stock" "leaks" "LTinCellar$Row;", Cond.fieldLink RX1 32 "TinCellar$Stock" "batch" "LTinCellar$Row;", Cond.fieldLink RX1 14 "TinCellar$Stock" "warm" "LTinCellar$Row;"]
def wsX2_pass_r3 : List Cond := [Cond.methodLink RX1 64 yX0_set, Cond.instanceMethod yX0_set, Cond.selects RX0 yX0_set yX0_set, Cond.code yX0_set cX0_set 3 none, Cond.methodLink RX1 97 yX1_swellLid, Cond.instanceMethod yX1_swellLid, Cond.selects RX1 yX1_swellLid yX1_swellLid, Cond.code yX1_swellLid cX1_swellLid 3 none, Cond.fieldLink RX1 26 "TinCellar$Stock" "swelledLids" "LTinCellar$Row;", Cond.methodLink RX1 75 yX1_recallSwelled, Cond.instanceMethod yX1_recallSwelled, Cond.selects RX1 yX1_recallSwelled yX1_recallSwelled, Cond.code yX1_recallSwelled cX1_recallSwelled 2 none, Cond.fieldLink RX1 52 "TinCellar$Stock" "batchCount" "I", Cond.methodLink RX1 100 yX1_isBatchRecalled, Cond.instanceMethod yX1_isBatchRecalled, Cond.selects RX1 yX1_isBatchRecalled yX1_isBatchRecalled, Cond.code yX1_isBatchRecalled cX1_isBatchRecalled 2 (some .boolean), Cond.fieldLink RX1 29 "TinCellar$Stock" "recalled" "LTinCellar$Row;", Cond.methodLink RX1 103 yX1_recallBatch, Cond.instanceMethod yX1_recallBatch, Cond.selects RX1 yX1_recallBatch yX1_recallBatch, Cond.code yX1_recallBatch cX1_recallBatch 4 (some .int), Cond.methodLink RX1 78 yX1_firstBy]
def wsX2_pass_r4 : List Cond := [Cond.instanceMethod yX1_firstBy, Cond.selects RX1 yX1_firstBy yX1_firstBy, Cond.code yX1_firstBy cX1_firstBy 6 (some .int), Cond.methodLink RX1 106 yX1_rankBy, Cond.instanceMethod yX1_rankBy, Cond.selects RX1 yX1_rankBy yX1_rankBy, Cond.code yX1_rankBy cX1_rankBy 3 (some .int), Cond.methodLink RX1 81 yX1_ship, Cond.instanceMethod yX1_ship, Cond.selects RX1 yX1_ship yX1_ship, Cond.code yX1_ship cX1_ship 2 none]
def wsX2_pass : List Cond := .code yX2_pass cX2_pass 4 (some .int) :: ((wsX2_pass_r1 ++ (wsX2_pass_r2 ++ (wsX2_pass_r3 ++ wsX2_pass_r4))) ++ wsX20 ++ wsX10 ++ wsX00 ++ (vx_atS RX2 27 "java/lang/IllegalArgumentException" ["java/lang/RuntimeException", "java/lang/Exception"]).filter goodWord)
def wsX2_day : List Cond := .code yX2_day cX2_day 1 (some .int) :: ([.fieldLink RX2 10 "TinCellar" "now" "LTinCellar$Stock;"] ++ wsX20 ++ wsX10)
def wsX2_batches : List Cond := .code yX2_batches cX2_batches 1 (some .int) :: ([.fieldLink RX2 10 "TinCellar" "now" "LTinCellar$Stock;"] ++ wsX20 ++ wsX10)
def wsX2_tins : List Cond := .code yX2_tins cX2_tins 1 (some .int) :: ([.fieldLink RX2 10 "TinCellar" "now" "LTinCellar$Stock;"] ++ wsX20 ++ wsX10)
def wsX2_inCellar : List Cond := .code yX2_inCellar cX2_inCellar 1 (some .int) :: ([.fieldLink RX2 10 "TinCellar" "now" "LTinCellar$Stock;", .methodLink RX2 108 yX1_countAt, .instanceMethod yX1_countAt, .selects RX1 yX1_countAt yX1_countAt, .initialized RX1, .code yX1_countAt cX1_countAt 4 (some .int), .fieldLink RX1 55 "TinCellar$Stock" "tinCount" "I", .fieldLink RX1 41 "TinCellar$Stock" "place" "LTinCellar$Row;", .methodLink RX1 68 yX0_get, .instanceMethod yX0_get, .selects RX0 yX0_get yX0_get, .initialized RX0, .code yX0_get cX0_get 2 (some .int), .fieldLink RX0 13 "TinCellar$Row" "cells" "[I"] ++ wsX20 ++ wsX10 ++ wsX00)
def wsX2_shipped : List Cond := .code yX2_shipped cX2_shipped 1 (some .int) :: ([.fieldLink RX2 10 "TinCellar" "now" "LTinCellar$Stock;", .methodLink RX2 108 yX1_countAt, .instanceMethod yX1_countAt, .selects RX1 yX1_countAt yX1_countAt, .initialized RX1, .code yX1_countAt cX1_countAt 4 (some .int), .fieldLink RX1 55 "TinCellar$Stock" "tinCount" "I", .fieldLink RX1 41 "TinCellar$Stock" "place" "LTinCellar$Row;", .methodLink RX1 68 yX0_get, .instanceMethod yX0_get, .selects RX0 yX0_get yX0_get, .initialized RX0, .code yX0_get cX0_get 2 (some .int), .fieldLink RX0 13 "TinCellar$Row" "cells" "[I"] ++ wsX20 ++ wsX10 ++ wsX00)
def wsX2_lost : List Cond := .code yX2_lost cX2_lost 1 (some .int) :: ([.fieldLink RX2 10 "TinCellar" "now" "LTinCellar$Stock;", .methodLink RX2 108 yX1_countAt, .instanceMethod yX1_countAt, .selects RX1 yX1_countAt yX1_countAt, .initialized RX1, .code yX1_countAt cX1_countAt 4 (some .int), .fieldLink RX1 55 "TinCellar$Stock" "tinCount" "I", .fieldLink RX1 41 "TinCellar$Stock" "place" "LTinCellar$Row;", .methodLink RX1 68 yX0_get, .instanceMethod yX0_get, .selects RX0 yX0_get yX0_get, .initialized RX0, .code yX0_get cX0_get 2 (some .int), .fieldLink RX0 13 "TinCellar$Row" "cells" "[I"] ++ wsX20 ++ wsX10 ++ wsX00)
def wsX2_swelled : List Cond := .code yX2_swelled cX2_swelled 3 (some .int) :: ([.fieldLink RX2 10 "TinCellar" "now" "LTinCellar$Stock;", .methodLink RX2 77 yX0_get, .instanceMethod yX0_get, .selects RX0 yX0_get yX0_get, .initialized RX0, .code yX0_get cX0_get 2 (some .int), .fieldLink RX0 13 "TinCellar$Row" "cells" "[I"] ++ wsX20 ++ wsX10 ++ wsX00)
def wsX2_standOn_r1 : List Cond := [Cond.fieldLink RX2 10 "TinCellar" "now" "LTinCellar$Stock;", Cond.methodLink RX2 47 yX2_needShelf, Cond.static yX2_needShelf, Cond.initialized RX2, Cond.code yX2_needShelf cX2_needShelf 1 none, Cond.classLink RX2 243 "java/lang/IndexOutOfBoundsException", Cond.initialized "java/lang/IndexOutOfBoundsException", Cond.methodLink RX2 19 yX2_isWithin, Cond.static yX2_isWithin, Cond.code yX2_isWithin cX2_isWithin 3 (some .boolean), Cond.methodLink RX2 120 yX1_countHeldWith, Cond.instanceMethod yX1_countHeldWith, Cond.selects RX1 yX1_countHeldWith yX1_countHeldWith, Cond.initialized RX1, Cond.code yX1_countHeldWith cX1_countHeldWith 5 (some .int), Cond.fieldLink RX1 55 "TinCellar$Stock" "tinCount" "I", Cond.methodLink RX1 84 yX1_holds, Cond.instanceMethod yX1_holds, Cond.selects RX1 yX1_holds yX1_holds, Cond.code yX1_holds cX1_holds 2 (some .boolean), Cond.fieldLink RX1 41 "TinCellar$Stock" "place" "LTinCellar$Row;", Cond.methodLink RX1 68 yX0_get, Cond.instanceMethod yX0_get, Cond.selects RX0 yX0_get yX0_get]
def wsX2_standOn_r2 : List Cond := [Cond.initialized RX0, Cond.code yX0_get cX0_get 2 (some .int), Cond.fieldLink RX0 13 "TinCellar$Row" "cells" "[I"]
def wsX2_standOn : List Cond := .code yX2_standOn cX2_standOn 2 (some .int) :: ((wsX2_standOn_r1 ++ wsX2_standOn_r2) ++ wsX20 ++ wsX10 ++ wsX00 ++ (vx_atS RX2 247 "java/lang/IndexOutOfBoundsException" ["java/lang/RuntimeException", "java/lang/Exception"]).filter goodWord)
def wsX2_warmOf : List Cond := .code yX2_warmOf cX2_warmOf 2 (some .int) :: ([.fieldLink RX2 10 "TinCellar" "now" "LTinCellar$Stock;", .methodLink RX2 47 yX2_needShelf, .static yX2_needShelf, .initialized RX2, .code yX2_needShelf cX2_needShelf 1 none, .classLink RX2 243 "java/lang/IndexOutOfBoundsException", .initialized "java/lang/IndexOutOfBoundsException", .methodLink RX2 19 yX2_isWithin, .static yX2_isWithin, .code yX2_isWithin cX2_isWithin 3 (some .boolean), .methodLink RX2 77 yX0_get, .instanceMethod yX0_get, .selects RX0 yX0_get yX0_get, .initialized RX0, .code yX0_get cX0_get 2 (some .int), .fieldLink RX0 13 "TinCellar$Row" "cells" "[I"] ++ wsX20 ++ wsX10 ++ wsX00 ++ (vx_atS RX2 247 "java/lang/IndexOutOfBoundsException" ["java/lang/RuntimeException", "java/lang/Exception"]).filter goodWord)
def wsX2_batchOf : List Cond := .code yX2_batchOf cX2_batchOf 2 (some .int) :: ([.fieldLink RX2 10 "TinCellar" "now" "LTinCellar$Stock;", .methodLink RX2 65 yX2_needTin, .instanceMethod yX2_needTin, .selects RX2 yX2_needTin yX2_needTin, .initialized RX2, .code yX2_needTin cX2_needTin 2 none, .classLink RX2 243 "java/lang/IndexOutOfBoundsException", .initialized "java/lang/IndexOutOfBoundsException", .methodLink RX2 19 yX2_isWithin, .static yX2_isWithin, .code yX2_isWithin cX2_isWithin 3 (some .boolean), .methodLink RX2 77 yX0_get, .instanceMethod yX0_get, .selects RX0 yX0_get yX0_get, .initialized RX0, .code yX0_get cX0_get 2 (some .int), .fieldLink RX0 13 "TinCellar$Row" "cells" "[I"] ++ wsX20 ++ wsX10 ++ wsX00 ++ (vx_atS RX2 247 "java/lang/IndexOutOfBoundsException" ["java/lang/RuntimeException", "java/lang/Exception"]).filter goodWord)
def wsX2_shelfOf : List Cond := .code yX2_shelfOf cX2_shelfOf 2 (some .int) :: ([.fieldLink RX2 10 "TinCellar" "now" "LTinCellar$Stock;", .methodLink RX2 65 yX2_needTin, .instanceMethod yX2_needTin, .selects RX2 yX2_needTin yX2_needTin, .initialized RX2, .code yX2_needTin cX2_needTin 2 none, .classLink RX2 243 "java/lang/IndexOutOfBoundsException", .initialized "java/lang/IndexOutOfBoundsException", .methodLink RX2 19 yX2_isWithin, .static yX2_isWithin, .code yX2_isWithin cX2_isWithin 3 (some .boolean), .methodLink RX2 68 yX1_holds, .instanceMethod yX1_holds, .selects RX1 yX1_holds yX1_holds, .initialized RX1, .code yX1_holds cX1_holds 2 (some .boolean), .fieldLink RX1 41 "TinCellar$Stock" "place" "LTinCellar$Row;", .methodLink RX1 68 yX0_get, .instanceMethod yX0_get, .selects RX0 yX0_get yX0_get, .initialized RX0, .code yX0_get cX0_get 2 (some .int), .fieldLink RX0 13 "TinCellar$Row" "cells" "[I", .methodLink RX2 77 yX0_get] ++ wsX20 ++ wsX10 ++ wsX00 ++ (vx_atS RX2 247 "java/lang/IndexOutOfBoundsException" ["java/lang/RuntimeException", "java/lang/Exception"]).filter goodWord)
def wsX2_vacuumOf : List Cond := .code yX2_vacuumOf cX2_vacuumOf 2 (some .int) :: ([.fieldLink RX2 10 "TinCellar" "now" "LTinCellar$Stock;", .methodLink RX2 65 yX2_needTin, .instanceMethod yX2_needTin, .selects RX2 yX2_needTin yX2_needTin, .initialized RX2, .code yX2_needTin cX2_needTin 2 none, .classLink RX2 243 "java/lang/IndexOutOfBoundsException", .initialized "java/lang/IndexOutOfBoundsException", .methodLink RX2 19 yX2_isWithin, .static yX2_isWithin, .code yX2_isWithin cX2_isWithin 3 (some .boolean), .methodLink RX2 77 yX0_get, .instanceMethod yX0_get, .selects RX0 yX0_get yX0_get, .initialized RX0, .code yX0_get cX0_get 2 (some .int), .fieldLink RX0 13 "TinCellar$Row" "cells" "[I"] ++ wsX20 ++ wsX10 ++ wsX00 ++ (vx_atS RX2 247 "java/lang/IndexOutOfBoundsException" ["java/lang/RuntimeException", "java/lang/Exception"]).filter goodWord)
def wsX2_isShipped : List Cond := .code yX2_isShipped cX2_isShipped 2 (some .boolean) :: ([.fieldLink RX2 10 "TinCellar" "now" "LTinCellar$Stock;", .methodLink RX2 65 yX2_needTin, .instanceMethod yX2_needTin, .selects RX2 yX2_needTin yX2_needTin, .initialized RX2, .code yX2_needTin cX2_needTin 2 none, .classLink RX2 243 "java/lang/IndexOutOfBoundsException", .initialized "java/lang/IndexOutOfBoundsException", .methodLink RX2 19 yX2_isWithin, .static yX2_isWithin, .code yX2_isWithin cX2_isWithin 3 (some .boolean), .methodLink RX2 77 yX0_get, .instanceMethod yX0_get, .selects RX0 yX0_get yX0_get, .initialized RX0, .code yX0_get cX0_get 2 (some .int), .fieldLink RX0 13 "TinCellar$Row" "cells" "[I"] ++ wsX20 ++ wsX10 ++ wsX00 ++ (vx_atS RX2 247 "java/lang/IndexOutOfBoundsException" ["java/lang/RuntimeException", "java/lang/Exception"]).filter goodWord)
def wsX2_isLost : List Cond := .code yX2_isLost cX2_isLost 2 (some .boolean) :: ([.fieldLink RX2 10 "TinCellar" "now" "LTinCellar$Stock;", .methodLink RX2 65 yX2_needTin, .instanceMethod yX2_needTin, .selects RX2 yX2_needTin yX2_needTin, .initialized RX2, .code yX2_needTin cX2_needTin 2 none, .classLink RX2 243 "java/lang/IndexOutOfBoundsException", .initialized "java/lang/IndexOutOfBoundsException", .methodLink RX2 19 yX2_isWithin, .static yX2_isWithin, .code yX2_isWithin cX2_isWithin 3 (some .boolean), .methodLink RX2 77 yX0_get, .instanceMethod yX0_get, .selects RX0 yX0_get yX0_get, .initialized RX0, .code yX0_get cX0_get 2 (some .int), .fieldLink RX0 13 "TinCellar$Row" "cells" "[I"] ++ wsX20 ++ wsX10 ++ wsX00 ++ (vx_atS RX2 247 "java/lang/IndexOutOfBoundsException" ["java/lang/RuntimeException", "java/lang/Exception"]).filter goodWord)
def wsX2_swelledOf : List Cond := .code yX2_swelledOf cX2_swelledOf 2 (some .int) :: ([.fieldLink RX2 10 "TinCellar" "now" "LTinCellar$Stock;", .methodLink RX2 43 yX2_needBatch, .instanceMethod yX2_needBatch, .selects RX2 yX2_needBatch yX2_needBatch, .initialized RX2, .code yX2_needBatch cX2_needBatch 2 none, .classLink RX2 243 "java/lang/IndexOutOfBoundsException", .initialized "java/lang/IndexOutOfBoundsException", .methodLink RX2 19 yX2_isWithin, .static yX2_isWithin, .code yX2_isWithin cX2_isWithin 3 (some .boolean), .methodLink RX2 77 yX0_get, .instanceMethod yX0_get, .selects RX0 yX0_get yX0_get, .initialized RX0, .code yX0_get cX0_get 2 (some .int), .fieldLink RX0 13 "TinCellar$Row" "cells" "[I"] ++ wsX20 ++ wsX10 ++ wsX00 ++ (vx_atS RX2 247 "java/lang/IndexOutOfBoundsException" ["java/lang/RuntimeException", "java/lang/Exception"]).filter goodWord)
def wsX2_leftOf_r1 : List Cond := [Cond.fieldLink RX2 10 "TinCellar" "now" "LTinCellar$Stock;", Cond.methodLink RX2 43 yX2_needBatch, Cond.instanceMethod yX2_needBatch, Cond.selects RX2 yX2_needBatch yX2_needBatch, Cond.initialized RX2, Cond.code yX2_needBatch cX2_needBatch 2 none, Cond.classLink RX2 243 "java/lang/IndexOutOfBoundsException", Cond.initialized "java/lang/IndexOutOfBoundsException", Cond.methodLink RX2 19 yX2_isWithin, Cond.static yX2_isWithin, Cond.code yX2_isWithin cX2_isWithin 3 (some .boolean), Cond.methodLink RX2 120 yX1_countHeldWith, Cond.instanceMethod yX1_countHeldWith, Cond.selects RX1 yX1_countHeldWith yX1_countHeldWith, Cond.initialized RX1, Cond.code yX1_countHeldWith cX1_countHeldWith 5 (some .int), Cond.fieldLink RX1 55 "TinCellar$Stock" "tinCount" "I", Cond.methodLink RX1 84 yX1_holds, Cond.instanceMethod yX1_holds, Cond.selects RX1 yX1_holds yX1_holds, Cond.code yX1_holds cX1_holds 2 (some .boolean), Cond.fieldLink RX1 41 "TinCellar$Stock" "place" "LTinCellar$Row;", Cond.methodLink RX1 68 yX0_get, Cond.instanceMethod yX0_get]
def wsX2_leftOf_r2 : List Cond := [Cond.selects RX0 yX0_get yX0_get, Cond.initialized RX0, Cond.code yX0_get cX0_get 2 (some .int), Cond.fieldLink RX0 13 "TinCellar$Row" "cells" "[I"]
def wsX2_leftOf : List Cond := .code yX2_leftOf cX2_leftOf 2 (some .int) :: ((wsX2_leftOf_r1 ++ wsX2_leftOf_r2) ++ wsX20 ++ wsX10 ++ wsX00 ++ (vx_atS RX2 247 "java/lang/IndexOutOfBoundsException" ["java/lang/RuntimeException", "java/lang/Exception"]).filter goodWord)
def wsX2_isRecalled : List Cond := .code yX2_isRecalled cX2_isRecalled 2 (some .boolean) :: ([.fieldLink RX2 10 "TinCellar" "now" "LTinCellar$Stock;", .methodLink RX2 43 yX2_needBatch, .instanceMethod yX2_needBatch, .selects RX2 yX2_needBatch yX2_needBatch, .initialized RX2, .code yX2_needBatch cX2_needBatch 2 none, .classLink RX2 243 "java/lang/IndexOutOfBoundsException", .initialized "java/lang/IndexOutOfBoundsException", .methodLink RX2 19 yX2_isWithin, .static yX2_isWithin, .code yX2_isWithin cX2_isWithin 3 (some .boolean), .methodLink RX2 55 yX1_isBatchRecalled, .instanceMethod yX1_isBatchRecalled, .selects RX1 yX1_isBatchRecalled yX1_isBatchRecalled, .initialized RX1, .code yX1_isBatchRecalled cX1_isBatchRecalled 2 (some .boolean), .fieldLink RX1 29 "TinCellar$Stock" "recalled" "LTinCellar$Row;", .methodLink RX1 68 yX0_get, .instanceMethod yX0_get, .selects RX0 yX0_get yX0_get, .initialized RX0, .code yX0_get cX0_get 2 (some .int), .fieldLink RX0 13 "TinCellar$Row" "cells" "[I"] ++ wsX20 ++ wsX10 ++ wsX00 ++ (vx_atS RX2 247 "java/lang/IndexOutOfBoundsException" ["java/lang/RuntimeException", "java/lang/Exception"]).filter goodWord)
def wsX2_first_r1 : List Cond := [Cond.fieldLink RX2 10 "TinCellar" "now" "LTinCellar$Stock;", Cond.methodLink RX2 133 yX2_needOrder, Cond.static yX2_needOrder, Cond.initialized RX2, Cond.code yX2_needOrder cX2_needOrder 1 none, Cond.classLink RX2 23 "java/lang/IllegalArgumentException", Cond.initialized "java/lang/IllegalArgumentException", Cond.methodLink RX2 19 yX2_isWithin, Cond.static yX2_isWithin, Cond.code yX2_isWithin cX2_isWithin 3 (some .boolean), Cond.methodLink RX2 136 yX1_firstBy, Cond.instanceMethod yX1_firstBy, Cond.selects RX1 yX1_firstBy yX1_firstBy, Cond.initialized RX1, Cond.code yX1_firstBy cX1_firstBy 6 (some .int), Cond.fieldLink RX1 55 "TinCellar$Stock" "tinCount" "I", Cond.methodLink RX1 84 yX1_holds, Cond.instanceMethod yX1_holds, Cond.selects RX1 yX1_holds yX1_holds, Cond.code yX1_holds cX1_holds 2 (some .boolean), Cond.fieldLink RX1 41 "TinCellar$Stock" "place" "LTinCellar$Row;", Cond.methodLink RX1 68 yX0_get, Cond.instanceMethod yX0_get, Cond.selects RX0 yX0_get yX0_get]
def wsX2_first_r2 : List Cond := [Cond.initialized RX0, Cond.code yX0_get cX0_get 2 (some .int), Cond.fieldLink RX0 13 "TinCellar$Row" "cells" "[I", Cond.methodLink RX1 106 yX1_rankBy, Cond.instanceMethod yX1_rankBy, Cond.selects RX1 yX1_rankBy yX1_rankBy, Cond.code yX1_rankBy cX1_rankBy 3 (some .int), Cond.fieldLink RX1 38 "TinCellar$Stock" "vacuum" "LTinCellar$Row;", Cond.fieldLink RX1 14 "TinCellar$Stock" "warm" "LTinCellar$Row;", Cond.fieldLink RX1 35 "TinCellar$Stock" "shelf" "LTinCellar$Row;"]
def wsX2_first : List Cond := .code yX2_first cX2_first 2 (some .int) :: ((wsX2_first_r1 ++ wsX2_first_r2) ++ wsX20 ++ wsX10 ++ wsX00 ++ (vx_atS RX2 27 "java/lang/IllegalArgumentException" ["java/lang/RuntimeException", "java/lang/Exception"]).filter goodWord)
def wsX2_placeBy_r1 : List Cond := [Cond.fieldLink RX2 10 "TinCellar" "now" "LTinCellar$Stock;", Cond.methodLink RX2 65 yX2_needTin, Cond.instanceMethod yX2_needTin, Cond.selects RX2 yX2_needTin yX2_needTin, Cond.initialized RX2, Cond.code yX2_needTin cX2_needTin 2 none, Cond.classLink RX2 243 "java/lang/IndexOutOfBoundsException", Cond.initialized "java/lang/IndexOutOfBoundsException", Cond.methodLink RX2 19 yX2_isWithin, Cond.static yX2_isWithin, Cond.code yX2_isWithin cX2_isWithin 3 (some .boolean), Cond.methodLink RX2 133 yX2_needOrder, Cond.static yX2_needOrder, Cond.code yX2_needOrder cX2_needOrder 1 none, Cond.classLink RX2 23 "java/lang/IllegalArgumentException", Cond.initialized "java/lang/IllegalArgumentException", Cond.methodLink RX2 68 yX1_holds, Cond.instanceMethod yX1_holds, Cond.selects RX1 yX1_holds yX1_holds, Cond.initialized RX1, Cond.code yX1_holds cX1_holds 2 (some .boolean), Cond.fieldLink RX1 41 "TinCellar$Stock" "place" "LTinCellar$Row;", Cond.methodLink RX1 68 yX0_get, Cond.instanceMethod yX0_get]
def wsX2_placeBy_r2 : List Cond := [Cond.selects RX0 yX0_get yX0_get, Cond.initialized RX0, Cond.code yX0_get cX0_get 2 (some .int), Cond.fieldLink RX0 13 "TinCellar$Row" "cells" "[I", Cond.methodLink RX2 139 yX1_countAheadOf, Cond.instanceMethod yX1_countAheadOf, Cond.selects RX1 yX1_countAheadOf yX1_countAheadOf, Cond.code yX1_countAheadOf cX1_countAheadOf 6 (some .int), Cond.fieldLink RX1 55 "TinCellar$Stock" "tinCount" "I", Cond.methodLink RX1 106 yX1_rankBy, Cond.instanceMethod yX1_rankBy, Cond.selects RX1 yX1_rankBy yX1_rankBy, Cond.code yX1_rankBy cX1_rankBy 3 (some .int), Cond.fieldLink RX1 38 "TinCellar$Stock" "vacuum" "LTinCellar$Row;", Cond.fieldLink RX1 14 "TinCellar$Stock" "warm" "LTinCellar$Row;", Cond.fieldLink RX1 35 "TinCellar$Stock" "shelf" "LTinCellar$Row;", Cond.methodLink RX1 84 yX1_holds]
def wsX2_placeBy : List Cond := .code yX2_placeBy cX2_placeBy 3 (some .int) :: ((wsX2_placeBy_r1 ++ wsX2_placeBy_r2) ++ wsX20 ++ wsX10 ++ wsX00 ++ (vx_atS RX2 247 "java/lang/IndexOutOfBoundsException" ["java/lang/RuntimeException", "java/lang/Exception"]).filter goodWord ++ (vx_atS RX2 27 "java/lang/IllegalArgumentException" ["java/lang/RuntimeException", "java/lang/Exception"]).filter goodWord)
def wsX2_daysOf_r1 : List Cond := [Cond.fieldLink RX2 10 "TinCellar" "now" "LTinCellar$Stock;", Cond.methodLink RX2 65 yX2_needTin, Cond.instanceMethod yX2_needTin, Cond.selects RX2 yX2_needTin yX2_needTin, Cond.initialized RX2, Cond.code yX2_needTin cX2_needTin 2 none, Cond.classLink RX2 243 "java/lang/IndexOutOfBoundsException", Cond.initialized "java/lang/IndexOutOfBoundsException", Cond.methodLink RX2 19 yX2_isWithin, Cond.static yX2_isWithin, Cond.code yX2_isWithin cX2_isWithin 3 (some .boolean), Cond.methodLink RX2 68 yX1_holds, Cond.instanceMethod yX1_holds, Cond.selects RX1 yX1_holds yX1_holds, Cond.initialized RX1, Cond.code yX1_holds cX1_holds 2 (some .boolean), Cond.fieldLink RX1 41 "TinCellar$Stock" "place" "LTinCellar$Row;", Cond.methodLink RX1 68 yX0_get, Cond.instanceMethod yX0_get, Cond.selects RX0 yX0_get yX0_get, Cond.initialized RX0, Cond.code yX0_get cX0_get 2 (some .int), Cond.fieldLink RX0 13 "TinCellar$Row" "cells" "[I", Cond.methodLink RX2 77 yX0_get]
def wsX2_daysOf_r2 : List Cond := [Cond.methodLink RX2 142 yX1_daysToSwell, Cond.instanceMethod yX1_daysToSwell, Cond.selects RX1 yX1_daysToSwell yX1_daysToSwell, Cond.code yX1_daysToSwell cX1_daysToSwell 4 (some .int), Cond.fieldLink RX1 38 "TinCellar$Stock" "vacuum" "LTinCellar$Row;", Cond.methodLink RX1 88 yX1_wearOn, Cond.instanceMethod yX1_wearOn, Cond.selects RX1 yX1_wearOn yX1_wearOn, Cond.code yX1_wearOn cX1_wearOn 3 (some .int), Cond.fieldLink RX1 23 "TinCellar$Stock" "leaks" "LTinCellar$Row;", Cond.fieldLink RX1 32 "TinCellar$Stock" "batch" "LTinCellar$Row;", Cond.fieldLink RX1 14 "TinCellar$Stock" "warm" "LTinCellar$Row;"]
def wsX2_daysOf : List Cond := .code yX2_daysOf cX2_daysOf 2 (some .int) :: ((wsX2_daysOf_r1 ++ wsX2_daysOf_r2) ++ wsX20 ++ wsX10 ++ wsX00 ++ (vx_atS RX2 247 "java/lang/IndexOutOfBoundsException" ["java/lang/RuntimeException", "java/lang/Exception"]).filter goodWord)
def wsX2_daysUntilRecalled_r1 : List Cond := [Cond.fieldLink RX2 10 "TinCellar" "now" "LTinCellar$Stock;", Cond.fieldLink RX2 16 "TinCellar" "trial" "LTinCellar$Stock;", Cond.methodLink RX2 43 yX2_needBatch, Cond.instanceMethod yX2_needBatch, Cond.selects RX2 yX2_needBatch yX2_needBatch, Cond.initialized RX2, Cond.code yX2_needBatch cX2_needBatch 2 none, Cond.classLink RX2 243 "java/lang/IndexOutOfBoundsException", Cond.initialized "java/lang/IndexOutOfBoundsException", Cond.methodLink RX2 19 yX2_isWithin, Cond.static yX2_isWithin, Cond.code yX2_isWithin cX2_isWithin 3 (some .boolean), Cond.methodLink RX2 55 yX1_isBatchRecalled, Cond.instanceMethod yX1_isBatchRecalled, Cond.selects RX1 yX1_isBatchRecalled yX1_isBatchRecalled, Cond.initialized RX1, Cond.code yX1_isBatchRecalled cX1_isBatchRecalled 2 (some .boolean), Cond.fieldLink RX1 29 "TinCellar$Stock" "recalled" "LTinCellar$Row;", Cond.methodLink RX1 68 yX0_get, Cond.instanceMethod yX0_get, Cond.selects RX0 yX0_get yX0_get, Cond.initialized RX0, Cond.code yX0_get cX0_get 2 (some .int), Cond.fieldLink RX0 13 "TinCellar$Row" "cells" "[I"]
def wsX2_daysUntilRecalled_r2 : List Cond := [Cond.methodLink RX2 145 yX1_copyFrom, Cond.instanceMethod yX1_copyFrom, Cond.selects RX1 yX1_copyFrom yX1_copyFrom, Cond.code yX1_copyFrom cX1_copyFrom 2 none, Cond.fieldLink RX1 14 "TinCellar$Stock" "warm" "LTinCellar$Row;", Cond.fieldLink RX1 20 "TinCellar$Stock" "vacuumAtFirst" "LTinCellar$Row;", Cond.fieldLink RX1 23 "TinCellar$Stock" "leaks" "LTinCellar$Row;", Cond.fieldLink RX1 26 "TinCellar$Stock" "swelledLids" "LTinCellar$Row;", Cond.fieldLink RX1 52 "TinCellar$Stock" "batchCount" "I", Cond.fieldLink RX1 32 "TinCellar$Stock" "batch" "LTinCellar$Row;", Cond.fieldLink RX1 35 "TinCellar$Stock" "shelf" "LTinCellar$Row;", Cond.fieldLink RX1 38 "TinCellar$Stock" "vacuum" "LTinCellar$Row;", Cond.fieldLink RX1 41 "TinCellar$Stock" "place" "LTinCellar$Row;", Cond.fieldLink RX1 55 "TinCellar$Stock" "tinCount" "I", Cond.fieldLink RX1 58 "TinCellar$Stock" "shippedADay" "I", Cond.fieldLink RX1 44 "TinCellar$Stock" "order" "I", Cond.fieldLink RX1 61 "TinCellar$Stock" "day" "I", Cond.methodLink RX1 48 yX0_copyFrom, Cond.instanceMethod yX0_copyFrom, Cond.selects RX0 yX0_copyFrom yX0_copyFrom, Cond.code yX0_copyFrom cX0_copyFrom 3 none, Cond.methodLink RX0 19 yX0_get, Cond.methodLink RX2 111 yX1_passDay, Cond.instanceMethod yX1_passDay]
def wsX2_daysUntilRecalled_r3 : List Cond := [Cond.selects RX1 yX1_passDay yX1_passDay, Cond.code yX1_passDay cX1_passDay 2 none, Cond.methodLink RX1 72 yX1_wearTins, Cond.instanceMethod yX1_wearTins, Cond.selects RX1 yX1_wearTins yX1_wearTins, Cond.code yX1_wearTins cX1_wearTins 2 none, Cond.methodLink RX1 92 Lib.Math.max.name, Cond.static Lib.Math.max.name, Cond.initialized "java/lang/Math", Cond.code Lib.Math.max.name Lib.Math.max.code 2 (some .int), Cond.methodLink RX1 84 yX1_holds, Cond.instanceMethod yX1_holds, Cond.selects RX1 yX1_holds yX1_holds, Cond.code yX1_holds cX1_holds 2 (some .boolean), Cond.methodLink RX1 88 yX1_wearOn, Cond.instanceMethod yX1_wearOn, Cond.selects RX1 yX1_wearOn yX1_wearOn, Cond.code yX1_wearOn cX1_wearOn 3 (some .int), Cond.methodLink RX1 64 yX0_set, Cond.instanceMethod yX0_set, Cond.selects RX0 yX0_set yX0_set, Cond.code yX0_set cX0_set 3 none, Cond.methodLink RX1 97 yX1_swellLid, Cond.instanceMethod yX1_swellLid]
def wsX2_daysUntilRecalled_r4 : List Cond := [Cond.selects RX1 yX1_swellLid yX1_swellLid, Cond.code yX1_swellLid cX1_swellLid 3 none, Cond.methodLink RX1 75 yX1_recallSwelled, Cond.instanceMethod yX1_recallSwelled, Cond.selects RX1 yX1_recallSwelled yX1_recallSwelled, Cond.code yX1_recallSwelled cX1_recallSwelled 2 none, Cond.methodLink RX1 100 yX1_isBatchRecalled, Cond.methodLink RX1 103 yX1_recallBatch, Cond.instanceMethod yX1_recallBatch, Cond.selects RX1 yX1_recallBatch yX1_recallBatch, Cond.code yX1_recallBatch cX1_recallBatch 4 (some .int), Cond.methodLink RX1 78 yX1_firstBy, Cond.instanceMethod yX1_firstBy, Cond.selects RX1 yX1_firstBy yX1_firstBy, Cond.code yX1_firstBy cX1_firstBy 6 (some .int), Cond.methodLink RX1 106 yX1_rankBy, Cond.instanceMethod yX1_rankBy, Cond.selects RX1 yX1_rankBy yX1_rankBy, Cond.code yX1_rankBy cX1_rankBy 3 (some .int), Cond.methodLink RX1 81 yX1_ship, Cond.instanceMethod yX1_ship, Cond.selects RX1 yX1_ship yX1_ship, Cond.code yX1_ship cX1_ship 2 none]
def wsX2_daysUntilRecalled : List Cond := .code yX2_daysUntilRecalled cX2_daysUntilRecalled 3 (some .int) :: ((wsX2_daysUntilRecalled_r1 ++ (wsX2_daysUntilRecalled_r2 ++ (wsX2_daysUntilRecalled_r3 ++ wsX2_daysUntilRecalled_r4))) ++ wsX20 ++ wsX10 ++ wsX00 ++ (vx_atS RX2 247 "java/lang/IndexOutOfBoundsException" ["java/lang/RuntimeException", "java/lang/Exception"]).filter goodWord)
def wsX2_lossBy_r1 : List Cond := [Cond.fieldLink RX2 16 "TinCellar" "trial" "LTinCellar$Stock;", Cond.fieldLink RX2 10 "TinCellar" "now" "LTinCellar$Stock;", Cond.methodLink RX2 145 yX1_copyFrom, Cond.instanceMethod yX1_copyFrom, Cond.selects RX1 yX1_copyFrom yX1_copyFrom, Cond.initialized RX1, Cond.code yX1_copyFrom cX1_copyFrom 2 none, Cond.fieldLink RX1 14 "TinCellar$Stock" "warm" "LTinCellar$Row;", Cond.fieldLink RX1 20 "TinCellar$Stock" "vacuumAtFirst" "LTinCellar$Row;", Cond.fieldLink RX1 23 "TinCellar$Stock" "leaks" "LTinCellar$Row;", Cond.fieldLink RX1 26 "TinCellar$Stock" "swelledLids" "LTinCellar$Row;", Cond.fieldLink RX1 29 "TinCellar$Stock" "recalled" "LTinCellar$Row;", Cond.fieldLink RX1 52 "TinCellar$Stock" "batchCount" "I", Cond.fieldLink RX1 32 "TinCellar$Stock" "batch" "LTinCellar$Row;", Cond.fieldLink RX1 35 "TinCellar$Stock" "shelf" "LTinCellar$Row;", Cond.fieldLink RX1 38 "TinCellar$Stock" "vacuum" "LTinCellar$Row;", Cond.fieldLink RX1 41 "TinCellar$Stock" "place" "LTinCellar$Row;", Cond.fieldLink RX1 55 "TinCellar$Stock" "tinCount" "I", Cond.fieldLink RX1 58 "TinCellar$Stock" "shippedADay" "I", Cond.fieldLink RX1 44 "TinCellar$Stock" "order" "I", Cond.fieldLink RX1 61 "TinCellar$Stock" "day" "I", Cond.methodLink RX1 48 yX0_copyFrom, Cond.instanceMethod yX0_copyFrom, Cond.selects RX0 yX0_copyFrom yX0_copyFrom]
def wsX2_lossBy_r2 : List Cond := [Cond.initialized RX0, Cond.code yX0_copyFrom cX0_copyFrom 3 none, Cond.fieldLink RX0 13 "TinCellar$Row" "cells" "[I", Cond.methodLink RX0 19 yX0_get, Cond.instanceMethod yX0_get, Cond.selects RX0 yX0_get yX0_get, Cond.code yX0_get cX0_get 2 (some .int), Cond.methodLink RX2 111 yX1_passDay, Cond.instanceMethod yX1_passDay, Cond.selects RX1 yX1_passDay yX1_passDay, Cond.code yX1_passDay cX1_passDay 2 none, Cond.methodLink RX1 72 yX1_wearTins, Cond.instanceMethod yX1_wearTins, Cond.selects RX1 yX1_wearTins yX1_wearTins, Cond.code yX1_wearTins cX1_wearTins 2 none, Cond.methodLink RX1 92 Lib.Math.max.name, Cond.static Lib.Math.max.name, Cond.initialized "java/lang/Math", Cond.code Lib.Math.max.name Lib.Math.max.code 2 (some .int), Cond.methodLink RX1 84 yX1_holds, Cond.instanceMethod yX1_holds, Cond.selects RX1 yX1_holds yX1_holds, Cond.code yX1_holds cX1_holds 2 (some .boolean), Cond.methodLink RX1 68 yX0_get]
def wsX2_lossBy_r3 : List Cond := [Cond.methodLink RX1 88 yX1_wearOn, Cond.instanceMethod yX1_wearOn, Cond.selects RX1 yX1_wearOn yX1_wearOn, Cond.code yX1_wearOn cX1_wearOn 3 (some .int), Cond.methodLink RX1 64 yX0_set, Cond.instanceMethod yX0_set, Cond.selects RX0 yX0_set yX0_set, Cond.code yX0_set cX0_set 3 none, Cond.methodLink RX1 97 yX1_swellLid, Cond.instanceMethod yX1_swellLid, Cond.selects RX1 yX1_swellLid yX1_swellLid, Cond.code yX1_swellLid cX1_swellLid 3 none, Cond.methodLink RX1 75 yX1_recallSwelled, Cond.instanceMethod yX1_recallSwelled, Cond.selects RX1 yX1_recallSwelled yX1_recallSwelled, Cond.code yX1_recallSwelled cX1_recallSwelled 2 none, Cond.methodLink RX1 100 yX1_isBatchRecalled, Cond.instanceMethod yX1_isBatchRecalled, Cond.selects RX1 yX1_isBatchRecalled yX1_isBatchRecalled, Cond.code yX1_isBatchRecalled cX1_isBatchRecalled 2 (some .boolean), Cond.methodLink RX1 103 yX1_recallBatch, Cond.instanceMethod yX1_recallBatch, Cond.selects RX1 yX1_recallBatch yX1_recallBatch, Cond.code yX1_recallBatch cX1_recallBatch 4 (some .int)]
def wsX2_lossBy_r4 : List Cond := [Cond.methodLink RX1 78 yX1_firstBy, Cond.instanceMethod yX1_firstBy, Cond.selects RX1 yX1_firstBy yX1_firstBy, Cond.code yX1_firstBy cX1_firstBy 6 (some .int), Cond.methodLink RX1 106 yX1_rankBy, Cond.instanceMethod yX1_rankBy, Cond.selects RX1 yX1_rankBy yX1_rankBy, Cond.code yX1_rankBy cX1_rankBy 3 (some .int), Cond.methodLink RX1 81 yX1_ship, Cond.instanceMethod yX1_ship, Cond.selects RX1 yX1_ship yX1_ship, Cond.code yX1_ship cX1_ship 2 none, Cond.methodLink RX2 108 yX1_countAt, Cond.instanceMethod yX1_countAt, Cond.selects RX1 yX1_countAt yX1_countAt, Cond.code yX1_countAt cX1_countAt 4 (some .int)]
def wsX2_lossBy : List Cond := .code yX2_lossBy cX2_lossBy 4 (some .int) :: ((wsX2_lossBy_r1 ++ (wsX2_lossBy_r2 ++ (wsX2_lossBy_r3 ++ wsX2_lossBy_r4))) ++ wsX20 ++ wsX10 ++ wsX00)
def wsX2_lostWith_r1 : List Cond := [Cond.methodLink RX2 92 yX2_needShipping, Cond.static yX2_needShipping, Cond.initialized RX2, Cond.code yX2_needShipping cX2_needShipping 2 none, Cond.classLink RX2 23 "java/lang/IllegalArgumentException", Cond.initialized "java/lang/IllegalArgumentException", Cond.methodLink RX2 19 yX2_isWithin, Cond.static yX2_isWithin, Cond.code yX2_isWithin cX2_isWithin 3 (some .boolean), Cond.methodLink RX2 133 yX2_needOrder, Cond.static yX2_needOrder, Cond.code yX2_needOrder cX2_needOrder 1 none, Cond.methodLink RX2 149 yX2_lossBy, Cond.instanceMethod yX2_lossBy, Cond.selects RX2 yX2_lossBy yX2_lossBy, Cond.code yX2_lossBy cX2_lossBy 4 (some .int), Cond.fieldLink RX2 16 "TinCellar" "trial" "LTinCellar$Stock;", Cond.fieldLink RX2 10 "TinCellar" "now" "LTinCellar$Stock;", Cond.methodLink RX2 145 yX1_copyFrom, Cond.instanceMethod yX1_copyFrom, Cond.selects RX1 yX1_copyFrom yX1_copyFrom, Cond.initialized RX1, Cond.code yX1_copyFrom cX1_copyFrom 2 none, Cond.fieldLink RX1 14 "TinCellar$Stock" "warm" "LTinCellar$Row;"]
def wsX2_lostWith_r2 : List Cond := [Cond.fieldLink RX1 20 "TinCellar$Stock" "vacuumAtFirst" "LTinCellar$Row;", Cond.fieldLink RX1 23 "TinCellar$Stock" "leaks" "LTinCellar$Row;", Cond.fieldLink RX1 26 "TinCellar$Stock" "swelledLids" "LTinCellar$Row;", Cond.fieldLink RX1 29 "TinCellar$Stock" "recalled" "LTinCellar$Row;", Cond.fieldLink RX1 52 "TinCellar$Stock" "batchCount" "I", Cond.fieldLink RX1 32 "TinCellar$Stock" "batch" "LTinCellar$Row;", Cond.fieldLink RX1 35 "TinCellar$Stock" "shelf" "LTinCellar$Row;", Cond.fieldLink RX1 38 "TinCellar$Stock" "vacuum" "LTinCellar$Row;", Cond.fieldLink RX1 41 "TinCellar$Stock" "place" "LTinCellar$Row;", Cond.fieldLink RX1 55 "TinCellar$Stock" "tinCount" "I", Cond.fieldLink RX1 58 "TinCellar$Stock" "shippedADay" "I", Cond.fieldLink RX1 44 "TinCellar$Stock" "order" "I", Cond.fieldLink RX1 61 "TinCellar$Stock" "day" "I", Cond.methodLink RX1 48 yX0_copyFrom, Cond.instanceMethod yX0_copyFrom, Cond.selects RX0 yX0_copyFrom yX0_copyFrom, Cond.initialized RX0, Cond.code yX0_copyFrom cX0_copyFrom 3 none, Cond.fieldLink RX0 13 "TinCellar$Row" "cells" "[I", Cond.methodLink RX0 19 yX0_get, Cond.instanceMethod yX0_get, Cond.selects RX0 yX0_get yX0_get, Cond.code yX0_get cX0_get 2 (some .int), Cond.methodLink RX2 111 yX1_passDay]
def wsX2_lostWith_r3 : List Cond := [Cond.instanceMethod yX1_passDay, Cond.selects RX1 yX1_passDay yX1_passDay, Cond.code yX1_passDay cX1_passDay 2 none, Cond.methodLink RX1 72 yX1_wearTins, Cond.instanceMethod yX1_wearTins, Cond.selects RX1 yX1_wearTins yX1_wearTins, Cond.code yX1_wearTins cX1_wearTins 2 none, Cond.methodLink RX1 92 Lib.Math.max.name, Cond.static Lib.Math.max.name, Cond.initialized "java/lang/Math", Cond.code Lib.Math.max.name Lib.Math.max.code 2 (some .int), Cond.methodLink RX1 84 yX1_holds, Cond.instanceMethod yX1_holds, Cond.selects RX1 yX1_holds yX1_holds, Cond.code yX1_holds cX1_holds 2 (some .boolean), Cond.methodLink RX1 68 yX0_get, Cond.methodLink RX1 88 yX1_wearOn, Cond.instanceMethod yX1_wearOn, Cond.selects RX1 yX1_wearOn yX1_wearOn, Cond.code yX1_wearOn cX1_wearOn 3 (some .int), Cond.methodLink RX1 64 yX0_set, Cond.instanceMethod yX0_set, Cond.selects RX0 yX0_set yX0_set, Cond.code yX0_set cX0_set 3 none]
def wsX2_lostWith_r4 : List Cond := [Cond.methodLink RX1 97 yX1_swellLid, Cond.instanceMethod yX1_swellLid, Cond.selects RX1 yX1_swellLid yX1_swellLid, Cond.code yX1_swellLid cX1_swellLid 3 none, Cond.methodLink RX1 75 yX1_recallSwelled, Cond.instanceMethod yX1_recallSwelled, Cond.selects RX1 yX1_recallSwelled yX1_recallSwelled, Cond.code yX1_recallSwelled cX1_recallSwelled 2 none, Cond.methodLink RX1 100 yX1_isBatchRecalled, Cond.instanceMethod yX1_isBatchRecalled, Cond.selects RX1 yX1_isBatchRecalled yX1_isBatchRecalled, Cond.code yX1_isBatchRecalled cX1_isBatchRecalled 2 (some .boolean), Cond.methodLink RX1 103 yX1_recallBatch, Cond.instanceMethod yX1_recallBatch, Cond.selects RX1 yX1_recallBatch yX1_recallBatch, Cond.code yX1_recallBatch cX1_recallBatch 4 (some .int), Cond.methodLink RX1 78 yX1_firstBy, Cond.instanceMethod yX1_firstBy, Cond.selects RX1 yX1_firstBy yX1_firstBy, Cond.code yX1_firstBy cX1_firstBy 6 (some .int), Cond.methodLink RX1 106 yX1_rankBy, Cond.instanceMethod yX1_rankBy, Cond.selects RX1 yX1_rankBy yX1_rankBy, Cond.code yX1_rankBy cX1_rankBy 3 (some .int)]
def wsX2_lostWith_r5 : List Cond := [Cond.methodLink RX1 81 yX1_ship, Cond.instanceMethod yX1_ship, Cond.selects RX1 yX1_ship yX1_ship, Cond.code yX1_ship cX1_ship 2 none, Cond.methodLink RX2 108 yX1_countAt, Cond.instanceMethod yX1_countAt, Cond.selects RX1 yX1_countAt yX1_countAt, Cond.code yX1_countAt cX1_countAt 4 (some .int)]
def wsX2_lostWith : List Cond := .code yX2_lostWith cX2_lostWith 3 (some .int) :: ((wsX2_lostWith_r1 ++ (wsX2_lostWith_r2 ++ (wsX2_lostWith_r3 ++ (wsX2_lostWith_r4 ++ wsX2_lostWith_r5)))) ++ wsX20 ++ wsX10 ++ wsX00 ++ (vx_atS RX2 27 "java/lang/IllegalArgumentException" ["java/lang/RuntimeException", "java/lang/Exception"]).filter goodWord)
def wsX2_bestOrder_r1 : List Cond := [Cond.fieldLink RX2 10 "TinCellar" "now" "LTinCellar$Stock;", Cond.methodLink RX2 149 yX2_lossBy, Cond.instanceMethod yX2_lossBy, Cond.selects RX2 yX2_lossBy yX2_lossBy, Cond.initialized RX2, Cond.code yX2_lossBy cX2_lossBy 4 (some .int), Cond.fieldLink RX2 16 "TinCellar" "trial" "LTinCellar$Stock;", Cond.methodLink RX2 145 yX1_copyFrom, Cond.instanceMethod yX1_copyFrom, Cond.selects RX1 yX1_copyFrom yX1_copyFrom, Cond.initialized RX1, Cond.code yX1_copyFrom cX1_copyFrom 2 none, Cond.fieldLink RX1 14 "TinCellar$Stock" "warm" "LTinCellar$Row;", Cond.fieldLink RX1 20 "TinCellar$Stock" "vacuumAtFirst" "LTinCellar$Row;", Cond.fieldLink RX1 23 "TinCellar$Stock" "leaks" "LTinCellar$Row;", Cond.fieldLink RX1 26 "TinCellar$Stock" "swelledLids" "LTinCellar$Row;", Cond.fieldLink RX1 29 "TinCellar$Stock" "recalled" "LTinCellar$Row;", Cond.fieldLink RX1 52 "TinCellar$Stock" "batchCount" "I", Cond.fieldLink RX1 32 "TinCellar$Stock" "batch" "LTinCellar$Row;", Cond.fieldLink RX1 35 "TinCellar$Stock" "shelf" "LTinCellar$Row;", Cond.fieldLink RX1 38 "TinCellar$Stock" "vacuum" "LTinCellar$Row;", Cond.fieldLink RX1 41 "TinCellar$Stock" "place" "LTinCellar$Row;", Cond.fieldLink RX1 55 "TinCellar$Stock" "tinCount" "I", Cond.fieldLink RX1 58 "TinCellar$Stock" "shippedADay" "I"]
def wsX2_bestOrder_r2 : List Cond := [Cond.fieldLink RX1 44 "TinCellar$Stock" "order" "I", Cond.fieldLink RX1 61 "TinCellar$Stock" "day" "I", Cond.methodLink RX1 48 yX0_copyFrom, Cond.instanceMethod yX0_copyFrom, Cond.selects RX0 yX0_copyFrom yX0_copyFrom, Cond.initialized RX0, Cond.code yX0_copyFrom cX0_copyFrom 3 none, Cond.fieldLink RX0 13 "TinCellar$Row" "cells" "[I", Cond.methodLink RX0 19 yX0_get, Cond.instanceMethod yX0_get, Cond.selects RX0 yX0_get yX0_get, Cond.code yX0_get cX0_get 2 (some .int), Cond.methodLink RX2 111 yX1_passDay, Cond.instanceMethod yX1_passDay, Cond.selects RX1 yX1_passDay yX1_passDay, Cond.code yX1_passDay cX1_passDay 2 none, Cond.methodLink RX1 72 yX1_wearTins, Cond.instanceMethod yX1_wearTins, Cond.selects RX1 yX1_wearTins yX1_wearTins, Cond.code yX1_wearTins cX1_wearTins 2 none, Cond.methodLink RX1 92 Lib.Math.max.name, Cond.static Lib.Math.max.name, Cond.initialized "java/lang/Math", Cond.code Lib.Math.max.name Lib.Math.max.code 2 (some .int)]
def wsX2_bestOrder_r3 : List Cond := [Cond.methodLink RX1 84 yX1_holds, Cond.instanceMethod yX1_holds, Cond.selects RX1 yX1_holds yX1_holds, Cond.code yX1_holds cX1_holds 2 (some .boolean), Cond.methodLink RX1 68 yX0_get, Cond.methodLink RX1 88 yX1_wearOn, Cond.instanceMethod yX1_wearOn, Cond.selects RX1 yX1_wearOn yX1_wearOn, Cond.code yX1_wearOn cX1_wearOn 3 (some .int), Cond.methodLink RX1 64 yX0_set, Cond.instanceMethod yX0_set, Cond.selects RX0 yX0_set yX0_set, Cond.code yX0_set cX0_set 3 none, Cond.methodLink RX1 97 yX1_swellLid, Cond.instanceMethod yX1_swellLid, Cond.selects RX1 yX1_swellLid yX1_swellLid, Cond.code yX1_swellLid cX1_swellLid 3 none, Cond.methodLink RX1 75 yX1_recallSwelled, Cond.instanceMethod yX1_recallSwelled, Cond.selects RX1 yX1_recallSwelled yX1_recallSwelled, Cond.code yX1_recallSwelled cX1_recallSwelled 2 none, Cond.methodLink RX1 100 yX1_isBatchRecalled, Cond.instanceMethod yX1_isBatchRecalled, Cond.selects RX1 yX1_isBatchRecalled yX1_isBatchRecalled]
def wsX2_bestOrder_r4 : List Cond := [Cond.code yX1_isBatchRecalled cX1_isBatchRecalled 2 (some .boolean), Cond.methodLink RX1 103 yX1_recallBatch, Cond.instanceMethod yX1_recallBatch, Cond.selects RX1 yX1_recallBatch yX1_recallBatch, Cond.code yX1_recallBatch cX1_recallBatch 4 (some .int), Cond.methodLink RX1 78 yX1_firstBy, Cond.instanceMethod yX1_firstBy, Cond.selects RX1 yX1_firstBy yX1_firstBy, Cond.code yX1_firstBy cX1_firstBy 6 (some .int), Cond.methodLink RX1 106 yX1_rankBy, Cond.instanceMethod yX1_rankBy, Cond.selects RX1 yX1_rankBy yX1_rankBy, Cond.code yX1_rankBy cX1_rankBy 3 (some .int), Cond.methodLink RX1 81 yX1_ship, Cond.instanceMethod yX1_ship, Cond.selects RX1 yX1_ship yX1_ship, Cond.code yX1_ship cX1_ship 2 none, Cond.methodLink RX2 108 yX1_countAt, Cond.instanceMethod yX1_countAt, Cond.selects RX1 yX1_countAt yX1_countAt, Cond.code yX1_countAt cX1_countAt 4 (some .int)]
def wsX2_bestOrder : List Cond := .code yX2_bestOrder cX2_bestOrder 5 (some .int) :: ((wsX2_bestOrder_r1 ++ (wsX2_bestOrder_r2 ++ (wsX2_bestOrder_r3 ++ wsX2_bestOrder_r4))) ++ wsX20 ++ wsX10 ++ wsX00)
def wsX2_shippingWanted_r1 : List Cond := [Cond.fieldLink RX2 10 "TinCellar" "now" "LTinCellar$Stock;", Cond.methodLink RX2 149 yX2_lossBy, Cond.instanceMethod yX2_lossBy, Cond.selects RX2 yX2_lossBy yX2_lossBy, Cond.initialized RX2, Cond.code yX2_lossBy cX2_lossBy 4 (some .int), Cond.fieldLink RX2 16 "TinCellar" "trial" "LTinCellar$Stock;", Cond.methodLink RX2 145 yX1_copyFrom, Cond.instanceMethod yX1_copyFrom, Cond.selects RX1 yX1_copyFrom yX1_copyFrom, Cond.initialized RX1, Cond.code yX1_copyFrom cX1_copyFrom 2 none, Cond.fieldLink RX1 14 "TinCellar$Stock" "warm" "LTinCellar$Row;", Cond.fieldLink RX1 20 "TinCellar$Stock" "vacuumAtFirst" "LTinCellar$Row;", Cond.fieldLink RX1 23 "TinCellar$Stock" "leaks" "LTinCellar$Row;", Cond.fieldLink RX1 26 "TinCellar$Stock" "swelledLids" "LTinCellar$Row;", Cond.fieldLink RX1 29 "TinCellar$Stock" "recalled" "LTinCellar$Row;", Cond.fieldLink RX1 52 "TinCellar$Stock" "batchCount" "I", Cond.fieldLink RX1 32 "TinCellar$Stock" "batch" "LTinCellar$Row;", Cond.fieldLink RX1 35 "TinCellar$Stock" "shelf" "LTinCellar$Row;", Cond.fieldLink RX1 38 "TinCellar$Stock" "vacuum" "LTinCellar$Row;", Cond.fieldLink RX1 41 "TinCellar$Stock" "place" "LTinCellar$Row;", Cond.fieldLink RX1 55 "TinCellar$Stock" "tinCount" "I", Cond.fieldLink RX1 58 "TinCellar$Stock" "shippedADay" "I"]
def wsX2_shippingWanted_r2 : List Cond := [Cond.fieldLink RX1 44 "TinCellar$Stock" "order" "I", Cond.fieldLink RX1 61 "TinCellar$Stock" "day" "I", Cond.methodLink RX1 48 yX0_copyFrom, Cond.instanceMethod yX0_copyFrom, Cond.selects RX0 yX0_copyFrom yX0_copyFrom, Cond.initialized RX0, Cond.code yX0_copyFrom cX0_copyFrom 3 none, Cond.fieldLink RX0 13 "TinCellar$Row" "cells" "[I", Cond.methodLink RX0 19 yX0_get, Cond.instanceMethod yX0_get, Cond.selects RX0 yX0_get yX0_get, Cond.code yX0_get cX0_get 2 (some .int), Cond.methodLink RX2 111 yX1_passDay, Cond.instanceMethod yX1_passDay, Cond.selects RX1 yX1_passDay yX1_passDay, Cond.code yX1_passDay cX1_passDay 2 none, Cond.methodLink RX1 72 yX1_wearTins, Cond.instanceMethod yX1_wearTins, Cond.selects RX1 yX1_wearTins yX1_wearTins, Cond.code yX1_wearTins cX1_wearTins 2 none, Cond.methodLink RX1 92 Lib.Math.max.name, Cond.static Lib.Math.max.name, Cond.initialized "java/lang/Math", Cond.code Lib.Math.max.name Lib.Math.max.code 2 (some .int)]
def wsX2_shippingWanted_r3 : List Cond := [Cond.methodLink RX1 84 yX1_holds, Cond.instanceMethod yX1_holds, Cond.selects RX1 yX1_holds yX1_holds, Cond.code yX1_holds cX1_holds 2 (some .boolean), Cond.methodLink RX1 68 yX0_get, Cond.methodLink RX1 88 yX1_wearOn, Cond.instanceMethod yX1_wearOn, Cond.selects RX1 yX1_wearOn yX1_wearOn, Cond.code yX1_wearOn cX1_wearOn 3 (some .int), Cond.methodLink RX1 64 yX0_set, Cond.instanceMethod yX0_set, Cond.selects RX0 yX0_set yX0_set, Cond.code yX0_set cX0_set 3 none, Cond.methodLink RX1 97 yX1_swellLid, Cond.instanceMethod yX1_swellLid, Cond.selects RX1 yX1_swellLid yX1_swellLid, Cond.code yX1_swellLid cX1_swellLid 3 none, Cond.methodLink RX1 75 yX1_recallSwelled, Cond.instanceMethod yX1_recallSwelled, Cond.selects RX1 yX1_recallSwelled yX1_recallSwelled, Cond.code yX1_recallSwelled cX1_recallSwelled 2 none, Cond.methodLink RX1 100 yX1_isBatchRecalled, Cond.instanceMethod yX1_isBatchRecalled, Cond.selects RX1 yX1_isBatchRecalled yX1_isBatchRecalled]
def wsX2_shippingWanted_r4 : List Cond := [Cond.code yX1_isBatchRecalled cX1_isBatchRecalled 2 (some .boolean), Cond.methodLink RX1 103 yX1_recallBatch, Cond.instanceMethod yX1_recallBatch, Cond.selects RX1 yX1_recallBatch yX1_recallBatch, Cond.code yX1_recallBatch cX1_recallBatch 4 (some .int), Cond.methodLink RX1 78 yX1_firstBy, Cond.instanceMethod yX1_firstBy, Cond.selects RX1 yX1_firstBy yX1_firstBy, Cond.code yX1_firstBy cX1_firstBy 6 (some .int), Cond.methodLink RX1 106 yX1_rankBy, Cond.instanceMethod yX1_rankBy, Cond.selects RX1 yX1_rankBy yX1_rankBy, Cond.code yX1_rankBy cX1_rankBy 3 (some .int), Cond.methodLink RX1 81 yX1_ship, Cond.instanceMethod yX1_ship, Cond.selects RX1 yX1_ship yX1_ship, Cond.code yX1_ship cX1_ship 2 none, Cond.methodLink RX2 108 yX1_countAt, Cond.instanceMethod yX1_countAt, Cond.selects RX1 yX1_countAt yX1_countAt, Cond.code yX1_countAt cX1_countAt 4 (some .int)]
def wsX2_shippingWanted : List Cond := .code yX2_shippingWanted cX2_shippingWanted 2 (some .int) :: ((wsX2_shippingWanted_r1 ++ (wsX2_shippingWanted_r2 ++ (wsX2_shippingWanted_r3 ++ wsX2_shippingWanted_r4))) ++ wsX20 ++ wsX10 ++ wsX00)
def wsX2_isLater : List Cond := .code yX2_isLater cX2_isLater 2 (some .boolean) :: ([])
def wsX2_bestShelf_r1 : List Cond := [Cond.fieldLink RX2 10 "TinCellar" "now" "LTinCellar$Stock;", Cond.methodLink RX2 65 yX2_needTin, Cond.instanceMethod yX2_needTin, Cond.selects RX2 yX2_needTin yX2_needTin, Cond.initialized RX2, Cond.code yX2_needTin cX2_needTin 2 none, Cond.classLink RX2 243 "java/lang/IndexOutOfBoundsException", Cond.initialized "java/lang/IndexOutOfBoundsException", Cond.methodLink RX2 19 yX2_isWithin, Cond.static yX2_isWithin, Cond.code yX2_isWithin cX2_isWithin 3 (some .boolean), Cond.methodLink RX2 68 yX1_holds, Cond.instanceMethod yX1_holds, Cond.selects RX1 yX1_holds yX1_holds, Cond.initialized RX1, Cond.code yX1_holds cX1_holds 2 (some .boolean), Cond.fieldLink RX1 41 "TinCellar$Stock" "place" "LTinCellar$Row;", Cond.methodLink RX1 68 yX0_get, Cond.instanceMethod yX0_get, Cond.selects RX0 yX0_get yX0_get, Cond.initialized RX0, Cond.code yX0_get cX0_get 2 (some .int), Cond.fieldLink RX0 13 "TinCellar$Row" "cells" "[I", Cond.methodLink RX2 142 yX1_daysToSwell]
def wsX2_bestShelf_r2 : List Cond := [Cond.instanceMethod yX1_daysToSwell, Cond.selects RX1 yX1_daysToSwell yX1_daysToSwell, Cond.code yX1_daysToSwell cX1_daysToSwell 4 (some .int), Cond.fieldLink RX1 38 "TinCellar$Stock" "vacuum" "LTinCellar$Row;", Cond.methodLink RX1 88 yX1_wearOn, Cond.instanceMethod yX1_wearOn, Cond.selects RX1 yX1_wearOn yX1_wearOn, Cond.code yX1_wearOn cX1_wearOn 3 (some .int), Cond.fieldLink RX1 23 "TinCellar$Stock" "leaks" "LTinCellar$Row;", Cond.fieldLink RX1 32 "TinCellar$Stock" "batch" "LTinCellar$Row;", Cond.fieldLink RX1 14 "TinCellar$Stock" "warm" "LTinCellar$Row;", Cond.methodLink RX2 152 yX2_isLater, Cond.static yX2_isLater, Cond.code yX2_isLater cX2_isLater 2 (some .boolean)]
def wsX2_bestShelf : List Cond := .code yX2_bestShelf cX2_bestShelf 4 (some .int) :: ((wsX2_bestShelf_r1 ++ wsX2_bestShelf_r2) ++ wsX20 ++ wsX10 ++ wsX00 ++ (vx_atS RX2 247 "java/lang/IndexOutOfBoundsException" ["java/lang/RuntimeException", "java/lang/Exception"]).filter goodWord)
def wsX2_meanVacuum : List Cond := .code yX2_meanVacuum cX2_meanVacuum 2 (some .double) :: ([.fieldLink RX2 10 "TinCellar" "now" "LTinCellar$Stock;", .methodLink RX2 108 yX1_countAt, .instanceMethod yX1_countAt, .selects RX1 yX1_countAt yX1_countAt, .initialized RX1, .code yX1_countAt cX1_countAt 4 (some .int), .fieldLink RX1 55 "TinCellar$Stock" "tinCount" "I", .fieldLink RX1 41 "TinCellar$Stock" "place" "LTinCellar$Row;", .methodLink RX1 68 yX0_get, .instanceMethod yX0_get, .selects RX0 yX0_get yX0_get, .initialized RX0, .code yX0_get cX0_get 2 (some .int), .fieldLink RX0 13 "TinCellar$Row" "cells" "[I", .methodLink RX2 156 yX1_vacuumHeld, .instanceMethod yX1_vacuumHeld, .selects RX1 yX1_vacuumHeld yX1_vacuumHeld, .code yX1_vacuumHeld cX1_vacuumHeld 3 (some .int), .fieldLink RX1 38 "TinCellar$Stock" "vacuum" "LTinCellar$Row;", .methodLink RX1 84 yX1_holds, .instanceMethod yX1_holds, .selects RX1 yX1_holds yX1_holds, .code yX1_holds cX1_holds 2 (some .boolean)] ++ wsX20 ++ wsX10 ++ wsX00)
def wsX2_mix : List Cond := .code yX2_mix cX2_mix 4 (some .long) :: ([.constantLong RX2 241 (31)])
def wsX2_mixShelves_r1 : List Cond := [Cond.methodLink RX2 205 yX2_standOn, Cond.instanceMethod yX2_standOn, Cond.selects RX2 yX2_standOn yX2_standOn, Cond.initialized RX2, Cond.code yX2_standOn cX2_standOn 2 (some .int), Cond.fieldLink RX2 10 "TinCellar" "now" "LTinCellar$Stock;", Cond.methodLink RX2 47 yX2_needShelf, Cond.static yX2_needShelf, Cond.code yX2_needShelf cX2_needShelf 1 none, Cond.classLink RX2 243 "java/lang/IndexOutOfBoundsException", Cond.initialized "java/lang/IndexOutOfBoundsException", Cond.methodLink RX2 19 yX2_isWithin, Cond.static yX2_isWithin, Cond.code yX2_isWithin cX2_isWithin 3 (some .boolean), Cond.methodLink RX2 120 yX1_countHeldWith, Cond.instanceMethod yX1_countHeldWith, Cond.selects RX1 yX1_countHeldWith yX1_countHeldWith, Cond.initialized RX1, Cond.code yX1_countHeldWith cX1_countHeldWith 5 (some .int), Cond.fieldLink RX1 55 "TinCellar$Stock" "tinCount" "I", Cond.methodLink RX1 84 yX1_holds, Cond.instanceMethod yX1_holds, Cond.selects RX1 yX1_holds yX1_holds, Cond.code yX1_holds cX1_holds 2 (some .boolean)]
def wsX2_mixShelves_r2 : List Cond := [Cond.fieldLink RX1 41 "TinCellar$Stock" "place" "LTinCellar$Row;", Cond.methodLink RX1 68 yX0_get, Cond.instanceMethod yX0_get, Cond.selects RX0 yX0_get yX0_get, Cond.initialized RX0, Cond.code yX0_get cX0_get 2 (some .int), Cond.fieldLink RX0 13 "TinCellar$Row" "cells" "[I", Cond.methodLink RX2 164 yX2_mix, Cond.static yX2_mix, Cond.code yX2_mix cX2_mix 4 (some .long), Cond.constantLong RX2 241 (31), Cond.methodLink RX2 208 yX2_warmOf, Cond.instanceMethod yX2_warmOf, Cond.selects RX2 yX2_warmOf yX2_warmOf, Cond.code yX2_warmOf cX2_warmOf 2 (some .int), Cond.methodLink RX2 77 yX0_get]
def wsX2_mixShelves : List Cond := .code yX2_mixShelves cX2_mixShelves 6 (some .long) :: ((wsX2_mixShelves_r1 ++ wsX2_mixShelves_r2) ++ wsX20 ++ wsX10 ++ wsX00 ++ (vx_atS RX2 247 "java/lang/IndexOutOfBoundsException" ["java/lang/RuntimeException", "java/lang/Exception"]).filter goodWord)
def wsX2_mixBatches_r1 : List Cond := [Cond.fieldLink RX2 10 "TinCellar" "now" "LTinCellar$Stock;", Cond.methodLink RX2 211 yX2_swelledOf, Cond.instanceMethod yX2_swelledOf, Cond.selects RX2 yX2_swelledOf yX2_swelledOf, Cond.initialized RX2, Cond.code yX2_swelledOf cX2_swelledOf 2 (some .int), Cond.methodLink RX2 43 yX2_needBatch, Cond.instanceMethod yX2_needBatch, Cond.selects RX2 yX2_needBatch yX2_needBatch, Cond.code yX2_needBatch cX2_needBatch 2 none, Cond.classLink RX2 243 "java/lang/IndexOutOfBoundsException", Cond.initialized "java/lang/IndexOutOfBoundsException", Cond.methodLink RX2 19 yX2_isWithin, Cond.static yX2_isWithin, Cond.code yX2_isWithin cX2_isWithin 3 (some .boolean), Cond.methodLink RX2 77 yX0_get, Cond.instanceMethod yX0_get, Cond.selects RX0 yX0_get yX0_get, Cond.initialized RX0, Cond.code yX0_get cX0_get 2 (some .int), Cond.fieldLink RX0 13 "TinCellar$Row" "cells" "[I", Cond.methodLink RX2 164 yX2_mix, Cond.static yX2_mix, Cond.code yX2_mix cX2_mix 4 (some .long)]
def wsX2_mixBatches_r2 : List Cond := [Cond.constantLong RX2 241 (31), Cond.methodLink RX2 214 yX2_leftOf, Cond.instanceMethod yX2_leftOf, Cond.selects RX2 yX2_leftOf yX2_leftOf, Cond.code yX2_leftOf cX2_leftOf 2 (some .int), Cond.methodLink RX2 120 yX1_countHeldWith, Cond.instanceMethod yX1_countHeldWith, Cond.selects RX1 yX1_countHeldWith yX1_countHeldWith, Cond.initialized RX1, Cond.code yX1_countHeldWith cX1_countHeldWith 5 (some .int), Cond.fieldLink RX1 55 "TinCellar$Stock" "tinCount" "I", Cond.methodLink RX1 84 yX1_holds, Cond.instanceMethod yX1_holds, Cond.selects RX1 yX1_holds yX1_holds, Cond.code yX1_holds cX1_holds 2 (some .boolean), Cond.fieldLink RX1 41 "TinCellar$Stock" "place" "LTinCellar$Row;", Cond.methodLink RX1 68 yX0_get, Cond.methodLink RX2 217 yX2_isRecalled, Cond.instanceMethod yX2_isRecalled, Cond.selects RX2 yX2_isRecalled yX2_isRecalled, Cond.code yX2_isRecalled cX2_isRecalled 2 (some .boolean), Cond.methodLink RX2 55 yX1_isBatchRecalled, Cond.instanceMethod yX1_isBatchRecalled, Cond.selects RX1 yX1_isBatchRecalled yX1_isBatchRecalled]
def wsX2_mixBatches_r3 : List Cond := [Cond.code yX1_isBatchRecalled cX1_isBatchRecalled 2 (some .boolean), Cond.fieldLink RX1 29 "TinCellar$Stock" "recalled" "LTinCellar$Row;", Cond.methodLink RX2 220 yX2_daysUntilRecalled, Cond.instanceMethod yX2_daysUntilRecalled, Cond.selects RX2 yX2_daysUntilRecalled yX2_daysUntilRecalled, Cond.code yX2_daysUntilRecalled cX2_daysUntilRecalled 3 (some .int), Cond.fieldLink RX2 16 "TinCellar" "trial" "LTinCellar$Stock;", Cond.methodLink RX2 145 yX1_copyFrom, Cond.instanceMethod yX1_copyFrom, Cond.selects RX1 yX1_copyFrom yX1_copyFrom, Cond.code yX1_copyFrom cX1_copyFrom 2 none, Cond.fieldLink RX1 14 "TinCellar$Stock" "warm" "LTinCellar$Row;", Cond.fieldLink RX1 20 "TinCellar$Stock" "vacuumAtFirst" "LTinCellar$Row;", Cond.fieldLink RX1 23 "TinCellar$Stock" "leaks" "LTinCellar$Row;", Cond.fieldLink RX1 26 "TinCellar$Stock" "swelledLids" "LTinCellar$Row;", Cond.fieldLink RX1 52 "TinCellar$Stock" "batchCount" "I", Cond.fieldLink RX1 32 "TinCellar$Stock" "batch" "LTinCellar$Row;", Cond.fieldLink RX1 35 "TinCellar$Stock" "shelf" "LTinCellar$Row;", Cond.fieldLink RX1 38 "TinCellar$Stock" "vacuum" "LTinCellar$Row;", Cond.fieldLink RX1 58 "TinCellar$Stock" "shippedADay" "I", Cond.fieldLink RX1 44 "TinCellar$Stock" "order" "I", Cond.fieldLink RX1 61 "TinCellar$Stock" "day" "I", Cond.methodLink RX1 48 yX0_copyFrom, Cond.instanceMethod yX0_copyFrom]
def wsX2_mixBatches_r4 : List Cond := [Cond.selects RX0 yX0_copyFrom yX0_copyFrom, Cond.code yX0_copyFrom cX0_copyFrom 3 none, Cond.methodLink RX0 19 yX0_get, Cond.methodLink RX2 111 yX1_passDay, Cond.instanceMethod yX1_passDay, Cond.selects RX1 yX1_passDay yX1_passDay, Cond.code yX1_passDay cX1_passDay 2 none, Cond.methodLink RX1 72 yX1_wearTins, Cond.instanceMethod yX1_wearTins, Cond.selects RX1 yX1_wearTins yX1_wearTins, Cond.code yX1_wearTins cX1_wearTins 2 none, Cond.methodLink RX1 92 Lib.Math.max.name, Cond.static Lib.Math.max.name, Cond.initialized "java/lang/Math", Cond.code Lib.Math.max.name Lib.Math.max.code 2 (some .int), Cond.methodLink RX1 88 yX1_wearOn, Cond.instanceMethod yX1_wearOn, Cond.selects RX1 yX1_wearOn yX1_wearOn, Cond.code yX1_wearOn cX1_wearOn 3 (some .int), Cond.methodLink RX1 64 yX0_set, Cond.instanceMethod yX0_set, Cond.selects RX0 yX0_set yX0_set, Cond.code yX0_set cX0_set 3 none, Cond.methodLink RX1 97 yX1_swellLid]
def wsX2_mixBatches_r5 : List Cond := [Cond.instanceMethod yX1_swellLid, Cond.selects RX1 yX1_swellLid yX1_swellLid, Cond.code yX1_swellLid cX1_swellLid 3 none, Cond.methodLink RX1 75 yX1_recallSwelled, Cond.instanceMethod yX1_recallSwelled, Cond.selects RX1 yX1_recallSwelled yX1_recallSwelled, Cond.code yX1_recallSwelled cX1_recallSwelled 2 none, Cond.methodLink RX1 100 yX1_isBatchRecalled, Cond.methodLink RX1 103 yX1_recallBatch, Cond.instanceMethod yX1_recallBatch, Cond.selects RX1 yX1_recallBatch yX1_recallBatch, Cond.code yX1_recallBatch cX1_recallBatch 4 (some .int), Cond.methodLink RX1 78 yX1_firstBy, Cond.instanceMethod yX1_firstBy, Cond.selects RX1 yX1_firstBy yX1_firstBy, Cond.code yX1_firstBy cX1_firstBy 6 (some .int), Cond.methodLink RX1 106 yX1_rankBy, Cond.instanceMethod yX1_rankBy, Cond.selects RX1 yX1_rankBy yX1_rankBy, Cond.code yX1_rankBy cX1_rankBy 3 (some .int), Cond.methodLink RX1 81 yX1_ship, Cond.instanceMethod yX1_ship, Cond.selects RX1 yX1_ship yX1_ship, Cond.code yX1_ship cX1_ship 2 none]
def wsX2_mixBatches : List Cond := .code yX2_mixBatches cX2_mixBatches 6 (some .long) :: ((wsX2_mixBatches_r1 ++ (wsX2_mixBatches_r2 ++ (wsX2_mixBatches_r3 ++ (wsX2_mixBatches_r4 ++ wsX2_mixBatches_r5)))) ++ wsX20 ++ wsX10 ++ wsX00 ++ (vx_atS RX2 247 "java/lang/IndexOutOfBoundsException" ["java/lang/RuntimeException", "java/lang/Exception"]).filter goodWord)
def wsX2_mixTins_r1 : List Cond := [Cond.fieldLink RX2 10 "TinCellar" "now" "LTinCellar$Stock;", Cond.methodLink RX2 223 yX2_shelfOf, Cond.instanceMethod yX2_shelfOf, Cond.selects RX2 yX2_shelfOf yX2_shelfOf, Cond.initialized RX2, Cond.code yX2_shelfOf cX2_shelfOf 2 (some .int), Cond.methodLink RX2 65 yX2_needTin, Cond.instanceMethod yX2_needTin, Cond.selects RX2 yX2_needTin yX2_needTin, Cond.code yX2_needTin cX2_needTin 2 none, Cond.classLink RX2 243 "java/lang/IndexOutOfBoundsException", Cond.initialized "java/lang/IndexOutOfBoundsException", Cond.methodLink RX2 19 yX2_isWithin, Cond.static yX2_isWithin, Cond.code yX2_isWithin cX2_isWithin 3 (some .boolean), Cond.methodLink RX2 68 yX1_holds, Cond.instanceMethod yX1_holds, Cond.selects RX1 yX1_holds yX1_holds, Cond.initialized RX1, Cond.code yX1_holds cX1_holds 2 (some .boolean), Cond.fieldLink RX1 41 "TinCellar$Stock" "place" "LTinCellar$Row;", Cond.methodLink RX1 68 yX0_get, Cond.instanceMethod yX0_get, Cond.selects RX0 yX0_get yX0_get]
def wsX2_mixTins_r2 : List Cond := [Cond.initialized RX0, Cond.code yX0_get cX0_get 2 (some .int), Cond.fieldLink RX0 13 "TinCellar$Row" "cells" "[I", Cond.methodLink RX2 77 yX0_get, Cond.methodLink RX2 164 yX2_mix, Cond.static yX2_mix, Cond.code yX2_mix cX2_mix 4 (some .long), Cond.constantLong RX2 241 (31), Cond.methodLink RX2 226 yX2_vacuumOf, Cond.instanceMethod yX2_vacuumOf, Cond.selects RX2 yX2_vacuumOf yX2_vacuumOf, Cond.code yX2_vacuumOf cX2_vacuumOf 2 (some .int), Cond.methodLink RX2 229 yX2_isShipped, Cond.instanceMethod yX2_isShipped, Cond.selects RX2 yX2_isShipped yX2_isShipped, Cond.code yX2_isShipped cX2_isShipped 2 (some .boolean), Cond.methodLink RX2 232 yX2_placeBy, Cond.instanceMethod yX2_placeBy, Cond.selects RX2 yX2_placeBy yX2_placeBy, Cond.code yX2_placeBy cX2_placeBy 3 (some .int), Cond.methodLink RX2 133 yX2_needOrder, Cond.static yX2_needOrder, Cond.code yX2_needOrder cX2_needOrder 1 none, Cond.classLink RX2 23 "java/lang/IllegalArgumentException"]
def wsX2_mixTins_r3 : List Cond := [Cond.initialized "java/lang/IllegalArgumentException", Cond.methodLink RX2 139 yX1_countAheadOf, Cond.instanceMethod yX1_countAheadOf, Cond.selects RX1 yX1_countAheadOf yX1_countAheadOf, Cond.code yX1_countAheadOf cX1_countAheadOf 6 (some .int), Cond.fieldLink RX1 55 "TinCellar$Stock" "tinCount" "I", Cond.methodLink RX1 106 yX1_rankBy, Cond.instanceMethod yX1_rankBy, Cond.selects RX1 yX1_rankBy yX1_rankBy, Cond.code yX1_rankBy cX1_rankBy 3 (some .int), Cond.fieldLink RX1 38 "TinCellar$Stock" "vacuum" "LTinCellar$Row;", Cond.fieldLink RX1 14 "TinCellar$Stock" "warm" "LTinCellar$Row;", Cond.fieldLink RX1 35 "TinCellar$Stock" "shelf" "LTinCellar$Row;", Cond.methodLink RX1 84 yX1_holds, Cond.methodLink RX2 235 yX2_daysOf, Cond.instanceMethod yX2_daysOf, Cond.selects RX2 yX2_daysOf yX2_daysOf, Cond.code yX2_daysOf cX2_daysOf 2 (some .int), Cond.methodLink RX2 142 yX1_daysToSwell, Cond.instanceMethod yX1_daysToSwell, Cond.selects RX1 yX1_daysToSwell yX1_daysToSwell, Cond.code yX1_daysToSwell cX1_daysToSwell 4 (some .int), Cond.methodLink RX1 88 yX1_wearOn, Cond.instanceMethod yX1_wearOn]
def wsX2_mixTins_r4 : List Cond := [Cond.selects RX1 yX1_wearOn yX1_wearOn, Cond.code yX1_wearOn cX1_wearOn 3 (some .int), Cond.fieldLink RX1 23 "TinCellar$Stock" "leaks" "LTinCellar$Row;", Cond.fieldLink RX1 32 "TinCellar$Stock" "batch" "LTinCellar$Row;", Cond.methodLink RX2 238 yX2_bestShelf, Cond.instanceMethod yX2_bestShelf, Cond.selects RX2 yX2_bestShelf yX2_bestShelf, Cond.code yX2_bestShelf cX2_bestShelf 4 (some .int), Cond.methodLink RX2 152 yX2_isLater, Cond.static yX2_isLater, Cond.code yX2_isLater cX2_isLater 2 (some .boolean)]
def wsX2_mixTins : List Cond := .code yX2_mixTins cX2_mixTins 6 (some .long) :: ((wsX2_mixTins_r1 ++ (wsX2_mixTins_r2 ++ (wsX2_mixTins_r3 ++ wsX2_mixTins_r4))) ++ wsX20 ++ wsX10 ++ wsX00 ++ (vx_atS RX2 247 "java/lang/IndexOutOfBoundsException" ["java/lang/RuntimeException", "java/lang/Exception"]).filter goodWord ++ (vx_atS RX2 27 "java/lang/IllegalArgumentException" ["java/lang/RuntimeException", "java/lang/Exception"]).filter goodWord)
def wsX2_digest_r1 : List Cond := [Cond.constantLong RX2 160 (2351), Cond.methodLink RX2 162 yX2_day, Cond.instanceMethod yX2_day, Cond.selects RX2 yX2_day yX2_day, Cond.initialized RX2, Cond.code yX2_day cX2_day 1 (some .int), Cond.fieldLink RX2 10 "TinCellar" "now" "LTinCellar$Stock;", Cond.methodLink RX2 164 yX2_mix, Cond.static yX2_mix, Cond.code yX2_mix cX2_mix 4 (some .long), Cond.constantLong RX2 241 (31), Cond.methodLink RX2 168 yX2_batches, Cond.instanceMethod yX2_batches, Cond.selects RX2 yX2_batches yX2_batches, Cond.code yX2_batches cX2_batches 1 (some .int), Cond.methodLink RX2 171 yX2_tins, Cond.instanceMethod yX2_tins, Cond.selects RX2 yX2_tins yX2_tins, Cond.code yX2_tins cX2_tins 1 (some .int), Cond.methodLink RX2 174 yX2_inCellar, Cond.instanceMethod yX2_inCellar, Cond.selects RX2 yX2_inCellar yX2_inCellar, Cond.code yX2_inCellar cX2_inCellar 1 (some .int), Cond.methodLink RX2 108 yX1_countAt]
def wsX2_digest_r2 : List Cond := [Cond.instanceMethod yX1_countAt, Cond.selects RX1 yX1_countAt yX1_countAt, Cond.initialized RX1, Cond.code yX1_countAt cX1_countAt 4 (some .int), Cond.fieldLink RX1 55 "TinCellar$Stock" "tinCount" "I", Cond.fieldLink RX1 41 "TinCellar$Stock" "place" "LTinCellar$Row;", Cond.methodLink RX1 68 yX0_get, Cond.instanceMethod yX0_get, Cond.selects RX0 yX0_get yX0_get, Cond.initialized RX0, Cond.code yX0_get cX0_get 2 (some .int), Cond.fieldLink RX0 13 "TinCellar$Row" "cells" "[I", Cond.methodLink RX2 177 yX2_shipped, Cond.instanceMethod yX2_shipped, Cond.selects RX2 yX2_shipped yX2_shipped, Cond.code yX2_shipped cX2_shipped 1 (some .int), Cond.methodLink RX2 180 yX2_lost, Cond.instanceMethod yX2_lost, Cond.selects RX2 yX2_lost yX2_lost, Cond.code yX2_lost cX2_lost 1 (some .int), Cond.methodLink RX2 183 yX2_swelled, Cond.instanceMethod yX2_swelled, Cond.selects RX2 yX2_swelled yX2_swelled, Cond.code yX2_swelled cX2_swelled 3 (some .int)]
def wsX2_digest_r3 : List Cond := [Cond.methodLink RX2 77 yX0_get, Cond.methodLink RX2 186 yX2_first, Cond.instanceMethod yX2_first, Cond.selects RX2 yX2_first yX2_first, Cond.code yX2_first cX2_first 2 (some .int), Cond.methodLink RX2 133 yX2_needOrder, Cond.static yX2_needOrder, Cond.code yX2_needOrder cX2_needOrder 1 none, Cond.classLink RX2 23 "java/lang/IllegalArgumentException", Cond.initialized "java/lang/IllegalArgumentException", Cond.methodLink RX2 19 yX2_isWithin, Cond.static yX2_isWithin, Cond.code yX2_isWithin cX2_isWithin 3 (some .boolean), Cond.methodLink RX2 136 yX1_firstBy, Cond.instanceMethod yX1_firstBy, Cond.selects RX1 yX1_firstBy yX1_firstBy, Cond.code yX1_firstBy cX1_firstBy 6 (some .int), Cond.methodLink RX1 84 yX1_holds, Cond.instanceMethod yX1_holds, Cond.selects RX1 yX1_holds yX1_holds, Cond.code yX1_holds cX1_holds 2 (some .boolean), Cond.methodLink RX1 106 yX1_rankBy, Cond.instanceMethod yX1_rankBy, Cond.selects RX1 yX1_rankBy yX1_rankBy]
def wsX2_digest_r4 : List Cond := [Cond.code yX1_rankBy cX1_rankBy 3 (some .int), Cond.fieldLink RX1 38 "TinCellar$Stock" "vacuum" "LTinCellar$Row;", Cond.fieldLink RX1 14 "TinCellar$Stock" "warm" "LTinCellar$Row;", Cond.fieldLink RX1 35 "TinCellar$Stock" "shelf" "LTinCellar$Row;", Cond.methodLink RX2 189 yX2_bestOrder, Cond.instanceMethod yX2_bestOrder, Cond.selects RX2 yX2_bestOrder yX2_bestOrder, Cond.code yX2_bestOrder cX2_bestOrder 5 (some .int), Cond.methodLink RX2 149 yX2_lossBy, Cond.instanceMethod yX2_lossBy, Cond.selects RX2 yX2_lossBy yX2_lossBy, Cond.code yX2_lossBy cX2_lossBy 4 (some .int), Cond.fieldLink RX2 16 "TinCellar" "trial" "LTinCellar$Stock;", Cond.methodLink RX2 145 yX1_copyFrom, Cond.instanceMethod yX1_copyFrom, Cond.selects RX1 yX1_copyFrom yX1_copyFrom, Cond.code yX1_copyFrom cX1_copyFrom 2 none, Cond.fieldLink RX1 20 "TinCellar$Stock" "vacuumAtFirst" "LTinCellar$Row;", Cond.fieldLink RX1 23 "TinCellar$Stock" "leaks" "LTinCellar$Row;", Cond.fieldLink RX1 26 "TinCellar$Stock" "swelledLids" "LTinCellar$Row;", Cond.fieldLink RX1 29 "TinCellar$Stock" "recalled" "LTinCellar$Row;", Cond.fieldLink RX1 52 "TinCellar$Stock" "batchCount" "I", Cond.fieldLink RX1 32 "TinCellar$Stock" "batch" "LTinCellar$Row;", Cond.fieldLink RX1 58 "TinCellar$Stock" "shippedADay" "I"]
def wsX2_digest_r5 : List Cond := [Cond.fieldLink RX1 44 "TinCellar$Stock" "order" "I", Cond.fieldLink RX1 61 "TinCellar$Stock" "day" "I", Cond.methodLink RX1 48 yX0_copyFrom, Cond.instanceMethod yX0_copyFrom, Cond.selects RX0 yX0_copyFrom yX0_copyFrom, Cond.code yX0_copyFrom cX0_copyFrom 3 none, Cond.methodLink RX0 19 yX0_get, Cond.methodLink RX2 111 yX1_passDay, Cond.instanceMethod yX1_passDay, Cond.selects RX1 yX1_passDay yX1_passDay, Cond.code yX1_passDay cX1_passDay 2 none, Cond.methodLink RX1 72 yX1_wearTins, Cond.instanceMethod yX1_wearTins, Cond.selects RX1 yX1_wearTins yX1_wearTins, Cond.code yX1_wearTins cX1_wearTins 2 none, Cond.methodLink RX1 92 Lib.Math.max.name, Cond.static Lib.Math.max.name, Cond.initialized "java/lang/Math", Cond.code Lib.Math.max.name Lib.Math.max.code 2 (some .int), Cond.methodLink RX1 88 yX1_wearOn, Cond.instanceMethod yX1_wearOn, Cond.selects RX1 yX1_wearOn yX1_wearOn, Cond.code yX1_wearOn cX1_wearOn 3 (some .int), Cond.methodLink RX1 64 yX0_set]
def wsX2_digest_r6 : List Cond := [Cond.instanceMethod yX0_set, Cond.selects RX0 yX0_set yX0_set, Cond.code yX0_set cX0_set 3 none, Cond.methodLink RX1 97 yX1_swellLid, Cond.instanceMethod yX1_swellLid, Cond.selects RX1 yX1_swellLid yX1_swellLid, Cond.code yX1_swellLid cX1_swellLid 3 none, Cond.methodLink RX1 75 yX1_recallSwelled, Cond.instanceMethod yX1_recallSwelled, Cond.selects RX1 yX1_recallSwelled yX1_recallSwelled, Cond.code yX1_recallSwelled cX1_recallSwelled 2 none, Cond.methodLink RX1 100 yX1_isBatchRecalled, Cond.instanceMethod yX1_isBatchRecalled, Cond.selects RX1 yX1_isBatchRecalled yX1_isBatchRecalled, Cond.code yX1_isBatchRecalled cX1_isBatchRecalled 2 (some .boolean), Cond.methodLink RX1 103 yX1_recallBatch, Cond.instanceMethod yX1_recallBatch, Cond.selects RX1 yX1_recallBatch yX1_recallBatch, Cond.code yX1_recallBatch cX1_recallBatch 4 (some .int), Cond.methodLink RX1 78 yX1_firstBy, Cond.methodLink RX1 81 yX1_ship, Cond.instanceMethod yX1_ship, Cond.selects RX1 yX1_ship yX1_ship, Cond.code yX1_ship cX1_ship 2 none]
def wsX2_digest_r7 : List Cond := [Cond.methodLink RX2 192 yX2_shippingWanted, Cond.instanceMethod yX2_shippingWanted, Cond.selects RX2 yX2_shippingWanted yX2_shippingWanted, Cond.code yX2_shippingWanted cX2_shippingWanted 2 (some .int), Cond.methodLink RX2 195 yX2_mixShelves, Cond.instanceMethod yX2_mixShelves, Cond.selects RX2 yX2_mixShelves yX2_mixShelves, Cond.code yX2_mixShelves cX2_mixShelves 6 (some .long), Cond.methodLink RX2 205 yX2_standOn, Cond.instanceMethod yX2_standOn, Cond.selects RX2 yX2_standOn yX2_standOn, Cond.code yX2_standOn cX2_standOn 2 (some .int), Cond.methodLink RX2 47 yX2_needShelf, Cond.static yX2_needShelf, Cond.code yX2_needShelf cX2_needShelf 1 none, Cond.classLink RX2 243 "java/lang/IndexOutOfBoundsException", Cond.initialized "java/lang/IndexOutOfBoundsException", Cond.methodLink RX2 120 yX1_countHeldWith, Cond.instanceMethod yX1_countHeldWith, Cond.selects RX1 yX1_countHeldWith yX1_countHeldWith, Cond.code yX1_countHeldWith cX1_countHeldWith 5 (some .int), Cond.methodLink RX2 208 yX2_warmOf, Cond.instanceMethod yX2_warmOf, Cond.selects RX2 yX2_warmOf yX2_warmOf]
def wsX2_digest_r8 : List Cond := [Cond.code yX2_warmOf cX2_warmOf 2 (some .int), Cond.methodLink RX2 199 yX2_mixBatches, Cond.instanceMethod yX2_mixBatches, Cond.selects RX2 yX2_mixBatches yX2_mixBatches, Cond.code yX2_mixBatches cX2_mixBatches 6 (some .long), Cond.methodLink RX2 211 yX2_swelledOf, Cond.instanceMethod yX2_swelledOf, Cond.selects RX2 yX2_swelledOf yX2_swelledOf, Cond.code yX2_swelledOf cX2_swelledOf 2 (some .int), Cond.methodLink RX2 43 yX2_needBatch, Cond.instanceMethod yX2_needBatch, Cond.selects RX2 yX2_needBatch yX2_needBatch, Cond.code yX2_needBatch cX2_needBatch 2 none, Cond.methodLink RX2 214 yX2_leftOf, Cond.instanceMethod yX2_leftOf, Cond.selects RX2 yX2_leftOf yX2_leftOf, Cond.code yX2_leftOf cX2_leftOf 2 (some .int), Cond.methodLink RX2 217 yX2_isRecalled, Cond.instanceMethod yX2_isRecalled, Cond.selects RX2 yX2_isRecalled yX2_isRecalled, Cond.code yX2_isRecalled cX2_isRecalled 2 (some .boolean), Cond.methodLink RX2 55 yX1_isBatchRecalled, Cond.methodLink RX2 220 yX2_daysUntilRecalled, Cond.instanceMethod yX2_daysUntilRecalled]
def wsX2_digest_r9 : List Cond := [Cond.selects RX2 yX2_daysUntilRecalled yX2_daysUntilRecalled, Cond.code yX2_daysUntilRecalled cX2_daysUntilRecalled 3 (some .int), Cond.methodLink RX2 202 yX2_mixTins, Cond.instanceMethod yX2_mixTins, Cond.selects RX2 yX2_mixTins yX2_mixTins, Cond.code yX2_mixTins cX2_mixTins 6 (some .long), Cond.methodLink RX2 223 yX2_shelfOf, Cond.instanceMethod yX2_shelfOf, Cond.selects RX2 yX2_shelfOf yX2_shelfOf, Cond.code yX2_shelfOf cX2_shelfOf 2 (some .int), Cond.methodLink RX2 65 yX2_needTin, Cond.instanceMethod yX2_needTin, Cond.selects RX2 yX2_needTin yX2_needTin, Cond.code yX2_needTin cX2_needTin 2 none, Cond.methodLink RX2 68 yX1_holds, Cond.methodLink RX2 226 yX2_vacuumOf, Cond.instanceMethod yX2_vacuumOf, Cond.selects RX2 yX2_vacuumOf yX2_vacuumOf, Cond.code yX2_vacuumOf cX2_vacuumOf 2 (some .int), Cond.methodLink RX2 229 yX2_isShipped, Cond.instanceMethod yX2_isShipped, Cond.selects RX2 yX2_isShipped yX2_isShipped, Cond.code yX2_isShipped cX2_isShipped 2 (some .boolean), Cond.methodLink RX2 232 yX2_placeBy]
def wsX2_digest_r10 : List Cond := [Cond.instanceMethod yX2_placeBy, Cond.selects RX2 yX2_placeBy yX2_placeBy, Cond.code yX2_placeBy cX2_placeBy 3 (some .int), Cond.methodLink RX2 139 yX1_countAheadOf, Cond.instanceMethod yX1_countAheadOf, Cond.selects RX1 yX1_countAheadOf yX1_countAheadOf, Cond.code yX1_countAheadOf cX1_countAheadOf 6 (some .int), Cond.methodLink RX2 235 yX2_daysOf, Cond.instanceMethod yX2_daysOf, Cond.selects RX2 yX2_daysOf yX2_daysOf, Cond.code yX2_daysOf cX2_daysOf 2 (some .int), Cond.methodLink RX2 142 yX1_daysToSwell, Cond.instanceMethod yX1_daysToSwell, Cond.selects RX1 yX1_daysToSwell yX1_daysToSwell, Cond.code yX1_daysToSwell cX1_daysToSwell 4 (some .int), Cond.methodLink RX2 238 yX2_bestShelf, Cond.instanceMethod yX2_bestShelf, Cond.selects RX2 yX2_bestShelf yX2_bestShelf, Cond.code yX2_bestShelf cX2_bestShelf 4 (some .int), Cond.methodLink RX2 152 yX2_isLater, Cond.static yX2_isLater, Cond.code yX2_isLater cX2_isLater 2 (some .boolean)]
def wsX2_digest : List Cond := .code yX2_digest cX2_digest 4 (some .long) :: ((wsX2_digest_r1 ++ (wsX2_digest_r2 ++ (wsX2_digest_r3 ++ (wsX2_digest_r4 ++ (wsX2_digest_r5 ++ (wsX2_digest_r6 ++ (wsX2_digest_r7 ++ (wsX2_digest_r8 ++ (wsX2_digest_r9 ++ wsX2_digest_r10))))))))) ++ wsX20 ++ wsX10 ++ wsX00 ++ (vx_atS RX2 27 "java/lang/IllegalArgumentException" ["java/lang/RuntimeException", "java/lang/Exception"]).filter goodWord ++ (vx_atS RX2 247 "java/lang/IndexOutOfBoundsException" ["java/lang/RuntimeException", "java/lang/Exception"]).filter goodWord)
def wsX3_init : List Cond := .code yX3_init cX3_init 1 none :: ([.methodLink RX3 3 objectInit, .instanceMethod objectInit, .code objectInit ⟨#[0xb1]⟩ 1 none, .arrayClass .int, .fieldLink RX3 9 "TinCellarModel" "vacuum" "[I", .fieldLink RX3 13 "TinCellarModel" "leaks" "[I", .fieldLink RX3 16 "TinCellarModel" "warm" "[I", .fieldLink RX3 19 "TinCellarModel" "batch" "[I", .fieldLink RX3 22 "TinCellarModel" "shelf" "[I", .fieldLink RX3 25 "TinCellarModel" "now" "[I", .fieldLink RX3 28 "TinCellarModel" "kept" "[I"] ++ wsX30)
def wsX3_thrown : List Cond := .code yX3_thrown cX3_thrown 1 (some .int) :: ([.fieldLink RX3 31 "TinCellarModel" "thrown" "I"] ++ wsX30)
def wsX3_no : List Cond := .code yX3_no cX3_no 2 (some .int) :: ([.fieldLink RX3 31 "TinCellarModel" "thrown" "I"] ++ wsX30)
def wsX3_isNot : List Cond := .code yX3_isNot cX3_isNot 2 (some .boolean) :: ([.fieldLink RX3 31 "TinCellarModel" "thrown" "I"] ++ wsX30)
def wsX3_ok : List Cond := .code yX3_ok cX3_ok 2 (some .int) :: ([.fieldLink RX3 31 "TinCellarModel" "thrown" "I"] ++ wsX30)
def wsX3_isIn : List Cond := .code yX3_isIn cX3_isIn 3 (some .boolean) :: ([])
def wsX3_isShelf : List Cond := .code yX3_isShelf cX3_isShelf 1 (some .boolean) :: ([.methodLink RX3 35 yX3_isIn, .static yX3_isIn, .initialized RX3, .code yX3_isIn cX3_isIn 3 (some .boolean)])
def wsX3_isOrder : List Cond := .code yX3_isOrder cX3_isOrder 1 (some .boolean) :: ([.methodLink RX3 35 yX3_isIn, .static yX3_isIn, .initialized RX3, .code yX3_isIn cX3_isIn 3 (some .boolean)])
def wsX3_isBatch : List Cond := .code yX3_isBatch cX3_isBatch 2 (some .boolean) :: ([.fieldLink RX3 39 "TinCellarModel" "batches" "I", .methodLink RX3 35 yX3_isIn, .static yX3_isIn, .initialized RX3, .code yX3_isIn cX3_isIn 3 (some .boolean)] ++ wsX30)
def wsX3_isTin : List Cond := .code yX3_isTin cX3_isTin 2 (some .boolean) :: ([.fieldLink RX3 42 "TinCellarModel" "tins" "I", .methodLink RX3 35 yX3_isIn, .static yX3_isIn, .initialized RX3, .code yX3_isIn cX3_isIn 3 (some .boolean)] ++ wsX30)
def wsX3_keep : List Cond := .code yX3_keep cX3_keep 1 none :: ([.fieldLink RX3 25 "TinCellarModel" "now" "[I", .fieldLink RX3 28 "TinCellarModel" "kept" "[I", .methodLink RX3 45 arraycopyName, .native arraycopyName, .static arraycopyName, .initialized "java/lang/System"] ++ wsX30)
def wsX3_bringBack : List Cond := .code yX3_bringBack cX3_bringBack 1 none :: ([.fieldLink RX3 28 "TinCellarModel" "kept" "[I", .fieldLink RX3 25 "TinCellarModel" "now" "[I", .methodLink RX3 45 arraycopyName, .native arraycopyName, .static arraycopyName, .initialized "java/lang/System"] ++ wsX30)
def wsX3_isHere : List Cond := .code yX3_isHere cX3_isHere 2 (some .boolean) :: ([.fieldLink RX3 25 "TinCellarModel" "now" "[I"] ++ wsX30)
def wsX3_rate : List Cond := .code yX3_rate cX3_rate 3 (some .int) :: ([.fieldLink RX3 13 "TinCellarModel" "leaks" "[I", .fieldLink RX3 19 "TinCellarModel" "batch" "[I", .fieldLink RX3 16 "TinCellarModel" "warm" "[I"] ++ wsX30)
def wsX3_key : List Cond := .code yX3_key cX3_key 3 (some .int) :: ([.fieldLink RX3 25 "TinCellarModel" "now" "[I", .fieldLink RX3 16 "TinCellarModel" "warm" "[I", .fieldLink RX3 22 "TinCellarModel" "shelf" "[I"] ++ wsX30)
def wsX3_firstBy : List Cond := .code yX3_firstBy cX3_firstBy 4 (some .int) :: ([.fieldLink RX3 42 "TinCellarModel" "tins" "I", .methodLink RX3 51 yX3_isHere, .instanceMethod yX3_isHere, .selects RX3 yX3_isHere yX3_isHere, .initialized RX3, .code yX3_isHere cX3_isHere 2 (some .boolean), .fieldLink RX3 25 "TinCellarModel" "now" "[I", .methodLink RX3 55 yX3_key, .instanceMethod yX3_key, .selects RX3 yX3_key yX3_key, .code yX3_key cX3_key 3 (some .int), .fieldLink RX3 16 "TinCellarModel" "warm" "[I", .fieldLink RX3 22 "TinCellarModel" "shelf" "[I"] ++ wsX30)
def wsX3_leak : List Cond := .code yX3_leak cX3_leak 2 none :: ([.fieldLink RX3 25 "TinCellarModel" "now" "[I", .fieldLink RX3 22 "TinCellarModel" "shelf" "[I", .methodLink RX3 62 Lib.Math.max.name, .static Lib.Math.max.name, .initialized "java/lang/Math", .code Lib.Math.max.name Lib.Math.max.code 2 (some .int), .fieldLink RX3 19 "TinCellarModel" "batch" "[I", .methodLink RX3 59 yX3_rate, .instanceMethod yX3_rate, .selects RX3 yX3_rate yX3_rate, .initialized RX3, .code yX3_rate cX3_rate 3 (some .int), .fieldLink RX3 13 "TinCellarModel" "leaks" "[I", .fieldLink RX3 16 "TinCellarModel" "warm" "[I"] ++ wsX30)
def wsX3_takeBack : List Cond := .code yX3_takeBack cX3_takeBack 4 (some .int) :: ([.fieldLink RX3 25 "TinCellarModel" "now" "[I", .fieldLink RX3 42 "TinCellarModel" "tins" "I", .fieldLink RX3 19 "TinCellarModel" "batch" "[I", .methodLink RX3 51 yX3_isHere, .instanceMethod yX3_isHere, .selects RX3 yX3_isHere yX3_isHere, .initialized RX3, .code yX3_isHere cX3_isHere 2 (some .boolean)] ++ wsX30)
def wsX3_dayOn_r1 : List Cond := [Cond.fieldLink RX3 42 "TinCellarModel" "tins" "I", Cond.fieldLink RX3 39 "TinCellarModel" "batches" "I", Cond.fieldLink RX3 25 "TinCellarModel" "now" "[I", Cond.fieldLink RX3 75 "TinCellarModel" "many" "I", Cond.fieldLink RX3 78 "TinCellarModel" "order" "I", Cond.methodLink RX3 51 yX3_isHere, Cond.instanceMethod yX3_isHere, Cond.selects RX3 yX3_isHere yX3_isHere, Cond.initialized RX3, Cond.code yX3_isHere cX3_isHere 2 (some .boolean), Cond.methodLink RX3 67 yX3_leak, Cond.instanceMethod yX3_leak, Cond.selects RX3 yX3_leak yX3_leak, Cond.code yX3_leak cX3_leak 2 none, Cond.fieldLink RX3 22 "TinCellarModel" "shelf" "[I", Cond.methodLink RX3 62 Lib.Math.max.name, Cond.static Lib.Math.max.name, Cond.initialized "java/lang/Math", Cond.code Lib.Math.max.name Lib.Math.max.code 2 (some .int), Cond.fieldLink RX3 19 "TinCellarModel" "batch" "[I", Cond.methodLink RX3 59 yX3_rate, Cond.instanceMethod yX3_rate, Cond.selects RX3 yX3_rate yX3_rate, Cond.code yX3_rate cX3_rate 3 (some .int)]
def wsX3_dayOn_r2 : List Cond := [Cond.fieldLink RX3 13 "TinCellarModel" "leaks" "[I", Cond.fieldLink RX3 16 "TinCellarModel" "warm" "[I", Cond.methodLink RX3 71 yX3_takeBack, Cond.instanceMethod yX3_takeBack, Cond.selects RX3 yX3_takeBack yX3_takeBack, Cond.code yX3_takeBack cX3_takeBack 4 (some .int), Cond.methodLink RX3 81 yX3_firstBy, Cond.instanceMethod yX3_firstBy, Cond.selects RX3 yX3_firstBy yX3_firstBy, Cond.code yX3_firstBy cX3_firstBy 4 (some .int), Cond.methodLink RX3 55 yX3_key, Cond.instanceMethod yX3_key, Cond.selects RX3 yX3_key yX3_key, Cond.code yX3_key cX3_key 3 (some .int)]
def wsX3_dayOn : List Cond := .code yX3_dayOn cX3_dayOn 3 none :: ((wsX3_dayOn_r1 ++ wsX3_dayOn_r2) ++ wsX30)
def wsX3_daysOn_r1 : List Cond := [Cond.methodLink RX3 84 yX3_dayOn, Cond.instanceMethod yX3_dayOn, Cond.selects RX3 yX3_dayOn yX3_dayOn, Cond.initialized RX3, Cond.code yX3_dayOn cX3_dayOn 3 none, Cond.fieldLink RX3 42 "TinCellarModel" "tins" "I", Cond.fieldLink RX3 39 "TinCellarModel" "batches" "I", Cond.fieldLink RX3 25 "TinCellarModel" "now" "[I", Cond.fieldLink RX3 75 "TinCellarModel" "many" "I", Cond.fieldLink RX3 78 "TinCellarModel" "order" "I", Cond.methodLink RX3 51 yX3_isHere, Cond.instanceMethod yX3_isHere, Cond.selects RX3 yX3_isHere yX3_isHere, Cond.code yX3_isHere cX3_isHere 2 (some .boolean), Cond.methodLink RX3 67 yX3_leak, Cond.instanceMethod yX3_leak, Cond.selects RX3 yX3_leak yX3_leak, Cond.code yX3_leak cX3_leak 2 none, Cond.fieldLink RX3 22 "TinCellarModel" "shelf" "[I", Cond.methodLink RX3 62 Lib.Math.max.name, Cond.static Lib.Math.max.name, Cond.initialized "java/lang/Math", Cond.code Lib.Math.max.name Lib.Math.max.code 2 (some .int), Cond.fieldLink RX3 19 "TinCellarModel" "batch" "[I"]
def wsX3_daysOn_r2 : List Cond := [Cond.methodLink RX3 59 yX3_rate, Cond.instanceMethod yX3_rate, Cond.selects RX3 yX3_rate yX3_rate, Cond.code yX3_rate cX3_rate 3 (some .int), Cond.fieldLink RX3 13 "TinCellarModel" "leaks" "[I", Cond.fieldLink RX3 16 "TinCellarModel" "warm" "[I", Cond.methodLink RX3 71 yX3_takeBack, Cond.instanceMethod yX3_takeBack, Cond.selects RX3 yX3_takeBack yX3_takeBack, Cond.code yX3_takeBack cX3_takeBack 4 (some .int), Cond.methodLink RX3 81 yX3_firstBy, Cond.instanceMethod yX3_firstBy, Cond.selects RX3 yX3_firstBy yX3_firstBy, Cond.code yX3_firstBy cX3_firstBy 4 (some .int), Cond.methodLink RX3 55 yX3_key, Cond.instanceMethod yX3_key, Cond.selects RX3 yX3_key yX3_key, Cond.code yX3_key cX3_key 3 (some .int)]
def wsX3_daysOn : List Cond := .code yX3_daysOn cX3_daysOn 3 none :: ((wsX3_daysOn_r1 ++ wsX3_daysOn_r2) ++ wsX30)
def wsX3_count : List Cond := .code yX3_count cX3_count 4 (some .int) :: ([.fieldLink RX3 42 "TinCellarModel" "tins" "I", .fieldLink RX3 25 "TinCellarModel" "now" "[I"] ++ wsX30)
def wsX3_addBatch : List Cond := .code yX3_addBatch cX3_addBatch 3 (some .int) :: ([.fieldLink RX3 31 "TinCellarModel" "thrown" "I", .fieldLink RX3 39 "TinCellarModel" "batches" "I", .fieldLink RX3 9 "TinCellarModel" "vacuum" "[I", .fieldLink RX3 13 "TinCellarModel" "leaks" "[I", .methodLink RX3 35 yX3_isIn, .static yX3_isIn, .initialized RX3, .code yX3_isIn cX3_isIn 3 (some .boolean), .methodLink RX3 87 yX3_no, .instanceMethod yX3_no, .selects RX3 yX3_no yX3_no, .code yX3_no cX3_no 2 (some .int)] ++ wsX30)
def wsX3_seal : List Cond := .code yX3_seal cX3_seal 5 (some .int) :: ([.fieldLink RX3 31 "TinCellarModel" "thrown" "I", .fieldLink RX3 42 "TinCellarModel" "tins" "I", .fieldLink RX3 25 "TinCellarModel" "now" "[I", .fieldLink RX3 19 "TinCellarModel" "batch" "[I", .fieldLink RX3 22 "TinCellarModel" "shelf" "[I", .fieldLink RX3 9 "TinCellarModel" "vacuum" "[I", .methodLink RX3 90 yX3_isBatch, .instanceMethod yX3_isBatch, .selects RX3 yX3_isBatch yX3_isBatch, .initialized RX3, .code yX3_isBatch cX3_isBatch 2 (some .boolean), .fieldLink RX3 39 "TinCellarModel" "batches" "I", .methodLink RX3 35 yX3_isIn, .static yX3_isIn, .code yX3_isIn cX3_isIn 3 (some .boolean), .methodLink RX3 93 yX3_isShelf, .static yX3_isShelf, .code yX3_isShelf cX3_isShelf 1 (some .boolean), .methodLink RX3 87 yX3_no, .instanceMethod yX3_no, .selects RX3 yX3_no yX3_no, .code yX3_no cX3_no 2 (some .int)] ++ wsX30)
def wsX3_move : List Cond := .code yX3_move cX3_move 4 (some .int) :: ([.fieldLink RX3 31 "TinCellarModel" "thrown" "I", .fieldLink RX3 22 "TinCellarModel" "shelf" "[I", .methodLink RX3 96 yX3_isTin, .instanceMethod yX3_isTin, .selects RX3 yX3_isTin yX3_isTin, .initialized RX3, .code yX3_isTin cX3_isTin 2 (some .boolean), .fieldLink RX3 42 "TinCellarModel" "tins" "I", .methodLink RX3 35 yX3_isIn, .static yX3_isIn, .code yX3_isIn cX3_isIn 3 (some .boolean), .methodLink RX3 93 yX3_isShelf, .static yX3_isShelf, .code yX3_isShelf cX3_isShelf 1 (some .boolean), .methodLink RX3 87 yX3_no, .instanceMethod yX3_no, .selects RX3 yX3_no yX3_no, .code yX3_no cX3_no 2 (some .int), .methodLink RX3 51 yX3_isHere, .instanceMethod yX3_isHere, .selects RX3 yX3_isHere yX3_isHere, .code yX3_isHere cX3_isHere 2 (some .boolean), .fieldLink RX3 25 "TinCellarModel" "now" "[I"] ++ wsX30)
def wsX3_setWarm : List Cond := .code yX3_setWarm cX3_setWarm 4 (some .int) :: ([.fieldLink RX3 31 "TinCellarModel" "thrown" "I", .fieldLink RX3 16 "TinCellarModel" "warm" "[I", .methodLink RX3 93 yX3_isShelf, .static yX3_isShelf, .initialized RX3, .code yX3_isShelf cX3_isShelf 1 (some .boolean), .methodLink RX3 35 yX3_isIn, .static yX3_isIn, .code yX3_isIn cX3_isIn 3 (some .boolean), .methodLink RX3 87 yX3_no, .instanceMethod yX3_no, .selects RX3 yX3_no yX3_no, .code yX3_no cX3_no 2 (some .int)] ++ wsX30)
def wsX3_setShipping : List Cond := .code yX3_setShipping cX3_setShipping 4 (some .int) :: ([.fieldLink RX3 31 "TinCellarModel" "thrown" "I", .fieldLink RX3 75 "TinCellarModel" "many" "I", .fieldLink RX3 78 "TinCellarModel" "order" "I", .methodLink RX3 35 yX3_isIn, .static yX3_isIn, .initialized RX3, .code yX3_isIn cX3_isIn 3 (some .boolean), .methodLink RX3 99 yX3_isOrder, .static yX3_isOrder, .code yX3_isOrder cX3_isOrder 1 (some .boolean), .methodLink RX3 87 yX3_no, .instanceMethod yX3_no, .selects RX3 yX3_no yX3_no, .code yX3_no cX3_no 2 (some .int)] ++ wsX30)
def wsX3_recall_r1 : List Cond := [Cond.fieldLink RX3 31 "TinCellarModel" "thrown" "I", Cond.fieldLink RX3 25 "TinCellarModel" "now" "[I", Cond.methodLink RX3 90 yX3_isBatch, Cond.instanceMethod yX3_isBatch, Cond.selects RX3 yX3_isBatch yX3_isBatch, Cond.initialized RX3, Cond.code yX3_isBatch cX3_isBatch 2 (some .boolean), Cond.fieldLink RX3 39 "TinCellarModel" "batches" "I", Cond.methodLink RX3 35 yX3_isIn, Cond.static yX3_isIn, Cond.code yX3_isIn cX3_isIn 3 (some .boolean), Cond.methodLink RX3 87 yX3_no, Cond.instanceMethod yX3_no, Cond.selects RX3 yX3_no yX3_no, Cond.code yX3_no cX3_no 2 (some .int), Cond.methodLink RX3 71 yX3_takeBack, Cond.instanceMethod yX3_takeBack, Cond.selects RX3 yX3_takeBack yX3_takeBack, Cond.code yX3_takeBack cX3_takeBack 4 (some .int), Cond.fieldLink RX3 42 "TinCellarModel" "tins" "I", Cond.fieldLink RX3 19 "TinCellarModel" "batch" "[I", Cond.methodLink RX3 51 yX3_isHere, Cond.instanceMethod yX3_isHere, Cond.selects RX3 yX3_isHere yX3_isHere]
def wsX3_recall_r2 : List Cond := [Cond.code yX3_isHere cX3_isHere 2 (some .boolean)]
def wsX3_recall : List Cond := .code yX3_recall cX3_recall 2 (some .int) :: ((wsX3_recall_r1 ++ wsX3_recall_r2) ++ wsX30)
def wsX3_pass_r1 : List Cond := [Cond.fieldLink RX3 31 "TinCellarModel" "thrown" "I", Cond.methodLink RX3 35 yX3_isIn, Cond.static yX3_isIn, Cond.initialized RX3, Cond.code yX3_isIn cX3_isIn 3 (some .boolean), Cond.methodLink RX3 87 yX3_no, Cond.instanceMethod yX3_no, Cond.selects RX3 yX3_no yX3_no, Cond.code yX3_no cX3_no 2 (some .int), Cond.methodLink RX3 102 yX3_count, Cond.instanceMethod yX3_count, Cond.selects RX3 yX3_count yX3_count, Cond.code yX3_count cX3_count 4 (some .int), Cond.fieldLink RX3 42 "TinCellarModel" "tins" "I", Cond.fieldLink RX3 25 "TinCellarModel" "now" "[I", Cond.methodLink RX3 105 yX3_daysOn, Cond.instanceMethod yX3_daysOn, Cond.selects RX3 yX3_daysOn yX3_daysOn, Cond.code yX3_daysOn cX3_daysOn 3 none, Cond.methodLink RX3 84 yX3_dayOn, Cond.instanceMethod yX3_dayOn, Cond.selects RX3 yX3_dayOn yX3_dayOn, Cond.code yX3_dayOn cX3_dayOn 3 none, Cond.fieldLink RX3 39 "TinCellarModel" "batches" "I"]
def wsX3_pass_r2 : List Cond := [Cond.fieldLink RX3 75 "TinCellarModel" "many" "I", Cond.fieldLink RX3 78 "TinCellarModel" "order" "I", Cond.methodLink RX3 51 yX3_isHere, Cond.instanceMethod yX3_isHere, Cond.selects RX3 yX3_isHere yX3_isHere, Cond.code yX3_isHere cX3_isHere 2 (some .boolean), Cond.methodLink RX3 67 yX3_leak, Cond.instanceMethod yX3_leak, Cond.selects RX3 yX3_leak yX3_leak, Cond.code yX3_leak cX3_leak 2 none, Cond.fieldLink RX3 22 "TinCellarModel" "shelf" "[I", Cond.methodLink RX3 62 Lib.Math.max.name, Cond.static Lib.Math.max.name, Cond.initialized "java/lang/Math", Cond.code Lib.Math.max.name Lib.Math.max.code 2 (some .int), Cond.fieldLink RX3 19 "TinCellarModel" "batch" "[I", Cond.methodLink RX3 59 yX3_rate, Cond.instanceMethod yX3_rate, Cond.selects RX3 yX3_rate yX3_rate, Cond.code yX3_rate cX3_rate 3 (some .int), Cond.fieldLink RX3 13 "TinCellarModel" "leaks" "[I", Cond.fieldLink RX3 16 "TinCellarModel" "warm" "[I", Cond.methodLink RX3 71 yX3_takeBack, Cond.instanceMethod yX3_takeBack]
def wsX3_pass_r3 : List Cond := [Cond.selects RX3 yX3_takeBack yX3_takeBack, Cond.code yX3_takeBack cX3_takeBack 4 (some .int), Cond.methodLink RX3 81 yX3_firstBy, Cond.instanceMethod yX3_firstBy, Cond.selects RX3 yX3_firstBy yX3_firstBy, Cond.code yX3_firstBy cX3_firstBy 4 (some .int), Cond.methodLink RX3 55 yX3_key, Cond.instanceMethod yX3_key, Cond.selects RX3 yX3_key yX3_key, Cond.code yX3_key cX3_key 3 (some .int)]
def wsX3_pass : List Cond := .code yX3_pass cX3_pass 3 (some .int) :: ((wsX3_pass_r1 ++ (wsX3_pass_r2 ++ wsX3_pass_r3)) ++ wsX30)
def wsX3_day : List Cond := .code yX3_day cX3_day 1 (some .int) :: ([.fieldLink RX3 25 "TinCellarModel" "now" "[I", .methodLink RX3 108 yX3_ok, .instanceMethod yX3_ok, .selects RX3 yX3_ok yX3_ok, .initialized RX3, .code yX3_ok cX3_ok 2 (some .int), .fieldLink RX3 31 "TinCellarModel" "thrown" "I"] ++ wsX30)
def wsX3_batches : List Cond := .code yX3_batches cX3_batches 1 (some .int) :: ([.fieldLink RX3 39 "TinCellarModel" "batches" "I", .methodLink RX3 108 yX3_ok, .instanceMethod yX3_ok, .selects RX3 yX3_ok yX3_ok, .initialized RX3, .code yX3_ok cX3_ok 2 (some .int), .fieldLink RX3 31 "TinCellarModel" "thrown" "I"] ++ wsX30)
def wsX3_tins : List Cond := .code yX3_tins cX3_tins 1 (some .int) :: ([.fieldLink RX3 42 "TinCellarModel" "tins" "I", .methodLink RX3 108 yX3_ok, .instanceMethod yX3_ok, .selects RX3 yX3_ok yX3_ok, .initialized RX3, .code yX3_ok cX3_ok 2 (some .int), .fieldLink RX3 31 "TinCellarModel" "thrown" "I"] ++ wsX30)
def wsX3_inCellar : List Cond := .code yX3_inCellar cX3_inCellar 1 (some .int) :: ([.methodLink RX3 102 yX3_count, .instanceMethod yX3_count, .selects RX3 yX3_count yX3_count, .initialized RX3, .code yX3_count cX3_count 4 (some .int), .fieldLink RX3 42 "TinCellarModel" "tins" "I", .fieldLink RX3 25 "TinCellarModel" "now" "[I", .methodLink RX3 108 yX3_ok, .instanceMethod yX3_ok, .selects RX3 yX3_ok yX3_ok, .code yX3_ok cX3_ok 2 (some .int), .fieldLink RX3 31 "TinCellarModel" "thrown" "I"] ++ wsX30)
def wsX3_shipped : List Cond := .code yX3_shipped cX3_shipped 1 (some .int) :: ([.methodLink RX3 102 yX3_count, .instanceMethod yX3_count, .selects RX3 yX3_count yX3_count, .initialized RX3, .code yX3_count cX3_count 4 (some .int), .fieldLink RX3 42 "TinCellarModel" "tins" "I", .fieldLink RX3 25 "TinCellarModel" "now" "[I", .methodLink RX3 108 yX3_ok, .instanceMethod yX3_ok, .selects RX3 yX3_ok yX3_ok, .code yX3_ok cX3_ok 2 (some .int), .fieldLink RX3 31 "TinCellarModel" "thrown" "I"] ++ wsX30)
def wsX3_lost : List Cond := .code yX3_lost cX3_lost 1 (some .int) :: ([.methodLink RX3 102 yX3_count, .instanceMethod yX3_count, .selects RX3 yX3_count yX3_count, .initialized RX3, .code yX3_count cX3_count 4 (some .int), .fieldLink RX3 42 "TinCellarModel" "tins" "I", .fieldLink RX3 25 "TinCellarModel" "now" "[I", .methodLink RX3 108 yX3_ok, .instanceMethod yX3_ok, .selects RX3 yX3_ok yX3_ok, .code yX3_ok cX3_ok 2 (some .int), .fieldLink RX3 31 "TinCellarModel" "thrown" "I"] ++ wsX30)
def wsX3_allSwelled : List Cond := .code yX3_allSwelled cX3_allSwelled 3 (some .int) :: ([.fieldLink RX3 39 "TinCellarModel" "batches" "I", .fieldLink RX3 25 "TinCellarModel" "now" "[I"] ++ wsX30)
def wsX3_swelled : List Cond := .code yX3_swelled cX3_swelled 1 (some .int) :: ([.methodLink RX3 111 yX3_allSwelled, .instanceMethod yX3_allSwelled, .selects RX3 yX3_allSwelled yX3_allSwelled, .initialized RX3, .code yX3_allSwelled cX3_allSwelled 3 (some .int), .fieldLink RX3 39 "TinCellarModel" "batches" "I", .fieldLink RX3 25 "TinCellarModel" "now" "[I", .methodLink RX3 108 yX3_ok, .instanceMethod yX3_ok, .selects RX3 yX3_ok yX3_ok, .code yX3_ok cX3_ok 2 (some .int), .fieldLink RX3 31 "TinCellarModel" "thrown" "I"] ++ wsX30)
def wsX3_on : List Cond := .code yX3_on cX3_on 4 (some .int) :: ([.fieldLink RX3 42 "TinCellarModel" "tins" "I", .fieldLink RX3 22 "TinCellarModel" "shelf" "[I", .methodLink RX3 51 yX3_isHere, .instanceMethod yX3_isHere, .selects RX3 yX3_isHere yX3_isHere, .initialized RX3, .code yX3_isHere cX3_isHere 2 (some .boolean), .fieldLink RX3 25 "TinCellarModel" "now" "[I"] ++ wsX30)
def wsX3_standOn : List Cond := .code yX3_standOn cX3_standOn 2 (some .int) :: ([.fieldLink RX3 31 "TinCellarModel" "thrown" "I", .methodLink RX3 93 yX3_isShelf, .static yX3_isShelf, .initialized RX3, .code yX3_isShelf cX3_isShelf 1 (some .boolean), .methodLink RX3 35 yX3_isIn, .static yX3_isIn, .code yX3_isIn cX3_isIn 3 (some .boolean), .methodLink RX3 115 yX3_on, .instanceMethod yX3_on, .selects RX3 yX3_on yX3_on, .code yX3_on cX3_on 4 (some .int), .fieldLink RX3 42 "TinCellarModel" "tins" "I", .fieldLink RX3 22 "TinCellarModel" "shelf" "[I", .methodLink RX3 51 yX3_isHere, .instanceMethod yX3_isHere, .selects RX3 yX3_isHere yX3_isHere, .code yX3_isHere cX3_isHere 2 (some .boolean), .fieldLink RX3 25 "TinCellarModel" "now" "[I", .methodLink RX3 87 yX3_no, .instanceMethod yX3_no, .selects RX3 yX3_no yX3_no, .code yX3_no cX3_no 2 (some .int)] ++ wsX30)
def wsX3_warmOf : List Cond := .code yX3_warmOf cX3_warmOf 2 (some .int) :: ([.fieldLink RX3 31 "TinCellarModel" "thrown" "I", .fieldLink RX3 16 "TinCellarModel" "warm" "[I", .methodLink RX3 93 yX3_isShelf, .static yX3_isShelf, .initialized RX3, .code yX3_isShelf cX3_isShelf 1 (some .boolean), .methodLink RX3 35 yX3_isIn, .static yX3_isIn, .code yX3_isIn cX3_isIn 3 (some .boolean), .methodLink RX3 87 yX3_no, .instanceMethod yX3_no, .selects RX3 yX3_no yX3_no, .code yX3_no cX3_no 2 (some .int)] ++ wsX30)
def wsX3_batchOf : List Cond := .code yX3_batchOf cX3_batchOf 2 (some .int) :: ([.fieldLink RX3 31 "TinCellarModel" "thrown" "I", .fieldLink RX3 19 "TinCellarModel" "batch" "[I", .methodLink RX3 96 yX3_isTin, .instanceMethod yX3_isTin, .selects RX3 yX3_isTin yX3_isTin, .initialized RX3, .code yX3_isTin cX3_isTin 2 (some .boolean), .fieldLink RX3 42 "TinCellarModel" "tins" "I", .methodLink RX3 35 yX3_isIn, .static yX3_isIn, .code yX3_isIn cX3_isIn 3 (some .boolean), .methodLink RX3 87 yX3_no, .instanceMethod yX3_no, .selects RX3 yX3_no yX3_no, .code yX3_no cX3_no 2 (some .int)] ++ wsX30)
def wsX3_place : List Cond := .code yX3_place cX3_place 2 (some .int) :: ([.fieldLink RX3 22 "TinCellarModel" "shelf" "[I", .methodLink RX3 51 yX3_isHere, .instanceMethod yX3_isHere, .selects RX3 yX3_isHere yX3_isHere, .initialized RX3, .code yX3_isHere cX3_isHere 2 (some .boolean), .fieldLink RX3 25 "TinCellarModel" "now" "[I"] ++ wsX30)
def wsX3_shelfOf : List Cond := .code yX3_shelfOf cX3_shelfOf 2 (some .int) :: ([.fieldLink RX3 31 "TinCellarModel" "thrown" "I", .methodLink RX3 96 yX3_isTin, .instanceMethod yX3_isTin, .selects RX3 yX3_isTin yX3_isTin, .initialized RX3, .code yX3_isTin cX3_isTin 2 (some .boolean), .fieldLink RX3 42 "TinCellarModel" "tins" "I", .methodLink RX3 35 yX3_isIn, .static yX3_isIn, .code yX3_isIn cX3_isIn 3 (some .boolean), .methodLink RX3 118 yX3_place, .instanceMethod yX3_place, .selects RX3 yX3_place yX3_place, .code yX3_place cX3_place 2 (some .int), .fieldLink RX3 22 "TinCellarModel" "shelf" "[I", .methodLink RX3 51 yX3_isHere, .instanceMethod yX3_isHere, .selects RX3 yX3_isHere yX3_isHere, .code yX3_isHere cX3_isHere 2 (some .boolean), .fieldLink RX3 25 "TinCellarModel" "now" "[I", .methodLink RX3 87 yX3_no, .instanceMethod yX3_no, .selects RX3 yX3_no yX3_no, .code yX3_no cX3_no 2 (some .int)] ++ wsX30)
def wsX3_vacuumOf : List Cond := .code yX3_vacuumOf cX3_vacuumOf 2 (some .int) :: ([.fieldLink RX3 31 "TinCellarModel" "thrown" "I", .fieldLink RX3 25 "TinCellarModel" "now" "[I", .methodLink RX3 96 yX3_isTin, .instanceMethod yX3_isTin, .selects RX3 yX3_isTin yX3_isTin, .initialized RX3, .code yX3_isTin cX3_isTin 2 (some .boolean), .fieldLink RX3 42 "TinCellarModel" "tins" "I", .methodLink RX3 35 yX3_isIn, .static yX3_isIn, .code yX3_isIn cX3_isIn 3 (some .boolean), .methodLink RX3 87 yX3_no, .instanceMethod yX3_no, .selects RX3 yX3_no yX3_no, .code yX3_no cX3_no 2 (some .int)] ++ wsX30)
def wsX3_is : List Cond := .code yX3_is cX3_is 3 (some .boolean) :: ([.fieldLink RX3 31 "TinCellarModel" "thrown" "I", .fieldLink RX3 25 "TinCellarModel" "now" "[I", .methodLink RX3 96 yX3_isTin, .instanceMethod yX3_isTin, .selects RX3 yX3_isTin yX3_isTin, .initialized RX3, .code yX3_isTin cX3_isTin 2 (some .boolean), .fieldLink RX3 42 "TinCellarModel" "tins" "I", .methodLink RX3 35 yX3_isIn, .static yX3_isIn, .code yX3_isIn cX3_isIn 3 (some .boolean), .methodLink RX3 121 yX3_isNot, .instanceMethod yX3_isNot, .selects RX3 yX3_isNot yX3_isNot, .code yX3_isNot cX3_isNot 2 (some .boolean)] ++ wsX30)
def wsX3_isShipped : List Cond := .code yX3_isShipped cX3_isShipped 2 (some .boolean) :: ([.methodLink RX3 124 yX3_is, .instanceMethod yX3_is, .selects RX3 yX3_is yX3_is, .initialized RX3, .code yX3_is cX3_is 3 (some .boolean), .fieldLink RX3 31 "TinCellarModel" "thrown" "I", .fieldLink RX3 25 "TinCellarModel" "now" "[I", .methodLink RX3 96 yX3_isTin, .instanceMethod yX3_isTin, .selects RX3 yX3_isTin yX3_isTin, .code yX3_isTin cX3_isTin 2 (some .boolean), .fieldLink RX3 42 "TinCellarModel" "tins" "I", .methodLink RX3 35 yX3_isIn, .static yX3_isIn, .code yX3_isIn cX3_isIn 3 (some .boolean), .methodLink RX3 121 yX3_isNot, .instanceMethod yX3_isNot, .selects RX3 yX3_isNot yX3_isNot, .code yX3_isNot cX3_isNot 2 (some .boolean)] ++ wsX30)
def wsX3_isLost : List Cond := .code yX3_isLost cX3_isLost 2 (some .boolean) :: ([.methodLink RX3 124 yX3_is, .instanceMethod yX3_is, .selects RX3 yX3_is yX3_is, .initialized RX3, .code yX3_is cX3_is 3 (some .boolean), .fieldLink RX3 31 "TinCellarModel" "thrown" "I", .fieldLink RX3 25 "TinCellarModel" "now" "[I", .methodLink RX3 96 yX3_isTin, .instanceMethod yX3_isTin, .selects RX3 yX3_isTin yX3_isTin, .code yX3_isTin cX3_isTin 2 (some .boolean), .fieldLink RX3 42 "TinCellarModel" "tins" "I", .methodLink RX3 35 yX3_isIn, .static yX3_isIn, .code yX3_isIn cX3_isIn 3 (some .boolean), .methodLink RX3 121 yX3_isNot, .instanceMethod yX3_isNot, .selects RX3 yX3_isNot yX3_isNot, .code yX3_isNot cX3_isNot 2 (some .boolean)] ++ wsX30)
def wsX3_swelledOf : List Cond := .code yX3_swelledOf cX3_swelledOf 2 (some .int) :: ([.fieldLink RX3 31 "TinCellarModel" "thrown" "I", .fieldLink RX3 25 "TinCellarModel" "now" "[I", .methodLink RX3 90 yX3_isBatch, .instanceMethod yX3_isBatch, .selects RX3 yX3_isBatch yX3_isBatch, .initialized RX3, .code yX3_isBatch cX3_isBatch 2 (some .boolean), .fieldLink RX3 39 "TinCellarModel" "batches" "I", .methodLink RX3 35 yX3_isIn, .static yX3_isIn, .code yX3_isIn cX3_isIn 3 (some .boolean), .methodLink RX3 87 yX3_no, .instanceMethod yX3_no, .selects RX3 yX3_no yX3_no, .code yX3_no cX3_no 2 (some .int)] ++ wsX30)
def wsX3_left : List Cond := .code yX3_left cX3_left 4 (some .int) :: ([.fieldLink RX3 42 "TinCellarModel" "tins" "I", .fieldLink RX3 19 "TinCellarModel" "batch" "[I", .methodLink RX3 51 yX3_isHere, .instanceMethod yX3_isHere, .selects RX3 yX3_isHere yX3_isHere, .initialized RX3, .code yX3_isHere cX3_isHere 2 (some .boolean), .fieldLink RX3 25 "TinCellarModel" "now" "[I"] ++ wsX30)
def wsX3_leftOf_r1 : List Cond := [Cond.fieldLink RX3 31 "TinCellarModel" "thrown" "I", Cond.methodLink RX3 90 yX3_isBatch, Cond.instanceMethod yX3_isBatch, Cond.selects RX3 yX3_isBatch yX3_isBatch, Cond.initialized RX3, Cond.code yX3_isBatch cX3_isBatch 2 (some .boolean), Cond.fieldLink RX3 39 "TinCellarModel" "batches" "I", Cond.methodLink RX3 35 yX3_isIn, Cond.static yX3_isIn, Cond.code yX3_isIn cX3_isIn 3 (some .boolean), Cond.methodLink RX3 128 yX3_left, Cond.instanceMethod yX3_left, Cond.selects RX3 yX3_left yX3_left, Cond.code yX3_left cX3_left 4 (some .int), Cond.fieldLink RX3 42 "TinCellarModel" "tins" "I", Cond.fieldLink RX3 19 "TinCellarModel" "batch" "[I", Cond.methodLink RX3 51 yX3_isHere, Cond.instanceMethod yX3_isHere, Cond.selects RX3 yX3_isHere yX3_isHere, Cond.code yX3_isHere cX3_isHere 2 (some .boolean), Cond.fieldLink RX3 25 "TinCellarModel" "now" "[I", Cond.methodLink RX3 87 yX3_no, Cond.instanceMethod yX3_no, Cond.selects RX3 yX3_no yX3_no]
def wsX3_leftOf_r2 : List Cond := [Cond.code yX3_no cX3_no 2 (some .int)]
def wsX3_leftOf : List Cond := .code yX3_leftOf cX3_leftOf 2 (some .int) :: ((wsX3_leftOf_r1 ++ wsX3_leftOf_r2) ++ wsX30)
def wsX3_isRecalled : List Cond := .code yX3_isRecalled cX3_isRecalled 2 (some .boolean) :: ([.fieldLink RX3 31 "TinCellarModel" "thrown" "I", .fieldLink RX3 25 "TinCellarModel" "now" "[I", .methodLink RX3 90 yX3_isBatch, .instanceMethod yX3_isBatch, .selects RX3 yX3_isBatch yX3_isBatch, .initialized RX3, .code yX3_isBatch cX3_isBatch 2 (some .boolean), .fieldLink RX3 39 "TinCellarModel" "batches" "I", .methodLink RX3 35 yX3_isIn, .static yX3_isIn, .code yX3_isIn cX3_isIn 3 (some .boolean), .methodLink RX3 121 yX3_isNot, .instanceMethod yX3_isNot, .selects RX3 yX3_isNot yX3_isNot, .code yX3_isNot cX3_isNot 2 (some .boolean)] ++ wsX30)
def wsX3_first_r1 : List Cond := [Cond.fieldLink RX3 31 "TinCellarModel" "thrown" "I", Cond.methodLink RX3 99 yX3_isOrder, Cond.static yX3_isOrder, Cond.initialized RX3, Cond.code yX3_isOrder cX3_isOrder 1 (some .boolean), Cond.methodLink RX3 35 yX3_isIn, Cond.static yX3_isIn, Cond.code yX3_isIn cX3_isIn 3 (some .boolean), Cond.methodLink RX3 81 yX3_firstBy, Cond.instanceMethod yX3_firstBy, Cond.selects RX3 yX3_firstBy yX3_firstBy, Cond.code yX3_firstBy cX3_firstBy 4 (some .int), Cond.fieldLink RX3 42 "TinCellarModel" "tins" "I", Cond.methodLink RX3 51 yX3_isHere, Cond.instanceMethod yX3_isHere, Cond.selects RX3 yX3_isHere yX3_isHere, Cond.code yX3_isHere cX3_isHere 2 (some .boolean), Cond.fieldLink RX3 25 "TinCellarModel" "now" "[I", Cond.methodLink RX3 55 yX3_key, Cond.instanceMethod yX3_key, Cond.selects RX3 yX3_key yX3_key, Cond.code yX3_key cX3_key 3 (some .int), Cond.fieldLink RX3 16 "TinCellarModel" "warm" "[I", Cond.fieldLink RX3 22 "TinCellarModel" "shelf" "[I"]
def wsX3_first_r2 : List Cond := [Cond.methodLink RX3 87 yX3_no, Cond.instanceMethod yX3_no, Cond.selects RX3 yX3_no yX3_no, Cond.code yX3_no cX3_no 2 (some .int)]
def wsX3_first : List Cond := .code yX3_first cX3_first 2 (some .int) :: ((wsX3_first_r1 ++ wsX3_first_r2) ++ wsX30)
def wsX3_ahead : List Cond := .code yX3_ahead cX3_ahead 5 (some .int) :: ([.fieldLink RX3 42 "TinCellarModel" "tins" "I", .methodLink RX3 51 yX3_isHere, .instanceMethod yX3_isHere, .selects RX3 yX3_isHere yX3_isHere, .initialized RX3, .code yX3_isHere cX3_isHere 2 (some .boolean), .fieldLink RX3 25 "TinCellarModel" "now" "[I", .methodLink RX3 55 yX3_key, .instanceMethod yX3_key, .selects RX3 yX3_key yX3_key, .code yX3_key cX3_key 3 (some .int), .fieldLink RX3 16 "TinCellarModel" "warm" "[I", .fieldLink RX3 22 "TinCellarModel" "shelf" "[I"] ++ wsX30)
def wsX3_placeBy_r1 : List Cond := [Cond.fieldLink RX3 31 "TinCellarModel" "thrown" "I", Cond.methodLink RX3 96 yX3_isTin, Cond.instanceMethod yX3_isTin, Cond.selects RX3 yX3_isTin yX3_isTin, Cond.initialized RX3, Cond.code yX3_isTin cX3_isTin 2 (some .boolean), Cond.fieldLink RX3 42 "TinCellarModel" "tins" "I", Cond.methodLink RX3 35 yX3_isIn, Cond.static yX3_isIn, Cond.code yX3_isIn cX3_isIn 3 (some .boolean), Cond.methodLink RX3 87 yX3_no, Cond.instanceMethod yX3_no, Cond.selects RX3 yX3_no yX3_no, Cond.code yX3_no cX3_no 2 (some .int), Cond.methodLink RX3 99 yX3_isOrder, Cond.static yX3_isOrder, Cond.code yX3_isOrder cX3_isOrder 1 (some .boolean), Cond.methodLink RX3 131 yX3_ahead, Cond.instanceMethod yX3_ahead, Cond.selects RX3 yX3_ahead yX3_ahead, Cond.code yX3_ahead cX3_ahead 5 (some .int), Cond.methodLink RX3 51 yX3_isHere, Cond.instanceMethod yX3_isHere, Cond.selects RX3 yX3_isHere yX3_isHere]
def wsX3_placeBy_r2 : List Cond := [Cond.code yX3_isHere cX3_isHere 2 (some .boolean), Cond.fieldLink RX3 25 "TinCellarModel" "now" "[I", Cond.methodLink RX3 55 yX3_key, Cond.instanceMethod yX3_key, Cond.selects RX3 yX3_key yX3_key, Cond.code yX3_key cX3_key 3 (some .int), Cond.fieldLink RX3 16 "TinCellarModel" "warm" "[I", Cond.fieldLink RX3 22 "TinCellarModel" "shelf" "[I"]
def wsX3_placeBy : List Cond := .code yX3_placeBy cX3_placeBy 3 (some .int) :: ((wsX3_placeBy_r1 ++ wsX3_placeBy_r2) ++ wsX30)
def wsX3_until : List Cond := .code yX3_until cX3_until 4 (some .int) :: ([.fieldLink RX3 25 "TinCellarModel" "now" "[I", .methodLink RX3 59 yX3_rate, .instanceMethod yX3_rate, .selects RX3 yX3_rate yX3_rate, .initialized RX3, .code yX3_rate cX3_rate 3 (some .int), .fieldLink RX3 13 "TinCellarModel" "leaks" "[I", .fieldLink RX3 19 "TinCellarModel" "batch" "[I", .fieldLink RX3 16 "TinCellarModel" "warm" "[I"] ++ wsX30)
def wsX3_daysOf_r1 : List Cond := [Cond.fieldLink RX3 31 "TinCellarModel" "thrown" "I", Cond.fieldLink RX3 22 "TinCellarModel" "shelf" "[I", Cond.methodLink RX3 96 yX3_isTin, Cond.instanceMethod yX3_isTin, Cond.selects RX3 yX3_isTin yX3_isTin, Cond.initialized RX3, Cond.code yX3_isTin cX3_isTin 2 (some .boolean), Cond.fieldLink RX3 42 "TinCellarModel" "tins" "I", Cond.methodLink RX3 35 yX3_isIn, Cond.static yX3_isIn, Cond.code yX3_isIn cX3_isIn 3 (some .boolean), Cond.methodLink RX3 87 yX3_no, Cond.instanceMethod yX3_no, Cond.selects RX3 yX3_no yX3_no, Cond.code yX3_no cX3_no 2 (some .int), Cond.methodLink RX3 51 yX3_isHere, Cond.instanceMethod yX3_isHere, Cond.selects RX3 yX3_isHere yX3_isHere, Cond.code yX3_isHere cX3_isHere 2 (some .boolean), Cond.fieldLink RX3 25 "TinCellarModel" "now" "[I", Cond.methodLink RX3 134 yX3_until, Cond.instanceMethod yX3_until, Cond.selects RX3 yX3_until yX3_until, Cond.code yX3_until cX3_until 4 (some .int)]
def wsX3_daysOf_r2 : List Cond := [Cond.methodLink RX3 59 yX3_rate, Cond.instanceMethod yX3_rate, Cond.selects RX3 yX3_rate yX3_rate, Cond.code yX3_rate cX3_rate 3 (some .int), Cond.fieldLink RX3 13 "TinCellarModel" "leaks" "[I", Cond.fieldLink RX3 19 "TinCellarModel" "batch" "[I", Cond.fieldLink RX3 16 "TinCellarModel" "warm" "[I"]
def wsX3_daysOf : List Cond := .code yX3_daysOf cX3_daysOf 2 (some .int) :: ((wsX3_daysOf_r1 ++ wsX3_daysOf_r2) ++ wsX30)
def wsX3_untilRecalled_r1 : List Cond := [Cond.fieldLink RX3 25 "TinCellarModel" "now" "[I", Cond.methodLink RX3 137 yX3_keep, Cond.instanceMethod yX3_keep, Cond.selects RX3 yX3_keep yX3_keep, Cond.initialized RX3, Cond.code yX3_keep cX3_keep 1 none, Cond.fieldLink RX3 28 "TinCellarModel" "kept" "[I", Cond.methodLink RX3 45 arraycopyName, Cond.native arraycopyName, Cond.static arraycopyName, Cond.initialized "java/lang/System", Cond.methodLink RX3 84 yX3_dayOn, Cond.instanceMethod yX3_dayOn, Cond.selects RX3 yX3_dayOn yX3_dayOn, Cond.code yX3_dayOn cX3_dayOn 3 none, Cond.fieldLink RX3 42 "TinCellarModel" "tins" "I", Cond.fieldLink RX3 39 "TinCellarModel" "batches" "I", Cond.fieldLink RX3 75 "TinCellarModel" "many" "I", Cond.fieldLink RX3 78 "TinCellarModel" "order" "I", Cond.methodLink RX3 51 yX3_isHere, Cond.instanceMethod yX3_isHere, Cond.selects RX3 yX3_isHere yX3_isHere, Cond.code yX3_isHere cX3_isHere 2 (some .boolean), Cond.methodLink RX3 67 yX3_leak]
def wsX3_untilRecalled_r2 : List Cond := [Cond.instanceMethod yX3_leak, Cond.selects RX3 yX3_leak yX3_leak, Cond.code yX3_leak cX3_leak 2 none, Cond.fieldLink RX3 22 "TinCellarModel" "shelf" "[I", Cond.methodLink RX3 62 Lib.Math.max.name, Cond.static Lib.Math.max.name, Cond.initialized "java/lang/Math", Cond.code Lib.Math.max.name Lib.Math.max.code 2 (some .int), Cond.fieldLink RX3 19 "TinCellarModel" "batch" "[I", Cond.methodLink RX3 59 yX3_rate, Cond.instanceMethod yX3_rate, Cond.selects RX3 yX3_rate yX3_rate, Cond.code yX3_rate cX3_rate 3 (some .int), Cond.fieldLink RX3 13 "TinCellarModel" "leaks" "[I", Cond.fieldLink RX3 16 "TinCellarModel" "warm" "[I", Cond.methodLink RX3 71 yX3_takeBack, Cond.instanceMethod yX3_takeBack, Cond.selects RX3 yX3_takeBack yX3_takeBack, Cond.code yX3_takeBack cX3_takeBack 4 (some .int), Cond.methodLink RX3 81 yX3_firstBy, Cond.instanceMethod yX3_firstBy, Cond.selects RX3 yX3_firstBy yX3_firstBy, Cond.code yX3_firstBy cX3_firstBy 4 (some .int), Cond.methodLink RX3 55 yX3_key]
def wsX3_untilRecalled_r3 : List Cond := [Cond.instanceMethod yX3_key, Cond.selects RX3 yX3_key yX3_key, Cond.code yX3_key cX3_key 3 (some .int), Cond.methodLink RX3 140 yX3_bringBack, Cond.instanceMethod yX3_bringBack, Cond.selects RX3 yX3_bringBack yX3_bringBack, Cond.code yX3_bringBack cX3_bringBack 1 none]
def wsX3_untilRecalled : List Cond := .code yX3_untilRecalled cX3_untilRecalled 3 (some .int) :: ((wsX3_untilRecalled_r1 ++ (wsX3_untilRecalled_r2 ++ wsX3_untilRecalled_r3)) ++ wsX30)
def wsX3_daysUntilRecalled_r1 : List Cond := [Cond.fieldLink RX3 31 "TinCellarModel" "thrown" "I", Cond.methodLink RX3 90 yX3_isBatch, Cond.instanceMethod yX3_isBatch, Cond.selects RX3 yX3_isBatch yX3_isBatch, Cond.initialized RX3, Cond.code yX3_isBatch cX3_isBatch 2 (some .boolean), Cond.fieldLink RX3 39 "TinCellarModel" "batches" "I", Cond.methodLink RX3 35 yX3_isIn, Cond.static yX3_isIn, Cond.code yX3_isIn cX3_isIn 3 (some .boolean), Cond.methodLink RX3 143 yX3_untilRecalled, Cond.instanceMethod yX3_untilRecalled, Cond.selects RX3 yX3_untilRecalled yX3_untilRecalled, Cond.code yX3_untilRecalled cX3_untilRecalled 3 (some .int), Cond.fieldLink RX3 25 "TinCellarModel" "now" "[I", Cond.methodLink RX3 137 yX3_keep, Cond.instanceMethod yX3_keep, Cond.selects RX3 yX3_keep yX3_keep, Cond.code yX3_keep cX3_keep 1 none, Cond.fieldLink RX3 28 "TinCellarModel" "kept" "[I", Cond.methodLink RX3 45 arraycopyName, Cond.native arraycopyName, Cond.static arraycopyName, Cond.initialized "java/lang/System"]
def wsX3_daysUntilRecalled_r2 : List Cond := [Cond.methodLink RX3 84 yX3_dayOn, Cond.instanceMethod yX3_dayOn, Cond.selects RX3 yX3_dayOn yX3_dayOn, Cond.code yX3_dayOn cX3_dayOn 3 none, Cond.fieldLink RX3 42 "TinCellarModel" "tins" "I", Cond.fieldLink RX3 75 "TinCellarModel" "many" "I", Cond.fieldLink RX3 78 "TinCellarModel" "order" "I", Cond.methodLink RX3 51 yX3_isHere, Cond.instanceMethod yX3_isHere, Cond.selects RX3 yX3_isHere yX3_isHere, Cond.code yX3_isHere cX3_isHere 2 (some .boolean), Cond.methodLink RX3 67 yX3_leak, Cond.instanceMethod yX3_leak, Cond.selects RX3 yX3_leak yX3_leak, Cond.code yX3_leak cX3_leak 2 none, Cond.fieldLink RX3 22 "TinCellarModel" "shelf" "[I", Cond.methodLink RX3 62 Lib.Math.max.name, Cond.static Lib.Math.max.name, Cond.initialized "java/lang/Math", Cond.code Lib.Math.max.name Lib.Math.max.code 2 (some .int), Cond.fieldLink RX3 19 "TinCellarModel" "batch" "[I", Cond.methodLink RX3 59 yX3_rate, Cond.instanceMethod yX3_rate, Cond.selects RX3 yX3_rate yX3_rate]
def wsX3_daysUntilRecalled_r3 : List Cond := [Cond.code yX3_rate cX3_rate 3 (some .int), Cond.fieldLink RX3 13 "TinCellarModel" "leaks" "[I", Cond.fieldLink RX3 16 "TinCellarModel" "warm" "[I", Cond.methodLink RX3 71 yX3_takeBack, Cond.instanceMethod yX3_takeBack, Cond.selects RX3 yX3_takeBack yX3_takeBack, Cond.code yX3_takeBack cX3_takeBack 4 (some .int), Cond.methodLink RX3 81 yX3_firstBy, Cond.instanceMethod yX3_firstBy, Cond.selects RX3 yX3_firstBy yX3_firstBy, Cond.code yX3_firstBy cX3_firstBy 4 (some .int), Cond.methodLink RX3 55 yX3_key, Cond.instanceMethod yX3_key, Cond.selects RX3 yX3_key yX3_key, Cond.code yX3_key cX3_key 3 (some .int), Cond.methodLink RX3 140 yX3_bringBack, Cond.instanceMethod yX3_bringBack, Cond.selects RX3 yX3_bringBack yX3_bringBack, Cond.code yX3_bringBack cX3_bringBack 1 none, Cond.methodLink RX3 87 yX3_no, Cond.instanceMethod yX3_no, Cond.selects RX3 yX3_no yX3_no, Cond.code yX3_no cX3_no 2 (some .int)]
def wsX3_daysUntilRecalled : List Cond := .code yX3_daysUntilRecalled cX3_daysUntilRecalled 2 (some .int) :: ((wsX3_daysUntilRecalled_r1 ++ (wsX3_daysUntilRecalled_r2 ++ wsX3_daysUntilRecalled_r3)) ++ wsX30)
def wsX3_lostBehind_r1 : List Cond := [Cond.fieldLink RX3 75 "TinCellarModel" "many" "I", Cond.fieldLink RX3 78 "TinCellarModel" "order" "I", Cond.methodLink RX3 102 yX3_count, Cond.instanceMethod yX3_count, Cond.selects RX3 yX3_count yX3_count, Cond.initialized RX3, Cond.code yX3_count cX3_count 4 (some .int), Cond.fieldLink RX3 42 "TinCellarModel" "tins" "I", Cond.fieldLink RX3 25 "TinCellarModel" "now" "[I", Cond.methodLink RX3 137 yX3_keep, Cond.instanceMethod yX3_keep, Cond.selects RX3 yX3_keep yX3_keep, Cond.code yX3_keep cX3_keep 1 none, Cond.fieldLink RX3 28 "TinCellarModel" "kept" "[I", Cond.methodLink RX3 45 arraycopyName, Cond.native arraycopyName, Cond.static arraycopyName, Cond.initialized "java/lang/System", Cond.methodLink RX3 105 yX3_daysOn, Cond.instanceMethod yX3_daysOn, Cond.selects RX3 yX3_daysOn yX3_daysOn, Cond.code yX3_daysOn cX3_daysOn 3 none, Cond.methodLink RX3 84 yX3_dayOn, Cond.instanceMethod yX3_dayOn]
def wsX3_lostBehind_r2 : List Cond := [Cond.selects RX3 yX3_dayOn yX3_dayOn, Cond.code yX3_dayOn cX3_dayOn 3 none, Cond.fieldLink RX3 39 "TinCellarModel" "batches" "I", Cond.methodLink RX3 51 yX3_isHere, Cond.instanceMethod yX3_isHere, Cond.selects RX3 yX3_isHere yX3_isHere, Cond.code yX3_isHere cX3_isHere 2 (some .boolean), Cond.methodLink RX3 67 yX3_leak, Cond.instanceMethod yX3_leak, Cond.selects RX3 yX3_leak yX3_leak, Cond.code yX3_leak cX3_leak 2 none, Cond.fieldLink RX3 22 "TinCellarModel" "shelf" "[I", Cond.methodLink RX3 62 Lib.Math.max.name, Cond.static Lib.Math.max.name, Cond.initialized "java/lang/Math", Cond.code Lib.Math.max.name Lib.Math.max.code 2 (some .int), Cond.fieldLink RX3 19 "TinCellarModel" "batch" "[I", Cond.methodLink RX3 59 yX3_rate, Cond.instanceMethod yX3_rate, Cond.selects RX3 yX3_rate yX3_rate, Cond.code yX3_rate cX3_rate 3 (some .int), Cond.fieldLink RX3 13 "TinCellarModel" "leaks" "[I", Cond.fieldLink RX3 16 "TinCellarModel" "warm" "[I", Cond.methodLink RX3 71 yX3_takeBack]
def wsX3_lostBehind_r3 : List Cond := [Cond.instanceMethod yX3_takeBack, Cond.selects RX3 yX3_takeBack yX3_takeBack, Cond.code yX3_takeBack cX3_takeBack 4 (some .int), Cond.methodLink RX3 81 yX3_firstBy, Cond.instanceMethod yX3_firstBy, Cond.selects RX3 yX3_firstBy yX3_firstBy, Cond.code yX3_firstBy cX3_firstBy 4 (some .int), Cond.methodLink RX3 55 yX3_key, Cond.instanceMethod yX3_key, Cond.selects RX3 yX3_key yX3_key, Cond.code yX3_key cX3_key 3 (some .int), Cond.methodLink RX3 140 yX3_bringBack, Cond.instanceMethod yX3_bringBack, Cond.selects RX3 yX3_bringBack yX3_bringBack, Cond.code yX3_bringBack cX3_bringBack 1 none]
def wsX3_lostBehind : List Cond := .code yX3_lostBehind cX3_lostBehind 7 (some .int) :: ((wsX3_lostBehind_r1 ++ (wsX3_lostBehind_r2 ++ wsX3_lostBehind_r3)) ++ wsX30)
def wsX3_lostWith_r1 : List Cond := [Cond.fieldLink RX3 31 "TinCellarModel" "thrown" "I", Cond.methodLink RX3 35 yX3_isIn, Cond.static yX3_isIn, Cond.initialized RX3, Cond.code yX3_isIn cX3_isIn 3 (some .boolean), Cond.methodLink RX3 99 yX3_isOrder, Cond.static yX3_isOrder, Cond.code yX3_isOrder cX3_isOrder 1 (some .boolean), Cond.methodLink RX3 146 yX3_lostBehind, Cond.instanceMethod yX3_lostBehind, Cond.selects RX3 yX3_lostBehind yX3_lostBehind, Cond.code yX3_lostBehind cX3_lostBehind 7 (some .int), Cond.fieldLink RX3 75 "TinCellarModel" "many" "I", Cond.fieldLink RX3 78 "TinCellarModel" "order" "I", Cond.methodLink RX3 102 yX3_count, Cond.instanceMethod yX3_count, Cond.selects RX3 yX3_count yX3_count, Cond.code yX3_count cX3_count 4 (some .int), Cond.fieldLink RX3 42 "TinCellarModel" "tins" "I", Cond.fieldLink RX3 25 "TinCellarModel" "now" "[I", Cond.methodLink RX3 137 yX3_keep, Cond.instanceMethod yX3_keep, Cond.selects RX3 yX3_keep yX3_keep, Cond.code yX3_keep cX3_keep 1 none]
def wsX3_lostWith_r2 : List Cond := [Cond.fieldLink RX3 28 "TinCellarModel" "kept" "[I", Cond.methodLink RX3 45 arraycopyName, Cond.native arraycopyName, Cond.static arraycopyName, Cond.initialized "java/lang/System", Cond.methodLink RX3 105 yX3_daysOn, Cond.instanceMethod yX3_daysOn, Cond.selects RX3 yX3_daysOn yX3_daysOn, Cond.code yX3_daysOn cX3_daysOn 3 none, Cond.methodLink RX3 84 yX3_dayOn, Cond.instanceMethod yX3_dayOn, Cond.selects RX3 yX3_dayOn yX3_dayOn, Cond.code yX3_dayOn cX3_dayOn 3 none, Cond.fieldLink RX3 39 "TinCellarModel" "batches" "I", Cond.methodLink RX3 51 yX3_isHere, Cond.instanceMethod yX3_isHere, Cond.selects RX3 yX3_isHere yX3_isHere, Cond.code yX3_isHere cX3_isHere 2 (some .boolean), Cond.methodLink RX3 67 yX3_leak, Cond.instanceMethod yX3_leak, Cond.selects RX3 yX3_leak yX3_leak, Cond.code yX3_leak cX3_leak 2 none, Cond.fieldLink RX3 22 "TinCellarModel" "shelf" "[I", Cond.methodLink RX3 62 Lib.Math.max.name]
def wsX3_lostWith_r3 : List Cond := [Cond.static Lib.Math.max.name, Cond.initialized "java/lang/Math", Cond.code Lib.Math.max.name Lib.Math.max.code 2 (some .int), Cond.fieldLink RX3 19 "TinCellarModel" "batch" "[I", Cond.methodLink RX3 59 yX3_rate, Cond.instanceMethod yX3_rate, Cond.selects RX3 yX3_rate yX3_rate, Cond.code yX3_rate cX3_rate 3 (some .int), Cond.fieldLink RX3 13 "TinCellarModel" "leaks" "[I", Cond.fieldLink RX3 16 "TinCellarModel" "warm" "[I", Cond.methodLink RX3 71 yX3_takeBack, Cond.instanceMethod yX3_takeBack, Cond.selects RX3 yX3_takeBack yX3_takeBack, Cond.code yX3_takeBack cX3_takeBack 4 (some .int), Cond.methodLink RX3 81 yX3_firstBy, Cond.instanceMethod yX3_firstBy, Cond.selects RX3 yX3_firstBy yX3_firstBy, Cond.code yX3_firstBy cX3_firstBy 4 (some .int), Cond.methodLink RX3 55 yX3_key, Cond.instanceMethod yX3_key, Cond.selects RX3 yX3_key yX3_key, Cond.code yX3_key cX3_key 3 (some .int), Cond.methodLink RX3 140 yX3_bringBack, Cond.instanceMethod yX3_bringBack]
def wsX3_lostWith_r4 : List Cond := [Cond.selects RX3 yX3_bringBack yX3_bringBack, Cond.code yX3_bringBack cX3_bringBack 1 none, Cond.methodLink RX3 87 yX3_no, Cond.instanceMethod yX3_no, Cond.selects RX3 yX3_no yX3_no, Cond.code yX3_no cX3_no 2 (some .int)]
def wsX3_lostWith : List Cond := .code yX3_lostWith cX3_lostWith 3 (some .int) :: ((wsX3_lostWith_r1 ++ (wsX3_lostWith_r2 ++ (wsX3_lostWith_r3 ++ wsX3_lostWith_r4))) ++ wsX30)
def wsX3_best_r1 : List Cond := [Cond.fieldLink RX3 75 "TinCellarModel" "many" "I", Cond.methodLink RX3 146 yX3_lostBehind, Cond.instanceMethod yX3_lostBehind, Cond.selects RX3 yX3_lostBehind yX3_lostBehind, Cond.initialized RX3, Cond.code yX3_lostBehind cX3_lostBehind 7 (some .int), Cond.fieldLink RX3 78 "TinCellarModel" "order" "I", Cond.methodLink RX3 102 yX3_count, Cond.instanceMethod yX3_count, Cond.selects RX3 yX3_count yX3_count, Cond.code yX3_count cX3_count 4 (some .int), Cond.fieldLink RX3 42 "TinCellarModel" "tins" "I", Cond.fieldLink RX3 25 "TinCellarModel" "now" "[I", Cond.methodLink RX3 137 yX3_keep, Cond.instanceMethod yX3_keep, Cond.selects RX3 yX3_keep yX3_keep, Cond.code yX3_keep cX3_keep 1 none, Cond.fieldLink RX3 28 "TinCellarModel" "kept" "[I", Cond.methodLink RX3 45 arraycopyName, Cond.native arraycopyName, Cond.static arraycopyName, Cond.initialized "java/lang/System", Cond.methodLink RX3 105 yX3_daysOn, Cond.instanceMethod yX3_daysOn]
def wsX3_best_r2 : List Cond := [Cond.selects RX3 yX3_daysOn yX3_daysOn, Cond.code yX3_daysOn cX3_daysOn 3 none, Cond.methodLink RX3 84 yX3_dayOn, Cond.instanceMethod yX3_dayOn, Cond.selects RX3 yX3_dayOn yX3_dayOn, Cond.code yX3_dayOn cX3_dayOn 3 none, Cond.fieldLink RX3 39 "TinCellarModel" "batches" "I", Cond.methodLink RX3 51 yX3_isHere, Cond.instanceMethod yX3_isHere, Cond.selects RX3 yX3_isHere yX3_isHere, Cond.code yX3_isHere cX3_isHere 2 (some .boolean), Cond.methodLink RX3 67 yX3_leak, Cond.instanceMethod yX3_leak, Cond.selects RX3 yX3_leak yX3_leak, Cond.code yX3_leak cX3_leak 2 none, Cond.fieldLink RX3 22 "TinCellarModel" "shelf" "[I", Cond.methodLink RX3 62 Lib.Math.max.name, Cond.static Lib.Math.max.name, Cond.initialized "java/lang/Math", Cond.code Lib.Math.max.name Lib.Math.max.code 2 (some .int), Cond.fieldLink RX3 19 "TinCellarModel" "batch" "[I", Cond.methodLink RX3 59 yX3_rate, Cond.instanceMethod yX3_rate, Cond.selects RX3 yX3_rate yX3_rate]
def wsX3_best_r3 : List Cond := [Cond.code yX3_rate cX3_rate 3 (some .int), Cond.fieldLink RX3 13 "TinCellarModel" "leaks" "[I", Cond.fieldLink RX3 16 "TinCellarModel" "warm" "[I", Cond.methodLink RX3 71 yX3_takeBack, Cond.instanceMethod yX3_takeBack, Cond.selects RX3 yX3_takeBack yX3_takeBack, Cond.code yX3_takeBack cX3_takeBack 4 (some .int), Cond.methodLink RX3 81 yX3_firstBy, Cond.instanceMethod yX3_firstBy, Cond.selects RX3 yX3_firstBy yX3_firstBy, Cond.code yX3_firstBy cX3_firstBy 4 (some .int), Cond.methodLink RX3 55 yX3_key, Cond.instanceMethod yX3_key, Cond.selects RX3 yX3_key yX3_key, Cond.code yX3_key cX3_key 3 (some .int), Cond.methodLink RX3 140 yX3_bringBack, Cond.instanceMethod yX3_bringBack, Cond.selects RX3 yX3_bringBack yX3_bringBack, Cond.code yX3_bringBack cX3_bringBack 1 none]
def wsX3_best : List Cond := .code yX3_best cX3_best 5 (some .int) :: ((wsX3_best_r1 ++ (wsX3_best_r2 ++ wsX3_best_r3)) ++ wsX30)
def wsX3_bestOrder_r1 : List Cond := [Cond.methodLink RX3 149 yX3_best, Cond.instanceMethod yX3_best, Cond.selects RX3 yX3_best yX3_best, Cond.initialized RX3, Cond.code yX3_best cX3_best 5 (some .int), Cond.fieldLink RX3 75 "TinCellarModel" "many" "I", Cond.methodLink RX3 146 yX3_lostBehind, Cond.instanceMethod yX3_lostBehind, Cond.selects RX3 yX3_lostBehind yX3_lostBehind, Cond.code yX3_lostBehind cX3_lostBehind 7 (some .int), Cond.fieldLink RX3 78 "TinCellarModel" "order" "I", Cond.methodLink RX3 102 yX3_count, Cond.instanceMethod yX3_count, Cond.selects RX3 yX3_count yX3_count, Cond.code yX3_count cX3_count 4 (some .int), Cond.fieldLink RX3 42 "TinCellarModel" "tins" "I", Cond.fieldLink RX3 25 "TinCellarModel" "now" "[I", Cond.methodLink RX3 137 yX3_keep, Cond.instanceMethod yX3_keep, Cond.selects RX3 yX3_keep yX3_keep, Cond.code yX3_keep cX3_keep 1 none, Cond.fieldLink RX3 28 "TinCellarModel" "kept" "[I", Cond.methodLink RX3 45 arraycopyName, Cond.native arraycopyName]
def wsX3_bestOrder_r2 : List Cond := [Cond.static arraycopyName, Cond.initialized "java/lang/System", Cond.methodLink RX3 105 yX3_daysOn, Cond.instanceMethod yX3_daysOn, Cond.selects RX3 yX3_daysOn yX3_daysOn, Cond.code yX3_daysOn cX3_daysOn 3 none, Cond.methodLink RX3 84 yX3_dayOn, Cond.instanceMethod yX3_dayOn, Cond.selects RX3 yX3_dayOn yX3_dayOn, Cond.code yX3_dayOn cX3_dayOn 3 none, Cond.fieldLink RX3 39 "TinCellarModel" "batches" "I", Cond.methodLink RX3 51 yX3_isHere, Cond.instanceMethod yX3_isHere, Cond.selects RX3 yX3_isHere yX3_isHere, Cond.code yX3_isHere cX3_isHere 2 (some .boolean), Cond.methodLink RX3 67 yX3_leak, Cond.instanceMethod yX3_leak, Cond.selects RX3 yX3_leak yX3_leak, Cond.code yX3_leak cX3_leak 2 none, Cond.fieldLink RX3 22 "TinCellarModel" "shelf" "[I", Cond.methodLink RX3 62 Lib.Math.max.name, Cond.static Lib.Math.max.name, Cond.initialized "java/lang/Math", Cond.code Lib.Math.max.name Lib.Math.max.code 2 (some .int)]
def wsX3_bestOrder_r3 : List Cond := [Cond.fieldLink RX3 19 "TinCellarModel" "batch" "[I", Cond.methodLink RX3 59 yX3_rate, Cond.instanceMethod yX3_rate, Cond.selects RX3 yX3_rate yX3_rate, Cond.code yX3_rate cX3_rate 3 (some .int), Cond.fieldLink RX3 13 "TinCellarModel" "leaks" "[I", Cond.fieldLink RX3 16 "TinCellarModel" "warm" "[I", Cond.methodLink RX3 71 yX3_takeBack, Cond.instanceMethod yX3_takeBack, Cond.selects RX3 yX3_takeBack yX3_takeBack, Cond.code yX3_takeBack cX3_takeBack 4 (some .int), Cond.methodLink RX3 81 yX3_firstBy, Cond.instanceMethod yX3_firstBy, Cond.selects RX3 yX3_firstBy yX3_firstBy, Cond.code yX3_firstBy cX3_firstBy 4 (some .int), Cond.methodLink RX3 55 yX3_key, Cond.instanceMethod yX3_key, Cond.selects RX3 yX3_key yX3_key, Cond.code yX3_key cX3_key 3 (some .int), Cond.methodLink RX3 140 yX3_bringBack, Cond.instanceMethod yX3_bringBack, Cond.selects RX3 yX3_bringBack yX3_bringBack, Cond.code yX3_bringBack cX3_bringBack 1 none, Cond.methodLink RX3 108 yX3_ok]
def wsX3_bestOrder_r4 : List Cond := [Cond.instanceMethod yX3_ok, Cond.selects RX3 yX3_ok yX3_ok, Cond.code yX3_ok cX3_ok 2 (some .int), Cond.fieldLink RX3 31 "TinCellarModel" "thrown" "I"]
def wsX3_bestOrder : List Cond := .code yX3_bestOrder cX3_bestOrder 1 (some .int) :: ((wsX3_bestOrder_r1 ++ (wsX3_bestOrder_r2 ++ (wsX3_bestOrder_r3 ++ wsX3_bestOrder_r4))) ++ wsX30)
def wsX3_wanted_r1 : List Cond := [Cond.fieldLink RX3 78 "TinCellarModel" "order" "I", Cond.methodLink RX3 146 yX3_lostBehind, Cond.instanceMethod yX3_lostBehind, Cond.selects RX3 yX3_lostBehind yX3_lostBehind, Cond.initialized RX3, Cond.code yX3_lostBehind cX3_lostBehind 7 (some .int), Cond.fieldLink RX3 75 "TinCellarModel" "many" "I", Cond.methodLink RX3 102 yX3_count, Cond.instanceMethod yX3_count, Cond.selects RX3 yX3_count yX3_count, Cond.code yX3_count cX3_count 4 (some .int), Cond.fieldLink RX3 42 "TinCellarModel" "tins" "I", Cond.fieldLink RX3 25 "TinCellarModel" "now" "[I", Cond.methodLink RX3 137 yX3_keep, Cond.instanceMethod yX3_keep, Cond.selects RX3 yX3_keep yX3_keep, Cond.code yX3_keep cX3_keep 1 none, Cond.fieldLink RX3 28 "TinCellarModel" "kept" "[I", Cond.methodLink RX3 45 arraycopyName, Cond.native arraycopyName, Cond.static arraycopyName, Cond.initialized "java/lang/System", Cond.methodLink RX3 105 yX3_daysOn, Cond.instanceMethod yX3_daysOn]
def wsX3_wanted_r2 : List Cond := [Cond.selects RX3 yX3_daysOn yX3_daysOn, Cond.code yX3_daysOn cX3_daysOn 3 none, Cond.methodLink RX3 84 yX3_dayOn, Cond.instanceMethod yX3_dayOn, Cond.selects RX3 yX3_dayOn yX3_dayOn, Cond.code yX3_dayOn cX3_dayOn 3 none, Cond.fieldLink RX3 39 "TinCellarModel" "batches" "I", Cond.methodLink RX3 51 yX3_isHere, Cond.instanceMethod yX3_isHere, Cond.selects RX3 yX3_isHere yX3_isHere, Cond.code yX3_isHere cX3_isHere 2 (some .boolean), Cond.methodLink RX3 67 yX3_leak, Cond.instanceMethod yX3_leak, Cond.selects RX3 yX3_leak yX3_leak, Cond.code yX3_leak cX3_leak 2 none, Cond.fieldLink RX3 22 "TinCellarModel" "shelf" "[I", Cond.methodLink RX3 62 Lib.Math.max.name, Cond.static Lib.Math.max.name, Cond.initialized "java/lang/Math", Cond.code Lib.Math.max.name Lib.Math.max.code 2 (some .int), Cond.fieldLink RX3 19 "TinCellarModel" "batch" "[I", Cond.methodLink RX3 59 yX3_rate, Cond.instanceMethod yX3_rate, Cond.selects RX3 yX3_rate yX3_rate]
def wsX3_wanted_r3 : List Cond := [Cond.code yX3_rate cX3_rate 3 (some .int), Cond.fieldLink RX3 13 "TinCellarModel" "leaks" "[I", Cond.fieldLink RX3 16 "TinCellarModel" "warm" "[I", Cond.methodLink RX3 71 yX3_takeBack, Cond.instanceMethod yX3_takeBack, Cond.selects RX3 yX3_takeBack yX3_takeBack, Cond.code yX3_takeBack cX3_takeBack 4 (some .int), Cond.methodLink RX3 81 yX3_firstBy, Cond.instanceMethod yX3_firstBy, Cond.selects RX3 yX3_firstBy yX3_firstBy, Cond.code yX3_firstBy cX3_firstBy 4 (some .int), Cond.methodLink RX3 55 yX3_key, Cond.instanceMethod yX3_key, Cond.selects RX3 yX3_key yX3_key, Cond.code yX3_key cX3_key 3 (some .int), Cond.methodLink RX3 140 yX3_bringBack, Cond.instanceMethod yX3_bringBack, Cond.selects RX3 yX3_bringBack yX3_bringBack, Cond.code yX3_bringBack cX3_bringBack 1 none]
def wsX3_wanted : List Cond := .code yX3_wanted cX3_wanted 2 (some .int) :: ((wsX3_wanted_r1 ++ (wsX3_wanted_r2 ++ wsX3_wanted_r3)) ++ wsX30)
def wsX3_shippingWanted_r1 : List Cond := [Cond.methodLink RX3 152 yX3_wanted, Cond.instanceMethod yX3_wanted, Cond.selects RX3 yX3_wanted yX3_wanted, Cond.initialized RX3, Cond.code yX3_wanted cX3_wanted 2 (some .int), Cond.fieldLink RX3 78 "TinCellarModel" "order" "I", Cond.methodLink RX3 146 yX3_lostBehind, Cond.instanceMethod yX3_lostBehind, Cond.selects RX3 yX3_lostBehind yX3_lostBehind, Cond.code yX3_lostBehind cX3_lostBehind 7 (some .int), Cond.fieldLink RX3 75 "TinCellarModel" "many" "I", Cond.methodLink RX3 102 yX3_count, Cond.instanceMethod yX3_count, Cond.selects RX3 yX3_count yX3_count, Cond.code yX3_count cX3_count 4 (some .int), Cond.fieldLink RX3 42 "TinCellarModel" "tins" "I", Cond.fieldLink RX3 25 "TinCellarModel" "now" "[I", Cond.methodLink RX3 137 yX3_keep, Cond.instanceMethod yX3_keep, Cond.selects RX3 yX3_keep yX3_keep, Cond.code yX3_keep cX3_keep 1 none, Cond.fieldLink RX3 28 "TinCellarModel" "kept" "[I", Cond.methodLink RX3 45 arraycopyName, Cond.native arraycopyName]
def wsX3_shippingWanted_r2 : List Cond := [Cond.static arraycopyName, Cond.initialized "java/lang/System", Cond.methodLink RX3 105 yX3_daysOn, Cond.instanceMethod yX3_daysOn, Cond.selects RX3 yX3_daysOn yX3_daysOn, Cond.code yX3_daysOn cX3_daysOn 3 none, Cond.methodLink RX3 84 yX3_dayOn, Cond.instanceMethod yX3_dayOn, Cond.selects RX3 yX3_dayOn yX3_dayOn, Cond.code yX3_dayOn cX3_dayOn 3 none, Cond.fieldLink RX3 39 "TinCellarModel" "batches" "I", Cond.methodLink RX3 51 yX3_isHere, Cond.instanceMethod yX3_isHere, Cond.selects RX3 yX3_isHere yX3_isHere, Cond.code yX3_isHere cX3_isHere 2 (some .boolean), Cond.methodLink RX3 67 yX3_leak, Cond.instanceMethod yX3_leak, Cond.selects RX3 yX3_leak yX3_leak, Cond.code yX3_leak cX3_leak 2 none, Cond.fieldLink RX3 22 "TinCellarModel" "shelf" "[I", Cond.methodLink RX3 62 Lib.Math.max.name, Cond.static Lib.Math.max.name, Cond.initialized "java/lang/Math", Cond.code Lib.Math.max.name Lib.Math.max.code 2 (some .int)]
def wsX3_shippingWanted_r3 : List Cond := [Cond.fieldLink RX3 19 "TinCellarModel" "batch" "[I", Cond.methodLink RX3 59 yX3_rate, Cond.instanceMethod yX3_rate, Cond.selects RX3 yX3_rate yX3_rate, Cond.code yX3_rate cX3_rate 3 (some .int), Cond.fieldLink RX3 13 "TinCellarModel" "leaks" "[I", Cond.fieldLink RX3 16 "TinCellarModel" "warm" "[I", Cond.methodLink RX3 71 yX3_takeBack, Cond.instanceMethod yX3_takeBack, Cond.selects RX3 yX3_takeBack yX3_takeBack, Cond.code yX3_takeBack cX3_takeBack 4 (some .int), Cond.methodLink RX3 81 yX3_firstBy, Cond.instanceMethod yX3_firstBy, Cond.selects RX3 yX3_firstBy yX3_firstBy, Cond.code yX3_firstBy cX3_firstBy 4 (some .int), Cond.methodLink RX3 55 yX3_key, Cond.instanceMethod yX3_key, Cond.selects RX3 yX3_key yX3_key, Cond.code yX3_key cX3_key 3 (some .int), Cond.methodLink RX3 140 yX3_bringBack, Cond.instanceMethod yX3_bringBack, Cond.selects RX3 yX3_bringBack yX3_bringBack, Cond.code yX3_bringBack cX3_bringBack 1 none, Cond.methodLink RX3 108 yX3_ok]
def wsX3_shippingWanted_r4 : List Cond := [Cond.instanceMethod yX3_ok, Cond.selects RX3 yX3_ok yX3_ok, Cond.code yX3_ok cX3_ok 2 (some .int), Cond.fieldLink RX3 31 "TinCellarModel" "thrown" "I"]
def wsX3_shippingWanted : List Cond := .code yX3_shippingWanted cX3_shippingWanted 1 (some .int) :: ((wsX3_shippingWanted_r1 ++ (wsX3_shippingWanted_r2 ++ (wsX3_shippingWanted_r3 ++ wsX3_shippingWanted_r4))) ++ wsX30)
def wsX3_shelfFor : List Cond := .code yX3_shelfFor cX3_shelfFor 4 (some .int) :: ([.methodLink RX3 51 yX3_isHere, .instanceMethod yX3_isHere, .selects RX3 yX3_isHere yX3_isHere, .initialized RX3, .code yX3_isHere cX3_isHere 2 (some .boolean), .fieldLink RX3 25 "TinCellarModel" "now" "[I", .methodLink RX3 134 yX3_until, .instanceMethod yX3_until, .selects RX3 yX3_until yX3_until, .code yX3_until cX3_until 4 (some .int), .methodLink RX3 59 yX3_rate, .instanceMethod yX3_rate, .selects RX3 yX3_rate yX3_rate, .code yX3_rate cX3_rate 3 (some .int), .fieldLink RX3 13 "TinCellarModel" "leaks" "[I", .fieldLink RX3 19 "TinCellarModel" "batch" "[I", .fieldLink RX3 16 "TinCellarModel" "warm" "[I"] ++ wsX30)
def wsX3_bestShelf_r1 : List Cond := [Cond.fieldLink RX3 31 "TinCellarModel" "thrown" "I", Cond.methodLink RX3 96 yX3_isTin, Cond.instanceMethod yX3_isTin, Cond.selects RX3 yX3_isTin yX3_isTin, Cond.initialized RX3, Cond.code yX3_isTin cX3_isTin 2 (some .boolean), Cond.fieldLink RX3 42 "TinCellarModel" "tins" "I", Cond.methodLink RX3 35 yX3_isIn, Cond.static yX3_isIn, Cond.code yX3_isIn cX3_isIn 3 (some .boolean), Cond.methodLink RX3 155 yX3_shelfFor, Cond.instanceMethod yX3_shelfFor, Cond.selects RX3 yX3_shelfFor yX3_shelfFor, Cond.code yX3_shelfFor cX3_shelfFor 4 (some .int), Cond.methodLink RX3 51 yX3_isHere, Cond.instanceMethod yX3_isHere, Cond.selects RX3 yX3_isHere yX3_isHere, Cond.code yX3_isHere cX3_isHere 2 (some .boolean), Cond.fieldLink RX3 25 "TinCellarModel" "now" "[I", Cond.methodLink RX3 134 yX3_until, Cond.instanceMethod yX3_until, Cond.selects RX3 yX3_until yX3_until, Cond.code yX3_until cX3_until 4 (some .int), Cond.methodLink RX3 59 yX3_rate]
def wsX3_bestShelf_r2 : List Cond := [Cond.instanceMethod yX3_rate, Cond.selects RX3 yX3_rate yX3_rate, Cond.code yX3_rate cX3_rate 3 (some .int), Cond.fieldLink RX3 13 "TinCellarModel" "leaks" "[I", Cond.fieldLink RX3 19 "TinCellarModel" "batch" "[I", Cond.fieldLink RX3 16 "TinCellarModel" "warm" "[I", Cond.methodLink RX3 87 yX3_no, Cond.instanceMethod yX3_no, Cond.selects RX3 yX3_no yX3_no, Cond.code yX3_no cX3_no 2 (some .int)]
def wsX3_bestShelf : List Cond := .code yX3_bestShelf cX3_bestShelf 2 (some .int) :: ((wsX3_bestShelf_r1 ++ wsX3_bestShelf_r2) ++ wsX30)
def wsX3_meanVacuum : List Cond := .code yX3_meanVacuum cX3_meanVacuum 3 (some .double) :: ([.fieldLink RX3 31 "TinCellarModel" "thrown" "I", .fieldLink RX3 42 "TinCellarModel" "tins" "I", .fieldLink RX3 25 "TinCellarModel" "now" "[I", .methodLink RX3 51 yX3_isHere, .instanceMethod yX3_isHere, .selects RX3 yX3_isHere yX3_isHere, .initialized RX3, .code yX3_isHere cX3_isHere 2 (some .boolean), .methodLink RX3 102 yX3_count, .instanceMethod yX3_count, .selects RX3 yX3_count yX3_count, .code yX3_count cX3_count 4 (some .int)] ++ wsX30)
def wsX3_digest_r1 : List Cond := [Cond.fieldLink RX3 31 "TinCellarModel" "thrown" "I", Cond.arrayClass .int, Cond.fieldLink RX3 25 "TinCellarModel" "now" "[I", Cond.fieldLink RX3 39 "TinCellarModel" "batches" "I", Cond.fieldLink RX3 42 "TinCellarModel" "tins" "I", Cond.constantLong RX3 158 (2351), Cond.constantLong RX3 160 (31), Cond.fieldLink RX3 16 "TinCellarModel" "warm" "[I", Cond.fieldLink RX3 22 "TinCellarModel" "shelf" "[I", Cond.methodLink RX3 102 yX3_count, Cond.instanceMethod yX3_count, Cond.selects RX3 yX3_count yX3_count, Cond.initialized RX3, Cond.code yX3_count cX3_count 4 (some .int), Cond.methodLink RX3 111 yX3_allSwelled, Cond.instanceMethod yX3_allSwelled, Cond.selects RX3 yX3_allSwelled yX3_allSwelled, Cond.code yX3_allSwelled cX3_allSwelled 3 (some .int), Cond.methodLink RX3 81 yX3_firstBy, Cond.instanceMethod yX3_firstBy, Cond.selects RX3 yX3_firstBy yX3_firstBy, Cond.code yX3_firstBy cX3_firstBy 4 (some .int), Cond.methodLink RX3 51 yX3_isHere, Cond.instanceMethod yX3_isHere]
def wsX3_digest_r2 : List Cond := [Cond.selects RX3 yX3_isHere yX3_isHere, Cond.code yX3_isHere cX3_isHere 2 (some .boolean), Cond.methodLink RX3 55 yX3_key, Cond.instanceMethod yX3_key, Cond.selects RX3 yX3_key yX3_key, Cond.code yX3_key cX3_key 3 (some .int), Cond.methodLink RX3 149 yX3_best, Cond.instanceMethod yX3_best, Cond.selects RX3 yX3_best yX3_best, Cond.code yX3_best cX3_best 5 (some .int), Cond.fieldLink RX3 75 "TinCellarModel" "many" "I", Cond.methodLink RX3 146 yX3_lostBehind, Cond.instanceMethod yX3_lostBehind, Cond.selects RX3 yX3_lostBehind yX3_lostBehind, Cond.code yX3_lostBehind cX3_lostBehind 7 (some .int), Cond.fieldLink RX3 78 "TinCellarModel" "order" "I", Cond.methodLink RX3 137 yX3_keep, Cond.instanceMethod yX3_keep, Cond.selects RX3 yX3_keep yX3_keep, Cond.code yX3_keep cX3_keep 1 none, Cond.fieldLink RX3 28 "TinCellarModel" "kept" "[I", Cond.methodLink RX3 45 arraycopyName, Cond.native arraycopyName, Cond.static arraycopyName]
def wsX3_digest_r3 : List Cond := [Cond.initialized "java/lang/System", Cond.methodLink RX3 105 yX3_daysOn, Cond.instanceMethod yX3_daysOn, Cond.selects RX3 yX3_daysOn yX3_daysOn, Cond.code yX3_daysOn cX3_daysOn 3 none, Cond.methodLink RX3 84 yX3_dayOn, Cond.instanceMethod yX3_dayOn, Cond.selects RX3 yX3_dayOn yX3_dayOn, Cond.code yX3_dayOn cX3_dayOn 3 none, Cond.methodLink RX3 67 yX3_leak, Cond.instanceMethod yX3_leak, Cond.selects RX3 yX3_leak yX3_leak, Cond.code yX3_leak cX3_leak 2 none, Cond.methodLink RX3 62 Lib.Math.max.name, Cond.static Lib.Math.max.name, Cond.initialized "java/lang/Math", Cond.code Lib.Math.max.name Lib.Math.max.code 2 (some .int), Cond.fieldLink RX3 19 "TinCellarModel" "batch" "[I", Cond.methodLink RX3 59 yX3_rate, Cond.instanceMethod yX3_rate, Cond.selects RX3 yX3_rate yX3_rate, Cond.code yX3_rate cX3_rate 3 (some .int), Cond.fieldLink RX3 13 "TinCellarModel" "leaks" "[I", Cond.methodLink RX3 71 yX3_takeBack]
def wsX3_digest_r4 : List Cond := [Cond.instanceMethod yX3_takeBack, Cond.selects RX3 yX3_takeBack yX3_takeBack, Cond.code yX3_takeBack cX3_takeBack 4 (some .int), Cond.methodLink RX3 140 yX3_bringBack, Cond.instanceMethod yX3_bringBack, Cond.selects RX3 yX3_bringBack yX3_bringBack, Cond.code yX3_bringBack cX3_bringBack 1 none, Cond.methodLink RX3 152 yX3_wanted, Cond.instanceMethod yX3_wanted, Cond.selects RX3 yX3_wanted yX3_wanted, Cond.code yX3_wanted cX3_wanted 2 (some .int), Cond.methodLink RX3 115 yX3_on, Cond.instanceMethod yX3_on, Cond.selects RX3 yX3_on yX3_on, Cond.code yX3_on cX3_on 4 (some .int), Cond.methodLink RX3 128 yX3_left, Cond.instanceMethod yX3_left, Cond.selects RX3 yX3_left yX3_left, Cond.code yX3_left cX3_left 4 (some .int), Cond.methodLink RX3 143 yX3_untilRecalled, Cond.instanceMethod yX3_untilRecalled, Cond.selects RX3 yX3_untilRecalled yX3_untilRecalled, Cond.code yX3_untilRecalled cX3_untilRecalled 3 (some .int), Cond.methodLink RX3 118 yX3_place]
def wsX3_digest_r5 : List Cond := [Cond.instanceMethod yX3_place, Cond.selects RX3 yX3_place yX3_place, Cond.code yX3_place cX3_place 2 (some .int), Cond.methodLink RX3 131 yX3_ahead, Cond.instanceMethod yX3_ahead, Cond.selects RX3 yX3_ahead yX3_ahead, Cond.code yX3_ahead cX3_ahead 5 (some .int), Cond.methodLink RX3 134 yX3_until, Cond.instanceMethod yX3_until, Cond.selects RX3 yX3_until yX3_until, Cond.code yX3_until cX3_until 4 (some .int), Cond.methodLink RX3 155 yX3_shelfFor, Cond.instanceMethod yX3_shelfFor, Cond.selects RX3 yX3_shelfFor yX3_shelfFor, Cond.code yX3_shelfFor cX3_shelfFor 4 (some .int)]
def wsX3_digest : List Cond := .code yX3_digest cX3_digest 8 (some .long) :: ((wsX3_digest_r1 ++ (wsX3_digest_r2 ++ (wsX3_digest_r3 ++ (wsX3_digest_r4 ++ wsX3_digest_r5)))) ++ wsX30)
def wsJ9_max_7cf53 : List Cond := .code yJ9_max_7cf53 cJ9_max_7cf53 2 (some .int) :: ([])
def wsL_addBatch_r1 : List Cond := [Cond.classLink RL 13 "java/lang/IllegalArgumentException", Cond.classLink RL 15 "java/lang/IllegalStateException", Cond.methodLink RL 7 yX2_addBatch, Cond.instanceMethod yX2_addBatch, Cond.selects RX2 yX2_addBatch yX2_addBatch, Cond.initialized RX2, Cond.code yX2_addBatch cX2_addBatch 3 (some .int), Cond.classLink RX2 23 "java/lang/IllegalArgumentException", Cond.initialized "java/lang/IllegalArgumentException", Cond.classLink RX2 34 "java/lang/IllegalStateException", Cond.initialized "java/lang/IllegalStateException", Cond.fieldLink RX2 10 "TinCellar" "now" "LTinCellar$Stock;", Cond.methodLink RX2 19 yX2_isWithin, Cond.static yX2_isWithin, Cond.code yX2_isWithin cX2_isWithin 3 (some .boolean), Cond.methodLink RX2 39 yX1_takeBatch, Cond.instanceMethod yX1_takeBatch, Cond.selects RX1 yX1_takeBatch yX1_takeBatch, Cond.initialized RX1, Cond.code yX1_takeBatch cX1_takeBatch 4 (some .int), Cond.fieldLink RX1 52 "TinCellar$Stock" "batchCount" "I", Cond.fieldLink RX1 20 "TinCellar$Stock" "vacuumAtFirst" "LTinCellar$Row;", Cond.fieldLink RX1 23 "TinCellar$Stock" "leaks" "LTinCellar$Row;", Cond.methodLink RX1 64 yX0_set]
def wsL_addBatch_r2 : List Cond := [Cond.instanceMethod yX0_set, Cond.selects RX0 yX0_set yX0_set, Cond.initialized RX0, Cond.code yX0_set cX0_set 3 none, Cond.fieldLink RX0 13 "TinCellar$Row" "cells" "[I"]
def wsL_addBatch : List Cond := .codeWith yL_addBatch cL_addBatch 5 (some .int) [(0, 10, 13, 13), (0, 10, 17, 15)] :: ((wsL_addBatch_r1 ++ wsL_addBatch_r2) ++ wsX20 ++ wsX10 ++ wsX00 ++ (vx_atS RX2 27 "java/lang/IllegalArgumentException" ["java/lang/RuntimeException", "java/lang/Exception"]).filter goodWord ++ (vx_atS RX2 38 "java/lang/IllegalStateException" ["java/lang/RuntimeException", "java/lang/Exception"]).filter goodWord)
def wsL_seal_r1 : List Cond := [Cond.classLink RL 21 "java/lang/IndexOutOfBoundsException", Cond.classLink RL 13 "java/lang/IllegalArgumentException", Cond.classLink RL 15 "java/lang/IllegalStateException", Cond.methodLink RL 17 yX2_seal, Cond.instanceMethod yX2_seal, Cond.selects RX2 yX2_seal yX2_seal, Cond.initialized RX2, Cond.code yX2_seal cX2_seal 4 (some .int), Cond.classLink RX2 23 "java/lang/IllegalArgumentException", Cond.initialized "java/lang/IllegalArgumentException", Cond.classLink RX2 34 "java/lang/IllegalStateException", Cond.initialized "java/lang/IllegalStateException", Cond.fieldLink RX2 10 "TinCellar" "now" "LTinCellar$Stock;", Cond.methodLink RX2 43 yX2_needBatch, Cond.instanceMethod yX2_needBatch, Cond.selects RX2 yX2_needBatch yX2_needBatch, Cond.code yX2_needBatch cX2_needBatch 2 none, Cond.classLink RX2 243 "java/lang/IndexOutOfBoundsException", Cond.initialized "java/lang/IndexOutOfBoundsException", Cond.methodLink RX2 19 yX2_isWithin, Cond.static yX2_isWithin, Cond.code yX2_isWithin cX2_isWithin 3 (some .boolean), Cond.methodLink RX2 47 yX2_needShelf, Cond.static yX2_needShelf]
def wsL_seal_r2 : List Cond := [Cond.code yX2_needShelf cX2_needShelf 1 none, Cond.methodLink RX2 55 yX1_isBatchRecalled, Cond.instanceMethod yX1_isBatchRecalled, Cond.selects RX1 yX1_isBatchRecalled yX1_isBatchRecalled, Cond.initialized RX1, Cond.code yX1_isBatchRecalled cX1_isBatchRecalled 2 (some .boolean), Cond.fieldLink RX1 29 "TinCellar$Stock" "recalled" "LTinCellar$Row;", Cond.methodLink RX1 68 yX0_get, Cond.instanceMethod yX0_get, Cond.selects RX0 yX0_get yX0_get, Cond.initialized RX0, Cond.code yX0_get cX0_get 2 (some .int), Cond.fieldLink RX0 13 "TinCellar$Row" "cells" "[I", Cond.methodLink RX2 61 yX1_takeTins, Cond.instanceMethod yX1_takeTins, Cond.selects RX1 yX1_takeTins yX1_takeTins, Cond.code yX1_takeTins cX1_takeTins 6 (some .int), Cond.fieldLink RX1 55 "TinCellar$Stock" "tinCount" "I", Cond.fieldLink RX1 32 "TinCellar$Stock" "batch" "LTinCellar$Row;", Cond.fieldLink RX1 35 "TinCellar$Stock" "shelf" "LTinCellar$Row;", Cond.fieldLink RX1 38 "TinCellar$Stock" "vacuum" "LTinCellar$Row;", Cond.fieldLink RX1 20 "TinCellar$Stock" "vacuumAtFirst" "LTinCellar$Row;", Cond.fieldLink RX1 41 "TinCellar$Stock" "place" "LTinCellar$Row;", Cond.methodLink RX1 64 yX0_set]
def wsL_seal_r3 : List Cond := [Cond.instanceMethod yX0_set, Cond.selects RX0 yX0_set yX0_set, Cond.code yX0_set cX0_set 3 none]
def wsL_seal : List Cond := .codeWith yL_seal cL_seal 6 (some .int) [(0, 12, 15, 21), (0, 12, 19, 13), (0, 12, 23, 15)] :: ((wsL_seal_r1 ++ (wsL_seal_r2 ++ wsL_seal_r3)) ++ wsX20 ++ wsX10 ++ wsX00 ++ (vx_atS RX2 27 "java/lang/IllegalArgumentException" ["java/lang/RuntimeException", "java/lang/Exception"]).filter goodWord ++ (vx_atS RX2 38 "java/lang/IllegalStateException" ["java/lang/RuntimeException", "java/lang/Exception"]).filter goodWord ++ (vx_atS RX2 247 "java/lang/IndexOutOfBoundsException" ["java/lang/RuntimeException", "java/lang/Exception"]).filter goodWord)
def wsL_move_r1 : List Cond := [Cond.classLink RL 21 "java/lang/IndexOutOfBoundsException", Cond.classLink RL 15 "java/lang/IllegalStateException", Cond.methodLink RL 23 yX2_move, Cond.instanceMethod yX2_move, Cond.selects RX2 yX2_move yX2_move, Cond.initialized RX2, Cond.code yX2_move cX2_move 4 (some .int), Cond.classLink RX2 34 "java/lang/IllegalStateException", Cond.initialized "java/lang/IllegalStateException", Cond.fieldLink RX2 10 "TinCellar" "now" "LTinCellar$Stock;", Cond.methodLink RX2 65 yX2_needTin, Cond.instanceMethod yX2_needTin, Cond.selects RX2 yX2_needTin yX2_needTin, Cond.code yX2_needTin cX2_needTin 2 none, Cond.classLink RX2 243 "java/lang/IndexOutOfBoundsException", Cond.initialized "java/lang/IndexOutOfBoundsException", Cond.methodLink RX2 19 yX2_isWithin, Cond.static yX2_isWithin, Cond.code yX2_isWithin cX2_isWithin 3 (some .boolean), Cond.methodLink RX2 47 yX2_needShelf, Cond.static yX2_needShelf, Cond.code yX2_needShelf cX2_needShelf 1 none, Cond.methodLink RX2 68 yX1_holds, Cond.instanceMethod yX1_holds]
def wsL_move_r2 : List Cond := [Cond.selects RX1 yX1_holds yX1_holds, Cond.initialized RX1, Cond.code yX1_holds cX1_holds 2 (some .boolean), Cond.fieldLink RX1 41 "TinCellar$Stock" "place" "LTinCellar$Row;", Cond.methodLink RX1 68 yX0_get, Cond.instanceMethod yX0_get, Cond.selects RX0 yX0_get yX0_get, Cond.initialized RX0, Cond.code yX0_get cX0_get 2 (some .int), Cond.fieldLink RX0 13 "TinCellar$Row" "cells" "[I", Cond.methodLink RX2 77 yX0_get, Cond.methodLink RX2 83 yX0_set, Cond.instanceMethod yX0_set, Cond.selects RX0 yX0_set yX0_set, Cond.code yX0_set cX0_set 3 none]
def wsL_move : List Cond := .codeWith yL_move cL_move 5 (some .int) [(0, 10, 13, 21), (0, 10, 17, 15)] :: ((wsL_move_r1 ++ wsL_move_r2) ++ wsX20 ++ wsX10 ++ wsX00 ++ (vx_atS RX2 38 "java/lang/IllegalStateException" ["java/lang/RuntimeException", "java/lang/Exception"]).filter goodWord ++ (vx_atS RX2 247 "java/lang/IndexOutOfBoundsException" ["java/lang/RuntimeException", "java/lang/Exception"]).filter goodWord)
def wsL_setWarm_r1 : List Cond := [Cond.classLink RL 21 "java/lang/IndexOutOfBoundsException", Cond.classLink RL 13 "java/lang/IllegalArgumentException", Cond.methodLink RL 26 yX2_setWarm, Cond.instanceMethod yX2_setWarm, Cond.selects RX2 yX2_setWarm yX2_setWarm, Cond.initialized RX2, Cond.code yX2_setWarm cX2_setWarm 4 (some .int), Cond.classLink RX2 23 "java/lang/IllegalArgumentException", Cond.initialized "java/lang/IllegalArgumentException", Cond.fieldLink RX2 10 "TinCellar" "now" "LTinCellar$Stock;", Cond.methodLink RX2 47 yX2_needShelf, Cond.static yX2_needShelf, Cond.code yX2_needShelf cX2_needShelf 1 none, Cond.classLink RX2 243 "java/lang/IndexOutOfBoundsException", Cond.initialized "java/lang/IndexOutOfBoundsException", Cond.methodLink RX2 19 yX2_isWithin, Cond.static yX2_isWithin, Cond.code yX2_isWithin cX2_isWithin 3 (some .boolean), Cond.methodLink RX2 77 yX0_get, Cond.instanceMethod yX0_get, Cond.selects RX0 yX0_get yX0_get, Cond.initialized RX0, Cond.code yX0_get cX0_get 2 (some .int), Cond.fieldLink RX0 13 "TinCellar$Row" "cells" "[I"]
def wsL_setWarm_r2 : List Cond := [Cond.methodLink RX2 83 yX0_set, Cond.instanceMethod yX0_set, Cond.selects RX0 yX0_set yX0_set, Cond.code yX0_set cX0_set 3 none]
def wsL_setWarm : List Cond := .codeWith yL_setWarm cL_setWarm 5 (some .int) [(0, 10, 13, 21), (0, 10, 17, 13)] :: ((wsL_setWarm_r1 ++ wsL_setWarm_r2) ++ wsX20 ++ wsX10 ++ wsX00 ++ (vx_atS RX2 27 "java/lang/IllegalArgumentException" ["java/lang/RuntimeException", "java/lang/Exception"]).filter goodWord ++ (vx_atS RX2 247 "java/lang/IndexOutOfBoundsException" ["java/lang/RuntimeException", "java/lang/Exception"]).filter goodWord)
def wsL_setShipping : List Cond := .codeWith yL_setShipping cL_setShipping 5 (some .int) [(0, 10, 13, 13)] :: ([.classLink RL 13 "java/lang/IllegalArgumentException", .methodLink RL 29 yX2_setShipping, .instanceMethod yX2_setShipping, .selects RX2 yX2_setShipping yX2_setShipping, .initialized RX2, .code yX2_setShipping cX2_setShipping 4 (some .int), .fieldLink RX2 10 "TinCellar" "now" "LTinCellar$Stock;", .methodLink RX2 92 yX2_needShipping, .static yX2_needShipping, .code yX2_needShipping cX2_needShipping 2 none, .classLink RX2 23 "java/lang/IllegalArgumentException", .initialized "java/lang/IllegalArgumentException", .methodLink RX2 19 yX2_isWithin, .static yX2_isWithin, .code yX2_isWithin cX2_isWithin 3 (some .boolean), .methodLink RX2 133 yX2_needOrder, .static yX2_needOrder, .code yX2_needOrder cX2_needOrder 1 none] ++ wsX20 ++ wsX10 ++ (vx_atS RX2 27 "java/lang/IllegalArgumentException" ["java/lang/RuntimeException", "java/lang/Exception"]).filter goodWord)
def wsL_recall_r1 : List Cond := [Cond.classLink RL 21 "java/lang/IndexOutOfBoundsException", Cond.classLink RL 15 "java/lang/IllegalStateException", Cond.methodLink RL 32 yX2_recall, Cond.instanceMethod yX2_recall, Cond.selects RX2 yX2_recall yX2_recall, Cond.initialized RX2, Cond.code yX2_recall cX2_recall 2 (some .int), Cond.classLink RX2 34 "java/lang/IllegalStateException", Cond.initialized "java/lang/IllegalStateException", Cond.fieldLink RX2 10 "TinCellar" "now" "LTinCellar$Stock;", Cond.methodLink RX2 43 yX2_needBatch, Cond.instanceMethod yX2_needBatch, Cond.selects RX2 yX2_needBatch yX2_needBatch, Cond.code yX2_needBatch cX2_needBatch 2 none, Cond.classLink RX2 243 "java/lang/IndexOutOfBoundsException", Cond.initialized "java/lang/IndexOutOfBoundsException", Cond.methodLink RX2 19 yX2_isWithin, Cond.static yX2_isWithin, Cond.code yX2_isWithin cX2_isWithin 3 (some .boolean), Cond.methodLink RX2 55 yX1_isBatchRecalled, Cond.instanceMethod yX1_isBatchRecalled, Cond.selects RX1 yX1_isBatchRecalled yX1_isBatchRecalled, Cond.initialized RX1, Cond.code yX1_isBatchRecalled cX1_isBatchRecalled 2 (some .boolean)]
def wsL_recall_r2 : List Cond := [Cond.fieldLink RX1 29 "TinCellar$Stock" "recalled" "LTinCellar$Row;", Cond.methodLink RX1 68 yX0_get, Cond.instanceMethod yX0_get, Cond.selects RX0 yX0_get yX0_get, Cond.initialized RX0, Cond.code yX0_get cX0_get 2 (some .int), Cond.fieldLink RX0 13 "TinCellar$Row" "cells" "[I", Cond.methodLink RX2 103 yX1_recallBatch, Cond.instanceMethod yX1_recallBatch, Cond.selects RX1 yX1_recallBatch yX1_recallBatch, Cond.code yX1_recallBatch cX1_recallBatch 4 (some .int), Cond.fieldLink RX1 55 "TinCellar$Stock" "tinCount" "I", Cond.fieldLink RX1 41 "TinCellar$Stock" "place" "LTinCellar$Row;", Cond.fieldLink RX1 32 "TinCellar$Stock" "batch" "LTinCellar$Row;", Cond.methodLink RX1 64 yX0_set, Cond.instanceMethod yX0_set, Cond.selects RX0 yX0_set yX0_set, Cond.code yX0_set cX0_set 3 none]
def wsL_recall : List Cond := .codeWith yL_recall cL_recall 4 (some .int) [(0, 9, 12, 21), (0, 9, 15, 15)] :: ((wsL_recall_r1 ++ wsL_recall_r2) ++ wsX20 ++ wsX10 ++ wsX00 ++ (vx_atS RX2 38 "java/lang/IllegalStateException" ["java/lang/RuntimeException", "java/lang/Exception"]).filter goodWord ++ (vx_atS RX2 247 "java/lang/IndexOutOfBoundsException" ["java/lang/RuntimeException", "java/lang/Exception"]).filter goodWord)
def wsL_pass_r1 : List Cond := [Cond.classLink RL 13 "java/lang/IllegalArgumentException", Cond.methodLink RL 36 yX2_pass, Cond.instanceMethod yX2_pass, Cond.selects RX2 yX2_pass yX2_pass, Cond.initialized RX2, Cond.code yX2_pass cX2_pass 4 (some .int), Cond.classLink RX2 23 "java/lang/IllegalArgumentException", Cond.initialized "java/lang/IllegalArgumentException", Cond.fieldLink RX2 10 "TinCellar" "now" "LTinCellar$Stock;", Cond.methodLink RX2 19 yX2_isWithin, Cond.static yX2_isWithin, Cond.code yX2_isWithin cX2_isWithin 3 (some .boolean), Cond.methodLink RX2 108 yX1_countAt, Cond.instanceMethod yX1_countAt, Cond.selects RX1 yX1_countAt yX1_countAt, Cond.initialized RX1, Cond.code yX1_countAt cX1_countAt 4 (some .int), Cond.fieldLink RX1 55 "TinCellar$Stock" "tinCount" "I", Cond.fieldLink RX1 41 "TinCellar$Stock" "place" "LTinCellar$Row;", Cond.methodLink RX1 68 yX0_get, Cond.instanceMethod yX0_get, Cond.selects RX0 yX0_get yX0_get, Cond.initialized RX0, Cond.code yX0_get cX0_get 2 (some .int)]
def wsL_pass_r2 : List Cond := [Cond.fieldLink RX0 13 "TinCellar$Row" "cells" "[I", Cond.methodLink RX2 111 yX1_passDay, Cond.instanceMethod yX1_passDay, Cond.selects RX1 yX1_passDay yX1_passDay, Cond.code yX1_passDay cX1_passDay 2 none, Cond.fieldLink RX1 58 "TinCellar$Stock" "shippedADay" "I", Cond.fieldLink RX1 44 "TinCellar$Stock" "order" "I", Cond.fieldLink RX1 61 "TinCellar$Stock" "day" "I", Cond.methodLink RX1 72 yX1_wearTins, Cond.instanceMethod yX1_wearTins, Cond.selects RX1 yX1_wearTins yX1_wearTins, Cond.code yX1_wearTins cX1_wearTins 2 none, Cond.fieldLink RX1 38 "TinCellar$Stock" "vacuum" "LTinCellar$Row;", Cond.fieldLink RX1 35 "TinCellar$Stock" "shelf" "LTinCellar$Row;", Cond.methodLink RX1 92 Lib.Math.max.name, Cond.static Lib.Math.max.name, Cond.initialized "java/lang/Math", Cond.code Lib.Math.max.name Lib.Math.max.code 2 (some .int), Cond.methodLink RX1 84 yX1_holds, Cond.instanceMethod yX1_holds, Cond.selects RX1 yX1_holds yX1_holds, Cond.code yX1_holds cX1_holds 2 (some .boolean), Cond.methodLink RX1 88 yX1_wearOn, Cond.instanceMethod yX1_wearOn]
def wsL_pass_r3 : List Cond := [Cond.selects RX1 yX1_wearOn yX1_wearOn, Cond.code yX1_wearOn cX1_wearOn 3 (some .int), Cond.fieldLink RX1 23 "TinCellar$Stock" "leaks" "LTinCellar$Row;", Cond.fieldLink RX1 32 "TinCellar$Stock" "batch" "LTinCellar$Row;", Cond.fieldLink RX1 14 "TinCellar$Stock" "warm" "LTinCellar$Row;", Cond.methodLink RX1 64 yX0_set, Cond.instanceMethod yX0_set, Cond.selects RX0 yX0_set yX0_set, Cond.code yX0_set cX0_set 3 none, Cond.methodLink RX1 97 yX1_swellLid, Cond.instanceMethod yX1_swellLid, Cond.selects RX1 yX1_swellLid yX1_swellLid, Cond.code yX1_swellLid cX1_swellLid 3 none, Cond.fieldLink RX1 26 "TinCellar$Stock" "swelledLids" "LTinCellar$Row;", Cond.methodLink RX1 75 yX1_recallSwelled, Cond.instanceMethod yX1_recallSwelled, Cond.selects RX1 yX1_recallSwelled yX1_recallSwelled, Cond.code yX1_recallSwelled cX1_recallSwelled 2 none, Cond.fieldLink RX1 52 "TinCellar$Stock" "batchCount" "I", Cond.methodLink RX1 100 yX1_isBatchRecalled, Cond.instanceMethod yX1_isBatchRecalled, Cond.selects RX1 yX1_isBatchRecalled yX1_isBatchRecalled, Cond.code yX1_isBatchRecalled cX1_isBatchRecalled 2 (some .boolean), Cond.fieldLink RX1 29 "TinCellar$Stock" "recalled" "LTinCellar$Row;"]
def wsL_pass_r4 : List Cond := [Cond.methodLink RX1 103 yX1_recallBatch, Cond.instanceMethod yX1_recallBatch, Cond.selects RX1 yX1_recallBatch yX1_recallBatch, Cond.code yX1_recallBatch cX1_recallBatch 4 (some .int), Cond.methodLink RX1 78 yX1_firstBy, Cond.instanceMethod yX1_firstBy, Cond.selects RX1 yX1_firstBy yX1_firstBy, Cond.code yX1_firstBy cX1_firstBy 6 (some .int), Cond.methodLink RX1 106 yX1_rankBy, Cond.instanceMethod yX1_rankBy, Cond.selects RX1 yX1_rankBy yX1_rankBy, Cond.code yX1_rankBy cX1_rankBy 3 (some .int), Cond.methodLink RX1 81 yX1_ship, Cond.instanceMethod yX1_ship, Cond.selects RX1 yX1_ship yX1_ship, Cond.code yX1_ship cX1_ship 2 none]
def wsL_pass : List Cond := .codeWith yL_pass cL_pass 4 (some .int) [(0, 9, 12, 13)] :: ((wsL_pass_r1 ++ (wsL_pass_r2 ++ (wsL_pass_r3 ++ wsL_pass_r4))) ++ wsX20 ++ wsX10 ++ wsX00 ++ (vx_atS RX2 27 "java/lang/IllegalArgumentException" ["java/lang/RuntimeException", "java/lang/Exception"]).filter goodWord)
def wsL_standOn_r1 : List Cond := [Cond.classLink RL 21 "java/lang/IndexOutOfBoundsException", Cond.methodLink RL 39 yX2_standOn, Cond.instanceMethod yX2_standOn, Cond.selects RX2 yX2_standOn yX2_standOn, Cond.initialized RX2, Cond.code yX2_standOn cX2_standOn 2 (some .int), Cond.fieldLink RX2 10 "TinCellar" "now" "LTinCellar$Stock;", Cond.methodLink RX2 47 yX2_needShelf, Cond.static yX2_needShelf, Cond.code yX2_needShelf cX2_needShelf 1 none, Cond.classLink RX2 243 "java/lang/IndexOutOfBoundsException", Cond.initialized "java/lang/IndexOutOfBoundsException", Cond.methodLink RX2 19 yX2_isWithin, Cond.static yX2_isWithin, Cond.code yX2_isWithin cX2_isWithin 3 (some .boolean), Cond.methodLink RX2 120 yX1_countHeldWith, Cond.instanceMethod yX1_countHeldWith, Cond.selects RX1 yX1_countHeldWith yX1_countHeldWith, Cond.initialized RX1, Cond.code yX1_countHeldWith cX1_countHeldWith 5 (some .int), Cond.fieldLink RX1 55 "TinCellar$Stock" "tinCount" "I", Cond.methodLink RX1 84 yX1_holds, Cond.instanceMethod yX1_holds, Cond.selects RX1 yX1_holds yX1_holds]
def wsL_standOn_r2 : List Cond := [Cond.code yX1_holds cX1_holds 2 (some .boolean), Cond.fieldLink RX1 41 "TinCellar$Stock" "place" "LTinCellar$Row;", Cond.methodLink RX1 68 yX0_get, Cond.instanceMethod yX0_get, Cond.selects RX0 yX0_get yX0_get, Cond.initialized RX0, Cond.code yX0_get cX0_get 2 (some .int), Cond.fieldLink RX0 13 "TinCellar$Row" "cells" "[I"]
def wsL_standOn : List Cond := .codeWith yL_standOn cL_standOn 4 (some .int) [(0, 9, 12, 21)] :: ((wsL_standOn_r1 ++ wsL_standOn_r2) ++ wsX20 ++ wsX10 ++ wsX00 ++ (vx_atS RX2 247 "java/lang/IndexOutOfBoundsException" ["java/lang/RuntimeException", "java/lang/Exception"]).filter goodWord)
def wsL_warmOf : List Cond := .codeWith yL_warmOf cL_warmOf 4 (some .int) [(0, 9, 12, 21)] :: ([.classLink RL 21 "java/lang/IndexOutOfBoundsException", .methodLink RL 42 yX2_warmOf, .instanceMethod yX2_warmOf, .selects RX2 yX2_warmOf yX2_warmOf, .initialized RX2, .code yX2_warmOf cX2_warmOf 2 (some .int), .fieldLink RX2 10 "TinCellar" "now" "LTinCellar$Stock;", .methodLink RX2 47 yX2_needShelf, .static yX2_needShelf, .code yX2_needShelf cX2_needShelf 1 none, .classLink RX2 243 "java/lang/IndexOutOfBoundsException", .initialized "java/lang/IndexOutOfBoundsException", .methodLink RX2 19 yX2_isWithin, .static yX2_isWithin, .code yX2_isWithin cX2_isWithin 3 (some .boolean), .methodLink RX2 77 yX0_get, .instanceMethod yX0_get, .selects RX0 yX0_get yX0_get, .initialized RX0, .code yX0_get cX0_get 2 (some .int), .fieldLink RX0 13 "TinCellar$Row" "cells" "[I"] ++ wsX20 ++ wsX10 ++ wsX00 ++ (vx_atS RX2 247 "java/lang/IndexOutOfBoundsException" ["java/lang/RuntimeException", "java/lang/Exception"]).filter goodWord)
def wsL_batchOf : List Cond := .codeWith yL_batchOf cL_batchOf 4 (some .int) [(0, 9, 12, 21)] :: ([.classLink RL 21 "java/lang/IndexOutOfBoundsException", .methodLink RL 45 yX2_batchOf, .instanceMethod yX2_batchOf, .selects RX2 yX2_batchOf yX2_batchOf, .initialized RX2, .code yX2_batchOf cX2_batchOf 2 (some .int), .fieldLink RX2 10 "TinCellar" "now" "LTinCellar$Stock;", .methodLink RX2 65 yX2_needTin, .instanceMethod yX2_needTin, .selects RX2 yX2_needTin yX2_needTin, .code yX2_needTin cX2_needTin 2 none, .classLink RX2 243 "java/lang/IndexOutOfBoundsException", .initialized "java/lang/IndexOutOfBoundsException", .methodLink RX2 19 yX2_isWithin, .static yX2_isWithin, .code yX2_isWithin cX2_isWithin 3 (some .boolean), .methodLink RX2 77 yX0_get, .instanceMethod yX0_get, .selects RX0 yX0_get yX0_get, .initialized RX0, .code yX0_get cX0_get 2 (some .int), .fieldLink RX0 13 "TinCellar$Row" "cells" "[I"] ++ wsX20 ++ wsX10 ++ wsX00 ++ (vx_atS RX2 247 "java/lang/IndexOutOfBoundsException" ["java/lang/RuntimeException", "java/lang/Exception"]).filter goodWord)
def wsL_shelfOf_r1 : List Cond := [Cond.classLink RL 21 "java/lang/IndexOutOfBoundsException", Cond.methodLink RL 48 yX2_shelfOf, Cond.instanceMethod yX2_shelfOf, Cond.selects RX2 yX2_shelfOf yX2_shelfOf, Cond.initialized RX2, Cond.code yX2_shelfOf cX2_shelfOf 2 (some .int), Cond.fieldLink RX2 10 "TinCellar" "now" "LTinCellar$Stock;", Cond.methodLink RX2 65 yX2_needTin, Cond.instanceMethod yX2_needTin, Cond.selects RX2 yX2_needTin yX2_needTin, Cond.code yX2_needTin cX2_needTin 2 none, Cond.classLink RX2 243 "java/lang/IndexOutOfBoundsException", Cond.initialized "java/lang/IndexOutOfBoundsException", Cond.methodLink RX2 19 yX2_isWithin, Cond.static yX2_isWithin, Cond.code yX2_isWithin cX2_isWithin 3 (some .boolean), Cond.methodLink RX2 68 yX1_holds, Cond.instanceMethod yX1_holds, Cond.selects RX1 yX1_holds yX1_holds, Cond.initialized RX1, Cond.code yX1_holds cX1_holds 2 (some .boolean), Cond.fieldLink RX1 41 "TinCellar$Stock" "place" "LTinCellar$Row;", Cond.methodLink RX1 68 yX0_get, Cond.instanceMethod yX0_get]
def wsL_shelfOf_r2 : List Cond := [Cond.selects RX0 yX0_get yX0_get, Cond.initialized RX0, Cond.code yX0_get cX0_get 2 (some .int), Cond.fieldLink RX0 13 "TinCellar$Row" "cells" "[I", Cond.methodLink RX2 77 yX0_get]
def wsL_shelfOf : List Cond := .codeWith yL_shelfOf cL_shelfOf 4 (some .int) [(0, 9, 12, 21)] :: ((wsL_shelfOf_r1 ++ wsL_shelfOf_r2) ++ wsX20 ++ wsX10 ++ wsX00 ++ (vx_atS RX2 247 "java/lang/IndexOutOfBoundsException" ["java/lang/RuntimeException", "java/lang/Exception"]).filter goodWord)
def wsL_vacuumOf : List Cond := .codeWith yL_vacuumOf cL_vacuumOf 4 (some .int) [(0, 9, 12, 21)] :: ([.classLink RL 21 "java/lang/IndexOutOfBoundsException", .methodLink RL 51 yX2_vacuumOf, .instanceMethod yX2_vacuumOf, .selects RX2 yX2_vacuumOf yX2_vacuumOf, .initialized RX2, .code yX2_vacuumOf cX2_vacuumOf 2 (some .int), .fieldLink RX2 10 "TinCellar" "now" "LTinCellar$Stock;", .methodLink RX2 65 yX2_needTin, .instanceMethod yX2_needTin, .selects RX2 yX2_needTin yX2_needTin, .code yX2_needTin cX2_needTin 2 none, .classLink RX2 243 "java/lang/IndexOutOfBoundsException", .initialized "java/lang/IndexOutOfBoundsException", .methodLink RX2 19 yX2_isWithin, .static yX2_isWithin, .code yX2_isWithin cX2_isWithin 3 (some .boolean), .methodLink RX2 77 yX0_get, .instanceMethod yX0_get, .selects RX0 yX0_get yX0_get, .initialized RX0, .code yX0_get cX0_get 2 (some .int), .fieldLink RX0 13 "TinCellar$Row" "cells" "[I"] ++ wsX20 ++ wsX10 ++ wsX00 ++ (vx_atS RX2 247 "java/lang/IndexOutOfBoundsException" ["java/lang/RuntimeException", "java/lang/Exception"]).filter goodWord)
def wsL_isShipped : List Cond := .codeWith yL_isShipped cL_isShipped 4 (some .int) [(0, 16, 19, 21)] :: ([.classLink RL 21 "java/lang/IndexOutOfBoundsException", .methodLink RL 54 yX2_isShipped, .instanceMethod yX2_isShipped, .selects RX2 yX2_isShipped yX2_isShipped, .initialized RX2, .code yX2_isShipped cX2_isShipped 2 (some .boolean), .fieldLink RX2 10 "TinCellar" "now" "LTinCellar$Stock;", .methodLink RX2 65 yX2_needTin, .instanceMethod yX2_needTin, .selects RX2 yX2_needTin yX2_needTin, .code yX2_needTin cX2_needTin 2 none, .classLink RX2 243 "java/lang/IndexOutOfBoundsException", .initialized "java/lang/IndexOutOfBoundsException", .methodLink RX2 19 yX2_isWithin, .static yX2_isWithin, .code yX2_isWithin cX2_isWithin 3 (some .boolean), .methodLink RX2 77 yX0_get, .instanceMethod yX0_get, .selects RX0 yX0_get yX0_get, .initialized RX0, .code yX0_get cX0_get 2 (some .int), .fieldLink RX0 13 "TinCellar$Row" "cells" "[I"] ++ wsX20 ++ wsX10 ++ wsX00 ++ (vx_atS RX2 247 "java/lang/IndexOutOfBoundsException" ["java/lang/RuntimeException", "java/lang/Exception"]).filter goodWord)
def wsL_isLost : List Cond := .codeWith yL_isLost cL_isLost 4 (some .int) [(0, 16, 19, 21)] :: ([.classLink RL 21 "java/lang/IndexOutOfBoundsException", .methodLink RL 58 yX2_isLost, .instanceMethod yX2_isLost, .selects RX2 yX2_isLost yX2_isLost, .initialized RX2, .code yX2_isLost cX2_isLost 2 (some .boolean), .fieldLink RX2 10 "TinCellar" "now" "LTinCellar$Stock;", .methodLink RX2 65 yX2_needTin, .instanceMethod yX2_needTin, .selects RX2 yX2_needTin yX2_needTin, .code yX2_needTin cX2_needTin 2 none, .classLink RX2 243 "java/lang/IndexOutOfBoundsException", .initialized "java/lang/IndexOutOfBoundsException", .methodLink RX2 19 yX2_isWithin, .static yX2_isWithin, .code yX2_isWithin cX2_isWithin 3 (some .boolean), .methodLink RX2 77 yX0_get, .instanceMethod yX0_get, .selects RX0 yX0_get yX0_get, .initialized RX0, .code yX0_get cX0_get 2 (some .int), .fieldLink RX0 13 "TinCellar$Row" "cells" "[I"] ++ wsX20 ++ wsX10 ++ wsX00 ++ (vx_atS RX2 247 "java/lang/IndexOutOfBoundsException" ["java/lang/RuntimeException", "java/lang/Exception"]).filter goodWord)
def wsL_swelledOf : List Cond := .codeWith yL_swelledOf cL_swelledOf 4 (some .int) [(0, 9, 12, 21)] :: ([.classLink RL 21 "java/lang/IndexOutOfBoundsException", .methodLink RL 61 yX2_swelledOf, .instanceMethod yX2_swelledOf, .selects RX2 yX2_swelledOf yX2_swelledOf, .initialized RX2, .code yX2_swelledOf cX2_swelledOf 2 (some .int), .fieldLink RX2 10 "TinCellar" "now" "LTinCellar$Stock;", .methodLink RX2 43 yX2_needBatch, .instanceMethod yX2_needBatch, .selects RX2 yX2_needBatch yX2_needBatch, .code yX2_needBatch cX2_needBatch 2 none, .classLink RX2 243 "java/lang/IndexOutOfBoundsException", .initialized "java/lang/IndexOutOfBoundsException", .methodLink RX2 19 yX2_isWithin, .static yX2_isWithin, .code yX2_isWithin cX2_isWithin 3 (some .boolean), .methodLink RX2 77 yX0_get, .instanceMethod yX0_get, .selects RX0 yX0_get yX0_get, .initialized RX0, .code yX0_get cX0_get 2 (some .int), .fieldLink RX0 13 "TinCellar$Row" "cells" "[I"] ++ wsX20 ++ wsX10 ++ wsX00 ++ (vx_atS RX2 247 "java/lang/IndexOutOfBoundsException" ["java/lang/RuntimeException", "java/lang/Exception"]).filter goodWord)
def wsL_leftOf_r1 : List Cond := [Cond.classLink RL 21 "java/lang/IndexOutOfBoundsException", Cond.methodLink RL 64 yX2_leftOf, Cond.instanceMethod yX2_leftOf, Cond.selects RX2 yX2_leftOf yX2_leftOf, Cond.initialized RX2, Cond.code yX2_leftOf cX2_leftOf 2 (some .int), Cond.fieldLink RX2 10 "TinCellar" "now" "LTinCellar$Stock;", Cond.methodLink RX2 43 yX2_needBatch, Cond.instanceMethod yX2_needBatch, Cond.selects RX2 yX2_needBatch yX2_needBatch, Cond.code yX2_needBatch cX2_needBatch 2 none, Cond.classLink RX2 243 "java/lang/IndexOutOfBoundsException", Cond.initialized "java/lang/IndexOutOfBoundsException", Cond.methodLink RX2 19 yX2_isWithin, Cond.static yX2_isWithin, Cond.code yX2_isWithin cX2_isWithin 3 (some .boolean), Cond.methodLink RX2 120 yX1_countHeldWith, Cond.instanceMethod yX1_countHeldWith, Cond.selects RX1 yX1_countHeldWith yX1_countHeldWith, Cond.initialized RX1, Cond.code yX1_countHeldWith cX1_countHeldWith 5 (some .int), Cond.fieldLink RX1 55 "TinCellar$Stock" "tinCount" "I", Cond.methodLink RX1 84 yX1_holds, Cond.instanceMethod yX1_holds]
def wsL_leftOf_r2 : List Cond := [Cond.selects RX1 yX1_holds yX1_holds, Cond.code yX1_holds cX1_holds 2 (some .boolean), Cond.fieldLink RX1 41 "TinCellar$Stock" "place" "LTinCellar$Row;", Cond.methodLink RX1 68 yX0_get, Cond.instanceMethod yX0_get, Cond.selects RX0 yX0_get yX0_get, Cond.initialized RX0, Cond.code yX0_get cX0_get 2 (some .int), Cond.fieldLink RX0 13 "TinCellar$Row" "cells" "[I"]
def wsL_leftOf : List Cond := .codeWith yL_leftOf cL_leftOf 4 (some .int) [(0, 9, 12, 21)] :: ((wsL_leftOf_r1 ++ wsL_leftOf_r2) ++ wsX20 ++ wsX10 ++ wsX00 ++ (vx_atS RX2 247 "java/lang/IndexOutOfBoundsException" ["java/lang/RuntimeException", "java/lang/Exception"]).filter goodWord)
def wsL_isRecalled_r1 : List Cond := [Cond.classLink RL 21 "java/lang/IndexOutOfBoundsException", Cond.methodLink RL 67 yX2_isRecalled, Cond.instanceMethod yX2_isRecalled, Cond.selects RX2 yX2_isRecalled yX2_isRecalled, Cond.initialized RX2, Cond.code yX2_isRecalled cX2_isRecalled 2 (some .boolean), Cond.fieldLink RX2 10 "TinCellar" "now" "LTinCellar$Stock;", Cond.methodLink RX2 43 yX2_needBatch, Cond.instanceMethod yX2_needBatch, Cond.selects RX2 yX2_needBatch yX2_needBatch, Cond.code yX2_needBatch cX2_needBatch 2 none, Cond.classLink RX2 243 "java/lang/IndexOutOfBoundsException", Cond.initialized "java/lang/IndexOutOfBoundsException", Cond.methodLink RX2 19 yX2_isWithin, Cond.static yX2_isWithin, Cond.code yX2_isWithin cX2_isWithin 3 (some .boolean), Cond.methodLink RX2 55 yX1_isBatchRecalled, Cond.instanceMethod yX1_isBatchRecalled, Cond.selects RX1 yX1_isBatchRecalled yX1_isBatchRecalled, Cond.initialized RX1, Cond.code yX1_isBatchRecalled cX1_isBatchRecalled 2 (some .boolean), Cond.fieldLink RX1 29 "TinCellar$Stock" "recalled" "LTinCellar$Row;", Cond.methodLink RX1 68 yX0_get, Cond.instanceMethod yX0_get]
def wsL_isRecalled_r2 : List Cond := [Cond.selects RX0 yX0_get yX0_get, Cond.initialized RX0, Cond.code yX0_get cX0_get 2 (some .int), Cond.fieldLink RX0 13 "TinCellar$Row" "cells" "[I"]
def wsL_isRecalled : List Cond := .codeWith yL_isRecalled cL_isRecalled 4 (some .int) [(0, 16, 19, 21)] :: ((wsL_isRecalled_r1 ++ wsL_isRecalled_r2) ++ wsX20 ++ wsX10 ++ wsX00 ++ (vx_atS RX2 247 "java/lang/IndexOutOfBoundsException" ["java/lang/RuntimeException", "java/lang/Exception"]).filter goodWord)
def wsL_first_r1 : List Cond := [Cond.classLink RL 13 "java/lang/IllegalArgumentException", Cond.methodLink RL 70 yX2_first, Cond.instanceMethod yX2_first, Cond.selects RX2 yX2_first yX2_first, Cond.initialized RX2, Cond.code yX2_first cX2_first 2 (some .int), Cond.fieldLink RX2 10 "TinCellar" "now" "LTinCellar$Stock;", Cond.methodLink RX2 133 yX2_needOrder, Cond.static yX2_needOrder, Cond.code yX2_needOrder cX2_needOrder 1 none, Cond.classLink RX2 23 "java/lang/IllegalArgumentException", Cond.initialized "java/lang/IllegalArgumentException", Cond.methodLink RX2 19 yX2_isWithin, Cond.static yX2_isWithin, Cond.code yX2_isWithin cX2_isWithin 3 (some .boolean), Cond.methodLink RX2 136 yX1_firstBy, Cond.instanceMethod yX1_firstBy, Cond.selects RX1 yX1_firstBy yX1_firstBy, Cond.initialized RX1, Cond.code yX1_firstBy cX1_firstBy 6 (some .int), Cond.fieldLink RX1 55 "TinCellar$Stock" "tinCount" "I", Cond.methodLink RX1 84 yX1_holds, Cond.instanceMethod yX1_holds, Cond.selects RX1 yX1_holds yX1_holds]
def wsL_first_r2 : List Cond := [Cond.code yX1_holds cX1_holds 2 (some .boolean), Cond.fieldLink RX1 41 "TinCellar$Stock" "place" "LTinCellar$Row;", Cond.methodLink RX1 68 yX0_get, Cond.instanceMethod yX0_get, Cond.selects RX0 yX0_get yX0_get, Cond.initialized RX0, Cond.code yX0_get cX0_get 2 (some .int), Cond.fieldLink RX0 13 "TinCellar$Row" "cells" "[I", Cond.methodLink RX1 106 yX1_rankBy, Cond.instanceMethod yX1_rankBy, Cond.selects RX1 yX1_rankBy yX1_rankBy, Cond.code yX1_rankBy cX1_rankBy 3 (some .int), Cond.fieldLink RX1 38 "TinCellar$Stock" "vacuum" "LTinCellar$Row;", Cond.fieldLink RX1 14 "TinCellar$Stock" "warm" "LTinCellar$Row;", Cond.fieldLink RX1 35 "TinCellar$Stock" "shelf" "LTinCellar$Row;"]
def wsL_first : List Cond := .codeWith yL_first cL_first 4 (some .int) [(0, 9, 12, 13)] :: ((wsL_first_r1 ++ wsL_first_r2) ++ wsX20 ++ wsX10 ++ wsX00 ++ (vx_atS RX2 27 "java/lang/IllegalArgumentException" ["java/lang/RuntimeException", "java/lang/Exception"]).filter goodWord)
def wsL_placeBy_r1 : List Cond := [Cond.classLink RL 21 "java/lang/IndexOutOfBoundsException", Cond.classLink RL 13 "java/lang/IllegalArgumentException", Cond.methodLink RL 73 yX2_placeBy, Cond.instanceMethod yX2_placeBy, Cond.selects RX2 yX2_placeBy yX2_placeBy, Cond.initialized RX2, Cond.code yX2_placeBy cX2_placeBy 3 (some .int), Cond.fieldLink RX2 10 "TinCellar" "now" "LTinCellar$Stock;", Cond.methodLink RX2 65 yX2_needTin, Cond.instanceMethod yX2_needTin, Cond.selects RX2 yX2_needTin yX2_needTin, Cond.code yX2_needTin cX2_needTin 2 none, Cond.classLink RX2 243 "java/lang/IndexOutOfBoundsException", Cond.initialized "java/lang/IndexOutOfBoundsException", Cond.methodLink RX2 19 yX2_isWithin, Cond.static yX2_isWithin, Cond.code yX2_isWithin cX2_isWithin 3 (some .boolean), Cond.methodLink RX2 133 yX2_needOrder, Cond.static yX2_needOrder, Cond.code yX2_needOrder cX2_needOrder 1 none, Cond.classLink RX2 23 "java/lang/IllegalArgumentException", Cond.initialized "java/lang/IllegalArgumentException", Cond.methodLink RX2 68 yX1_holds, Cond.instanceMethod yX1_holds]
def wsL_placeBy_r2 : List Cond := [Cond.selects RX1 yX1_holds yX1_holds, Cond.initialized RX1, Cond.code yX1_holds cX1_holds 2 (some .boolean), Cond.fieldLink RX1 41 "TinCellar$Stock" "place" "LTinCellar$Row;", Cond.methodLink RX1 68 yX0_get, Cond.instanceMethod yX0_get, Cond.selects RX0 yX0_get yX0_get, Cond.initialized RX0, Cond.code yX0_get cX0_get 2 (some .int), Cond.fieldLink RX0 13 "TinCellar$Row" "cells" "[I", Cond.methodLink RX2 139 yX1_countAheadOf, Cond.instanceMethod yX1_countAheadOf, Cond.selects RX1 yX1_countAheadOf yX1_countAheadOf, Cond.code yX1_countAheadOf cX1_countAheadOf 6 (some .int), Cond.fieldLink RX1 55 "TinCellar$Stock" "tinCount" "I", Cond.methodLink RX1 106 yX1_rankBy, Cond.instanceMethod yX1_rankBy, Cond.selects RX1 yX1_rankBy yX1_rankBy, Cond.code yX1_rankBy cX1_rankBy 3 (some .int), Cond.fieldLink RX1 38 "TinCellar$Stock" "vacuum" "LTinCellar$Row;", Cond.fieldLink RX1 14 "TinCellar$Stock" "warm" "LTinCellar$Row;", Cond.fieldLink RX1 35 "TinCellar$Stock" "shelf" "LTinCellar$Row;", Cond.methodLink RX1 84 yX1_holds]
def wsL_placeBy : List Cond := .codeWith yL_placeBy cL_placeBy 5 (some .int) [(0, 10, 13, 21), (0, 10, 17, 13)] :: ((wsL_placeBy_r1 ++ wsL_placeBy_r2) ++ wsX20 ++ wsX10 ++ wsX00 ++ (vx_atS RX2 247 "java/lang/IndexOutOfBoundsException" ["java/lang/RuntimeException", "java/lang/Exception"]).filter goodWord ++ (vx_atS RX2 27 "java/lang/IllegalArgumentException" ["java/lang/RuntimeException", "java/lang/Exception"]).filter goodWord)
def wsL_daysOf_r1 : List Cond := [Cond.classLink RL 21 "java/lang/IndexOutOfBoundsException", Cond.methodLink RL 76 yX2_daysOf, Cond.instanceMethod yX2_daysOf, Cond.selects RX2 yX2_daysOf yX2_daysOf, Cond.initialized RX2, Cond.code yX2_daysOf cX2_daysOf 2 (some .int), Cond.fieldLink RX2 10 "TinCellar" "now" "LTinCellar$Stock;", Cond.methodLink RX2 65 yX2_needTin, Cond.instanceMethod yX2_needTin, Cond.selects RX2 yX2_needTin yX2_needTin, Cond.code yX2_needTin cX2_needTin 2 none, Cond.classLink RX2 243 "java/lang/IndexOutOfBoundsException", Cond.initialized "java/lang/IndexOutOfBoundsException", Cond.methodLink RX2 19 yX2_isWithin, Cond.static yX2_isWithin, Cond.code yX2_isWithin cX2_isWithin 3 (some .boolean), Cond.methodLink RX2 68 yX1_holds, Cond.instanceMethod yX1_holds, Cond.selects RX1 yX1_holds yX1_holds, Cond.initialized RX1, Cond.code yX1_holds cX1_holds 2 (some .boolean), Cond.fieldLink RX1 41 "TinCellar$Stock" "place" "LTinCellar$Row;", Cond.methodLink RX1 68 yX0_get, Cond.instanceMethod yX0_get]
def wsL_daysOf_r2 : List Cond := [Cond.selects RX0 yX0_get yX0_get, Cond.initialized RX0, Cond.code yX0_get cX0_get 2 (some .int), Cond.fieldLink RX0 13 "TinCellar$Row" "cells" "[I", Cond.methodLink RX2 77 yX0_get, Cond.methodLink RX2 142 yX1_daysToSwell, Cond.instanceMethod yX1_daysToSwell, Cond.selects RX1 yX1_daysToSwell yX1_daysToSwell, Cond.code yX1_daysToSwell cX1_daysToSwell 4 (some .int), Cond.fieldLink RX1 38 "TinCellar$Stock" "vacuum" "LTinCellar$Row;", Cond.methodLink RX1 88 yX1_wearOn, Cond.instanceMethod yX1_wearOn, Cond.selects RX1 yX1_wearOn yX1_wearOn, Cond.code yX1_wearOn cX1_wearOn 3 (some .int), Cond.fieldLink RX1 23 "TinCellar$Stock" "leaks" "LTinCellar$Row;", Cond.fieldLink RX1 32 "TinCellar$Stock" "batch" "LTinCellar$Row;", Cond.fieldLink RX1 14 "TinCellar$Stock" "warm" "LTinCellar$Row;"]
def wsL_daysOf : List Cond := .codeWith yL_daysOf cL_daysOf 4 (some .int) [(0, 9, 12, 21)] :: ((wsL_daysOf_r1 ++ wsL_daysOf_r2) ++ wsX20 ++ wsX10 ++ wsX00 ++ (vx_atS RX2 247 "java/lang/IndexOutOfBoundsException" ["java/lang/RuntimeException", "java/lang/Exception"]).filter goodWord)
def wsL_daysUntilRecalled_r1 : List Cond := [Cond.classLink RL 21 "java/lang/IndexOutOfBoundsException", Cond.methodLink RL 79 yX2_daysUntilRecalled, Cond.instanceMethod yX2_daysUntilRecalled, Cond.selects RX2 yX2_daysUntilRecalled yX2_daysUntilRecalled, Cond.initialized RX2, Cond.code yX2_daysUntilRecalled cX2_daysUntilRecalled 3 (some .int), Cond.fieldLink RX2 10 "TinCellar" "now" "LTinCellar$Stock;", Cond.fieldLink RX2 16 "TinCellar" "trial" "LTinCellar$Stock;", Cond.methodLink RX2 43 yX2_needBatch, Cond.instanceMethod yX2_needBatch, Cond.selects RX2 yX2_needBatch yX2_needBatch, Cond.code yX2_needBatch cX2_needBatch 2 none, Cond.classLink RX2 243 "java/lang/IndexOutOfBoundsException", Cond.initialized "java/lang/IndexOutOfBoundsException", Cond.methodLink RX2 19 yX2_isWithin, Cond.static yX2_isWithin, Cond.code yX2_isWithin cX2_isWithin 3 (some .boolean), Cond.methodLink RX2 55 yX1_isBatchRecalled, Cond.instanceMethod yX1_isBatchRecalled, Cond.selects RX1 yX1_isBatchRecalled yX1_isBatchRecalled, Cond.initialized RX1, Cond.code yX1_isBatchRecalled cX1_isBatchRecalled 2 (some .boolean), Cond.fieldLink RX1 29 "TinCellar$Stock" "recalled" "LTinCellar$Row;", Cond.methodLink RX1 68 yX0_get]
def wsL_daysUntilRecalled_r2 : List Cond := [Cond.instanceMethod yX0_get, Cond.selects RX0 yX0_get yX0_get, Cond.initialized RX0, Cond.code yX0_get cX0_get 2 (some .int), Cond.fieldLink RX0 13 "TinCellar$Row" "cells" "[I", Cond.methodLink RX2 145 yX1_copyFrom, Cond.instanceMethod yX1_copyFrom, Cond.selects RX1 yX1_copyFrom yX1_copyFrom, Cond.code yX1_copyFrom cX1_copyFrom 2 none, Cond.fieldLink RX1 14 "TinCellar$Stock" "warm" "LTinCellar$Row;", Cond.fieldLink RX1 20 "TinCellar$Stock" "vacuumAtFirst" "LTinCellar$Row;", Cond.fieldLink RX1 23 "TinCellar$Stock" "leaks" "LTinCellar$Row;", Cond.fieldLink RX1 26 "TinCellar$Stock" "swelledLids" "LTinCellar$Row;", Cond.fieldLink RX1 52 "TinCellar$Stock" "batchCount" "I", Cond.fieldLink RX1 32 "TinCellar$Stock" "batch" "LTinCellar$Row;", Cond.fieldLink RX1 35 "TinCellar$Stock" "shelf" "LTinCellar$Row;", Cond.fieldLink RX1 38 "TinCellar$Stock" "vacuum" "LTinCellar$Row;", Cond.fieldLink RX1 41 "TinCellar$Stock" "place" "LTinCellar$Row;", Cond.fieldLink RX1 55 "TinCellar$Stock" "tinCount" "I", Cond.fieldLink RX1 58 "TinCellar$Stock" "shippedADay" "I", Cond.fieldLink RX1 44 "TinCellar$Stock" "order" "I", Cond.fieldLink RX1 61 "TinCellar$Stock" "day" "I", Cond.methodLink RX1 48 yX0_copyFrom, Cond.instanceMethod yX0_copyFrom]
def wsL_daysUntilRecalled_r3 : List Cond := [Cond.selects RX0 yX0_copyFrom yX0_copyFrom, Cond.code yX0_copyFrom cX0_copyFrom 3 none, Cond.methodLink RX0 19 yX0_get, Cond.methodLink RX2 111 yX1_passDay, Cond.instanceMethod yX1_passDay, Cond.selects RX1 yX1_passDay yX1_passDay, Cond.code yX1_passDay cX1_passDay 2 none, Cond.methodLink RX1 72 yX1_wearTins, Cond.instanceMethod yX1_wearTins, Cond.selects RX1 yX1_wearTins yX1_wearTins, Cond.code yX1_wearTins cX1_wearTins 2 none, Cond.methodLink RX1 92 Lib.Math.max.name, Cond.static Lib.Math.max.name, Cond.initialized "java/lang/Math", Cond.code Lib.Math.max.name Lib.Math.max.code 2 (some .int), Cond.methodLink RX1 84 yX1_holds, Cond.instanceMethod yX1_holds, Cond.selects RX1 yX1_holds yX1_holds, Cond.code yX1_holds cX1_holds 2 (some .boolean), Cond.methodLink RX1 88 yX1_wearOn, Cond.instanceMethod yX1_wearOn, Cond.selects RX1 yX1_wearOn yX1_wearOn, Cond.code yX1_wearOn cX1_wearOn 3 (some .int), Cond.methodLink RX1 64 yX0_set]
def wsL_daysUntilRecalled_r4 : List Cond := [Cond.instanceMethod yX0_set, Cond.selects RX0 yX0_set yX0_set, Cond.code yX0_set cX0_set 3 none, Cond.methodLink RX1 97 yX1_swellLid, Cond.instanceMethod yX1_swellLid, Cond.selects RX1 yX1_swellLid yX1_swellLid, Cond.code yX1_swellLid cX1_swellLid 3 none, Cond.methodLink RX1 75 yX1_recallSwelled, Cond.instanceMethod yX1_recallSwelled, Cond.selects RX1 yX1_recallSwelled yX1_recallSwelled, Cond.code yX1_recallSwelled cX1_recallSwelled 2 none, Cond.methodLink RX1 100 yX1_isBatchRecalled, Cond.methodLink RX1 103 yX1_recallBatch, Cond.instanceMethod yX1_recallBatch, Cond.selects RX1 yX1_recallBatch yX1_recallBatch, Cond.code yX1_recallBatch cX1_recallBatch 4 (some .int), Cond.methodLink RX1 78 yX1_firstBy, Cond.instanceMethod yX1_firstBy, Cond.selects RX1 yX1_firstBy yX1_firstBy, Cond.code yX1_firstBy cX1_firstBy 6 (some .int), Cond.methodLink RX1 106 yX1_rankBy, Cond.instanceMethod yX1_rankBy, Cond.selects RX1 yX1_rankBy yX1_rankBy, Cond.code yX1_rankBy cX1_rankBy 3 (some .int)]
def wsL_daysUntilRecalled_r5 : List Cond := [Cond.methodLink RX1 81 yX1_ship, Cond.instanceMethod yX1_ship, Cond.selects RX1 yX1_ship yX1_ship, Cond.code yX1_ship cX1_ship 2 none]
def wsL_daysUntilRecalled : List Cond := .codeWith yL_daysUntilRecalled cL_daysUntilRecalled 4 (some .int) [(0, 9, 12, 21)] :: ((wsL_daysUntilRecalled_r1 ++ (wsL_daysUntilRecalled_r2 ++ (wsL_daysUntilRecalled_r3 ++ (wsL_daysUntilRecalled_r4 ++ wsL_daysUntilRecalled_r5)))) ++ wsX20 ++ wsX10 ++ wsX00 ++ (vx_atS RX2 247 "java/lang/IndexOutOfBoundsException" ["java/lang/RuntimeException", "java/lang/Exception"]).filter goodWord)
def wsL_lostWith_r1 : List Cond := [Cond.classLink RL 13 "java/lang/IllegalArgumentException", Cond.methodLink RL 82 yX2_lostWith, Cond.instanceMethod yX2_lostWith, Cond.selects RX2 yX2_lostWith yX2_lostWith, Cond.initialized RX2, Cond.code yX2_lostWith cX2_lostWith 3 (some .int), Cond.methodLink RX2 92 yX2_needShipping, Cond.static yX2_needShipping, Cond.code yX2_needShipping cX2_needShipping 2 none, Cond.classLink RX2 23 "java/lang/IllegalArgumentException", Cond.initialized "java/lang/IllegalArgumentException", Cond.methodLink RX2 19 yX2_isWithin, Cond.static yX2_isWithin, Cond.code yX2_isWithin cX2_isWithin 3 (some .boolean), Cond.methodLink RX2 133 yX2_needOrder, Cond.static yX2_needOrder, Cond.code yX2_needOrder cX2_needOrder 1 none, Cond.methodLink RX2 149 yX2_lossBy, Cond.instanceMethod yX2_lossBy, Cond.selects RX2 yX2_lossBy yX2_lossBy, Cond.code yX2_lossBy cX2_lossBy 4 (some .int), Cond.fieldLink RX2 16 "TinCellar" "trial" "LTinCellar$Stock;", Cond.fieldLink RX2 10 "TinCellar" "now" "LTinCellar$Stock;", Cond.methodLink RX2 145 yX1_copyFrom]
def wsL_lostWith_r2 : List Cond := [Cond.instanceMethod yX1_copyFrom, Cond.selects RX1 yX1_copyFrom yX1_copyFrom, Cond.initialized RX1, Cond.code yX1_copyFrom cX1_copyFrom 2 none, Cond.fieldLink RX1 14 "TinCellar$Stock" "warm" "LTinCellar$Row;", Cond.fieldLink RX1 20 "TinCellar$Stock" "vacuumAtFirst" "LTinCellar$Row;", Cond.fieldLink RX1 23 "TinCellar$Stock" "leaks" "LTinCellar$Row;", Cond.fieldLink RX1 26 "TinCellar$Stock" "swelledLids" "LTinCellar$Row;", Cond.fieldLink RX1 29 "TinCellar$Stock" "recalled" "LTinCellar$Row;", Cond.fieldLink RX1 52 "TinCellar$Stock" "batchCount" "I", Cond.fieldLink RX1 32 "TinCellar$Stock" "batch" "LTinCellar$Row;", Cond.fieldLink RX1 35 "TinCellar$Stock" "shelf" "LTinCellar$Row;", Cond.fieldLink RX1 38 "TinCellar$Stock" "vacuum" "LTinCellar$Row;", Cond.fieldLink RX1 41 "TinCellar$Stock" "place" "LTinCellar$Row;", Cond.fieldLink RX1 55 "TinCellar$Stock" "tinCount" "I", Cond.fieldLink RX1 58 "TinCellar$Stock" "shippedADay" "I", Cond.fieldLink RX1 44 "TinCellar$Stock" "order" "I", Cond.fieldLink RX1 61 "TinCellar$Stock" "day" "I", Cond.methodLink RX1 48 yX0_copyFrom, Cond.instanceMethod yX0_copyFrom, Cond.selects RX0 yX0_copyFrom yX0_copyFrom, Cond.initialized RX0, Cond.code yX0_copyFrom cX0_copyFrom 3 none, Cond.fieldLink RX0 13 "TinCellar$Row" "cells" "[I"]
def wsL_lostWith_r3 : List Cond := [Cond.methodLink RX0 19 yX0_get, Cond.instanceMethod yX0_get, Cond.selects RX0 yX0_get yX0_get, Cond.code yX0_get cX0_get 2 (some .int), Cond.methodLink RX2 111 yX1_passDay, Cond.instanceMethod yX1_passDay, Cond.selects RX1 yX1_passDay yX1_passDay, Cond.code yX1_passDay cX1_passDay 2 none, Cond.methodLink RX1 72 yX1_wearTins, Cond.instanceMethod yX1_wearTins, Cond.selects RX1 yX1_wearTins yX1_wearTins, Cond.code yX1_wearTins cX1_wearTins 2 none, Cond.methodLink RX1 92 Lib.Math.max.name, Cond.static Lib.Math.max.name, Cond.initialized "java/lang/Math", Cond.code Lib.Math.max.name Lib.Math.max.code 2 (some .int), Cond.methodLink RX1 84 yX1_holds, Cond.instanceMethod yX1_holds, Cond.selects RX1 yX1_holds yX1_holds, Cond.code yX1_holds cX1_holds 2 (some .boolean), Cond.methodLink RX1 68 yX0_get, Cond.methodLink RX1 88 yX1_wearOn, Cond.instanceMethod yX1_wearOn, Cond.selects RX1 yX1_wearOn yX1_wearOn]
def wsL_lostWith_r4 : List Cond := [Cond.code yX1_wearOn cX1_wearOn 3 (some .int), Cond.methodLink RX1 64 yX0_set, Cond.instanceMethod yX0_set, Cond.selects RX0 yX0_set yX0_set, Cond.code yX0_set cX0_set 3 none, Cond.methodLink RX1 97 yX1_swellLid, Cond.instanceMethod yX1_swellLid, Cond.selects RX1 yX1_swellLid yX1_swellLid, Cond.code yX1_swellLid cX1_swellLid 3 none, Cond.methodLink RX1 75 yX1_recallSwelled, Cond.instanceMethod yX1_recallSwelled, Cond.selects RX1 yX1_recallSwelled yX1_recallSwelled, Cond.code yX1_recallSwelled cX1_recallSwelled 2 none, Cond.methodLink RX1 100 yX1_isBatchRecalled, Cond.instanceMethod yX1_isBatchRecalled, Cond.selects RX1 yX1_isBatchRecalled yX1_isBatchRecalled, Cond.code yX1_isBatchRecalled cX1_isBatchRecalled 2 (some .boolean), Cond.methodLink RX1 103 yX1_recallBatch, Cond.instanceMethod yX1_recallBatch, Cond.selects RX1 yX1_recallBatch yX1_recallBatch, Cond.code yX1_recallBatch cX1_recallBatch 4 (some .int), Cond.methodLink RX1 78 yX1_firstBy, Cond.instanceMethod yX1_firstBy, Cond.selects RX1 yX1_firstBy yX1_firstBy]
def wsL_lostWith_r5 : List Cond := [Cond.code yX1_firstBy cX1_firstBy 6 (some .int), Cond.methodLink RX1 106 yX1_rankBy, Cond.instanceMethod yX1_rankBy, Cond.selects RX1 yX1_rankBy yX1_rankBy, Cond.code yX1_rankBy cX1_rankBy 3 (some .int), Cond.methodLink RX1 81 yX1_ship, Cond.instanceMethod yX1_ship, Cond.selects RX1 yX1_ship yX1_ship, Cond.code yX1_ship cX1_ship 2 none, Cond.methodLink RX2 108 yX1_countAt, Cond.instanceMethod yX1_countAt, Cond.selects RX1 yX1_countAt yX1_countAt, Cond.code yX1_countAt cX1_countAt 4 (some .int)]
def wsL_lostWith : List Cond := .codeWith yL_lostWith cL_lostWith 5 (some .int) [(0, 10, 13, 13)] :: ((wsL_lostWith_r1 ++ (wsL_lostWith_r2 ++ (wsL_lostWith_r3 ++ (wsL_lostWith_r4 ++ wsL_lostWith_r5)))) ++ wsX20 ++ wsX10 ++ wsX00 ++ (vx_atS RX2 27 "java/lang/IllegalArgumentException" ["java/lang/RuntimeException", "java/lang/Exception"]).filter goodWord)
def wsL_bestShelf_r1 : List Cond := [Cond.classLink RL 21 "java/lang/IndexOutOfBoundsException", Cond.methodLink RL 85 yX2_bestShelf, Cond.instanceMethod yX2_bestShelf, Cond.selects RX2 yX2_bestShelf yX2_bestShelf, Cond.initialized RX2, Cond.code yX2_bestShelf cX2_bestShelf 4 (some .int), Cond.fieldLink RX2 10 "TinCellar" "now" "LTinCellar$Stock;", Cond.methodLink RX2 65 yX2_needTin, Cond.instanceMethod yX2_needTin, Cond.selects RX2 yX2_needTin yX2_needTin, Cond.code yX2_needTin cX2_needTin 2 none, Cond.classLink RX2 243 "java/lang/IndexOutOfBoundsException", Cond.initialized "java/lang/IndexOutOfBoundsException", Cond.methodLink RX2 19 yX2_isWithin, Cond.static yX2_isWithin, Cond.code yX2_isWithin cX2_isWithin 3 (some .boolean), Cond.methodLink RX2 68 yX1_holds, Cond.instanceMethod yX1_holds, Cond.selects RX1 yX1_holds yX1_holds, Cond.initialized RX1, Cond.code yX1_holds cX1_holds 2 (some .boolean), Cond.fieldLink RX1 41 "TinCellar$Stock" "place" "LTinCellar$Row;", Cond.methodLink RX1 68 yX0_get, Cond.instanceMethod yX0_get]
def wsL_bestShelf_r2 : List Cond := [Cond.selects RX0 yX0_get yX0_get, Cond.initialized RX0, Cond.code yX0_get cX0_get 2 (some .int), Cond.fieldLink RX0 13 "TinCellar$Row" "cells" "[I", Cond.methodLink RX2 142 yX1_daysToSwell, Cond.instanceMethod yX1_daysToSwell, Cond.selects RX1 yX1_daysToSwell yX1_daysToSwell, Cond.code yX1_daysToSwell cX1_daysToSwell 4 (some .int), Cond.fieldLink RX1 38 "TinCellar$Stock" "vacuum" "LTinCellar$Row;", Cond.methodLink RX1 88 yX1_wearOn, Cond.instanceMethod yX1_wearOn, Cond.selects RX1 yX1_wearOn yX1_wearOn, Cond.code yX1_wearOn cX1_wearOn 3 (some .int), Cond.fieldLink RX1 23 "TinCellar$Stock" "leaks" "LTinCellar$Row;", Cond.fieldLink RX1 32 "TinCellar$Stock" "batch" "LTinCellar$Row;", Cond.fieldLink RX1 14 "TinCellar$Stock" "warm" "LTinCellar$Row;", Cond.methodLink RX2 152 yX2_isLater, Cond.static yX2_isLater, Cond.code yX2_isLater cX2_isLater 2 (some .boolean)]
def wsL_bestShelf : List Cond := .codeWith yL_bestShelf cL_bestShelf 4 (some .int) [(0, 9, 12, 21)] :: ((wsL_bestShelf_r1 ++ wsL_bestShelf_r2) ++ wsX20 ++ wsX10 ++ wsX00 ++ (vx_atS RX2 247 "java/lang/IndexOutOfBoundsException" ["java/lang/RuntimeException", "java/lang/Exception"]).filter goodWord)
def wsL_law0_r1 : List Cond := [Cond.classLink RL 8 RX2, Cond.instantiable RX2 2, Cond.initialized RX2, Cond.classLink RL 89 RX3, Cond.instantiable RX3 12, Cond.initialized RX3, Cond.arrayClass .long, Cond.methodLink RL 88 yX2_init, Cond.instanceMethod yX2_init, Cond.code yX2_init cX2_init 1 none, Cond.methodLink RX2 1 objectInit, Cond.instanceMethod objectInit, Cond.code objectInit ⟨#[0xb1]⟩ 1 none, Cond.classLink RX2 7 RX1, Cond.instantiable RX1 14, Cond.initialized RX1, Cond.fieldLink RX2 10 "TinCellar" "now" "LTinCellar$Stock;", Cond.fieldLink RX2 16 "TinCellar" "trial" "LTinCellar$Stock;", Cond.instanceMethod yX1_init, Cond.code yX1_init cX1_init 1 none, Cond.methodLink RX1 3 objectInit, Cond.classLink RX1 9 RX0, Cond.instantiable RX0 1, Cond.initialized RX0]
def wsL_law0_r2 : List Cond := [Cond.fieldLink RX1 14 "TinCellar$Stock" "warm" "LTinCellar$Row;", Cond.fieldLink RX1 20 "TinCellar$Stock" "vacuumAtFirst" "LTinCellar$Row;", Cond.fieldLink RX1 23 "TinCellar$Stock" "leaks" "LTinCellar$Row;", Cond.fieldLink RX1 26 "TinCellar$Stock" "swelledLids" "LTinCellar$Row;", Cond.fieldLink RX1 29 "TinCellar$Stock" "recalled" "LTinCellar$Row;", Cond.fieldLink RX1 32 "TinCellar$Stock" "batch" "LTinCellar$Row;", Cond.fieldLink RX1 35 "TinCellar$Stock" "shelf" "LTinCellar$Row;", Cond.fieldLink RX1 38 "TinCellar$Stock" "vacuum" "LTinCellar$Row;", Cond.fieldLink RX1 41 "TinCellar$Stock" "place" "LTinCellar$Row;", Cond.fieldLink RX1 44 "TinCellar$Stock" "order" "I", Cond.methodLink RX1 11 yX0_init, Cond.instanceMethod yX0_init, Cond.code yX0_init cX0_init 2 none, Cond.methodLink RX0 1 objectInit, Cond.methodLink RX0 7 Lib.Math.max.name, Cond.static Lib.Math.max.name, Cond.initialized "java/lang/Math", Cond.code Lib.Math.max.name Lib.Math.max.code 2 (some .int), Cond.arrayClass .int, Cond.fieldLink RX0 13 "TinCellar$Row" "cells" "[I", Cond.methodLink RL 91 yX3_init, Cond.instanceMethod yX3_init, Cond.code yX3_init cX3_init 1 none, Cond.methodLink RX3 3 objectInit]
def wsL_law0_r3 : List Cond := [Cond.fieldLink RX3 9 "TinCellarModel" "vacuum" "[I", Cond.fieldLink RX3 13 "TinCellarModel" "leaks" "[I", Cond.fieldLink RX3 16 "TinCellarModel" "warm" "[I", Cond.fieldLink RX3 19 "TinCellarModel" "batch" "[I", Cond.fieldLink RX3 22 "TinCellarModel" "shelf" "[I", Cond.fieldLink RX3 25 "TinCellarModel" "now" "[I", Cond.fieldLink RX3 28 "TinCellarModel" "kept" "[I", Cond.methodLink RL 92 yL_addBatch, Cond.static yL_addBatch, Cond.initialized RL, Cond.codeWith yL_addBatch cL_addBatch 5 (some .int) [(0, 10, 13, 13), (0, 10, 17, 15)], Cond.classLink RL 13 "java/lang/IllegalArgumentException", Cond.classLink RL 15 "java/lang/IllegalStateException", Cond.methodLink RL 7 yX2_addBatch, Cond.instanceMethod yX2_addBatch, Cond.selects RX2 yX2_addBatch yX2_addBatch, Cond.code yX2_addBatch cX2_addBatch 3 (some .int), Cond.classLink RX2 23 "java/lang/IllegalArgumentException", Cond.initialized "java/lang/IllegalArgumentException", Cond.classLink RX2 34 "java/lang/IllegalStateException", Cond.initialized "java/lang/IllegalStateException", Cond.methodLink RX2 19 yX2_isWithin, Cond.static yX2_isWithin, Cond.code yX2_isWithin cX2_isWithin 3 (some .boolean)]
def wsL_law0_r4 : List Cond := [Cond.methodLink RX2 39 yX1_takeBatch, Cond.instanceMethod yX1_takeBatch, Cond.selects RX1 yX1_takeBatch yX1_takeBatch, Cond.code yX1_takeBatch cX1_takeBatch 4 (some .int), Cond.fieldLink RX1 52 "TinCellar$Stock" "batchCount" "I", Cond.methodLink RX1 64 yX0_set, Cond.instanceMethod yX0_set, Cond.selects RX0 yX0_set yX0_set, Cond.code yX0_set cX0_set 3 none, Cond.methodLink RL 97 yX3_addBatch, Cond.instanceMethod yX3_addBatch, Cond.selects RX3 yX3_addBatch yX3_addBatch, Cond.code yX3_addBatch cX3_addBatch 3 (some .int), Cond.fieldLink RX3 31 "TinCellarModel" "thrown" "I", Cond.fieldLink RX3 39 "TinCellarModel" "batches" "I", Cond.methodLink RX3 35 yX3_isIn, Cond.static yX3_isIn, Cond.code yX3_isIn cX3_isIn 3 (some .boolean), Cond.methodLink RX3 87 yX3_no, Cond.instanceMethod yX3_no, Cond.selects RX3 yX3_no yX3_no, Cond.code yX3_no cX3_no 2 (some .int), Cond.methodLink RL 98 yX3_thrown, Cond.instanceMethod yX3_thrown]
def wsL_law0_r5 : List Cond := [Cond.selects RX3 yX3_thrown yX3_thrown, Cond.code yX3_thrown cX3_thrown 1 (some .int), Cond.methodLink RL 102 yL_seal, Cond.static yL_seal, Cond.codeWith yL_seal cL_seal 6 (some .int) [(0, 12, 15, 21), (0, 12, 19, 13), (0, 12, 23, 15)], Cond.classLink RL 21 "java/lang/IndexOutOfBoundsException", Cond.methodLink RL 17 yX2_seal, Cond.instanceMethod yX2_seal, Cond.selects RX2 yX2_seal yX2_seal, Cond.code yX2_seal cX2_seal 4 (some .int), Cond.methodLink RX2 43 yX2_needBatch, Cond.instanceMethod yX2_needBatch, Cond.selects RX2 yX2_needBatch yX2_needBatch, Cond.code yX2_needBatch cX2_needBatch 2 none, Cond.classLink RX2 243 "java/lang/IndexOutOfBoundsException", Cond.initialized "java/lang/IndexOutOfBoundsException", Cond.methodLink RX2 47 yX2_needShelf, Cond.static yX2_needShelf, Cond.code yX2_needShelf cX2_needShelf 1 none, Cond.methodLink RX2 55 yX1_isBatchRecalled, Cond.instanceMethod yX1_isBatchRecalled, Cond.selects RX1 yX1_isBatchRecalled yX1_isBatchRecalled, Cond.code yX1_isBatchRecalled cX1_isBatchRecalled 2 (some .boolean), Cond.methodLink RX1 68 yX0_get]
def wsL_law0_r6 : List Cond := [Cond.instanceMethod yX0_get, Cond.selects RX0 yX0_get yX0_get, Cond.code yX0_get cX0_get 2 (some .int), Cond.methodLink RX2 61 yX1_takeTins, Cond.instanceMethod yX1_takeTins, Cond.selects RX1 yX1_takeTins yX1_takeTins, Cond.code yX1_takeTins cX1_takeTins 6 (some .int), Cond.fieldLink RX1 55 "TinCellar$Stock" "tinCount" "I", Cond.methodLink RL 105 yX3_seal, Cond.instanceMethod yX3_seal, Cond.selects RX3 yX3_seal yX3_seal, Cond.code yX3_seal cX3_seal 5 (some .int), Cond.fieldLink RX3 42 "TinCellarModel" "tins" "I", Cond.methodLink RX3 90 yX3_isBatch, Cond.instanceMethod yX3_isBatch, Cond.selects RX3 yX3_isBatch yX3_isBatch, Cond.code yX3_isBatch cX3_isBatch 2 (some .boolean), Cond.methodLink RX3 93 yX3_isShelf, Cond.static yX3_isShelf, Cond.code yX3_isShelf cX3_isShelf 1 (some .boolean), Cond.methodLink RL 106 yL_move, Cond.static yL_move, Cond.codeWith yL_move cL_move 5 (some .int) [(0, 10, 13, 21), (0, 10, 17, 15)], Cond.methodLink RL 23 yX2_move]
def wsL_law0_r7 : List Cond := [Cond.instanceMethod yX2_move, Cond.selects RX2 yX2_move yX2_move, Cond.code yX2_move cX2_move 4 (some .int), Cond.methodLink RX2 65 yX2_needTin, Cond.instanceMethod yX2_needTin, Cond.selects RX2 yX2_needTin yX2_needTin, Cond.code yX2_needTin cX2_needTin 2 none, Cond.methodLink RX2 68 yX1_holds, Cond.instanceMethod yX1_holds, Cond.selects RX1 yX1_holds yX1_holds, Cond.code yX1_holds cX1_holds 2 (some .boolean), Cond.methodLink RX2 77 yX0_get, Cond.methodLink RX2 83 yX0_set, Cond.methodLink RL 108 yX3_move, Cond.instanceMethod yX3_move, Cond.selects RX3 yX3_move yX3_move, Cond.code yX3_move cX3_move 4 (some .int), Cond.methodLink RX3 96 yX3_isTin, Cond.instanceMethod yX3_isTin, Cond.selects RX3 yX3_isTin yX3_isTin, Cond.code yX3_isTin cX3_isTin 2 (some .boolean), Cond.methodLink RX3 51 yX3_isHere, Cond.instanceMethod yX3_isHere, Cond.selects RX3 yX3_isHere yX3_isHere]
def wsL_law0_r8 : List Cond := [Cond.code yX3_isHere cX3_isHere 2 (some .boolean), Cond.methodLink RL 109 yL_setWarm, Cond.static yL_setWarm, Cond.codeWith yL_setWarm cL_setWarm 5 (some .int) [(0, 10, 13, 21), (0, 10, 17, 13)], Cond.methodLink RL 26 yX2_setWarm, Cond.instanceMethod yX2_setWarm, Cond.selects RX2 yX2_setWarm yX2_setWarm, Cond.code yX2_setWarm cX2_setWarm 4 (some .int), Cond.methodLink RL 111 yX3_setWarm, Cond.instanceMethod yX3_setWarm, Cond.selects RX3 yX3_setWarm yX3_setWarm, Cond.code yX3_setWarm cX3_setWarm 4 (some .int), Cond.methodLink RL 112 yL_setShipping, Cond.static yL_setShipping, Cond.codeWith yL_setShipping cL_setShipping 5 (some .int) [(0, 10, 13, 13)], Cond.methodLink RL 29 yX2_setShipping, Cond.instanceMethod yX2_setShipping, Cond.selects RX2 yX2_setShipping yX2_setShipping, Cond.code yX2_setShipping cX2_setShipping 4 (some .int), Cond.methodLink RX2 92 yX2_needShipping, Cond.static yX2_needShipping, Cond.code yX2_needShipping cX2_needShipping 2 none, Cond.methodLink RX2 133 yX2_needOrder, Cond.static yX2_needOrder]
def wsL_law0_r9 : List Cond := [Cond.code yX2_needOrder cX2_needOrder 1 none, Cond.methodLink RL 114 yX3_setShipping, Cond.instanceMethod yX3_setShipping, Cond.selects RX3 yX3_setShipping yX3_setShipping, Cond.code yX3_setShipping cX3_setShipping 4 (some .int), Cond.fieldLink RX3 75 "TinCellarModel" "many" "I", Cond.fieldLink RX3 78 "TinCellarModel" "order" "I", Cond.methodLink RX3 99 yX3_isOrder, Cond.static yX3_isOrder, Cond.code yX3_isOrder cX3_isOrder 1 (some .boolean), Cond.methodLink RL 115 yL_recall, Cond.static yL_recall, Cond.codeWith yL_recall cL_recall 4 (some .int) [(0, 9, 12, 21), (0, 9, 15, 15)], Cond.methodLink RL 32 yX2_recall, Cond.instanceMethod yX2_recall, Cond.selects RX2 yX2_recall yX2_recall, Cond.code yX2_recall cX2_recall 2 (some .int), Cond.methodLink RX2 103 yX1_recallBatch, Cond.instanceMethod yX1_recallBatch, Cond.selects RX1 yX1_recallBatch yX1_recallBatch, Cond.code yX1_recallBatch cX1_recallBatch 4 (some .int), Cond.methodLink RL 118 yX3_recall, Cond.instanceMethod yX3_recall, Cond.selects RX3 yX3_recall yX3_recall]
def wsL_law0_r10 : List Cond := [Cond.code yX3_recall cX3_recall 2 (some .int), Cond.methodLink RX3 71 yX3_takeBack, Cond.instanceMethod yX3_takeBack, Cond.selects RX3 yX3_takeBack yX3_takeBack, Cond.code yX3_takeBack cX3_takeBack 4 (some .int), Cond.methodLink RL 119 yL_pass, Cond.static yL_pass, Cond.codeWith yL_pass cL_pass 4 (some .int) [(0, 9, 12, 13)], Cond.methodLink RL 36 yX2_pass, Cond.instanceMethod yX2_pass, Cond.selects RX2 yX2_pass yX2_pass, Cond.code yX2_pass cX2_pass 4 (some .int), Cond.methodLink RX2 108 yX1_countAt, Cond.instanceMethod yX1_countAt, Cond.selects RX1 yX1_countAt yX1_countAt, Cond.code yX1_countAt cX1_countAt 4 (some .int), Cond.methodLink RX2 111 yX1_passDay, Cond.instanceMethod yX1_passDay, Cond.selects RX1 yX1_passDay yX1_passDay, Cond.code yX1_passDay cX1_passDay 2 none, Cond.fieldLink RX1 58 "TinCellar$Stock" "shippedADay" "I", Cond.fieldLink RX1 61 "TinCellar$Stock" "day" "I", Cond.methodLink RX1 72 yX1_wearTins, Cond.instanceMethod yX1_wearTins]
def wsL_law0_r11 : List Cond := [Cond.selects RX1 yX1_wearTins yX1_wearTins, Cond.code yX1_wearTins cX1_wearTins 2 none, Cond.methodLink RX1 92 Lib.Math.max.name, Cond.methodLink RX1 84 yX1_holds, Cond.methodLink RX1 88 yX1_wearOn, Cond.instanceMethod yX1_wearOn, Cond.selects RX1 yX1_wearOn yX1_wearOn, Cond.code yX1_wearOn cX1_wearOn 3 (some .int), Cond.methodLink RX1 97 yX1_swellLid, Cond.instanceMethod yX1_swellLid, Cond.selects RX1 yX1_swellLid yX1_swellLid, Cond.code yX1_swellLid cX1_swellLid 3 none, Cond.methodLink RX1 75 yX1_recallSwelled, Cond.instanceMethod yX1_recallSwelled, Cond.selects RX1 yX1_recallSwelled yX1_recallSwelled, Cond.code yX1_recallSwelled cX1_recallSwelled 2 none, Cond.methodLink RX1 100 yX1_isBatchRecalled, Cond.methodLink RX1 103 yX1_recallBatch, Cond.methodLink RX1 78 yX1_firstBy, Cond.instanceMethod yX1_firstBy, Cond.selects RX1 yX1_firstBy yX1_firstBy, Cond.code yX1_firstBy cX1_firstBy 6 (some .int), Cond.methodLink RX1 106 yX1_rankBy, Cond.instanceMethod yX1_rankBy]
def wsL_law0_r12 : List Cond := [Cond.selects RX1 yX1_rankBy yX1_rankBy, Cond.code yX1_rankBy cX1_rankBy 3 (some .int), Cond.methodLink RX1 81 yX1_ship, Cond.instanceMethod yX1_ship, Cond.selects RX1 yX1_ship yX1_ship, Cond.code yX1_ship cX1_ship 2 none, Cond.methodLink RL 121 yX3_pass, Cond.instanceMethod yX3_pass, Cond.selects RX3 yX3_pass yX3_pass, Cond.code yX3_pass cX3_pass 3 (some .int), Cond.methodLink RX3 102 yX3_count, Cond.instanceMethod yX3_count, Cond.selects RX3 yX3_count yX3_count, Cond.code yX3_count cX3_count 4 (some .int), Cond.methodLink RX3 105 yX3_daysOn, Cond.instanceMethod yX3_daysOn, Cond.selects RX3 yX3_daysOn yX3_daysOn, Cond.code yX3_daysOn cX3_daysOn 3 none, Cond.methodLink RX3 84 yX3_dayOn, Cond.instanceMethod yX3_dayOn, Cond.selects RX3 yX3_dayOn yX3_dayOn, Cond.code yX3_dayOn cX3_dayOn 3 none, Cond.methodLink RX3 67 yX3_leak, Cond.instanceMethod yX3_leak]
def wsL_law0_r13 : List Cond := [Cond.selects RX3 yX3_leak yX3_leak, Cond.code yX3_leak cX3_leak 2 none, Cond.methodLink RX3 62 Lib.Math.max.name, Cond.methodLink RX3 59 yX3_rate, Cond.instanceMethod yX3_rate, Cond.selects RX3 yX3_rate yX3_rate, Cond.code yX3_rate cX3_rate 3 (some .int), Cond.methodLink RX3 81 yX3_firstBy, Cond.instanceMethod yX3_firstBy, Cond.selects RX3 yX3_firstBy yX3_firstBy, Cond.code yX3_firstBy cX3_firstBy 4 (some .int), Cond.methodLink RX3 55 yX3_key, Cond.instanceMethod yX3_key, Cond.selects RX3 yX3_key yX3_key, Cond.code yX3_key cX3_key 3 (some .int), Cond.methodLink RL 122 yX2_day, Cond.instanceMethod yX2_day, Cond.selects RX2 yX2_day yX2_day, Cond.code yX2_day cX2_day 1 (some .int), Cond.methodLink RL 125 yX3_day, Cond.instanceMethod yX3_day, Cond.selects RX3 yX3_day yX3_day, Cond.code yX3_day cX3_day 1 (some .int), Cond.methodLink RX3 108 yX3_ok]
def wsL_law0_r14 : List Cond := [Cond.instanceMethod yX3_ok, Cond.selects RX3 yX3_ok yX3_ok, Cond.code yX3_ok cX3_ok 2 (some .int), Cond.methodLink RL 126 yX2_batches, Cond.instanceMethod yX2_batches, Cond.selects RX2 yX2_batches yX2_batches, Cond.code yX2_batches cX2_batches 1 (some .int), Cond.methodLink RL 129 yX3_batches, Cond.instanceMethod yX3_batches, Cond.selects RX3 yX3_batches yX3_batches, Cond.code yX3_batches cX3_batches 1 (some .int), Cond.methodLink RL 130 yX2_tins, Cond.instanceMethod yX2_tins, Cond.selects RX2 yX2_tins yX2_tins, Cond.code yX2_tins cX2_tins 1 (some .int), Cond.methodLink RL 133 yX3_tins, Cond.instanceMethod yX3_tins, Cond.selects RX3 yX3_tins yX3_tins, Cond.code yX3_tins cX3_tins 1 (some .int), Cond.methodLink RL 134 yX2_inCellar, Cond.instanceMethod yX2_inCellar, Cond.selects RX2 yX2_inCellar yX2_inCellar, Cond.code yX2_inCellar cX2_inCellar 1 (some .int), Cond.methodLink RL 137 yX3_inCellar]
def wsL_law0_r15 : List Cond := [Cond.instanceMethod yX3_inCellar, Cond.selects RX3 yX3_inCellar yX3_inCellar, Cond.code yX3_inCellar cX3_inCellar 1 (some .int), Cond.methodLink RL 138 yX2_shipped, Cond.instanceMethod yX2_shipped, Cond.selects RX2 yX2_shipped yX2_shipped, Cond.code yX2_shipped cX2_shipped 1 (some .int), Cond.methodLink RL 141 yX3_shipped, Cond.instanceMethod yX3_shipped, Cond.selects RX3 yX3_shipped yX3_shipped, Cond.code yX3_shipped cX3_shipped 1 (some .int), Cond.methodLink RL 142 yX2_lost, Cond.instanceMethod yX2_lost, Cond.selects RX2 yX2_lost yX2_lost, Cond.code yX2_lost cX2_lost 1 (some .int), Cond.methodLink RL 145 yX3_lost, Cond.instanceMethod yX3_lost, Cond.selects RX3 yX3_lost yX3_lost, Cond.code yX3_lost cX3_lost 1 (some .int), Cond.methodLink RL 146 yX2_swelled, Cond.instanceMethod yX2_swelled, Cond.selects RX2 yX2_swelled yX2_swelled, Cond.code yX2_swelled cX2_swelled 3 (some .int), Cond.methodLink RL 149 yX3_swelled]
def wsL_law0_r16 : List Cond := [Cond.instanceMethod yX3_swelled, Cond.selects RX3 yX3_swelled yX3_swelled, Cond.code yX3_swelled cX3_swelled 1 (some .int), Cond.methodLink RX3 111 yX3_allSwelled, Cond.instanceMethod yX3_allSwelled, Cond.selects RX3 yX3_allSwelled yX3_allSwelled, Cond.code yX3_allSwelled cX3_allSwelled 3 (some .int), Cond.methodLink RL 150 yL_standOn, Cond.static yL_standOn, Cond.codeWith yL_standOn cL_standOn 4 (some .int) [(0, 9, 12, 21)], Cond.methodLink RL 39 yX2_standOn, Cond.instanceMethod yX2_standOn, Cond.selects RX2 yX2_standOn yX2_standOn, Cond.code yX2_standOn cX2_standOn 2 (some .int), Cond.methodLink RX2 120 yX1_countHeldWith, Cond.instanceMethod yX1_countHeldWith, Cond.selects RX1 yX1_countHeldWith yX1_countHeldWith, Cond.code yX1_countHeldWith cX1_countHeldWith 5 (some .int), Cond.methodLink RL 152 yX3_standOn, Cond.instanceMethod yX3_standOn, Cond.selects RX3 yX3_standOn yX3_standOn, Cond.code yX3_standOn cX3_standOn 2 (some .int), Cond.methodLink RX3 115 yX3_on, Cond.instanceMethod yX3_on]
def wsL_law0_r17 : List Cond := [Cond.selects RX3 yX3_on yX3_on, Cond.code yX3_on cX3_on 4 (some .int), Cond.methodLink RL 153 yL_warmOf, Cond.static yL_warmOf, Cond.codeWith yL_warmOf cL_warmOf 4 (some .int) [(0, 9, 12, 21)], Cond.methodLink RL 42 yX2_warmOf, Cond.instanceMethod yX2_warmOf, Cond.selects RX2 yX2_warmOf yX2_warmOf, Cond.code yX2_warmOf cX2_warmOf 2 (some .int), Cond.methodLink RL 155 yX3_warmOf, Cond.instanceMethod yX3_warmOf, Cond.selects RX3 yX3_warmOf yX3_warmOf, Cond.code yX3_warmOf cX3_warmOf 2 (some .int), Cond.methodLink RL 156 yL_batchOf, Cond.static yL_batchOf, Cond.codeWith yL_batchOf cL_batchOf 4 (some .int) [(0, 9, 12, 21)], Cond.methodLink RL 45 yX2_batchOf, Cond.instanceMethod yX2_batchOf, Cond.selects RX2 yX2_batchOf yX2_batchOf, Cond.code yX2_batchOf cX2_batchOf 2 (some .int), Cond.methodLink RL 158 yX3_batchOf, Cond.instanceMethod yX3_batchOf, Cond.selects RX3 yX3_batchOf yX3_batchOf, Cond.code yX3_batchOf cX3_batchOf 2 (some .int)]
def wsL_law0_r18 : List Cond := [Cond.methodLink RL 159 yL_shelfOf, Cond.static yL_shelfOf, Cond.codeWith yL_shelfOf cL_shelfOf 4 (some .int) [(0, 9, 12, 21)], Cond.methodLink RL 48 yX2_shelfOf, Cond.instanceMethod yX2_shelfOf, Cond.selects RX2 yX2_shelfOf yX2_shelfOf, Cond.code yX2_shelfOf cX2_shelfOf 2 (some .int), Cond.methodLink RL 161 yX3_shelfOf, Cond.instanceMethod yX3_shelfOf, Cond.selects RX3 yX3_shelfOf yX3_shelfOf, Cond.code yX3_shelfOf cX3_shelfOf 2 (some .int), Cond.methodLink RX3 118 yX3_place, Cond.instanceMethod yX3_place, Cond.selects RX3 yX3_place yX3_place, Cond.code yX3_place cX3_place 2 (some .int), Cond.methodLink RL 162 yL_vacuumOf, Cond.static yL_vacuumOf, Cond.codeWith yL_vacuumOf cL_vacuumOf 4 (some .int) [(0, 9, 12, 21)], Cond.methodLink RL 51 yX2_vacuumOf, Cond.instanceMethod yX2_vacuumOf, Cond.selects RX2 yX2_vacuumOf yX2_vacuumOf, Cond.code yX2_vacuumOf cX2_vacuumOf 2 (some .int), Cond.methodLink RL 164 yX3_vacuumOf, Cond.instanceMethod yX3_vacuumOf]
def wsL_law0_r19 : List Cond := [Cond.selects RX3 yX3_vacuumOf yX3_vacuumOf, Cond.code yX3_vacuumOf cX3_vacuumOf 2 (some .int), Cond.methodLink RL 165 yL_isShipped, Cond.static yL_isShipped, Cond.codeWith yL_isShipped cL_isShipped 4 (some .int) [(0, 16, 19, 21)], Cond.methodLink RL 54 yX2_isShipped, Cond.instanceMethod yX2_isShipped, Cond.selects RX2 yX2_isShipped yX2_isShipped, Cond.code yX2_isShipped cX2_isShipped 2 (some .boolean), Cond.methodLink RL 167 yX3_isShipped, Cond.instanceMethod yX3_isShipped, Cond.selects RX3 yX3_isShipped yX3_isShipped, Cond.code yX3_isShipped cX3_isShipped 2 (some .boolean), Cond.methodLink RX3 124 yX3_is, Cond.instanceMethod yX3_is, Cond.selects RX3 yX3_is yX3_is, Cond.code yX3_is cX3_is 3 (some .boolean), Cond.methodLink RX3 121 yX3_isNot, Cond.instanceMethod yX3_isNot, Cond.selects RX3 yX3_isNot yX3_isNot, Cond.code yX3_isNot cX3_isNot 2 (some .boolean), Cond.methodLink RL 168 yL_isLost, Cond.static yL_isLost, Cond.codeWith yL_isLost cL_isLost 4 (some .int) [(0, 16, 19, 21)]]
def wsL_law0_r20 : List Cond := [Cond.methodLink RL 58 yX2_isLost, Cond.instanceMethod yX2_isLost, Cond.selects RX2 yX2_isLost yX2_isLost, Cond.code yX2_isLost cX2_isLost 2 (some .boolean), Cond.methodLink RL 170 yX3_isLost, Cond.instanceMethod yX3_isLost, Cond.selects RX3 yX3_isLost yX3_isLost, Cond.code yX3_isLost cX3_isLost 2 (some .boolean), Cond.methodLink RL 171 yL_swelledOf, Cond.static yL_swelledOf, Cond.codeWith yL_swelledOf cL_swelledOf 4 (some .int) [(0, 9, 12, 21)], Cond.methodLink RL 61 yX2_swelledOf, Cond.instanceMethod yX2_swelledOf, Cond.selects RX2 yX2_swelledOf yX2_swelledOf, Cond.code yX2_swelledOf cX2_swelledOf 2 (some .int), Cond.methodLink RL 173 yX3_swelledOf, Cond.instanceMethod yX3_swelledOf, Cond.selects RX3 yX3_swelledOf yX3_swelledOf, Cond.code yX3_swelledOf cX3_swelledOf 2 (some .int), Cond.methodLink RL 174 yL_leftOf, Cond.static yL_leftOf, Cond.codeWith yL_leftOf cL_leftOf 4 (some .int) [(0, 9, 12, 21)], Cond.methodLink RL 64 yX2_leftOf, Cond.instanceMethod yX2_leftOf]
def wsL_law0_r21 : List Cond := [Cond.selects RX2 yX2_leftOf yX2_leftOf, Cond.code yX2_leftOf cX2_leftOf 2 (some .int), Cond.methodLink RL 176 yX3_leftOf, Cond.instanceMethod yX3_leftOf, Cond.selects RX3 yX3_leftOf yX3_leftOf, Cond.code yX3_leftOf cX3_leftOf 2 (some .int), Cond.methodLink RX3 128 yX3_left, Cond.instanceMethod yX3_left, Cond.selects RX3 yX3_left yX3_left, Cond.code yX3_left cX3_left 4 (some .int), Cond.methodLink RL 177 yL_isRecalled, Cond.static yL_isRecalled, Cond.codeWith yL_isRecalled cL_isRecalled 4 (some .int) [(0, 16, 19, 21)], Cond.methodLink RL 67 yX2_isRecalled, Cond.instanceMethod yX2_isRecalled, Cond.selects RX2 yX2_isRecalled yX2_isRecalled, Cond.code yX2_isRecalled cX2_isRecalled 2 (some .boolean), Cond.methodLink RL 179 yX3_isRecalled, Cond.instanceMethod yX3_isRecalled, Cond.selects RX3 yX3_isRecalled yX3_isRecalled, Cond.code yX3_isRecalled cX3_isRecalled 2 (some .boolean), Cond.methodLink RL 180 yL_first, Cond.static yL_first, Cond.codeWith yL_first cL_first 4 (some .int) [(0, 9, 12, 13)]]
def wsL_law0_r22 : List Cond := [Cond.methodLink RL 70 yX2_first, Cond.instanceMethod yX2_first, Cond.selects RX2 yX2_first yX2_first, Cond.code yX2_first cX2_first 2 (some .int), Cond.methodLink RX2 136 yX1_firstBy, Cond.methodLink RL 182 yX3_first, Cond.instanceMethod yX3_first, Cond.selects RX3 yX3_first yX3_first, Cond.code yX3_first cX3_first 2 (some .int), Cond.methodLink RL 183 yL_placeBy, Cond.static yL_placeBy, Cond.codeWith yL_placeBy cL_placeBy 5 (some .int) [(0, 10, 13, 21), (0, 10, 17, 13)], Cond.methodLink RL 73 yX2_placeBy, Cond.instanceMethod yX2_placeBy, Cond.selects RX2 yX2_placeBy yX2_placeBy, Cond.code yX2_placeBy cX2_placeBy 3 (some .int), Cond.methodLink RX2 139 yX1_countAheadOf, Cond.instanceMethod yX1_countAheadOf, Cond.selects RX1 yX1_countAheadOf yX1_countAheadOf, Cond.code yX1_countAheadOf cX1_countAheadOf 6 (some .int), Cond.methodLink RL 185 yX3_placeBy, Cond.instanceMethod yX3_placeBy, Cond.selects RX3 yX3_placeBy yX3_placeBy, Cond.code yX3_placeBy cX3_placeBy 3 (some .int)]
def wsL_law0_r23 : List Cond := [Cond.methodLink RX3 131 yX3_ahead, Cond.instanceMethod yX3_ahead, Cond.selects RX3 yX3_ahead yX3_ahead, Cond.code yX3_ahead cX3_ahead 5 (some .int), Cond.methodLink RL 186 yL_daysOf, Cond.static yL_daysOf, Cond.codeWith yL_daysOf cL_daysOf 4 (some .int) [(0, 9, 12, 21)], Cond.methodLink RL 76 yX2_daysOf, Cond.instanceMethod yX2_daysOf, Cond.selects RX2 yX2_daysOf yX2_daysOf, Cond.code yX2_daysOf cX2_daysOf 2 (some .int), Cond.methodLink RX2 142 yX1_daysToSwell, Cond.instanceMethod yX1_daysToSwell, Cond.selects RX1 yX1_daysToSwell yX1_daysToSwell, Cond.code yX1_daysToSwell cX1_daysToSwell 4 (some .int), Cond.methodLink RL 188 yX3_daysOf, Cond.instanceMethod yX3_daysOf, Cond.selects RX3 yX3_daysOf yX3_daysOf, Cond.code yX3_daysOf cX3_daysOf 2 (some .int), Cond.methodLink RX3 134 yX3_until, Cond.instanceMethod yX3_until, Cond.selects RX3 yX3_until yX3_until, Cond.code yX3_until cX3_until 4 (some .int), Cond.methodLink RL 189 yL_daysUntilRecalled]
def wsL_law0_r24 : List Cond := [Cond.static yL_daysUntilRecalled, Cond.codeWith yL_daysUntilRecalled cL_daysUntilRecalled 4 (some .int) [(0, 9, 12, 21)], Cond.methodLink RL 79 yX2_daysUntilRecalled, Cond.instanceMethod yX2_daysUntilRecalled, Cond.selects RX2 yX2_daysUntilRecalled yX2_daysUntilRecalled, Cond.code yX2_daysUntilRecalled cX2_daysUntilRecalled 3 (some .int), Cond.methodLink RX2 145 yX1_copyFrom, Cond.instanceMethod yX1_copyFrom, Cond.selects RX1 yX1_copyFrom yX1_copyFrom, Cond.code yX1_copyFrom cX1_copyFrom 2 none, Cond.methodLink RX1 48 yX0_copyFrom, Cond.instanceMethod yX0_copyFrom, Cond.selects RX0 yX0_copyFrom yX0_copyFrom, Cond.code yX0_copyFrom cX0_copyFrom 3 none, Cond.methodLink RX0 19 yX0_get, Cond.methodLink RL 191 yX3_daysUntilRecalled, Cond.instanceMethod yX3_daysUntilRecalled, Cond.selects RX3 yX3_daysUntilRecalled yX3_daysUntilRecalled, Cond.code yX3_daysUntilRecalled cX3_daysUntilRecalled 2 (some .int), Cond.methodLink RX3 143 yX3_untilRecalled, Cond.instanceMethod yX3_untilRecalled, Cond.selects RX3 yX3_untilRecalled yX3_untilRecalled, Cond.code yX3_untilRecalled cX3_untilRecalled 3 (some .int), Cond.methodLink RX3 137 yX3_keep]
def wsL_law0_r25 : List Cond := [Cond.instanceMethod yX3_keep, Cond.selects RX3 yX3_keep yX3_keep, Cond.code yX3_keep cX3_keep 1 none, Cond.methodLink RX3 45 arraycopyName, Cond.native arraycopyName, Cond.static arraycopyName, Cond.initialized "java/lang/System", Cond.methodLink RX3 140 yX3_bringBack, Cond.instanceMethod yX3_bringBack, Cond.selects RX3 yX3_bringBack yX3_bringBack, Cond.code yX3_bringBack cX3_bringBack 1 none, Cond.methodLink RL 192 yL_lostWith, Cond.static yL_lostWith, Cond.codeWith yL_lostWith cL_lostWith 5 (some .int) [(0, 10, 13, 13)], Cond.methodLink RL 82 yX2_lostWith, Cond.instanceMethod yX2_lostWith, Cond.selects RX2 yX2_lostWith yX2_lostWith, Cond.code yX2_lostWith cX2_lostWith 3 (some .int), Cond.methodLink RX2 149 yX2_lossBy, Cond.instanceMethod yX2_lossBy, Cond.selects RX2 yX2_lossBy yX2_lossBy, Cond.code yX2_lossBy cX2_lossBy 4 (some .int), Cond.methodLink RL 194 yX3_lostWith, Cond.instanceMethod yX3_lostWith]
def wsL_law0_r26 : List Cond := [Cond.selects RX3 yX3_lostWith yX3_lostWith, Cond.code yX3_lostWith cX3_lostWith 3 (some .int), Cond.methodLink RX3 146 yX3_lostBehind, Cond.instanceMethod yX3_lostBehind, Cond.selects RX3 yX3_lostBehind yX3_lostBehind, Cond.code yX3_lostBehind cX3_lostBehind 7 (some .int), Cond.methodLink RL 195 yX2_bestOrder, Cond.instanceMethod yX2_bestOrder, Cond.selects RX2 yX2_bestOrder yX2_bestOrder, Cond.code yX2_bestOrder cX2_bestOrder 5 (some .int), Cond.methodLink RL 198 yX3_bestOrder, Cond.instanceMethod yX3_bestOrder, Cond.selects RX3 yX3_bestOrder yX3_bestOrder, Cond.code yX3_bestOrder cX3_bestOrder 1 (some .int), Cond.methodLink RX3 149 yX3_best, Cond.instanceMethod yX3_best, Cond.selects RX3 yX3_best yX3_best, Cond.code yX3_best cX3_best 5 (some .int), Cond.methodLink RL 199 yX2_shippingWanted, Cond.instanceMethod yX2_shippingWanted, Cond.selects RX2 yX2_shippingWanted yX2_shippingWanted, Cond.code yX2_shippingWanted cX2_shippingWanted 2 (some .int), Cond.methodLink RL 202 yX3_shippingWanted, Cond.instanceMethod yX3_shippingWanted]
def wsL_law0_r27 : List Cond := [Cond.selects RX3 yX3_shippingWanted yX3_shippingWanted, Cond.code yX3_shippingWanted cX3_shippingWanted 1 (some .int), Cond.methodLink RX3 152 yX3_wanted, Cond.instanceMethod yX3_wanted, Cond.selects RX3 yX3_wanted yX3_wanted, Cond.code yX3_wanted cX3_wanted 2 (some .int), Cond.methodLink RL 203 yL_bestShelf, Cond.static yL_bestShelf, Cond.codeWith yL_bestShelf cL_bestShelf 4 (some .int) [(0, 9, 12, 21)], Cond.methodLink RL 85 yX2_bestShelf, Cond.instanceMethod yX2_bestShelf, Cond.selects RX2 yX2_bestShelf yX2_bestShelf, Cond.code yX2_bestShelf cX2_bestShelf 4 (some .int), Cond.methodLink RX2 152 yX2_isLater, Cond.static yX2_isLater, Cond.code yX2_isLater cX2_isLater 2 (some .boolean), Cond.methodLink RL 205 yX3_bestShelf, Cond.instanceMethod yX3_bestShelf, Cond.selects RX3 yX3_bestShelf yX3_bestShelf, Cond.code yX3_bestShelf cX3_bestShelf 2 (some .int), Cond.methodLink RX3 155 yX3_shelfFor, Cond.instanceMethod yX3_shelfFor, Cond.selects RX3 yX3_shelfFor yX3_shelfFor, Cond.code yX3_shelfFor cX3_shelfFor 4 (some .int)]
def wsL_law0_r28 : List Cond := [Cond.methodLink RL 206 yX2_meanVacuum, Cond.instanceMethod yX2_meanVacuum, Cond.selects RX2 yX2_meanVacuum yX2_meanVacuum, Cond.code yX2_meanVacuum cX2_meanVacuum 2 (some .double), Cond.methodLink RX2 156 yX1_vacuumHeld, Cond.instanceMethod yX1_vacuumHeld, Cond.selects RX1 yX1_vacuumHeld yX1_vacuumHeld, Cond.code yX1_vacuumHeld cX1_vacuumHeld 3 (some .int), Cond.methodLink RL 210 yX3_meanVacuum, Cond.instanceMethod yX3_meanVacuum, Cond.selects RX3 yX3_meanVacuum yX3_meanVacuum, Cond.code yX3_meanVacuum cX3_meanVacuum 3 (some .double), Cond.methodLink RL 211 yX2_digest, Cond.instanceMethod yX2_digest, Cond.selects RX2 yX2_digest yX2_digest, Cond.code yX2_digest cX2_digest 4 (some .long), Cond.constantLong RX2 160 (2351), Cond.methodLink RX2 162 yX2_day, Cond.methodLink RX2 164 yX2_mix, Cond.static yX2_mix, Cond.code yX2_mix cX2_mix 4 (some .long), Cond.constantLong RX2 241 (31), Cond.methodLink RX2 168 yX2_batches, Cond.methodLink RX2 171 yX2_tins]
def wsL_law0_r29 : List Cond := [Cond.methodLink RX2 174 yX2_inCellar, Cond.methodLink RX2 177 yX2_shipped, Cond.methodLink RX2 180 yX2_lost, Cond.methodLink RX2 183 yX2_swelled, Cond.methodLink RX2 186 yX2_first, Cond.methodLink RX2 189 yX2_bestOrder, Cond.methodLink RX2 192 yX2_shippingWanted, Cond.methodLink RX2 195 yX2_mixShelves, Cond.instanceMethod yX2_mixShelves, Cond.selects RX2 yX2_mixShelves yX2_mixShelves, Cond.code yX2_mixShelves cX2_mixShelves 6 (some .long), Cond.methodLink RX2 205 yX2_standOn, Cond.methodLink RX2 208 yX2_warmOf, Cond.methodLink RX2 199 yX2_mixBatches, Cond.instanceMethod yX2_mixBatches, Cond.selects RX2 yX2_mixBatches yX2_mixBatches, Cond.code yX2_mixBatches cX2_mixBatches 6 (some .long), Cond.methodLink RX2 211 yX2_swelledOf, Cond.methodLink RX2 214 yX2_leftOf, Cond.methodLink RX2 217 yX2_isRecalled, Cond.methodLink RX2 220 yX2_daysUntilRecalled, Cond.methodLink RX2 202 yX2_mixTins, Cond.instanceMethod yX2_mixTins, Cond.selects RX2 yX2_mixTins yX2_mixTins]
def wsL_law0_r30 : List Cond := [Cond.code yX2_mixTins cX2_mixTins 6 (some .long), Cond.methodLink RX2 223 yX2_shelfOf, Cond.methodLink RX2 226 yX2_vacuumOf, Cond.methodLink RX2 229 yX2_isShipped, Cond.methodLink RX2 232 yX2_placeBy, Cond.methodLink RX2 235 yX2_daysOf, Cond.methodLink RX2 238 yX2_bestShelf, Cond.methodLink RL 215 yX3_digest, Cond.instanceMethod yX3_digest, Cond.selects RX3 yX3_digest yX3_digest, Cond.code yX3_digest cX3_digest 8 (some .long), Cond.constantLong RX3 158 (2351), Cond.constantLong RX3 160 (31)]
def wsL_law0 : List Cond := (wsL_law0_r1 ++ (wsL_law0_r2 ++ (wsL_law0_r3 ++ (wsL_law0_r4 ++ (wsL_law0_r5 ++ (wsL_law0_r6 ++ (wsL_law0_r7 ++ (wsL_law0_r8 ++ (wsL_law0_r9 ++ (wsL_law0_r10 ++ (wsL_law0_r11 ++ (wsL_law0_r12 ++ (wsL_law0_r13 ++ (wsL_law0_r14 ++ (wsL_law0_r15 ++ (wsL_law0_r16 ++ (wsL_law0_r17 ++ (wsL_law0_r18 ++ (wsL_law0_r19 ++ (wsL_law0_r20 ++ (wsL_law0_r21 ++ (wsL_law0_r22 ++ (wsL_law0_r23 ++ (wsL_law0_r24 ++ (wsL_law0_r25 ++ (wsL_law0_r26 ++ (wsL_law0_r27 ++ (wsL_law0_r28 ++ (wsL_law0_r29 ++ wsL_law0_r30))))))))))))))))))))))))))))) ++ wsX20 ++ wsX30 ++ wsX10 ++ wsX00 ++ ([] : List Cond)
def wsL_law : List Cond := wsL_law0 ++ (vx_atS RX2 27 "java/lang/IllegalArgumentException" ["java/lang/RuntimeException", "java/lang/Exception"]).filter goodWord ++ (vx_atS RX2 38 "java/lang/IllegalStateException" ["java/lang/RuntimeException", "java/lang/Exception"]).filter goodWord ++ (vx_atS RX2 247 "java/lang/IndexOutOfBoundsException" ["java/lang/RuntimeException", "java/lang/Exception"]).filter goodWord
set_option maxRecDepth 20000 in
theorem gwsL_law0_r1 : GoodIn lw_tbl wsL_law0_r1 := goodIn_r _ [54, 55, 42, 623, 624, 46, 933, 56, 57, 58, 59, 60, 61, 62, 63, 43, 136, 137, 65, 66, 67, 68, 69, 44] (by decide +kernel) (by decide +kernel)
set_option maxRecDepth 20000 in
theorem gwsL_law0_r2 : GoodIn lw_tbl wsL_law0_r2 := goodIn_r _ [82, 84, 85, 86, 88, 91, 93, 95, 97, 103, 70, 71, 72, 73, 74, 75, 45, 76, 81, 77, 625, 626, 627, 628] (by decide +kernel) (by decide +kernel)
set_option maxRecDepth 20000 in
theorem gwsL_law0_r3 : GoodIn lw_tbl wsL_law0_r3 := goodIn_r _ [634, 635, 636, 637, 638, 639, 640, 461, 462, 41, 463, 464, 465, 466, 467, 468, 469, 284, 50, 471, 51, 281, 282, 283] (by decide +kernel) (by decide +kernel)
set_option maxRecDepth 20000 in
theorem gwsL_law0_r4 : GoodIn lw_tbl wsL_law0_r4 := goodIn_r _ [487, 488, 489, 490, 90, 214, 215, 216, 217, 670, 671, 672, 673, 629, 630, 674, 675, 676, 677, 679, 13, 680, 666, 667] (by decide +kernel) (by decide +kernel)
set_option maxRecDepth 20000 in
theorem gwsL_law0_r5 : GoodIn lw_tbl wsL_law0_r5 := goodIn_r _ [668, 669, 491, 492, 493, 494, 495, 496, 497, 498, 398, 400, 10, 401, 366, 52, 363, 364, 365, 411, 227, 228, 229, 163] (by decide +kernel) (by decide +kernel)
set_option maxRecDepth 20000 in
theorem gwsL_law0_r6 : GoodIn lw_tbl wsL_law0_r6 := goodIn_r _ [164, 165, 166, 501, 502, 503, 504, 99, 681, 682, 683, 684, 631, 685, 687, 14, 688, 689, 690, 691, 505, 506, 507, 508] (by decide +kernel) (by decide +kernel)
set_option maxRecDepth 20000 in
theorem gwsL_law0_r7 : GoodIn lw_tbl wsL_law0_r7 := goodIn_r _ [509, 510, 511, 424, 426, 12, 427, 429, 206, 207, 208, 179, 513, 692, 693, 694, 695, 696, 698, 15, 699, 700, 702, 16] (by decide +kernel) (by decide +kernel)
set_option maxRecDepth 20000 in
theorem gwsL_law0_r8 : GoodIn lw_tbl wsL_law0_r8 := goodIn_r _ [703, 514, 515, 516, 517, 518, 519, 520, 704, 705, 706, 707, 522, 523, 524, 525, 526, 527, 528, 529, 530, 531, 278, 279] (by decide +kernel) (by decide +kernel)
set_option maxRecDepth 20000 in
theorem gwsL_law0_r9 : GoodIn lw_tbl wsL_law0_r9 := goodIn_r _ [280, 708, 709, 710, 711, 632, 633, 712, 713, 714, 533, 534, 535, 536, 537, 538, 539, 541, 231, 232, 233, 715, 716, 717] (by decide +kernel) (by decide +kernel)
set_option maxRecDepth 20000 in
theorem gwsL_law0_r10 : GoodIn lw_tbl wsL_law0_r10 := goodIn_r _ [718, 719, 721, 17, 722, 542, 543, 544, 545, 546, 547, 548, 159, 160, 161, 162, 197, 198, 199, 200, 101, 105, 201, 203] (by decide +kernel) (by decide +kernel)
set_option maxRecDepth 20000 in
theorem gwsL_law0_r11 : GoodIn lw_tbl wsL_law0_r11 := goodIn_r _ [1, 204, 213, 205, 209, 211, 2, 212, 218, 220, 3, 221, 222, 224, 4, 225, 226, 230, 234, 235, 236, 237, 238, 240] (by decide +kernel) (by decide +kernel)
set_option maxRecDepth 20000 in
theorem gwsL_law0_r12 : GoodIn lw_tbl wsL_law0_r12 := goodIn_r _ [5, 241, 242, 244, 6, 245, 723, 724, 725, 726, 727, 729, 18, 730, 731, 733, 19, 734, 735, 737, 20, 738, 739, 741] (by decide +kernel) (by decide +kernel)
set_option maxRecDepth 20000 in
theorem gwsL_law0_r13 : GoodIn lw_tbl wsL_law0_r13 := goodIn_r _ [21, 742, 747, 743, 745, 22, 746, 748, 750, 23, 751, 752, 754, 24, 755, 143, 144, 145, 146, 756, 757, 758, 759, 760] (by decide +kernel) (by decide +kernel)
set_option maxRecDepth 20000 in
theorem gwsL_law0_r14 : GoodIn lw_tbl wsL_law0_r14 := goodIn_r _ [762, 25, 763, 147, 148, 149, 150, 764, 765, 766, 767, 151, 152, 153, 154, 768, 769, 770, 771, 155, 156, 157, 158, 772] (by decide +kernel) (by decide +kernel)
set_option maxRecDepth 20000 in
theorem gwsL_law0_r15 : GoodIn lw_tbl wsL_law0_r15 := goodIn_r _ [773, 774, 775, 167, 168, 169, 170, 776, 777, 778, 779, 171, 172, 173, 174, 780, 781, 782, 783, 175, 176, 177, 178, 784] (by decide +kernel) (by decide +kernel)
set_option maxRecDepth 20000 in
theorem gwsL_law0_r16 : GoodIn lw_tbl wsL_law0_r16 := goodIn_r _ [785, 786, 787, 788, 790, 26, 791, 550, 551, 552, 553, 360, 361, 362, 382, 383, 384, 385, 792, 793, 794, 795, 796, 798] (by decide +kernel) (by decide +kernel)
set_option maxRecDepth 20000 in
theorem gwsL_law0_r17 : GoodIn lw_tbl wsL_law0_r17 := goodIn_r _ [27, 799, 554, 555, 556, 557, 387, 388, 389, 800, 801, 802, 803, 558, 559, 560, 561, 562, 563, 564, 804, 805, 806, 807] (by decide +kernel) (by decide +kernel)
set_option maxRecDepth 20000 in
theorem gwsL_law0_r18 : GoodIn lw_tbl wsL_law0_r18 := goodIn_r _ [565, 566, 567, 568, 421, 422, 423, 808, 809, 810, 811, 812, 814, 28, 815, 569, 570, 571, 572, 431, 432, 433, 816, 817] (by decide +kernel) (by decide +kernel)
set_option maxRecDepth 20000 in
theorem gwsL_law0_r19 : GoodIn lw_tbl wsL_law0_r19 := goodIn_r _ [818, 819, 573, 574, 575, 576, 435, 436, 437, 820, 821, 822, 823, 824, 826, 29, 827, 828, 830, 30, 831, 577, 578, 579] (by decide +kernel) (by decide +kernel)
set_option maxRecDepth 20000 in
theorem gwsL_law0_r20 : GoodIn lw_tbl wsL_law0_r20 := goodIn_r _ [580, 581, 582, 583, 832, 833, 834, 835, 584, 585, 586, 587, 395, 396, 397, 836, 837, 838, 839, 588, 589, 590, 591, 404] (by decide +kernel) (by decide +kernel)
set_option maxRecDepth 20000 in
theorem gwsL_law0_r21 : GoodIn lw_tbl wsL_law0_r21 := goodIn_r _ [405, 406, 840, 841, 842, 843, 844, 846, 31, 847, 592, 593, 594, 595, 408, 409, 410, 848, 849, 850, 851, 596, 597, 598] (by decide +kernel) (by decide +kernel)
set_option maxRecDepth 20000 in
theorem gwsL_law0_r22 : GoodIn lw_tbl wsL_law0_r22 := goodIn_r _ [599, 275, 276, 277, 352, 852, 853, 854, 855, 600, 601, 602, 603, 439, 440, 441, 442, 443, 444, 445, 856, 857, 858, 859] (by decide +kernel) (by decide +kernel)
set_option maxRecDepth 20000 in
theorem gwsL_law0_r23 : GoodIn lw_tbl wsL_law0_r23 := goodIn_r _ [860, 862, 32, 863, 604, 605, 606, 607, 447, 448, 449, 450, 451, 452, 453, 864, 865, 866, 867, 868, 870, 33, 871, 608] (by decide +kernel) (by decide +kernel)
set_option maxRecDepth 20000 in
theorem gwsL_law0_r24 : GoodIn lw_tbl wsL_law0_r24 := goodIn_r _ [609, 610, 611, 413, 414, 415, 188, 189, 190, 191, 192, 193, 194, 195, 196, 872, 873, 874, 875, 876, 878, 34, 879, 880] (by decide +kernel) (by decide +kernel)
set_option maxRecDepth 20000 in
theorem gwsL_law0_r25 : GoodIn lw_tbl wsL_law0_r25 := goodIn_r _ [882, 35, 883, 884, 886, 885, 53, 887, 889, 36, 890, 612, 613, 614, 615, 616, 617, 618, 184, 186, 0, 187, 891, 892] (by decide +kernel) (by decide +kernel)
set_option maxRecDepth 20000 in
theorem gwsL_law0_r26 : GoodIn lw_tbl wsL_law0_r26 := goodIn_r _ [893, 894, 895, 897, 37, 898, 180, 181, 182, 183, 899, 900, 901, 902, 903, 905, 38, 906, 246, 247, 248, 249, 907, 908] (by decide +kernel) (by decide +kernel)
set_option maxRecDepth 20000 in
theorem gwsL_law0_r27 : GoodIn lw_tbl wsL_law0_r27 := goodIn_r _ [909, 910, 911, 913, 39, 914, 619, 620, 621, 622, 455, 456, 457, 458, 459, 460, 915, 916, 917, 918, 919, 921, 40, 922] (by decide +kernel) (by decide +kernel)
set_option maxRecDepth 20000 in
theorem gwsL_law0_r28 : GoodIn lw_tbl wsL_law0_r28 := goodIn_r _ [250, 251, 252, 253, 254, 255, 256, 257, 923, 924, 925, 926, 258, 259, 260, 261, 262, 263, 264, 265, 266, 267, 268, 269] (by decide +kernel) (by decide +kernel)
set_option maxRecDepth 20000 in
theorem gwsL_law0_r29 : GoodIn lw_tbl wsL_law0_r29 := goodIn_r _ [270, 271, 272, 273, 274, 353, 354, 355, 357, 8, 358, 359, 386, 390, 392, 9, 393, 394, 403, 407, 412, 416, 418, 11] (by decide +kernel) (by decide +kernel)
set_option maxRecDepth 20000 in
theorem gwsL_law0_r30 : GoodIn lw_tbl wsL_law0_r30 := goodIn_r _ [419, 420, 430, 434, 438, 446, 454, 927, 928, 929, 930, 931, 932] (by decide +kernel) (by decide +kernel)
set_option maxRecDepth 20000 in
theorem gm_wsX20 : ∀ w ∈ wsX20, w ∈ lw_tbl := by decide +kernel
set_option maxRecDepth 20000 in
theorem gm_wsX30 : ∀ w ∈ wsX30, w ∈ lw_tbl := by decide +kernel
set_option maxRecDepth 20000 in
theorem gm_wsX10 : ∀ w ∈ wsX10, w ∈ lw_tbl := by decide +kernel
set_option maxRecDepth 20000 in
theorem gm_wsX00 : ∀ w ∈ wsX00, w ∈ lw_tbl := by decide +kernel
theorem wsL_law_inr : GoodIn lw_tbl (wsL_law0_r1 ++ (wsL_law0_r2 ++ (wsL_law0_r3 ++ (wsL_law0_r4 ++ (wsL_law0_r5 ++ (wsL_law0_r6 ++ (wsL_law0_r7 ++ (wsL_law0_r8 ++ (wsL_law0_r9 ++ (wsL_law0_r10 ++ (wsL_law0_r11 ++ (wsL_law0_r12 ++ (wsL_law0_r13 ++ (wsL_law0_r14 ++ (wsL_law0_r15 ++ (wsL_law0_r16 ++ (wsL_law0_r17 ++ (wsL_law0_r18 ++ (wsL_law0_r19 ++ (wsL_law0_r20 ++ (wsL_law0_r21 ++ (wsL_law0_r22 ++ (wsL_law0_r23 ++ (wsL_law0_r24 ++ (wsL_law0_r25 ++ (wsL_law0_r26 ++ (wsL_law0_r27 ++ (wsL_law0_r28 ++ (wsL_law0_r29 ++ (wsL_law0_r30)))))))))))))))))))))))))))))) := (goodIn_app gwsL_law0_r1 (goodIn_app gwsL_law0_r2 (goodIn_app gwsL_law0_r3 (goodIn_app gwsL_law0_r4 (goodIn_app gwsL_law0_r5 (goodIn_app gwsL_law0_r6 (goodIn_app gwsL_law0_r7 (goodIn_app gwsL_law0_r8 (goodIn_app gwsL_law0_r9 (goodIn_app gwsL_law0_r10 (goodIn_app gwsL_law0_r11 (goodIn_app gwsL_law0_r12 (goodIn_app gwsL_law0_r13 (goodIn_app gwsL_law0_r14 (goodIn_app gwsL_law0_r15 (goodIn_app gwsL_law0_r16 (goodIn_app gwsL_law0_r17 (goodIn_app gwsL_law0_r18 (goodIn_app gwsL_law0_r19 (goodIn_app gwsL_law0_r20 (goodIn_app gwsL_law0_r21 (goodIn_app gwsL_law0_r22 (goodIn_app gwsL_law0_r23 (goodIn_app gwsL_law0_r24 (goodIn_app gwsL_law0_r25 (goodIn_app gwsL_law0_r26 (goodIn_app gwsL_law0_r27 (goodIn_app gwsL_law0_r28 (goodIn_app gwsL_law0_r29 gwsL_law0_r30)))))))))))))))))))))))))))))
theorem wsL_law_in0 : ∀ w ∈ wsL_law0, w ∈ lw_tbl := fun w h => (List.mem_append.mp h).elim (fun h => (List.mem_append.mp h).elim (fun h => (List.mem_append.mp h).elim (fun h => (List.mem_append.mp h).elim (fun h => (List.mem_append.mp h).elim (fun h => (wsL_law_inr w h).1) (fun h => gm_wsX20 w h)) (fun h => gm_wsX30 w h)) (fun h => gm_wsX10 w h)) (fun h => gm_wsX00 w h)) (fun h => absurd h List.not_mem_nil)
theorem wsL_law_x0 : ∀ w ∈ (vx_atS RX2 27 "java/lang/IllegalArgumentException" ["java/lang/RuntimeException", "java/lang/Exception"]).filter goodWord, w ∈ lw_tbl := by decide +kernel
theorem wsL_law_x1 : ∀ w ∈ (vx_atS RX2 38 "java/lang/IllegalStateException" ["java/lang/RuntimeException", "java/lang/Exception"]).filter goodWord, w ∈ lw_tbl := by decide +kernel
theorem wsL_law_x2 : ∀ w ∈ (vx_atS RX2 247 "java/lang/IndexOutOfBoundsException" ["java/lang/RuntimeException", "java/lang/Exception"]).filter goodWord, w ∈ lw_tbl := by decide +kernel
theorem wsL_law_in : ∀ w ∈ wsL_law, w ∈ lw_tbl := fun w h => (List.mem_append.mp h).elim (fun h => (List.mem_append.mp h).elim (fun h => (List.mem_append.mp h).elim (fun h => wsL_law_in0 w h) (fun h => wsL_law_x0 w h)) (fun h => wsL_law_x1 w h)) (fun h => wsL_law_x2 w h)
theorem inlX0 : ∀ w ∈ wsX00, w ∈ wsL_law := fun _ h => List.mem_append_left _ (List.mem_append_left _ (List.mem_append_left _ (List.mem_append_left _ (List.mem_append_right _ h))))
theorem inX0 : ∀ w ∈ wsX00, w ∈ lw_tbl := fun w h => wsL_law_in w (inlX0 w h)
theorem inlX1 : ∀ w ∈ wsX10, w ∈ wsL_law := fun _ h => List.mem_append_left _ (List.mem_append_left _ (List.mem_append_left _ (List.mem_append_left _ (List.mem_append_left _ (List.mem_append_right _ h)))))
theorem inX1 : ∀ w ∈ wsX10, w ∈ lw_tbl := fun w h => wsL_law_in w (inlX1 w h)
theorem inlX2 : ∀ w ∈ wsX20, w ∈ wsL_law := fun _ h => List.mem_append_left _ (List.mem_append_left _ (List.mem_append_left _ (List.mem_append_left _ (List.mem_append_left _ (List.mem_append_left _ (List.mem_append_left _ (List.mem_append_right _ h)))))))
theorem inX2 : ∀ w ∈ wsX20, w ∈ lw_tbl := fun w h => wsL_law_in w (inlX2 w h)
theorem inlX3 : ∀ w ∈ wsX30, w ∈ wsL_law := fun _ h => List.mem_append_left _ (List.mem_append_left _ (List.mem_append_left _ (List.mem_append_left _ (List.mem_append_left _ (List.mem_append_left _ (List.mem_append_right _ h))))))
theorem inX3 : ∀ w ∈ wsX30, w ∈ lw_tbl := fun w h => wsL_law_in w (inlX3 w h)
theorem inJ9 : ∀ w ∈ wsJ90, w ∈ lw_tbl := by decide +kernel
theorem inJ0 : ∀ w ∈ wsJ00, w ∈ lw_tbl := by decide +kernel
theorem inJ10 : ∀ w ∈ wsJ100, w ∈ lw_tbl := by decide +kernel
abbrev vwCl : List vw_C := [(RX0, TX0, 1), (RX1, TX1, 14), (RX2, TX2, 2), (RX3, TX3, 12)]
end
section
theorem dX0_init_0 : decode cX0_init 0 = .ok (.aload_n 0, 1) := by decide +kernel
theorem dX0_init_1 : decode cX0_init 1 = .ok (.invokespecial 1, 3) := by decide +kernel
theorem dX0_init_4 : decode cX0_init 4 = .ok (.aload_n 0, 1) := by decide +kernel
theorem dX0_init_5 : decode cX0_init 5 = .ok (.iconst 0, 1) := by decide +kernel
theorem dX0_init_6 : decode cX0_init 6 = .ok (.iload_n 1, 1) := by decide +kernel
theorem dX0_init_7 : decode cX0_init 7 = .ok (.invokestatic 7, 3) := by decide +kernel
theorem dX0_init_10 : decode cX0_init 10 = .ok (.newarray .int, 2) := by decide +kernel
theorem dX0_init_12 : decode cX0_init 12 = .ok (.putfield 13, 3) := by decide +kernel
theorem dX0_init_15 : decode cX0_init 15 = .ok (.return_, 1) := by decide +kernel
theorem dX0_get_0 : decode cX0_get 0 = .ok (.iload_n 1, 1) := by decide +kernel
theorem dX0_get_1 : decode cX0_get 1 = .ok (.ifCond .lt 21, 3) := by decide +kernel
theorem dX0_get_4 : decode cX0_get 4 = .ok (.iload_n 1, 1) := by decide +kernel
theorem dX0_get_5 : decode cX0_get 5 = .ok (.aload_n 0, 1) := by decide +kernel
theorem dX0_get_6 : decode cX0_get 6 = .ok (.getfield 13, 3) := by decide +kernel
theorem dX0_get_9 : decode cX0_get 9 = .ok (.arraylength, 1) := by decide +kernel
theorem dX0_get_10 : decode cX0_get 10 = .ok (.if_icmp .ge 12, 3) := by decide +kernel
theorem dX0_get_13 : decode cX0_get 13 = .ok (.aload_n 0, 1) := by decide +kernel
theorem dX0_get_14 : decode cX0_get 14 = .ok (.getfield 13, 3) := by decide +kernel
theorem dX0_get_17 : decode cX0_get 17 = .ok (.iload_n 1, 1) := by decide +kernel
theorem dX0_get_18 : decode cX0_get 18 = .ok (.iaload, 1) := by decide +kernel
theorem dX0_get_19 : decode cX0_get 19 = .ok (.goto 4, 3) := by decide +kernel
theorem dX0_get_22 : decode cX0_get 22 = .ok (.iconst 0, 1) := by decide +kernel
theorem dX0_get_23 : decode cX0_get 23 = .ok (.ireturn, 1) := by decide +kernel
theorem dX0_set_0 : decode cX0_set 0 = .ok (.iload_n 1, 1) := by decide +kernel
theorem dX0_set_1 : decode cX0_set 1 = .ok (.ifCond .lt 19, 3) := by decide +kernel
theorem dX0_set_4 : decode cX0_set 4 = .ok (.iload_n 1, 1) := by decide +kernel
theorem dX0_set_5 : decode cX0_set 5 = .ok (.aload_n 0, 1) := by decide +kernel
theorem dX0_set_6 : decode cX0_set 6 = .ok (.getfield 13, 3) := by decide +kernel
theorem dX0_set_9 : decode cX0_set 9 = .ok (.arraylength, 1) := by decide +kernel
theorem dX0_set_10 : decode cX0_set 10 = .ok (.if_icmp .ge 10, 3) := by decide +kernel
theorem dX0_set_13 : decode cX0_set 13 = .ok (.aload_n 0, 1) := by decide +kernel
theorem dX0_set_14 : decode cX0_set 14 = .ok (.getfield 13, 3) := by decide +kernel
theorem dX0_set_17 : decode cX0_set 17 = .ok (.iload_n 1, 1) := by decide +kernel
theorem dX0_set_18 : decode cX0_set 18 = .ok (.iload_n 2, 1) := by decide +kernel
theorem dX0_set_19 : decode cX0_set 19 = .ok (.iastore, 1) := by decide +kernel
theorem dX0_set_20 : decode cX0_set 20 = .ok (.return_, 1) := by decide +kernel
set_option maxRecDepth 20000 in
theorem ggX0_copyFrom_X0_get : GoodIn wsX0_copyFrom wsX0_get := goodIn_r _ [6, 1, 7] (by decide +kernel) (by decide +kernel)
set_option maxRecDepth 20000 in
theorem gX0_copyFrom_X0_get : GoodIn wsX0_copyFrom (wsV RX0 19 RX0 yX0_get wsX0_get) := goodIn_app (goodIn_of _ (by decide +kernel)) ggX0_copyFrom_X0_get
theorem dX0_copyFrom_0 : decode cX0_copyFrom 0 = .ok (.iconst 0, 1) := by decide +kernel
theorem dX0_copyFrom_1 : decode cX0_copyFrom 1 = .ok (.istore_n 2, 1) := by decide +kernel
theorem dX0_copyFrom_2 : decode cX0_copyFrom 2 = .ok (.iload_n 2, 1) := by decide +kernel
theorem dX0_copyFrom_3 : decode cX0_copyFrom 3 = .ok (.aload_n 0, 1) := by decide +kernel
theorem dX0_copyFrom_4 : decode cX0_copyFrom 4 = .ok (.getfield 13, 3) := by decide +kernel
theorem dX0_copyFrom_7 : decode cX0_copyFrom 7 = .ok (.arraylength, 1) := by decide +kernel
theorem dX0_copyFrom_8 : decode cX0_copyFrom 8 = .ok (.if_icmp .ge 20, 3) := by decide +kernel
theorem dX0_copyFrom_11 : decode cX0_copyFrom 11 = .ok (.aload_n 0, 1) := by decide +kernel
theorem dX0_copyFrom_12 : decode cX0_copyFrom 12 = .ok (.getfield 13, 3) := by decide +kernel
theorem dX0_copyFrom_15 : decode cX0_copyFrom 15 = .ok (.iload_n 2, 1) := by decide +kernel
theorem dX0_copyFrom_16 : decode cX0_copyFrom 16 = .ok (.aload_n 1, 1) := by decide +kernel
theorem dX0_copyFrom_17 : decode cX0_copyFrom 17 = .ok (.iload_n 2, 1) := by decide +kernel
theorem dX0_copyFrom_18 : decode cX0_copyFrom 18 = .ok (.invokevirtual 19, 3) := by decide +kernel
theorem dX0_copyFrom_21 : decode cX0_copyFrom 21 = .ok (.iastore, 1) := by decide +kernel
theorem dX0_copyFrom_22 : decode cX0_copyFrom 22 = .ok (.iinc 2 1, 3) := by decide +kernel
theorem dX0_copyFrom_25 : decode cX0_copyFrom 25 = .ok (.goto (-23), 3) := by decide +kernel
theorem dX0_copyFrom_28 : decode cX0_copyFrom 28 = .ok (.return_, 1) := by decide +kernel
set_option maxRecDepth 20000 in
theorem ggX1_init_X0_init : GoodIn wsX1_init wsX0_init := goodIn_r _ [19, 20, 2, 3, 21, 22, 23, 24, 25, 26, 27] (by decide +kernel) (by decide +kernel)
set_option maxRecDepth 20000 in
theorem gX1_init_X0_init : GoodIn wsX1_init (wsX0_init) := ggX1_init_X0_init
theorem dX1_init_0 : decode cX1_init 0 = .ok (.aload_n 0, 1) := by decide +kernel
theorem dX1_init_1 : decode cX1_init 1 = .ok (.invokespecial 3, 3) := by decide +kernel
theorem dX1_init_4 : decode cX1_init 4 = .ok (.aload_n 0, 1) := by decide +kernel
theorem dX1_init_5 : decode cX1_init 5 = .ok (.new 9, 3) := by decide +kernel
theorem dX1_init_8 : decode cX1_init 8 = .ok (.dup, 1) := by decide +kernel
theorem dX1_init_9 : decode cX1_init 9 = .ok (.iconst 4, 1) := by decide +kernel
theorem dX1_init_10 : decode cX1_init 10 = .ok (.invokespecial 11, 3) := by decide +kernel
theorem dX1_init_13 : decode cX1_init 13 = .ok (.putfield 14, 3) := by decide +kernel
theorem dX1_init_16 : decode cX1_init 16 = .ok (.aload_n 0, 1) := by decide +kernel
theorem dX1_init_17 : decode cX1_init 17 = .ok (.new 9, 3) := by decide +kernel
theorem dX1_init_20 : decode cX1_init 20 = .ok (.dup, 1) := by decide +kernel
theorem dX1_init_21 : decode cX1_init 21 = .ok (.bipush 6, 2) := by decide +kernel
theorem dX1_init_23 : decode cX1_init 23 = .ok (.invokespecial 11, 3) := by decide +kernel
theorem dX1_init_26 : decode cX1_init 26 = .ok (.putfield 20, 3) := by decide +kernel
theorem dX1_init_29 : decode cX1_init 29 = .ok (.aload_n 0, 1) := by decide +kernel
theorem dX1_init_30 : decode cX1_init 30 = .ok (.new 9, 3) := by decide +kernel
theorem dX1_init_33 : decode cX1_init 33 = .ok (.dup, 1) := by decide +kernel
theorem dX1_init_34 : decode cX1_init 34 = .ok (.bipush 6, 2) := by decide +kernel
theorem dX1_init_36 : decode cX1_init 36 = .ok (.invokespecial 11, 3) := by decide +kernel
theorem dX1_init_39 : decode cX1_init 39 = .ok (.putfield 23, 3) := by decide +kernel
theorem dX1_init_42 : decode cX1_init 42 = .ok (.aload_n 0, 1) := by decide +kernel
theorem dX1_init_43 : decode cX1_init 43 = .ok (.new 9, 3) := by decide +kernel
theorem dX1_init_46 : decode cX1_init 46 = .ok (.dup, 1) := by decide +kernel
theorem dX1_init_47 : decode cX1_init 47 = .ok (.bipush 6, 2) := by decide +kernel
theorem dX1_init_49 : decode cX1_init 49 = .ok (.invokespecial 11, 3) := by decide +kernel
theorem dX1_init_52 : decode cX1_init 52 = .ok (.putfield 26, 3) := by decide +kernel
theorem dX1_init_55 : decode cX1_init 55 = .ok (.aload_n 0, 1) := by decide +kernel
theorem dX1_init_56 : decode cX1_init 56 = .ok (.new 9, 3) := by decide +kernel
theorem dX1_init_59 : decode cX1_init 59 = .ok (.dup, 1) := by decide +kernel
theorem dX1_init_60 : decode cX1_init 60 = .ok (.bipush 6, 2) := by decide +kernel
theorem dX1_init_62 : decode cX1_init 62 = .ok (.invokespecial 11, 3) := by decide +kernel
theorem dX1_init_65 : decode cX1_init 65 = .ok (.putfield 29, 3) := by decide +kernel
theorem dX1_init_68 : decode cX1_init 68 = .ok (.aload_n 0, 1) := by decide +kernel
theorem dX1_init_69 : decode cX1_init 69 = .ok (.new 9, 3) := by decide +kernel
theorem dX1_init_72 : decode cX1_init 72 = .ok (.dup, 1) := by decide +kernel
theorem dX1_init_73 : decode cX1_init 73 = .ok (.bipush 60, 2) := by decide +kernel
theorem dX1_init_75 : decode cX1_init 75 = .ok (.invokespecial 11, 3) := by decide +kernel
theorem dX1_init_78 : decode cX1_init 78 = .ok (.putfield 32, 3) := by decide +kernel
theorem dX1_init_81 : decode cX1_init 81 = .ok (.aload_n 0, 1) := by decide +kernel
theorem dX1_init_82 : decode cX1_init 82 = .ok (.new 9, 3) := by decide +kernel
theorem dX1_init_85 : decode cX1_init 85 = .ok (.dup, 1) := by decide +kernel
theorem dX1_init_86 : decode cX1_init 86 = .ok (.bipush 60, 2) := by decide +kernel
theorem dX1_init_88 : decode cX1_init 88 = .ok (.invokespecial 11, 3) := by decide +kernel
theorem dX1_init_91 : decode cX1_init 91 = .ok (.putfield 35, 3) := by decide +kernel
theorem dX1_init_94 : decode cX1_init 94 = .ok (.aload_n 0, 1) := by decide +kernel
theorem dX1_init_95 : decode cX1_init 95 = .ok (.new 9, 3) := by decide +kernel
theorem dX1_init_98 : decode cX1_init 98 = .ok (.dup, 1) := by decide +kernel
theorem dX1_init_99 : decode cX1_init 99 = .ok (.bipush 60, 2) := by decide +kernel
theorem dX1_init_101 : decode cX1_init 101 = .ok (.invokespecial 11, 3) := by decide +kernel
theorem dX1_init_104 : decode cX1_init 104 = .ok (.putfield 38, 3) := by decide +kernel
theorem dX1_init_107 : decode cX1_init 107 = .ok (.aload_n 0, 1) := by decide +kernel
theorem dX1_init_108 : decode cX1_init 108 = .ok (.new 9, 3) := by decide +kernel
theorem dX1_init_111 : decode cX1_init 111 = .ok (.dup, 1) := by decide +kernel
theorem dX1_init_112 : decode cX1_init 112 = .ok (.bipush 60, 2) := by decide +kernel
theorem dX1_init_114 : decode cX1_init 114 = .ok (.invokespecial 11, 3) := by decide +kernel
theorem dX1_init_117 : decode cX1_init 117 = .ok (.putfield 41, 3) := by decide +kernel
theorem dX1_init_120 : decode cX1_init 120 = .ok (.aload_n 0, 1) := by decide +kernel
theorem dX1_init_121 : decode cX1_init 121 = .ok (.iconst 0, 1) := by decide +kernel
theorem dX1_init_122 : decode cX1_init 122 = .ok (.putfield 44, 3) := by decide +kernel
theorem dX1_init_125 : decode cX1_init 125 = .ok (.return_, 1) := by decide +kernel
set_option maxRecDepth 20000 in
theorem ggX1_copyFrom_X0_copyFrom : GoodIn wsX1_copyFrom wsX0_copyFrom := goodIn_r _ [19, 20, 21, 22, 23, 18, 24, 39] (by decide +kernel) (by decide +kernel)
set_option maxRecDepth 20000 in
theorem gX1_copyFrom_X0_copyFrom : GoodIn wsX1_copyFrom (wsV RX1 48 RX0 yX0_copyFrom wsX0_copyFrom) := goodIn_app (goodIn_of _ (by decide +kernel)) ggX1_copyFrom_X0_copyFrom
theorem dX1_copyFrom_0 : decode cX1_copyFrom 0 = .ok (.aload_n 0, 1) := by decide +kernel
theorem dX1_copyFrom_1 : decode cX1_copyFrom 1 = .ok (.getfield 14, 3) := by decide +kernel
theorem dX1_copyFrom_4 : decode cX1_copyFrom 4 = .ok (.aload_n 1, 1) := by decide +kernel
theorem dX1_copyFrom_5 : decode cX1_copyFrom 5 = .ok (.getfield 14, 3) := by decide +kernel
theorem dX1_copyFrom_8 : decode cX1_copyFrom 8 = .ok (.invokevirtual 48, 3) := by decide +kernel
theorem dX1_copyFrom_11 : decode cX1_copyFrom 11 = .ok (.aload_n 0, 1) := by decide +kernel
theorem dX1_copyFrom_12 : decode cX1_copyFrom 12 = .ok (.getfield 20, 3) := by decide +kernel
theorem dX1_copyFrom_15 : decode cX1_copyFrom 15 = .ok (.aload_n 1, 1) := by decide +kernel
theorem dX1_copyFrom_16 : decode cX1_copyFrom 16 = .ok (.getfield 20, 3) := by decide +kernel
theorem dX1_copyFrom_19 : decode cX1_copyFrom 19 = .ok (.invokevirtual 48, 3) := by decide +kernel
theorem dX1_copyFrom_22 : decode cX1_copyFrom 22 = .ok (.aload_n 0, 1) := by decide +kernel
theorem dX1_copyFrom_23 : decode cX1_copyFrom 23 = .ok (.getfield 23, 3) := by decide +kernel
theorem dX1_copyFrom_26 : decode cX1_copyFrom 26 = .ok (.aload_n 1, 1) := by decide +kernel
theorem dX1_copyFrom_27 : decode cX1_copyFrom 27 = .ok (.getfield 23, 3) := by decide +kernel
theorem dX1_copyFrom_30 : decode cX1_copyFrom 30 = .ok (.invokevirtual 48, 3) := by decide +kernel
theorem dX1_copyFrom_33 : decode cX1_copyFrom 33 = .ok (.aload_n 0, 1) := by decide +kernel
theorem dX1_copyFrom_34 : decode cX1_copyFrom 34 = .ok (.getfield 26, 3) := by decide +kernel
theorem dX1_copyFrom_37 : decode cX1_copyFrom 37 = .ok (.aload_n 1, 1) := by decide +kernel
theorem dX1_copyFrom_38 : decode cX1_copyFrom 38 = .ok (.getfield 26, 3) := by decide +kernel
theorem dX1_copyFrom_41 : decode cX1_copyFrom 41 = .ok (.invokevirtual 48, 3) := by decide +kernel
theorem dX1_copyFrom_44 : decode cX1_copyFrom 44 = .ok (.aload_n 0, 1) := by decide +kernel
theorem dX1_copyFrom_45 : decode cX1_copyFrom 45 = .ok (.getfield 29, 3) := by decide +kernel
theorem dX1_copyFrom_48 : decode cX1_copyFrom 48 = .ok (.aload_n 1, 1) := by decide +kernel
theorem dX1_copyFrom_49 : decode cX1_copyFrom 49 = .ok (.getfield 29, 3) := by decide +kernel
theorem dX1_copyFrom_52 : decode cX1_copyFrom 52 = .ok (.invokevirtual 48, 3) := by decide +kernel
theorem dX1_copyFrom_55 : decode cX1_copyFrom 55 = .ok (.aload_n 0, 1) := by decide +kernel
theorem dX1_copyFrom_56 : decode cX1_copyFrom 56 = .ok (.aload_n 1, 1) := by decide +kernel
theorem dX1_copyFrom_57 : decode cX1_copyFrom 57 = .ok (.getfield 52, 3) := by decide +kernel
theorem dX1_copyFrom_60 : decode cX1_copyFrom 60 = .ok (.putfield 52, 3) := by decide +kernel
theorem dX1_copyFrom_63 : decode cX1_copyFrom 63 = .ok (.aload_n 0, 1) := by decide +kernel
theorem dX1_copyFrom_64 : decode cX1_copyFrom 64 = .ok (.getfield 32, 3) := by decide +kernel
theorem dX1_copyFrom_67 : decode cX1_copyFrom 67 = .ok (.aload_n 1, 1) := by decide +kernel
theorem dX1_copyFrom_68 : decode cX1_copyFrom 68 = .ok (.getfield 32, 3) := by decide +kernel
theorem dX1_copyFrom_71 : decode cX1_copyFrom 71 = .ok (.invokevirtual 48, 3) := by decide +kernel
theorem dX1_copyFrom_74 : decode cX1_copyFrom 74 = .ok (.aload_n 0, 1) := by decide +kernel
theorem dX1_copyFrom_75 : decode cX1_copyFrom 75 = .ok (.getfield 35, 3) := by decide +kernel
theorem dX1_copyFrom_78 : decode cX1_copyFrom 78 = .ok (.aload_n 1, 1) := by decide +kernel
theorem dX1_copyFrom_79 : decode cX1_copyFrom 79 = .ok (.getfield 35, 3) := by decide +kernel
theorem dX1_copyFrom_82 : decode cX1_copyFrom 82 = .ok (.invokevirtual 48, 3) := by decide +kernel
theorem dX1_copyFrom_85 : decode cX1_copyFrom 85 = .ok (.aload_n 0, 1) := by decide +kernel
theorem dX1_copyFrom_86 : decode cX1_copyFrom 86 = .ok (.getfield 38, 3) := by decide +kernel
theorem dX1_copyFrom_89 : decode cX1_copyFrom 89 = .ok (.aload_n 1, 1) := by decide +kernel
theorem dX1_copyFrom_90 : decode cX1_copyFrom 90 = .ok (.getfield 38, 3) := by decide +kernel
theorem dX1_copyFrom_93 : decode cX1_copyFrom 93 = .ok (.invokevirtual 48, 3) := by decide +kernel
theorem dX1_copyFrom_96 : decode cX1_copyFrom 96 = .ok (.aload_n 0, 1) := by decide +kernel
theorem dX1_copyFrom_97 : decode cX1_copyFrom 97 = .ok (.getfield 41, 3) := by decide +kernel
theorem dX1_copyFrom_100 : decode cX1_copyFrom 100 = .ok (.aload_n 1, 1) := by decide +kernel
theorem dX1_copyFrom_101 : decode cX1_copyFrom 101 = .ok (.getfield 41, 3) := by decide +kernel
theorem dX1_copyFrom_104 : decode cX1_copyFrom 104 = .ok (.invokevirtual 48, 3) := by decide +kernel
theorem dX1_copyFrom_107 : decode cX1_copyFrom 107 = .ok (.aload_n 0, 1) := by decide +kernel
theorem dX1_copyFrom_108 : decode cX1_copyFrom 108 = .ok (.aload_n 1, 1) := by decide +kernel
theorem dX1_copyFrom_109 : decode cX1_copyFrom 109 = .ok (.getfield 55, 3) := by decide +kernel
theorem dX1_copyFrom_112 : decode cX1_copyFrom 112 = .ok (.putfield 55, 3) := by decide +kernel
theorem dX1_copyFrom_115 : decode cX1_copyFrom 115 = .ok (.aload_n 0, 1) := by decide +kernel
theorem dX1_copyFrom_116 : decode cX1_copyFrom 116 = .ok (.aload_n 1, 1) := by decide +kernel
theorem dX1_copyFrom_117 : decode cX1_copyFrom 117 = .ok (.getfield 58, 3) := by decide +kernel
theorem dX1_copyFrom_120 : decode cX1_copyFrom 120 = .ok (.putfield 58, 3) := by decide +kernel
theorem dX1_copyFrom_123 : decode cX1_copyFrom 123 = .ok (.aload_n 0, 1) := by decide +kernel
theorem dX1_copyFrom_124 : decode cX1_copyFrom 124 = .ok (.aload_n 1, 1) := by decide +kernel
theorem dX1_copyFrom_125 : decode cX1_copyFrom 125 = .ok (.getfield 44, 3) := by decide +kernel
theorem dX1_copyFrom_128 : decode cX1_copyFrom 128 = .ok (.putfield 44, 3) := by decide +kernel
theorem dX1_copyFrom_131 : decode cX1_copyFrom 131 = .ok (.aload_n 0, 1) := by decide +kernel
theorem dX1_copyFrom_132 : decode cX1_copyFrom 132 = .ok (.aload_n 1, 1) := by decide +kernel
theorem dX1_copyFrom_133 : decode cX1_copyFrom 133 = .ok (.getfield 61, 3) := by decide +kernel
theorem dX1_copyFrom_136 : decode cX1_copyFrom 136 = .ok (.putfield 61, 3) := by decide +kernel
theorem dX1_copyFrom_139 : decode cX1_copyFrom 139 = .ok (.return_, 1) := by decide +kernel
set_option maxRecDepth 20000 in
theorem ggX1_takeBatch_X0_set : GoodIn wsX1_takeBatch wsX0_set := goodIn_r _ [8, 9, 24] (by decide +kernel) (by decide +kernel)
set_option maxRecDepth 20000 in
theorem gX1_takeBatch_X0_set : GoodIn wsX1_takeBatch (wsV RX1 64 RX0 yX0_set wsX0_set) := goodIn_app (goodIn_of _ (by decide +kernel)) ggX1_takeBatch_X0_set
theorem dX1_takeBatch_0 : decode cX1_takeBatch 0 = .ok (.aload_n 0, 1) := by decide +kernel
theorem dX1_takeBatch_1 : decode cX1_takeBatch 1 = .ok (.getfield 52, 3) := by decide +kernel
theorem dX1_takeBatch_4 : decode cX1_takeBatch 4 = .ok (.istore_n 3, 1) := by decide +kernel
theorem dX1_takeBatch_5 : decode cX1_takeBatch 5 = .ok (.aload_n 0, 1) := by decide +kernel
theorem dX1_takeBatch_6 : decode cX1_takeBatch 6 = .ok (.getfield 20, 3) := by decide +kernel
theorem dX1_takeBatch_9 : decode cX1_takeBatch 9 = .ok (.iload_n 3, 1) := by decide +kernel
theorem dX1_takeBatch_10 : decode cX1_takeBatch 10 = .ok (.iload_n 1, 1) := by decide +kernel
theorem dX1_takeBatch_11 : decode cX1_takeBatch 11 = .ok (.invokevirtual 64, 3) := by decide +kernel
theorem dX1_takeBatch_14 : decode cX1_takeBatch 14 = .ok (.aload_n 0, 1) := by decide +kernel
theorem dX1_takeBatch_15 : decode cX1_takeBatch 15 = .ok (.getfield 23, 3) := by decide +kernel
theorem dX1_takeBatch_18 : decode cX1_takeBatch 18 = .ok (.iload_n 3, 1) := by decide +kernel
theorem dX1_takeBatch_19 : decode cX1_takeBatch 19 = .ok (.iload_n 2, 1) := by decide +kernel
theorem dX1_takeBatch_20 : decode cX1_takeBatch 20 = .ok (.invokevirtual 64, 3) := by decide +kernel
theorem dX1_takeBatch_23 : decode cX1_takeBatch 23 = .ok (.aload_n 0, 1) := by decide +kernel
theorem dX1_takeBatch_24 : decode cX1_takeBatch 24 = .ok (.dup, 1) := by decide +kernel
theorem dX1_takeBatch_25 : decode cX1_takeBatch 25 = .ok (.getfield 52, 3) := by decide +kernel
theorem dX1_takeBatch_28 : decode cX1_takeBatch 28 = .ok (.iconst 1, 1) := by decide +kernel
theorem dX1_takeBatch_29 : decode cX1_takeBatch 29 = .ok (.iadd, 1) := by decide +kernel
theorem dX1_takeBatch_30 : decode cX1_takeBatch 30 = .ok (.putfield 52, 3) := by decide +kernel
theorem dX1_takeBatch_33 : decode cX1_takeBatch 33 = .ok (.iload_n 3, 1) := by decide +kernel
theorem dX1_takeBatch_34 : decode cX1_takeBatch 34 = .ok (.ireturn, 1) := by decide +kernel
set_option maxRecDepth 20000 in
theorem ggX1_takeTins_X0_set : GoodIn wsX1_takeTins wsX0_set := goodIn_r _ [11, 12, 31] (by decide +kernel) (by decide +kernel)
set_option maxRecDepth 20000 in
theorem gX1_takeTins_X0_set : GoodIn wsX1_takeTins (wsV RX1 64 RX0 yX0_set wsX0_set) := goodIn_app (goodIn_of _ (by decide +kernel)) ggX1_takeTins_X0_set
set_option maxRecDepth 20000 in
theorem ggX1_takeTins_X0_get : GoodIn wsX1_takeTins wsX0_get := goodIn_r _ [16, 12, 31] (by decide +kernel) (by decide +kernel)
set_option maxRecDepth 20000 in
theorem gX1_takeTins_X0_get : GoodIn wsX1_takeTins (wsV RX1 68 RX0 yX0_get wsX0_get) := goodIn_app (goodIn_of _ (by decide +kernel)) ggX1_takeTins_X0_get
theorem dX1_takeTins_0 : decode cX1_takeTins 0 = .ok (.aload_n 0, 1) := by decide +kernel
theorem dX1_takeTins_1 : decode cX1_takeTins 1 = .ok (.getfield 55, 3) := by decide +kernel
theorem dX1_takeTins_4 : decode cX1_takeTins 4 = .ok (.istore 4, 2) := by decide +kernel
theorem dX1_takeTins_6 : decode cX1_takeTins 6 = .ok (.iconst 0, 1) := by decide +kernel
theorem dX1_takeTins_7 : decode cX1_takeTins 7 = .ok (.istore 5, 2) := by decide +kernel
theorem dX1_takeTins_9 : decode cX1_takeTins 9 = .ok (.iload 5, 2) := by decide +kernel
theorem dX1_takeTins_11 : decode cX1_takeTins 11 = .ok (.iload_n 3, 1) := by decide +kernel
theorem dX1_takeTins_12 : decode cX1_takeTins 12 = .ok (.if_icmp .ge 74, 3) := by decide +kernel
theorem dX1_takeTins_15 : decode cX1_takeTins 15 = .ok (.aload_n 0, 1) := by decide +kernel
theorem dX1_takeTins_16 : decode cX1_takeTins 16 = .ok (.getfield 32, 3) := by decide +kernel
theorem dX1_takeTins_19 : decode cX1_takeTins 19 = .ok (.aload_n 0, 1) := by decide +kernel
theorem dX1_takeTins_20 : decode cX1_takeTins 20 = .ok (.getfield 55, 3) := by decide +kernel
theorem dX1_takeTins_23 : decode cX1_takeTins 23 = .ok (.iload_n 1, 1) := by decide +kernel
theorem dX1_takeTins_24 : decode cX1_takeTins 24 = .ok (.invokevirtual 64, 3) := by decide +kernel
theorem dX1_takeTins_27 : decode cX1_takeTins 27 = .ok (.aload_n 0, 1) := by decide +kernel
theorem dX1_takeTins_28 : decode cX1_takeTins 28 = .ok (.getfield 35, 3) := by decide +kernel
theorem dX1_takeTins_31 : decode cX1_takeTins 31 = .ok (.aload_n 0, 1) := by decide +kernel
theorem dX1_takeTins_32 : decode cX1_takeTins 32 = .ok (.getfield 55, 3) := by decide +kernel
theorem dX1_takeTins_35 : decode cX1_takeTins 35 = .ok (.iload_n 2, 1) := by decide +kernel
theorem dX1_takeTins_36 : decode cX1_takeTins 36 = .ok (.invokevirtual 64, 3) := by decide +kernel
theorem dX1_takeTins_39 : decode cX1_takeTins 39 = .ok (.aload_n 0, 1) := by decide +kernel
theorem dX1_takeTins_40 : decode cX1_takeTins 40 = .ok (.getfield 38, 3) := by decide +kernel
theorem dX1_takeTins_43 : decode cX1_takeTins 43 = .ok (.aload_n 0, 1) := by decide +kernel
theorem dX1_takeTins_44 : decode cX1_takeTins 44 = .ok (.getfield 55, 3) := by decide +kernel
theorem dX1_takeTins_47 : decode cX1_takeTins 47 = .ok (.aload_n 0, 1) := by decide +kernel
theorem dX1_takeTins_48 : decode cX1_takeTins 48 = .ok (.getfield 20, 3) := by decide +kernel
theorem dX1_takeTins_51 : decode cX1_takeTins 51 = .ok (.iload_n 1, 1) := by decide +kernel
theorem dX1_takeTins_52 : decode cX1_takeTins 52 = .ok (.invokevirtual 68, 3) := by decide +kernel
theorem dX1_takeTins_55 : decode cX1_takeTins 55 = .ok (.invokevirtual 64, 3) := by decide +kernel
theorem dX1_takeTins_58 : decode cX1_takeTins 58 = .ok (.aload_n 0, 1) := by decide +kernel
theorem dX1_takeTins_59 : decode cX1_takeTins 59 = .ok (.getfield 41, 3) := by decide +kernel
theorem dX1_takeTins_62 : decode cX1_takeTins 62 = .ok (.aload_n 0, 1) := by decide +kernel
theorem dX1_takeTins_63 : decode cX1_takeTins 63 = .ok (.getfield 55, 3) := by decide +kernel
theorem dX1_takeTins_66 : decode cX1_takeTins 66 = .ok (.iconst 1, 1) := by decide +kernel
theorem dX1_takeTins_67 : decode cX1_takeTins 67 = .ok (.invokevirtual 64, 3) := by decide +kernel
theorem dX1_takeTins_70 : decode cX1_takeTins 70 = .ok (.aload_n 0, 1) := by decide +kernel
theorem dX1_takeTins_71 : decode cX1_takeTins 71 = .ok (.dup, 1) := by decide +kernel
theorem dX1_takeTins_72 : decode cX1_takeTins 72 = .ok (.getfield 55, 3) := by decide +kernel
theorem dX1_takeTins_75 : decode cX1_takeTins 75 = .ok (.iconst 1, 1) := by decide +kernel
theorem dX1_takeTins_76 : decode cX1_takeTins 76 = .ok (.iadd, 1) := by decide +kernel
theorem dX1_takeTins_77 : decode cX1_takeTins 77 = .ok (.putfield 55, 3) := by decide +kernel
theorem dX1_takeTins_80 : decode cX1_takeTins 80 = .ok (.iinc 5 1, 3) := by decide +kernel
theorem dX1_takeTins_83 : decode cX1_takeTins 83 = .ok (.goto (-74), 3) := by decide +kernel
theorem dX1_takeTins_86 : decode cX1_takeTins 86 = .ok (.iload 4, 2) := by decide +kernel
theorem dX1_takeTins_88 : decode cX1_takeTins 88 = .ok (.ireturn, 1) := by decide +kernel
set_option maxRecDepth 20000 in
theorem ggX1_holds_X0_get : GoodIn wsX1_holds wsX0_get := goodIn_r _ [6, 7, 22] (by decide +kernel) (by decide +kernel)
set_option maxRecDepth 20000 in
theorem gX1_holds_X0_get : GoodIn wsX1_holds (wsV RX1 68 RX0 yX0_get wsX0_get) := goodIn_app (goodIn_of _ (by decide +kernel)) ggX1_holds_X0_get
theorem dX1_holds_0 : decode cX1_holds 0 = .ok (.aload_n 0, 1) := by decide +kernel
theorem dX1_holds_1 : decode cX1_holds 1 = .ok (.getfield 41, 3) := by decide +kernel
theorem dX1_holds_4 : decode cX1_holds 4 = .ok (.iload_n 1, 1) := by decide +kernel
theorem dX1_holds_5 : decode cX1_holds 5 = .ok (.invokevirtual 68, 3) := by decide +kernel
theorem dX1_holds_8 : decode cX1_holds 8 = .ok (.iconst 1, 1) := by decide +kernel
theorem dX1_holds_9 : decode cX1_holds 9 = .ok (.if_icmp .ne 7, 3) := by decide +kernel
theorem dX1_holds_12 : decode cX1_holds 12 = .ok (.iconst 1, 1) := by decide +kernel
theorem dX1_holds_13 : decode cX1_holds 13 = .ok (.goto 4, 3) := by decide +kernel
theorem dX1_holds_16 : decode cX1_holds 16 = .ok (.iconst 0, 1) := by decide +kernel
theorem dX1_holds_17 : decode cX1_holds 17 = .ok (.ireturn, 1) := by decide +kernel
set_option maxRecDepth 20000 in
theorem ggX1_isBatchRecalled_X0_get : GoodIn wsX1_isBatchRecalled wsX0_get := goodIn_r _ [6, 7, 22] (by decide +kernel) (by decide +kernel)
set_option maxRecDepth 20000 in
theorem gX1_isBatchRecalled_X0_get : GoodIn wsX1_isBatchRecalled (wsV RX1 68 RX0 yX0_get wsX0_get) := goodIn_app (goodIn_of _ (by decide +kernel)) ggX1_isBatchRecalled_X0_get
theorem dX1_isBatchRecalled_0 : decode cX1_isBatchRecalled 0 = .ok (.aload_n 0, 1) := by decide +kernel
theorem dX1_isBatchRecalled_1 : decode cX1_isBatchRecalled 1 = .ok (.getfield 29, 3) := by decide +kernel
theorem dX1_isBatchRecalled_4 : decode cX1_isBatchRecalled 4 = .ok (.iload_n 1, 1) := by decide +kernel
theorem dX1_isBatchRecalled_5 : decode cX1_isBatchRecalled 5 = .ok (.invokevirtual 68, 3) := by decide +kernel
theorem dX1_isBatchRecalled_8 : decode cX1_isBatchRecalled 8 = .ok (.ifCond .eq 7, 3) := by decide +kernel
theorem dX1_isBatchRecalled_11 : decode cX1_isBatchRecalled 11 = .ok (.iconst 1, 1) := by decide +kernel
theorem dX1_isBatchRecalled_12 : decode cX1_isBatchRecalled 12 = .ok (.goto 4, 3) := by decide +kernel
theorem dX1_isBatchRecalled_15 : decode cX1_isBatchRecalled 15 = .ok (.iconst 0, 1) := by decide +kernel
theorem dX1_isBatchRecalled_16 : decode cX1_isBatchRecalled 16 = .ok (.ireturn, 1) := by decide +kernel
set_option maxRecDepth 20000 in
theorem ggX1_passDay_X1_wearTins : GoodIn wsX1_passDay wsX1_wearTins := goodIn_r _ [8, 9, 10, 11, 12, 13, 14, 15, 16, 17, 18, 7, 19, 20, 21, 22, 23, 24, 25, 26, 27, 28, 29, 30, 31, 32, 33, 34, 35, 36, 37, 38, 39, 40, 41, 42, 69, 70, 71, 72, 73, 74, 75, 76, 77, 78, 79, 80, 81, 82, 83] (by decide +kernel) (by decide +kernel)
set_option maxRecDepth 20000 in
theorem gX1_passDay_X1_wearTins : GoodIn wsX1_passDay (wsV RX1 72 RX1 yX1_wearTins wsX1_wearTins) := goodIn_app (goodIn_of _ (by decide +kernel)) ggX1_passDay_X1_wearTins
set_option maxRecDepth 20000 in
theorem ggX1_passDay_X1_recallSwelled : GoodIn wsX1_passDay wsX1_recallSwelled := goodIn_r _ [46, 47, 42, 48, 49, 50, 7, 51, 52, 21, 22, 23, 24, 25, 26, 53, 54, 55, 56, 9, 20, 32, 34, 35, 36, 37, 69, 70, 71, 72, 73, 74, 75, 76, 77, 78, 79, 80, 81, 82, 83] (by decide +kernel) (by decide +kernel)
set_option maxRecDepth 20000 in
theorem gX1_passDay_X1_recallSwelled : GoodIn wsX1_passDay (wsV RX1 75 RX1 yX1_recallSwelled wsX1_recallSwelled) := goodIn_app (goodIn_of _ (by decide +kernel)) ggX1_passDay_X1_recallSwelled
set_option maxRecDepth 20000 in
theorem ggX1_passDay_X1_firstBy : GoodIn wsX1_passDay wsX1_firstBy := goodIn_r _ [60, 9, 16, 17, 18, 7, 19, 20, 21, 22, 23, 24, 25, 26, 61, 62, 63, 64, 10, 33, 11, 69, 70, 71, 72, 73, 74, 75, 76, 77, 78, 79, 80, 81, 82, 83] (by decide +kernel) (by decide +kernel)
set_option maxRecDepth 20000 in
theorem gX1_passDay_X1_firstBy : GoodIn wsX1_passDay (wsV RX1 78 RX1 yX1_firstBy wsX1_firstBy) := goodIn_app (goodIn_of _ (by decide +kernel)) ggX1_passDay_X1_firstBy
set_option maxRecDepth 20000 in
theorem ggX1_passDay_X1_ship : GoodIn wsX1_passDay wsX1_ship := goodIn_r _ [68, 20, 34, 35, 36, 24, 37, 26, 69, 70, 71, 72, 73, 74, 75, 76, 77, 78, 79, 80, 81, 82, 83] (by decide +kernel) (by decide +kernel)
set_option maxRecDepth 20000 in
theorem gX1_passDay_X1_ship : GoodIn wsX1_passDay (wsV RX1 81 RX1 yX1_ship wsX1_ship) := goodIn_app (goodIn_of _ (by decide +kernel)) ggX1_passDay_X1_ship
theorem dX1_passDay_0 : decode cX1_passDay 0 = .ok (.aload_n 0, 1) := by decide +kernel
theorem dX1_passDay_1 : decode cX1_passDay 1 = .ok (.invokevirtual 72, 3) := by decide +kernel
theorem dX1_passDay_4 : decode cX1_passDay 4 = .ok (.aload_n 0, 1) := by decide +kernel
theorem dX1_passDay_5 : decode cX1_passDay 5 = .ok (.invokevirtual 75, 3) := by decide +kernel
theorem dX1_passDay_8 : decode cX1_passDay 8 = .ok (.iconst 0, 1) := by decide +kernel
theorem dX1_passDay_9 : decode cX1_passDay 9 = .ok (.istore_n 1, 1) := by decide +kernel
theorem dX1_passDay_10 : decode cX1_passDay 10 = .ok (.iload_n 1, 1) := by decide +kernel
theorem dX1_passDay_11 : decode cX1_passDay 11 = .ok (.aload_n 0, 1) := by decide +kernel
theorem dX1_passDay_12 : decode cX1_passDay 12 = .ok (.getfield 58, 3) := by decide +kernel
theorem dX1_passDay_15 : decode cX1_passDay 15 = .ok (.if_icmp .ge 21, 3) := by decide +kernel
theorem dX1_passDay_18 : decode cX1_passDay 18 = .ok (.aload_n 0, 1) := by decide +kernel
theorem dX1_passDay_19 : decode cX1_passDay 19 = .ok (.aload_n 0, 1) := by decide +kernel
theorem dX1_passDay_20 : decode cX1_passDay 20 = .ok (.aload_n 0, 1) := by decide +kernel
theorem dX1_passDay_21 : decode cX1_passDay 21 = .ok (.getfield 44, 3) := by decide +kernel
theorem dX1_passDay_24 : decode cX1_passDay 24 = .ok (.invokevirtual 78, 3) := by decide +kernel
theorem dX1_passDay_27 : decode cX1_passDay 27 = .ok (.invokevirtual 81, 3) := by decide +kernel
theorem dX1_passDay_30 : decode cX1_passDay 30 = .ok (.iinc 1 1, 3) := by decide +kernel
theorem dX1_passDay_33 : decode cX1_passDay 33 = .ok (.goto (-23), 3) := by decide +kernel
theorem dX1_passDay_36 : decode cX1_passDay 36 = .ok (.aload_n 0, 1) := by decide +kernel
theorem dX1_passDay_37 : decode cX1_passDay 37 = .ok (.dup, 1) := by decide +kernel
theorem dX1_passDay_38 : decode cX1_passDay 38 = .ok (.getfield 61, 3) := by decide +kernel
theorem dX1_passDay_41 : decode cX1_passDay 41 = .ok (.iconst 1, 1) := by decide +kernel
theorem dX1_passDay_42 : decode cX1_passDay 42 = .ok (.iadd, 1) := by decide +kernel
theorem dX1_passDay_43 : decode cX1_passDay 43 = .ok (.putfield 61, 3) := by decide +kernel
theorem dX1_passDay_46 : decode cX1_passDay 46 = .ok (.return_, 1) := by decide +kernel
set_option maxRecDepth 20000 in
theorem ggX1_wearTins_X1_holds : GoodIn wsX1_wearTins wsX1_holds := goodIn_r _ [12, 13, 14, 15, 16, 17, 18, 19, 36, 37, 38, 39, 40, 41, 42, 43, 44, 45, 46, 47, 48, 49, 50] (by decide +kernel) (by decide +kernel)
set_option maxRecDepth 20000 in
theorem gX1_wearTins_X1_holds : GoodIn wsX1_wearTins (wsV RX1 84 RX1 yX1_holds wsX1_holds) := goodIn_app (goodIn_of _ (by decide +kernel)) ggX1_wearTins_X1_holds
set_option maxRecDepth 20000 in
theorem ggX1_wearTins_X0_get : GoodIn wsX1_wearTins wsX0_get := goodIn_r _ [18, 19, 50] (by decide +kernel) (by decide +kernel)
set_option maxRecDepth 20000 in
theorem gX1_wearTins_X0_get : GoodIn wsX1_wearTins (wsV RX1 68 RX0 yX0_get wsX0_get) := goodIn_app (goodIn_of _ (by decide +kernel)) ggX1_wearTins_X0_get
set_option maxRecDepth 20000 in
theorem ggX1_wearTins_X1_wearOn : GoodIn wsX1_wearTins wsX1_wearOn := goodIn_r _ [23, 24, 25, 26, 14, 15, 16, 17, 18, 19, 36, 37, 38, 39, 40, 41, 42, 43, 44, 45, 46, 47, 48, 49, 50] (by decide +kernel) (by decide +kernel)
set_option maxRecDepth 20000 in
theorem gX1_wearTins_X1_wearOn : GoodIn wsX1_wearTins (wsV RX1 88 RX1 yX1_wearOn wsX1_wearOn) := goodIn_app (goodIn_of _ (by decide +kernel)) ggX1_wearTins_X1_wearOn
set_option maxRecDepth 20000 in
theorem ggX1_wearTins_X0_set : GoodIn wsX1_wearTins wsX0_set := goodIn_r _ [30, 19, 50] (by decide +kernel) (by decide +kernel)
set_option maxRecDepth 20000 in
theorem gX1_wearTins_X0_set : GoodIn wsX1_wearTins (wsV RX1 64 RX0 yX0_set wsX0_set) := goodIn_app (goodIn_of _ (by decide +kernel)) ggX1_wearTins_X0_set
set_option maxRecDepth 20000 in
theorem ggX1_wearTins_X1_swellLid : GoodIn wsX1_wearTins wsX1_swellLid := goodIn_r _ [34, 25, 35, 13, 14, 15, 16, 17, 18, 19, 27, 28, 29, 30, 36, 37, 38, 39, 40, 41, 42, 43, 44, 45, 46, 47, 48, 49, 50] (by decide +kernel) (by decide +kernel)
set_option maxRecDepth 20000 in
theorem gX1_wearTins_X1_swellLid : GoodIn wsX1_wearTins (wsV RX1 97 RX1 yX1_swellLid wsX1_swellLid) := goodIn_app (goodIn_of _ (by decide +kernel)) ggX1_wearTins_X1_swellLid
theorem dX1_wearTins_0 : decode cX1_wearTins 0 = .ok (.iconst 0, 1) := by decide +kernel
theorem dX1_wearTins_1 : decode cX1_wearTins 1 = .ok (.istore_n 1, 1) := by decide +kernel
theorem dX1_wearTins_2 : decode cX1_wearTins 2 = .ok (.iload_n 1, 1) := by decide +kernel
theorem dX1_wearTins_3 : decode cX1_wearTins 3 = .ok (.aload_n 0, 1) := by decide +kernel
theorem dX1_wearTins_4 : decode cX1_wearTins 4 = .ok (.getfield 55, 3) := by decide +kernel
theorem dX1_wearTins_7 : decode cX1_wearTins 7 = .ok (.if_icmp .ge 67, 3) := by decide +kernel
theorem dX1_wearTins_10 : decode cX1_wearTins 10 = .ok (.aload_n 0, 1) := by decide +kernel
theorem dX1_wearTins_11 : decode cX1_wearTins 11 = .ok (.iload_n 1, 1) := by decide +kernel
theorem dX1_wearTins_12 : decode cX1_wearTins 12 = .ok (.invokevirtual 84, 3) := by decide +kernel
theorem dX1_wearTins_15 : decode cX1_wearTins 15 = .ok (.ifCond .eq 53, 3) := by decide +kernel
theorem dX1_wearTins_18 : decode cX1_wearTins 18 = .ok (.aload_n 0, 1) := by decide +kernel
theorem dX1_wearTins_19 : decode cX1_wearTins 19 = .ok (.getfield 38, 3) := by decide +kernel
theorem dX1_wearTins_22 : decode cX1_wearTins 22 = .ok (.iload_n 1, 1) := by decide +kernel
theorem dX1_wearTins_23 : decode cX1_wearTins 23 = .ok (.iconst 0, 1) := by decide +kernel
theorem dX1_wearTins_24 : decode cX1_wearTins 24 = .ok (.aload_n 0, 1) := by decide +kernel
theorem dX1_wearTins_25 : decode cX1_wearTins 25 = .ok (.getfield 38, 3) := by decide +kernel
theorem dX1_wearTins_28 : decode cX1_wearTins 28 = .ok (.iload_n 1, 1) := by decide +kernel
theorem dX1_wearTins_29 : decode cX1_wearTins 29 = .ok (.invokevirtual 68, 3) := by decide +kernel
theorem dX1_wearTins_32 : decode cX1_wearTins 32 = .ok (.aload_n 0, 1) := by decide +kernel
theorem dX1_wearTins_33 : decode cX1_wearTins 33 = .ok (.iload_n 1, 1) := by decide +kernel
theorem dX1_wearTins_34 : decode cX1_wearTins 34 = .ok (.aload_n 0, 1) := by decide +kernel
theorem dX1_wearTins_35 : decode cX1_wearTins 35 = .ok (.getfield 35, 3) := by decide +kernel
theorem dX1_wearTins_38 : decode cX1_wearTins 38 = .ok (.iload_n 1, 1) := by decide +kernel
theorem dX1_wearTins_39 : decode cX1_wearTins 39 = .ok (.invokevirtual 68, 3) := by decide +kernel
theorem dX1_wearTins_42 : decode cX1_wearTins 42 = .ok (.invokevirtual 88, 3) := by decide +kernel
theorem dX1_wearTins_45 : decode cX1_wearTins 45 = .ok (.isub, 1) := by decide +kernel
theorem dX1_wearTins_46 : decode cX1_wearTins 46 = .ok (.invokestatic 92, 3) := by decide +kernel
theorem dX1_wearTins_49 : decode cX1_wearTins 49 = .ok (.invokevirtual 64, 3) := by decide +kernel
theorem dX1_wearTins_52 : decode cX1_wearTins 52 = .ok (.aload_n 0, 1) := by decide +kernel
theorem dX1_wearTins_53 : decode cX1_wearTins 53 = .ok (.getfield 38, 3) := by decide +kernel
theorem dX1_wearTins_56 : decode cX1_wearTins 56 = .ok (.iload_n 1, 1) := by decide +kernel
theorem dX1_wearTins_57 : decode cX1_wearTins 57 = .ok (.invokevirtual 68, 3) := by decide +kernel
theorem dX1_wearTins_60 : decode cX1_wearTins 60 = .ok (.ifCond .ne 8, 3) := by decide +kernel
theorem dX1_wearTins_63 : decode cX1_wearTins 63 = .ok (.aload_n 0, 1) := by decide +kernel
theorem dX1_wearTins_64 : decode cX1_wearTins 64 = .ok (.iload_n 1, 1) := by decide +kernel
theorem dX1_wearTins_65 : decode cX1_wearTins 65 = .ok (.invokevirtual 97, 3) := by decide +kernel
theorem dX1_wearTins_68 : decode cX1_wearTins 68 = .ok (.iinc 1 1, 3) := by decide +kernel
theorem dX1_wearTins_71 : decode cX1_wearTins 71 = .ok (.goto (-69), 3) := by decide +kernel
theorem dX1_wearTins_74 : decode cX1_wearTins 74 = .ok (.return_, 1) := by decide +kernel
set_option maxRecDepth 20000 in
theorem ggX1_swellLid_X0_get : GoodIn wsX1_swellLid wsX0_get := goodIn_r _ [8, 9, 28] (by decide +kernel) (by decide +kernel)
set_option maxRecDepth 20000 in
theorem gX1_swellLid_X0_get : GoodIn wsX1_swellLid (wsV RX1 68 RX0 yX0_get wsX0_get) := goodIn_app (goodIn_of _ (by decide +kernel)) ggX1_swellLid_X0_get
set_option maxRecDepth 20000 in
theorem ggX1_swellLid_X0_set : GoodIn wsX1_swellLid wsX0_set := goodIn_r _ [13, 9, 28] (by decide +kernel) (by decide +kernel)
set_option maxRecDepth 20000 in
theorem gX1_swellLid_X0_set : GoodIn wsX1_swellLid (wsV RX1 64 RX0 yX0_set wsX0_set) := goodIn_app (goodIn_of _ (by decide +kernel)) ggX1_swellLid_X0_set
theorem dX1_swellLid_0 : decode cX1_swellLid 0 = .ok (.aload_n 0, 1) := by decide +kernel
theorem dX1_swellLid_1 : decode cX1_swellLid 1 = .ok (.getfield 32, 3) := by decide +kernel
theorem dX1_swellLid_4 : decode cX1_swellLid 4 = .ok (.iload_n 1, 1) := by decide +kernel
theorem dX1_swellLid_5 : decode cX1_swellLid 5 = .ok (.invokevirtual 68, 3) := by decide +kernel
theorem dX1_swellLid_8 : decode cX1_swellLid 8 = .ok (.istore_n 2, 1) := by decide +kernel
theorem dX1_swellLid_9 : decode cX1_swellLid 9 = .ok (.aload_n 0, 1) := by decide +kernel
theorem dX1_swellLid_10 : decode cX1_swellLid 10 = .ok (.getfield 26, 3) := by decide +kernel
theorem dX1_swellLid_13 : decode cX1_swellLid 13 = .ok (.iload_n 2, 1) := by decide +kernel
theorem dX1_swellLid_14 : decode cX1_swellLid 14 = .ok (.aload_n 0, 1) := by decide +kernel
theorem dX1_swellLid_15 : decode cX1_swellLid 15 = .ok (.getfield 26, 3) := by decide +kernel
theorem dX1_swellLid_18 : decode cX1_swellLid 18 = .ok (.iload_n 2, 1) := by decide +kernel
theorem dX1_swellLid_19 : decode cX1_swellLid 19 = .ok (.invokevirtual 68, 3) := by decide +kernel
theorem dX1_swellLid_22 : decode cX1_swellLid 22 = .ok (.iconst 1, 1) := by decide +kernel
theorem dX1_swellLid_23 : decode cX1_swellLid 23 = .ok (.iadd, 1) := by decide +kernel
theorem dX1_swellLid_24 : decode cX1_swellLid 24 = .ok (.invokevirtual 64, 3) := by decide +kernel
theorem dX1_swellLid_27 : decode cX1_swellLid 27 = .ok (.aload_n 0, 1) := by decide +kernel
theorem dX1_swellLid_28 : decode cX1_swellLid 28 = .ok (.getfield 41, 3) := by decide +kernel
theorem dX1_swellLid_31 : decode cX1_swellLid 31 = .ok (.iload_n 1, 1) := by decide +kernel
theorem dX1_swellLid_32 : decode cX1_swellLid 32 = .ok (.iconst 3, 1) := by decide +kernel
theorem dX1_swellLid_33 : decode cX1_swellLid 33 = .ok (.invokevirtual 64, 3) := by decide +kernel
theorem dX1_swellLid_36 : decode cX1_swellLid 36 = .ok (.return_, 1) := by decide +kernel
set_option maxRecDepth 20000 in
theorem ggX1_recallSwelled_X1_isBatchRecalled : GoodIn wsX1_recallSwelled wsX1_isBatchRecalled := goodIn_r _ [7, 8, 9, 10, 11, 12, 13, 14, 26, 27, 28, 29, 30, 31, 32, 33, 34, 35, 36, 37, 38, 39, 40] (by decide +kernel) (by decide +kernel)
set_option maxRecDepth 20000 in
theorem gX1_recallSwelled_X1_isBatchRecalled : GoodIn wsX1_recallSwelled (wsV RX1 100 RX1 yX1_isBatchRecalled wsX1_isBatchRecalled) := goodIn_app (goodIn_of _ (by decide +kernel)) ggX1_recallSwelled_X1_isBatchRecalled
set_option maxRecDepth 20000 in
theorem ggX1_recallSwelled_X0_get : GoodIn wsX1_recallSwelled wsX0_get := goodIn_r _ [13, 14, 40] (by decide +kernel) (by decide +kernel)
set_option maxRecDepth 20000 in
theorem gX1_recallSwelled_X0_get : GoodIn wsX1_recallSwelled (wsV RX1 68 RX0 yX0_get wsX0_get) := goodIn_app (goodIn_of _ (by decide +kernel)) ggX1_recallSwelled_X0_get
set_option maxRecDepth 20000 in
theorem ggX1_recallSwelled_X1_recallBatch : GoodIn wsX1_recallSwelled wsX1_recallBatch := goodIn_r _ [18, 8, 19, 20, 21, 22, 23, 24, 12, 25, 14, 9, 10, 11, 13, 26, 27, 28, 29, 30, 31, 32, 33, 34, 35, 36, 37, 38, 39, 40] (by decide +kernel) (by decide +kernel)
set_option maxRecDepth 20000 in
theorem gX1_recallSwelled_X1_recallBatch : GoodIn wsX1_recallSwelled (wsV RX1 103 RX1 yX1_recallBatch wsX1_recallBatch) := goodIn_app (goodIn_of _ (by decide +kernel)) ggX1_recallSwelled_X1_recallBatch
theorem dX1_recallSwelled_0 : decode cX1_recallSwelled 0 = .ok (.iconst 0, 1) := by decide +kernel
theorem dX1_recallSwelled_1 : decode cX1_recallSwelled 1 = .ok (.istore_n 1, 1) := by decide +kernel
theorem dX1_recallSwelled_2 : decode cX1_recallSwelled 2 = .ok (.iload_n 1, 1) := by decide +kernel
theorem dX1_recallSwelled_3 : decode cX1_recallSwelled 3 = .ok (.aload_n 0, 1) := by decide +kernel
theorem dX1_recallSwelled_4 : decode cX1_recallSwelled 4 = .ok (.getfield 52, 3) := by decide +kernel
theorem dX1_recallSwelled_7 : decode cX1_recallSwelled 7 = .ok (.if_icmp .ge 35, 3) := by decide +kernel
theorem dX1_recallSwelled_10 : decode cX1_recallSwelled 10 = .ok (.aload_n 0, 1) := by decide +kernel
theorem dX1_recallSwelled_11 : decode cX1_recallSwelled 11 = .ok (.iload_n 1, 1) := by decide +kernel
theorem dX1_recallSwelled_12 : decode cX1_recallSwelled 12 = .ok (.invokevirtual 100, 3) := by decide +kernel
theorem dX1_recallSwelled_15 : decode cX1_recallSwelled 15 = .ok (.ifCond .ne 21, 3) := by decide +kernel
theorem dX1_recallSwelled_18 : decode cX1_recallSwelled 18 = .ok (.aload_n 0, 1) := by decide +kernel
theorem dX1_recallSwelled_19 : decode cX1_recallSwelled 19 = .ok (.getfield 26, 3) := by decide +kernel
theorem dX1_recallSwelled_22 : decode cX1_recallSwelled 22 = .ok (.iload_n 1, 1) := by decide +kernel
theorem dX1_recallSwelled_23 : decode cX1_recallSwelled 23 = .ok (.invokevirtual 68, 3) := by decide +kernel
theorem dX1_recallSwelled_26 : decode cX1_recallSwelled 26 = .ok (.iconst 3, 1) := by decide +kernel
theorem dX1_recallSwelled_27 : decode cX1_recallSwelled 27 = .ok (.if_icmp .lt 9, 3) := by decide +kernel
theorem dX1_recallSwelled_30 : decode cX1_recallSwelled 30 = .ok (.aload_n 0, 1) := by decide +kernel
theorem dX1_recallSwelled_31 : decode cX1_recallSwelled 31 = .ok (.iload_n 1, 1) := by decide +kernel
theorem dX1_recallSwelled_32 : decode cX1_recallSwelled 32 = .ok (.invokevirtual 103, 3) := by decide +kernel
theorem dX1_recallSwelled_35 : decode cX1_recallSwelled 35 = .ok (.pop, 1) := by decide +kernel
theorem dX1_recallSwelled_36 : decode cX1_recallSwelled 36 = .ok (.iinc 1 1, 3) := by decide +kernel
theorem dX1_recallSwelled_39 : decode cX1_recallSwelled 39 = .ok (.goto (-37), 3) := by decide +kernel
theorem dX1_recallSwelled_42 : decode cX1_recallSwelled 42 = .ok (.return_, 1) := by decide +kernel
set_option maxRecDepth 20000 in
theorem ggX1_ship_X0_set : GoodIn wsX1_ship wsX0_set := goodIn_r _ [6, 7, 22] (by decide +kernel) (by decide +kernel)
set_option maxRecDepth 20000 in
theorem gX1_ship_X0_set : GoodIn wsX1_ship (wsV RX1 64 RX0 yX0_set wsX0_set) := goodIn_app (goodIn_of _ (by decide +kernel)) ggX1_ship_X0_set
theorem dX1_ship_0 : decode cX1_ship 0 = .ok (.iload_n 1, 1) := by decide +kernel
theorem dX1_ship_1 : decode cX1_ship 1 = .ok (.iconst (-1), 1) := by decide +kernel
theorem dX1_ship_2 : decode cX1_ship 2 = .ok (.if_icmp .eq 12, 3) := by decide +kernel
theorem dX1_ship_5 : decode cX1_ship 5 = .ok (.aload_n 0, 1) := by decide +kernel
theorem dX1_ship_6 : decode cX1_ship 6 = .ok (.getfield 41, 3) := by decide +kernel
theorem dX1_ship_9 : decode cX1_ship 9 = .ok (.iload_n 1, 1) := by decide +kernel
theorem dX1_ship_10 : decode cX1_ship 10 = .ok (.iconst 2, 1) := by decide +kernel
theorem dX1_ship_11 : decode cX1_ship 11 = .ok (.invokevirtual 64, 3) := by decide +kernel
theorem dX1_ship_14 : decode cX1_ship 14 = .ok (.return_, 1) := by decide +kernel
set_option maxRecDepth 20000 in
theorem ggX1_recallBatch_X0_set : GoodIn wsX1_recallBatch wsX0_set := goodIn_r _ [9, 10, 29] (by decide +kernel) (by decide +kernel)
set_option maxRecDepth 20000 in
theorem gX1_recallBatch_X0_set : GoodIn wsX1_recallBatch (wsV RX1 64 RX0 yX0_set wsX0_set) := goodIn_app (goodIn_of _ (by decide +kernel)) ggX1_recallBatch_X0_set
set_option maxRecDepth 20000 in
theorem ggX1_recallBatch_X0_get : GoodIn wsX1_recallBatch wsX0_get := goodIn_r _ [14, 10, 29] (by decide +kernel) (by decide +kernel)
set_option maxRecDepth 20000 in
theorem gX1_recallBatch_X0_get : GoodIn wsX1_recallBatch (wsV RX1 68 RX0 yX0_get wsX0_get) := goodIn_app (goodIn_of _ (by decide +kernel)) ggX1_recallBatch_X0_get
theorem dX1_recallBatch_0 : decode cX1_recallBatch 0 = .ok (.aload_n 0, 1) := by decide +kernel
theorem dX1_recallBatch_1 : decode cX1_recallBatch 1 = .ok (.getfield 29, 3) := by decide +kernel
theorem dX1_recallBatch_4 : decode cX1_recallBatch 4 = .ok (.iload_n 1, 1) := by decide +kernel
theorem dX1_recallBatch_5 : decode cX1_recallBatch 5 = .ok (.iconst 1, 1) := by decide +kernel
theorem dX1_recallBatch_6 : decode cX1_recallBatch 6 = .ok (.invokevirtual 64, 3) := by decide +kernel
theorem dX1_recallBatch_9 : decode cX1_recallBatch 9 = .ok (.iconst 0, 1) := by decide +kernel
theorem dX1_recallBatch_10 : decode cX1_recallBatch 10 = .ok (.istore_n 2, 1) := by decide +kernel
theorem dX1_recallBatch_11 : decode cX1_recallBatch 11 = .ok (.iconst 0, 1) := by decide +kernel
theorem dX1_recallBatch_12 : decode cX1_recallBatch 12 = .ok (.istore_n 3, 1) := by decide +kernel
theorem dX1_recallBatch_13 : decode cX1_recallBatch 13 = .ok (.iload_n 3, 1) := by decide +kernel
theorem dX1_recallBatch_14 : decode cX1_recallBatch 14 = .ok (.aload_n 0, 1) := by decide +kernel
theorem dX1_recallBatch_15 : decode cX1_recallBatch 15 = .ok (.getfield 55, 3) := by decide +kernel
theorem dX1_recallBatch_18 : decode cX1_recallBatch 18 = .ok (.if_icmp .ge 45, 3) := by decide +kernel
theorem dX1_recallBatch_21 : decode cX1_recallBatch 21 = .ok (.aload_n 0, 1) := by decide +kernel
theorem dX1_recallBatch_22 : decode cX1_recallBatch 22 = .ok (.getfield 41, 3) := by decide +kernel
theorem dX1_recallBatch_25 : decode cX1_recallBatch 25 = .ok (.iload_n 3, 1) := by decide +kernel
theorem dX1_recallBatch_26 : decode cX1_recallBatch 26 = .ok (.invokevirtual 68, 3) := by decide +kernel
theorem dX1_recallBatch_29 : decode cX1_recallBatch 29 = .ok (.iconst 1, 1) := by decide +kernel
theorem dX1_recallBatch_30 : decode cX1_recallBatch 30 = .ok (.if_icmp .ne 27, 3) := by decide +kernel
theorem dX1_recallBatch_33 : decode cX1_recallBatch 33 = .ok (.aload_n 0, 1) := by decide +kernel
theorem dX1_recallBatch_34 : decode cX1_recallBatch 34 = .ok (.getfield 32, 3) := by decide +kernel
theorem dX1_recallBatch_37 : decode cX1_recallBatch 37 = .ok (.iload_n 3, 1) := by decide +kernel
theorem dX1_recallBatch_38 : decode cX1_recallBatch 38 = .ok (.invokevirtual 68, 3) := by decide +kernel
theorem dX1_recallBatch_41 : decode cX1_recallBatch 41 = .ok (.iload_n 1, 1) := by decide +kernel
theorem dX1_recallBatch_42 : decode cX1_recallBatch 42 = .ok (.if_icmp .ne 15, 3) := by decide +kernel
theorem dX1_recallBatch_45 : decode cX1_recallBatch 45 = .ok (.aload_n 0, 1) := by decide +kernel
theorem dX1_recallBatch_46 : decode cX1_recallBatch 46 = .ok (.getfield 41, 3) := by decide +kernel
theorem dX1_recallBatch_49 : decode cX1_recallBatch 49 = .ok (.iload_n 3, 1) := by decide +kernel
theorem dX1_recallBatch_50 : decode cX1_recallBatch 50 = .ok (.iconst 3, 1) := by decide +kernel
theorem dX1_recallBatch_51 : decode cX1_recallBatch 51 = .ok (.invokevirtual 64, 3) := by decide +kernel
theorem dX1_recallBatch_54 : decode cX1_recallBatch 54 = .ok (.iinc 2 1, 3) := by decide +kernel
theorem dX1_recallBatch_57 : decode cX1_recallBatch 57 = .ok (.iinc 3 1, 3) := by decide +kernel
theorem dX1_recallBatch_60 : decode cX1_recallBatch 60 = .ok (.goto (-47), 3) := by decide +kernel
theorem dX1_recallBatch_63 : decode cX1_recallBatch 63 = .ok (.iload_n 2, 1) := by decide +kernel
theorem dX1_recallBatch_64 : decode cX1_recallBatch 64 = .ok (.ireturn, 1) := by decide +kernel
set_option maxRecDepth 20000 in
theorem ggX1_firstBy_X1_holds : GoodIn wsX1_firstBy wsX1_holds := goodIn_r _ [6, 7, 8, 9, 10, 11, 12, 13, 21, 22, 23, 24, 25, 26, 27, 28, 29, 30, 31, 32, 33, 34, 35] (by decide +kernel) (by decide +kernel)
set_option maxRecDepth 20000 in
theorem gX1_firstBy_X1_holds : GoodIn wsX1_firstBy (wsV RX1 84 RX1 yX1_holds wsX1_holds) := goodIn_app (goodIn_of _ (by decide +kernel)) ggX1_firstBy_X1_holds
set_option maxRecDepth 20000 in
theorem ggX1_firstBy_X1_rankBy : GoodIn wsX1_firstBy wsX1_rankBy := goodIn_r _ [17, 18, 19, 20, 8, 9, 10, 11, 12, 13, 21, 22, 23, 24, 25, 26, 27, 28, 29, 30, 31, 32, 33, 34, 35] (by decide +kernel) (by decide +kernel)
set_option maxRecDepth 20000 in
theorem gX1_firstBy_X1_rankBy : GoodIn wsX1_firstBy (wsV RX1 106 RX1 yX1_rankBy wsX1_rankBy) := goodIn_app (goodIn_of _ (by decide +kernel)) ggX1_firstBy_X1_rankBy
theorem dX1_firstBy_0 : decode cX1_firstBy 0 = .ok (.iconst (-1), 1) := by decide +kernel
theorem dX1_firstBy_1 : decode cX1_firstBy 1 = .ok (.istore_n 2, 1) := by decide +kernel
theorem dX1_firstBy_2 : decode cX1_firstBy 2 = .ok (.iconst 0, 1) := by decide +kernel
theorem dX1_firstBy_3 : decode cX1_firstBy 3 = .ok (.istore_n 3, 1) := by decide +kernel
theorem dX1_firstBy_4 : decode cX1_firstBy 4 = .ok (.iconst 0, 1) := by decide +kernel
theorem dX1_firstBy_5 : decode cX1_firstBy 5 = .ok (.istore 4, 2) := by decide +kernel
theorem dX1_firstBy_7 : decode cX1_firstBy 7 = .ok (.iload 4, 2) := by decide +kernel
theorem dX1_firstBy_9 : decode cX1_firstBy 9 = .ok (.aload_n 0, 1) := by decide +kernel
theorem dX1_firstBy_10 : decode cX1_firstBy 10 = .ok (.getfield 55, 3) := by decide +kernel
theorem dX1_firstBy_13 : decode cX1_firstBy 13 = .ok (.if_icmp .ge 43, 3) := by decide +kernel
theorem dX1_firstBy_16 : decode cX1_firstBy 16 = .ok (.aload_n 0, 1) := by decide +kernel
theorem dX1_firstBy_17 : decode cX1_firstBy 17 = .ok (.iload 4, 2) := by decide +kernel
theorem dX1_firstBy_19 : decode cX1_firstBy 19 = .ok (.invokevirtual 84, 3) := by decide +kernel
theorem dX1_firstBy_22 : decode cX1_firstBy 22 = .ok (.ifCond .eq 28, 3) := by decide +kernel
theorem dX1_firstBy_25 : decode cX1_firstBy 25 = .ok (.aload_n 0, 1) := by decide +kernel
theorem dX1_firstBy_26 : decode cX1_firstBy 26 = .ok (.iload 4, 2) := by decide +kernel
theorem dX1_firstBy_28 : decode cX1_firstBy 28 = .ok (.iload_n 1, 1) := by decide +kernel
theorem dX1_firstBy_29 : decode cX1_firstBy 29 = .ok (.invokevirtual 106, 3) := by decide +kernel
theorem dX1_firstBy_32 : decode cX1_firstBy 32 = .ok (.istore 5, 2) := by decide +kernel
theorem dX1_firstBy_34 : decode cX1_firstBy 34 = .ok (.iload_n 2, 1) := by decide +kernel
theorem dX1_firstBy_35 : decode cX1_firstBy 35 = .ok (.ifCond .lt 9, 3) := by decide +kernel
theorem dX1_firstBy_38 : decode cX1_firstBy 38 = .ok (.iload 5, 2) := by decide +kernel
theorem dX1_firstBy_40 : decode cX1_firstBy 40 = .ok (.iload_n 3, 1) := by decide +kernel
theorem dX1_firstBy_41 : decode cX1_firstBy 41 = .ok (.if_icmp .ge 9, 3) := by decide +kernel
theorem dX1_firstBy_44 : decode cX1_firstBy 44 = .ok (.iload 4, 2) := by decide +kernel
theorem dX1_firstBy_46 : decode cX1_firstBy 46 = .ok (.istore_n 2, 1) := by decide +kernel
theorem dX1_firstBy_47 : decode cX1_firstBy 47 = .ok (.iload 5, 2) := by decide +kernel
theorem dX1_firstBy_49 : decode cX1_firstBy 49 = .ok (.istore_n 3, 1) := by decide +kernel
theorem dX1_firstBy_50 : decode cX1_firstBy 50 = .ok (.iinc 4 1, 3) := by decide +kernel
theorem dX1_firstBy_53 : decode cX1_firstBy 53 = .ok (.goto (-46), 3) := by decide +kernel
theorem dX1_firstBy_56 : decode cX1_firstBy 56 = .ok (.iload_n 2, 1) := by decide +kernel
theorem dX1_firstBy_57 : decode cX1_firstBy 57 = .ok (.ireturn, 1) := by decide +kernel
set_option maxRecDepth 20000 in
theorem ggX1_countAheadOf_X1_rankBy : GoodIn wsX1_countAheadOf wsX1_rankBy := goodIn_r _ [6, 7, 8, 9, 10, 11, 12, 13, 14, 15, 21, 22, 23, 24, 25, 26, 27, 28, 29, 30, 31, 32, 33, 34, 35] (by decide +kernel) (by decide +kernel)
set_option maxRecDepth 20000 in
theorem gX1_countAheadOf_X1_rankBy : GoodIn wsX1_countAheadOf (wsV RX1 106 RX1 yX1_rankBy wsX1_rankBy) := goodIn_app (goodIn_of _ (by decide +kernel)) ggX1_countAheadOf_X1_rankBy
set_option maxRecDepth 20000 in
theorem ggX1_countAheadOf_X1_holds : GoodIn wsX1_countAheadOf wsX1_holds := goodIn_r _ [19, 20, 10, 11, 12, 13, 14, 15, 21, 22, 23, 24, 25, 26, 27, 28, 29, 30, 31, 32, 33, 34, 35] (by decide +kernel) (by decide +kernel)
set_option maxRecDepth 20000 in
theorem gX1_countAheadOf_X1_holds : GoodIn wsX1_countAheadOf (wsV RX1 84 RX1 yX1_holds wsX1_holds) := goodIn_app (goodIn_of _ (by decide +kernel)) ggX1_countAheadOf_X1_holds
theorem dX1_countAheadOf_0 : decode cX1_countAheadOf 0 = .ok (.aload_n 0, 1) := by decide +kernel
theorem dX1_countAheadOf_1 : decode cX1_countAheadOf 1 = .ok (.iload_n 1, 1) := by decide +kernel
theorem dX1_countAheadOf_2 : decode cX1_countAheadOf 2 = .ok (.iload_n 2, 1) := by decide +kernel
theorem dX1_countAheadOf_3 : decode cX1_countAheadOf 3 = .ok (.invokevirtual 106, 3) := by decide +kernel
theorem dX1_countAheadOf_6 : decode cX1_countAheadOf 6 = .ok (.istore_n 3, 1) := by decide +kernel
theorem dX1_countAheadOf_7 : decode cX1_countAheadOf 7 = .ok (.iconst 0, 1) := by decide +kernel
theorem dX1_countAheadOf_8 : decode cX1_countAheadOf 8 = .ok (.istore 4, 2) := by decide +kernel
theorem dX1_countAheadOf_10 : decode cX1_countAheadOf 10 = .ok (.iconst 0, 1) := by decide +kernel
theorem dX1_countAheadOf_11 : decode cX1_countAheadOf 11 = .ok (.istore 5, 2) := by decide +kernel
theorem dX1_countAheadOf_13 : decode cX1_countAheadOf 13 = .ok (.iload 5, 2) := by decide +kernel
theorem dX1_countAheadOf_15 : decode cX1_countAheadOf 15 = .ok (.aload_n 0, 1) := by decide +kernel
theorem dX1_countAheadOf_16 : decode cX1_countAheadOf 16 = .ok (.getfield 55, 3) := by decide +kernel
theorem dX1_countAheadOf_19 : decode cX1_countAheadOf 19 = .ok (.if_icmp .ge 32, 3) := by decide +kernel
theorem dX1_countAheadOf_22 : decode cX1_countAheadOf 22 = .ok (.aload_n 0, 1) := by decide +kernel
theorem dX1_countAheadOf_23 : decode cX1_countAheadOf 23 = .ok (.iload 5, 2) := by decide +kernel
theorem dX1_countAheadOf_25 : decode cX1_countAheadOf 25 = .ok (.invokevirtual 84, 3) := by decide +kernel
theorem dX1_countAheadOf_28 : decode cX1_countAheadOf 28 = .ok (.ifCond .eq 17, 3) := by decide +kernel
theorem dX1_countAheadOf_31 : decode cX1_countAheadOf 31 = .ok (.aload_n 0, 1) := by decide +kernel
theorem dX1_countAheadOf_32 : decode cX1_countAheadOf 32 = .ok (.iload 5, 2) := by decide +kernel
theorem dX1_countAheadOf_34 : decode cX1_countAheadOf 34 = .ok (.iload_n 2, 1) := by decide +kernel
theorem dX1_countAheadOf_35 : decode cX1_countAheadOf 35 = .ok (.invokevirtual 106, 3) := by decide +kernel
theorem dX1_countAheadOf_38 : decode cX1_countAheadOf 38 = .ok (.iload_n 3, 1) := by decide +kernel
theorem dX1_countAheadOf_39 : decode cX1_countAheadOf 39 = .ok (.if_icmp .ge 6, 3) := by decide +kernel
theorem dX1_countAheadOf_42 : decode cX1_countAheadOf 42 = .ok (.iinc 4 1, 3) := by decide +kernel
theorem dX1_countAheadOf_45 : decode cX1_countAheadOf 45 = .ok (.iinc 5 1, 3) := by decide +kernel
theorem dX1_countAheadOf_48 : decode cX1_countAheadOf 48 = .ok (.goto (-35), 3) := by decide +kernel
theorem dX1_countAheadOf_51 : decode cX1_countAheadOf 51 = .ok (.iload 4, 2) := by decide +kernel
theorem dX1_countAheadOf_53 : decode cX1_countAheadOf 53 = .ok (.ireturn, 1) := by decide +kernel
set_option maxRecDepth 20000 in
theorem ggX1_rankBy_X0_get : GoodIn wsX1_rankBy wsX0_get := goodIn_r _ [8, 9, 24] (by decide +kernel) (by decide +kernel)
set_option maxRecDepth 20000 in
theorem gX1_rankBy_X0_get : GoodIn wsX1_rankBy (wsV RX1 68 RX0 yX0_get wsX0_get) := goodIn_app (goodIn_of _ (by decide +kernel)) ggX1_rankBy_X0_get
theorem dX1_rankBy_0 : decode cX1_rankBy 0 = .ok (.iload_n 2, 1) := by decide +kernel
theorem dX1_rankBy_1 : decode cX1_rankBy 1 = .ok (.iconst 1, 1) := by decide +kernel
theorem dX1_rankBy_2 : decode cX1_rankBy 2 = .ok (.if_icmp .ne 17, 3) := by decide +kernel
theorem dX1_rankBy_5 : decode cX1_rankBy 5 = .ok (.aload_n 0, 1) := by decide +kernel
theorem dX1_rankBy_6 : decode cX1_rankBy 6 = .ok (.getfield 38, 3) := by decide +kernel
theorem dX1_rankBy_9 : decode cX1_rankBy 9 = .ok (.iload_n 1, 1) := by decide +kernel
theorem dX1_rankBy_10 : decode cX1_rankBy 10 = .ok (.invokevirtual 68, 3) := by decide +kernel
theorem dX1_rankBy_13 : decode cX1_rankBy 13 = .ok (.bipush 60, 2) := by decide +kernel
theorem dX1_rankBy_15 : decode cX1_rankBy 15 = .ok (.imul, 1) := by decide +kernel
theorem dX1_rankBy_16 : decode cX1_rankBy 16 = .ok (.iload_n 1, 1) := by decide +kernel
theorem dX1_rankBy_17 : decode cX1_rankBy 17 = .ok (.iadd, 1) := by decide +kernel
theorem dX1_rankBy_18 : decode cX1_rankBy 18 = .ok (.ireturn, 1) := by decide +kernel
theorem dX1_rankBy_19 : decode cX1_rankBy 19 = .ok (.iload_n 2, 1) := by decide +kernel
theorem dX1_rankBy_20 : decode cX1_rankBy 20 = .ok (.iconst 2, 1) := by decide +kernel
theorem dX1_rankBy_21 : decode cX1_rankBy 21 = .ok (.if_icmp .ne 26, 3) := by decide +kernel
theorem dX1_rankBy_24 : decode cX1_rankBy 24 = .ok (.iconst 3, 1) := by decide +kernel
theorem dX1_rankBy_25 : decode cX1_rankBy 25 = .ok (.aload_n 0, 1) := by decide +kernel
theorem dX1_rankBy_26 : decode cX1_rankBy 26 = .ok (.getfield 14, 3) := by decide +kernel
theorem dX1_rankBy_29 : decode cX1_rankBy 29 = .ok (.aload_n 0, 1) := by decide +kernel
theorem dX1_rankBy_30 : decode cX1_rankBy 30 = .ok (.getfield 35, 3) := by decide +kernel
theorem dX1_rankBy_33 : decode cX1_rankBy 33 = .ok (.iload_n 1, 1) := by decide +kernel
theorem dX1_rankBy_34 : decode cX1_rankBy 34 = .ok (.invokevirtual 68, 3) := by decide +kernel
theorem dX1_rankBy_37 : decode cX1_rankBy 37 = .ok (.invokevirtual 68, 3) := by decide +kernel
theorem dX1_rankBy_40 : decode cX1_rankBy 40 = .ok (.isub, 1) := by decide +kernel
theorem dX1_rankBy_41 : decode cX1_rankBy 41 = .ok (.bipush 60, 2) := by decide +kernel
theorem dX1_rankBy_43 : decode cX1_rankBy 43 = .ok (.imul, 1) := by decide +kernel
theorem dX1_rankBy_44 : decode cX1_rankBy 44 = .ok (.iload_n 1, 1) := by decide +kernel
theorem dX1_rankBy_45 : decode cX1_rankBy 45 = .ok (.iadd, 1) := by decide +kernel
theorem dX1_rankBy_46 : decode cX1_rankBy 46 = .ok (.ireturn, 1) := by decide +kernel
theorem dX1_rankBy_47 : decode cX1_rankBy 47 = .ok (.iload_n 1, 1) := by decide +kernel
theorem dX1_rankBy_48 : decode cX1_rankBy 48 = .ok (.ireturn, 1) := by decide +kernel
set_option maxRecDepth 20000 in
theorem ggX1_wearOn_X0_get : GoodIn wsX1_wearOn wsX0_get := goodIn_r _ [8, 9, 24] (by decide +kernel) (by decide +kernel)
set_option maxRecDepth 20000 in
theorem gX1_wearOn_X0_get : GoodIn wsX1_wearOn (wsV RX1 68 RX0 yX0_get wsX0_get) := goodIn_app (goodIn_of _ (by decide +kernel)) ggX1_wearOn_X0_get
theorem dX1_wearOn_0 : decode cX1_wearOn 0 = .ok (.aload_n 0, 1) := by decide +kernel
theorem dX1_wearOn_1 : decode cX1_wearOn 1 = .ok (.getfield 23, 3) := by decide +kernel
theorem dX1_wearOn_4 : decode cX1_wearOn 4 = .ok (.aload_n 0, 1) := by decide +kernel
theorem dX1_wearOn_5 : decode cX1_wearOn 5 = .ok (.getfield 32, 3) := by decide +kernel
theorem dX1_wearOn_8 : decode cX1_wearOn 8 = .ok (.iload_n 1, 1) := by decide +kernel
theorem dX1_wearOn_9 : decode cX1_wearOn 9 = .ok (.invokevirtual 68, 3) := by decide +kernel
theorem dX1_wearOn_12 : decode cX1_wearOn 12 = .ok (.invokevirtual 68, 3) := by decide +kernel
theorem dX1_wearOn_15 : decode cX1_wearOn 15 = .ok (.aload_n 0, 1) := by decide +kernel
theorem dX1_wearOn_16 : decode cX1_wearOn 16 = .ok (.getfield 14, 3) := by decide +kernel
theorem dX1_wearOn_19 : decode cX1_wearOn 19 = .ok (.iload_n 2, 1) := by decide +kernel
theorem dX1_wearOn_20 : decode cX1_wearOn 20 = .ok (.invokevirtual 68, 3) := by decide +kernel
theorem dX1_wearOn_23 : decode cX1_wearOn 23 = .ok (.iadd, 1) := by decide +kernel
theorem dX1_wearOn_24 : decode cX1_wearOn 24 = .ok (.ireturn, 1) := by decide +kernel
set_option maxRecDepth 20000 in
theorem ggX1_daysToSwell_X1_wearOn : GoodIn wsX1_daysToSwell wsX1_wearOn := goodIn_r _ [6, 7, 8, 9, 10, 11, 12, 13, 14, 15, 16, 17, 18, 19, 20, 21, 22, 23, 24, 25, 26, 27, 28, 29, 30] (by decide +kernel) (by decide +kernel)
set_option maxRecDepth 20000 in
theorem gX1_daysToSwell_X1_wearOn : GoodIn wsX1_daysToSwell (wsV RX1 88 RX1 yX1_wearOn wsX1_wearOn) := goodIn_app (goodIn_of _ (by decide +kernel)) ggX1_daysToSwell_X1_wearOn
set_option maxRecDepth 20000 in
theorem ggX1_daysToSwell_X0_get : GoodIn wsX1_daysToSwell wsX0_get := goodIn_r _ [14, 15, 30] (by decide +kernel) (by decide +kernel)
set_option maxRecDepth 20000 in
theorem gX1_daysToSwell_X0_get : GoodIn wsX1_daysToSwell (wsV RX1 68 RX0 yX0_get wsX0_get) := goodIn_app (goodIn_of _ (by decide +kernel)) ggX1_daysToSwell_X0_get
theorem dX1_daysToSwell_0 : decode cX1_daysToSwell 0 = .ok (.aload_n 0, 1) := by decide +kernel
theorem dX1_daysToSwell_1 : decode cX1_daysToSwell 1 = .ok (.iload_n 1, 1) := by decide +kernel
theorem dX1_daysToSwell_2 : decode cX1_daysToSwell 2 = .ok (.iload_n 2, 1) := by decide +kernel
theorem dX1_daysToSwell_3 : decode cX1_daysToSwell 3 = .ok (.invokevirtual 88, 3) := by decide +kernel
theorem dX1_daysToSwell_6 : decode cX1_daysToSwell 6 = .ok (.istore_n 3, 1) := by decide +kernel
theorem dX1_daysToSwell_7 : decode cX1_daysToSwell 7 = .ok (.iload_n 3, 1) := by decide +kernel
theorem dX1_daysToSwell_8 : decode cX1_daysToSwell 8 = .ok (.ifCond .gt 5, 3) := by decide +kernel
theorem dX1_daysToSwell_11 : decode cX1_daysToSwell 11 = .ok (.iconst (-1), 1) := by decide +kernel
theorem dX1_daysToSwell_12 : decode cX1_daysToSwell 12 = .ok (.ireturn, 1) := by decide +kernel
theorem dX1_daysToSwell_13 : decode cX1_daysToSwell 13 = .ok (.aload_n 0, 1) := by decide +kernel
theorem dX1_daysToSwell_14 : decode cX1_daysToSwell 14 = .ok (.getfield 38, 3) := by decide +kernel
theorem dX1_daysToSwell_17 : decode cX1_daysToSwell 17 = .ok (.iload_n 1, 1) := by decide +kernel
theorem dX1_daysToSwell_18 : decode cX1_daysToSwell 18 = .ok (.invokevirtual 68, 3) := by decide +kernel
theorem dX1_daysToSwell_21 : decode cX1_daysToSwell 21 = .ok (.iload_n 3, 1) := by decide +kernel
theorem dX1_daysToSwell_22 : decode cX1_daysToSwell 22 = .ok (.iadd, 1) := by decide +kernel
theorem dX1_daysToSwell_23 : decode cX1_daysToSwell 23 = .ok (.iconst 1, 1) := by decide +kernel
theorem dX1_daysToSwell_24 : decode cX1_daysToSwell 24 = .ok (.isub, 1) := by decide +kernel
theorem dX1_daysToSwell_25 : decode cX1_daysToSwell 25 = .ok (.iload_n 3, 1) := by decide +kernel
theorem dX1_daysToSwell_26 : decode cX1_daysToSwell 26 = .ok (.idiv, 1) := by decide +kernel
theorem dX1_daysToSwell_27 : decode cX1_daysToSwell 27 = .ok (.ireturn, 1) := by decide +kernel
set_option maxRecDepth 20000 in
theorem ggX1_countAt_X0_get : GoodIn wsX1_countAt wsX0_get := goodIn_r _ [7, 8, 23] (by decide +kernel) (by decide +kernel)
set_option maxRecDepth 20000 in
theorem gX1_countAt_X0_get : GoodIn wsX1_countAt (wsV RX1 68 RX0 yX0_get wsX0_get) := goodIn_app (goodIn_of _ (by decide +kernel)) ggX1_countAt_X0_get
theorem dX1_countAt_0 : decode cX1_countAt 0 = .ok (.iconst 0, 1) := by decide +kernel
theorem dX1_countAt_1 : decode cX1_countAt 1 = .ok (.istore_n 2, 1) := by decide +kernel
theorem dX1_countAt_2 : decode cX1_countAt 2 = .ok (.iconst 0, 1) := by decide +kernel
theorem dX1_countAt_3 : decode cX1_countAt 3 = .ok (.istore_n 3, 1) := by decide +kernel
theorem dX1_countAt_4 : decode cX1_countAt 4 = .ok (.iload_n 3, 1) := by decide +kernel
theorem dX1_countAt_5 : decode cX1_countAt 5 = .ok (.aload_n 0, 1) := by decide +kernel
theorem dX1_countAt_6 : decode cX1_countAt 6 = .ok (.getfield 55, 3) := by decide +kernel
theorem dX1_countAt_9 : decode cX1_countAt 9 = .ok (.if_icmp .ge 24, 3) := by decide +kernel
theorem dX1_countAt_12 : decode cX1_countAt 12 = .ok (.aload_n 0, 1) := by decide +kernel
theorem dX1_countAt_13 : decode cX1_countAt 13 = .ok (.getfield 41, 3) := by decide +kernel
theorem dX1_countAt_16 : decode cX1_countAt 16 = .ok (.iload_n 3, 1) := by decide +kernel
theorem dX1_countAt_17 : decode cX1_countAt 17 = .ok (.invokevirtual 68, 3) := by decide +kernel
theorem dX1_countAt_20 : decode cX1_countAt 20 = .ok (.iload_n 1, 1) := by decide +kernel
theorem dX1_countAt_21 : decode cX1_countAt 21 = .ok (.if_icmp .ne 6, 3) := by decide +kernel
theorem dX1_countAt_24 : decode cX1_countAt 24 = .ok (.iinc 2 1, 3) := by decide +kernel
theorem dX1_countAt_27 : decode cX1_countAt 27 = .ok (.iinc 3 1, 3) := by decide +kernel
theorem dX1_countAt_30 : decode cX1_countAt 30 = .ok (.goto (-26), 3) := by decide +kernel
theorem dX1_countAt_33 : decode cX1_countAt 33 = .ok (.iload_n 2, 1) := by decide +kernel
theorem dX1_countAt_34 : decode cX1_countAt 34 = .ok (.ireturn, 1) := by decide +kernel
set_option maxRecDepth 20000 in
theorem ggX1_countHeldWith_X1_holds : GoodIn wsX1_countHeldWith wsX1_holds := goodIn_r _ [6, 7, 8, 9, 10, 11, 12, 13, 14, 15, 16, 17, 18, 19, 20, 21, 22, 23, 24, 25, 26, 27, 28] (by decide +kernel) (by decide +kernel)
set_option maxRecDepth 20000 in
theorem gX1_countHeldWith_X1_holds : GoodIn wsX1_countHeldWith (wsV RX1 84 RX1 yX1_holds wsX1_holds) := goodIn_app (goodIn_of _ (by decide +kernel)) ggX1_countHeldWith_X1_holds
set_option maxRecDepth 20000 in
theorem ggX1_countHeldWith_X0_get : GoodIn wsX1_countHeldWith wsX0_get := goodIn_r _ [12, 13, 28] (by decide +kernel) (by decide +kernel)
set_option maxRecDepth 20000 in
theorem gX1_countHeldWith_X0_get : GoodIn wsX1_countHeldWith (wsV RX1 68 RX0 yX0_get wsX0_get) := goodIn_app (goodIn_of _ (by decide +kernel)) ggX1_countHeldWith_X0_get
theorem dX1_countHeldWith_0 : decode cX1_countHeldWith 0 = .ok (.iconst 0, 1) := by decide +kernel
theorem dX1_countHeldWith_1 : decode cX1_countHeldWith 1 = .ok (.istore_n 3, 1) := by decide +kernel
theorem dX1_countHeldWith_2 : decode cX1_countHeldWith 2 = .ok (.iconst 0, 1) := by decide +kernel
theorem dX1_countHeldWith_3 : decode cX1_countHeldWith 3 = .ok (.istore 4, 2) := by decide +kernel
theorem dX1_countHeldWith_5 : decode cX1_countHeldWith 5 = .ok (.iload 4, 2) := by decide +kernel
theorem dX1_countHeldWith_7 : decode cX1_countHeldWith 7 = .ok (.aload_n 0, 1) := by decide +kernel
theorem dX1_countHeldWith_8 : decode cX1_countHeldWith 8 = .ok (.getfield 55, 3) := by decide +kernel
theorem dX1_countHeldWith_11 : decode cX1_countHeldWith 11 = .ok (.if_icmp .ge 31, 3) := by decide +kernel
theorem dX1_countHeldWith_14 : decode cX1_countHeldWith 14 = .ok (.aload_n 0, 1) := by decide +kernel
theorem dX1_countHeldWith_15 : decode cX1_countHeldWith 15 = .ok (.iload 4, 2) := by decide +kernel
theorem dX1_countHeldWith_17 : decode cX1_countHeldWith 17 = .ok (.invokevirtual 84, 3) := by decide +kernel
theorem dX1_countHeldWith_20 : decode cX1_countHeldWith 20 = .ok (.ifCond .eq 16, 3) := by decide +kernel
theorem dX1_countHeldWith_23 : decode cX1_countHeldWith 23 = .ok (.aload_n 1, 1) := by decide +kernel
theorem dX1_countHeldWith_24 : decode cX1_countHeldWith 24 = .ok (.iload 4, 2) := by decide +kernel
theorem dX1_countHeldWith_26 : decode cX1_countHeldWith 26 = .ok (.invokevirtual 68, 3) := by decide +kernel
theorem dX1_countHeldWith_29 : decode cX1_countHeldWith 29 = .ok (.iload_n 2, 1) := by decide +kernel
theorem dX1_countHeldWith_30 : decode cX1_countHeldWith 30 = .ok (.if_icmp .ne 6, 3) := by decide +kernel
theorem dX1_countHeldWith_33 : decode cX1_countHeldWith 33 = .ok (.iinc 3 1, 3) := by decide +kernel
theorem dX1_countHeldWith_36 : decode cX1_countHeldWith 36 = .ok (.iinc 4 1, 3) := by decide +kernel
theorem dX1_countHeldWith_39 : decode cX1_countHeldWith 39 = .ok (.goto (-34), 3) := by decide +kernel
theorem dX1_countHeldWith_42 : decode cX1_countHeldWith 42 = .ok (.iload_n 3, 1) := by decide +kernel
theorem dX1_countHeldWith_43 : decode cX1_countHeldWith 43 = .ok (.ireturn, 1) := by decide +kernel
set_option maxRecDepth 20000 in
theorem ggX1_vacuumHeld_X1_holds : GoodIn wsX1_vacuumHeld wsX1_holds := goodIn_r _ [7, 8, 9, 10, 11, 12, 13, 14, 15, 16, 17, 18, 19, 20, 21, 22, 23, 24, 25, 26, 27, 28, 29] (by decide +kernel) (by decide +kernel)
set_option maxRecDepth 20000 in
theorem gX1_vacuumHeld_X1_holds : GoodIn wsX1_vacuumHeld (wsV RX1 84 RX1 yX1_holds wsX1_holds) := goodIn_app (goodIn_of _ (by decide +kernel)) ggX1_vacuumHeld_X1_holds
set_option maxRecDepth 20000 in
theorem ggX1_vacuumHeld_X0_get : GoodIn wsX1_vacuumHeld wsX0_get := goodIn_r _ [13, 14, 29] (by decide +kernel) (by decide +kernel)
set_option maxRecDepth 20000 in
theorem gX1_vacuumHeld_X0_get : GoodIn wsX1_vacuumHeld (wsV RX1 68 RX0 yX0_get wsX0_get) := goodIn_app (goodIn_of _ (by decide +kernel)) ggX1_vacuumHeld_X0_get
theorem dX1_vacuumHeld_0 : decode cX1_vacuumHeld 0 = .ok (.iconst 0, 1) := by decide +kernel
theorem dX1_vacuumHeld_1 : decode cX1_vacuumHeld 1 = .ok (.istore_n 1, 1) := by decide +kernel
theorem dX1_vacuumHeld_2 : decode cX1_vacuumHeld 2 = .ok (.iconst 0, 1) := by decide +kernel
theorem dX1_vacuumHeld_3 : decode cX1_vacuumHeld 3 = .ok (.istore_n 2, 1) := by decide +kernel
theorem dX1_vacuumHeld_4 : decode cX1_vacuumHeld 4 = .ok (.iload_n 2, 1) := by decide +kernel
theorem dX1_vacuumHeld_5 : decode cX1_vacuumHeld 5 = .ok (.aload_n 0, 1) := by decide +kernel
theorem dX1_vacuumHeld_6 : decode cX1_vacuumHeld 6 = .ok (.getfield 55, 3) := by decide +kernel
theorem dX1_vacuumHeld_9 : decode cX1_vacuumHeld 9 = .ok (.if_icmp .ge 28, 3) := by decide +kernel
theorem dX1_vacuumHeld_12 : decode cX1_vacuumHeld 12 = .ok (.aload_n 0, 1) := by decide +kernel
theorem dX1_vacuumHeld_13 : decode cX1_vacuumHeld 13 = .ok (.iload_n 2, 1) := by decide +kernel
theorem dX1_vacuumHeld_14 : decode cX1_vacuumHeld 14 = .ok (.invokevirtual 84, 3) := by decide +kernel
theorem dX1_vacuumHeld_17 : decode cX1_vacuumHeld 17 = .ok (.ifCond .eq 14, 3) := by decide +kernel
theorem dX1_vacuumHeld_20 : decode cX1_vacuumHeld 20 = .ok (.iload_n 1, 1) := by decide +kernel
theorem dX1_vacuumHeld_21 : decode cX1_vacuumHeld 21 = .ok (.aload_n 0, 1) := by decide +kernel
theorem dX1_vacuumHeld_22 : decode cX1_vacuumHeld 22 = .ok (.getfield 38, 3) := by decide +kernel
theorem dX1_vacuumHeld_25 : decode cX1_vacuumHeld 25 = .ok (.iload_n 2, 1) := by decide +kernel
theorem dX1_vacuumHeld_26 : decode cX1_vacuumHeld 26 = .ok (.invokevirtual 68, 3) := by decide +kernel
theorem dX1_vacuumHeld_29 : decode cX1_vacuumHeld 29 = .ok (.iadd, 1) := by decide +kernel
theorem dX1_vacuumHeld_30 : decode cX1_vacuumHeld 30 = .ok (.istore_n 1, 1) := by decide +kernel
theorem dX1_vacuumHeld_31 : decode cX1_vacuumHeld 31 = .ok (.iinc 2 1, 3) := by decide +kernel
theorem dX1_vacuumHeld_34 : decode cX1_vacuumHeld 34 = .ok (.goto (-30), 3) := by decide +kernel
theorem dX1_vacuumHeld_37 : decode cX1_vacuumHeld 37 = .ok (.iload_n 1, 1) := by decide +kernel
theorem dX1_vacuumHeld_38 : decode cX1_vacuumHeld 38 = .ok (.ireturn, 1) := by decide +kernel
set_option maxRecDepth 20000 in
theorem ggX2_init_X1_init : GoodIn wsX2_init wsX1_init := goodIn_r _ [10, 11, 2, 3, 12, 13, 14, 15, 16, 17, 18, 19, 20, 21, 22, 23, 24, 25, 26, 27, 28, 29, 30, 31, 32, 33, 34, 51, 35, 36, 37, 38, 39, 40, 41, 42, 43, 44, 45, 46, 47, 48] (by decide +kernel) (by decide +kernel)
set_option maxRecDepth 20000 in
theorem gX2_init_X1_init_n9 : GoodIn wsX2_init (wsX1_init) := ggX2_init_X1_init
theorem dX2_init_0 : decode cX2_init 0 = .ok (.aload_n 0, 1) := by decide +kernel
theorem dX2_init_1 : decode cX2_init 1 = .ok (.invokespecial 1, 3) := by decide +kernel
theorem dX2_init_4 : decode cX2_init 4 = .ok (.aload_n 0, 1) := by decide +kernel
theorem dX2_init_5 : decode cX2_init 5 = .ok (.new 7, 3) := by decide +kernel
theorem dX2_init_8 : decode cX2_init 8 = .ok (.dup, 1) := by decide +kernel
theorem dX2_init_9 : decode cX2_init 9 = .ok (.invokespecial 9, 3) := by decide +kernel
theorem dX2_init_12 : decode cX2_init 12 = .ok (.putfield 10, 3) := by decide +kernel
theorem dX2_init_15 : decode cX2_init 15 = .ok (.aload_n 0, 1) := by decide +kernel
theorem dX2_init_16 : decode cX2_init 16 = .ok (.new 7, 3) := by decide +kernel
theorem dX2_init_19 : decode cX2_init 19 = .ok (.dup, 1) := by decide +kernel
theorem dX2_init_20 : decode cX2_init 20 = .ok (.invokespecial 9, 3) := by decide +kernel
theorem dX2_init_23 : decode cX2_init 23 = .ok (.putfield 16, 3) := by decide +kernel
theorem dX2_init_26 : decode cX2_init 26 = .ok (.return_, 1) := by decide +kernel
set_option maxRecDepth 20000 in
theorem ggX2_addBatch_X2_isWithin : GoodIn wsX2_addBatch wsX2_isWithin := goodIn_r _ [9] (by decide +kernel) (by decide +kernel)
set_option maxRecDepth 20000 in
theorem gX2_addBatch_X2_isWithin : GoodIn wsX2_addBatch (va_wsS RX2 19 yX2_isWithin wsX2_isWithin) := goodIn_app (goodIn_of _ (by decide +kernel)) ggX2_addBatch_X2_isWithin
set_option maxRecDepth 20000 in
theorem ggX2_addBatch_X1_takeBatch : GoodIn wsX2_addBatch wsX1_takeBatch := goodIn_r _ [14, 15, 16, 17, 18, 19, 20, 21, 22, 23, 26, 27, 28, 29, 30, 31, 32, 33, 34, 35, 36, 37, 38, 39, 40] (by decide +kernel) (by decide +kernel)
set_option maxRecDepth 20000 in
theorem gX2_addBatch_X1_takeBatch : GoodIn wsX2_addBatch (wsV RX2 39 RX1 yX1_takeBatch wsX1_takeBatch) := goodIn_app (goodIn_of _ (by decide +kernel)) ggX2_addBatch_X1_takeBatch
theorem dX2_addBatch_0 : decode cX2_addBatch 0 = .ok (.iload_n 1, 1) := by decide +kernel
theorem dX2_addBatch_1 : decode cX2_addBatch 1 = .ok (.iconst 1, 1) := by decide +kernel
theorem dX2_addBatch_2 : decode cX2_addBatch 2 = .ok (.bipush 99, 2) := by decide +kernel
theorem dX2_addBatch_4 : decode cX2_addBatch 4 = .ok (.invokestatic 19, 3) := by decide +kernel
theorem dX2_addBatch_7 : decode cX2_addBatch 7 = .ok (.ifCond .eq 12, 3) := by decide +kernel
theorem dX2_addBatch_10 : decode cX2_addBatch 10 = .ok (.iload_n 2, 1) := by decide +kernel
theorem dX2_addBatch_11 : decode cX2_addBatch 11 = .ok (.iconst 0, 1) := by decide +kernel
theorem dX2_addBatch_12 : decode cX2_addBatch 12 = .ok (.iconst 5, 1) := by decide +kernel
theorem dX2_addBatch_13 : decode cX2_addBatch 13 = .ok (.invokestatic 19, 3) := by decide +kernel
theorem dX2_addBatch_16 : decode cX2_addBatch 16 = .ok (.ifCond .ne 13, 3) := by decide +kernel
theorem dX2_addBatch_19 : decode cX2_addBatch 19 = .ok (.new 23, 3) := by decide +kernel
theorem dX2_addBatch_22 : decode cX2_addBatch 22 = .ok (.dup, 1) := by decide +kernel
theorem dX2_addBatch_23 : decode cX2_addBatch 23 = .ok (.ldc 25, 2) := by decide +kernel
theorem dX2_addBatch_25 : decode cX2_addBatch 25 = .ok (.invokespecial 27, 3) := by decide +kernel
theorem dX2_addBatch_28 : decode cX2_addBatch 28 = .ok (.athrow, 1) := by decide +kernel
theorem dX2_addBatch_29 : decode cX2_addBatch 29 = .ok (.aload_n 0, 1) := by decide +kernel
theorem dX2_addBatch_30 : decode cX2_addBatch 30 = .ok (.getfield 10, 3) := by decide +kernel
theorem dX2_addBatch_33 : decode cX2_addBatch 33 = .ok (.getfield 30, 3) := by decide +kernel
theorem dX2_addBatch_36 : decode cX2_addBatch 36 = .ok (.bipush 6, 2) := by decide +kernel
theorem dX2_addBatch_38 : decode cX2_addBatch 38 = .ok (.if_icmp .lt 13, 3) := by decide +kernel
theorem dX2_addBatch_41 : decode cX2_addBatch 41 = .ok (.new 34, 3) := by decide +kernel
theorem dX2_addBatch_44 : decode cX2_addBatch 44 = .ok (.dup, 1) := by decide +kernel
theorem dX2_addBatch_45 : decode cX2_addBatch 45 = .ok (.ldc 36, 2) := by decide +kernel
theorem dX2_addBatch_47 : decode cX2_addBatch 47 = .ok (.invokespecial 38, 3) := by decide +kernel
theorem dX2_addBatch_50 : decode cX2_addBatch 50 = .ok (.athrow, 1) := by decide +kernel
theorem dX2_addBatch_51 : decode cX2_addBatch 51 = .ok (.aload_n 0, 1) := by decide +kernel
theorem dX2_addBatch_52 : decode cX2_addBatch 52 = .ok (.getfield 10, 3) := by decide +kernel
theorem dX2_addBatch_55 : decode cX2_addBatch 55 = .ok (.iload_n 1, 1) := by decide +kernel
theorem dX2_addBatch_56 : decode cX2_addBatch 56 = .ok (.iload_n 2, 1) := by decide +kernel
theorem dX2_addBatch_57 : decode cX2_addBatch 57 = .ok (.invokevirtual 39, 3) := by decide +kernel
theorem dX2_addBatch_60 : decode cX2_addBatch 60 = .ok (.ireturn, 1) := by decide +kernel
set_option maxRecDepth 20000 in
theorem ggX2_seal_X2_needBatch : GoodIn wsX2_seal wsX2_needBatch := goodIn_ca (goodIn_r _ [10, 11, 12, 5, 13, 14, 9, 15, 45, 46, 47, 48, 49, 50, 51, 52, 53, 54, 55, 56, 57, 58, 59, 60] (by decide +kernel) (by decide +kernel)) (goodIn_sub (fun _ h => List.mem_cons_of_mem _ (List.mem_append_right _ h)) (by decide +kernel))
set_option maxRecDepth 20000 in
theorem gX2_seal_X2_needBatch : GoodIn wsX2_seal (wsV RX2 43 RX2 yX2_needBatch wsX2_needBatch) := goodIn_app (goodIn_of _ (by decide +kernel)) ggX2_seal_X2_needBatch
set_option maxRecDepth 20000 in
theorem ggX2_seal_X2_needShelf : GoodIn wsX2_seal wsX2_needShelf := goodIn_ca (goodIn_r _ [18, 11, 12, 13, 14, 9, 15] (by decide +kernel) (by decide +kernel)) (goodIn_sub (fun _ h => List.mem_cons_of_mem _ (List.mem_append_right _ h)) (by decide +kernel))
set_option maxRecDepth 20000 in
theorem gX2_seal_X2_needShelf : GoodIn wsX2_seal (va_wsS RX2 47 yX2_needShelf wsX2_needShelf) := goodIn_app (goodIn_of _ (by decide +kernel)) ggX2_seal_X2_needShelf
set_option maxRecDepth 20000 in
theorem ggX2_seal_X2_isWithin : GoodIn wsX2_seal wsX2_isWithin := goodIn_r _ [15] (by decide +kernel) (by decide +kernel)
set_option maxRecDepth 20000 in
theorem gX2_seal_X2_isWithin : GoodIn wsX2_seal (va_wsS RX2 19 yX2_isWithin wsX2_isWithin) := goodIn_app (goodIn_of _ (by decide +kernel)) ggX2_seal_X2_isWithin
set_option maxRecDepth 20000 in
theorem ggX2_seal_X1_isBatchRecalled : GoodIn wsX2_seal wsX1_isBatchRecalled := goodIn_r _ [23, 24, 25, 26, 27, 28, 29, 30, 47, 48, 49, 50, 51, 52, 53, 54, 55, 56, 57, 58, 59, 60, 61] (by decide +kernel) (by decide +kernel)
set_option maxRecDepth 20000 in
theorem gX2_seal_X1_isBatchRecalled : GoodIn wsX2_seal (wsV RX2 55 RX1 yX1_isBatchRecalled wsX1_isBatchRecalled) := goodIn_app (goodIn_of _ (by decide +kernel)) ggX2_seal_X1_isBatchRecalled
set_option maxRecDepth 20000 in
theorem ggX2_seal_X1_takeTins : GoodIn wsX2_seal wsX1_takeTins := goodIn_r _ [34, 35, 36, 37, 38, 39, 40, 41, 42, 43, 28, 44, 30, 25, 26, 27, 29, 47, 48, 49, 50, 51, 52, 53, 54, 55, 56, 57, 58, 59, 60, 61] (by decide +kernel) (by decide +kernel)
set_option maxRecDepth 20000 in
theorem gX2_seal_X1_takeTins : GoodIn wsX2_seal (wsV RX2 61 RX1 yX1_takeTins wsX1_takeTins) := goodIn_app (goodIn_of _ (by decide +kernel)) ggX2_seal_X1_takeTins
theorem dX2_seal_0 : decode cX2_seal 0 = .ok (.aload_n 0, 1) := by decide +kernel
theorem dX2_seal_1 : decode cX2_seal 1 = .ok (.iload_n 1, 1) := by decide +kernel
theorem dX2_seal_2 : decode cX2_seal 2 = .ok (.invokevirtual 43, 3) := by decide +kernel
theorem dX2_seal_5 : decode cX2_seal 5 = .ok (.iload_n 2, 1) := by decide +kernel
theorem dX2_seal_6 : decode cX2_seal 6 = .ok (.invokestatic 47, 3) := by decide +kernel
theorem dX2_seal_9 : decode cX2_seal 9 = .ok (.iload_n 3, 1) := by decide +kernel
theorem dX2_seal_10 : decode cX2_seal 10 = .ok (.iconst 1, 1) := by decide +kernel
theorem dX2_seal_11 : decode cX2_seal 11 = .ok (.bipush 20, 2) := by decide +kernel
theorem dX2_seal_13 : decode cX2_seal 13 = .ok (.invokestatic 19, 3) := by decide +kernel
theorem dX2_seal_16 : decode cX2_seal 16 = .ok (.ifCond .ne 13, 3) := by decide +kernel
theorem dX2_seal_19 : decode cX2_seal 19 = .ok (.new 23, 3) := by decide +kernel
theorem dX2_seal_22 : decode cX2_seal 22 = .ok (.dup, 1) := by decide +kernel
theorem dX2_seal_23 : decode cX2_seal 23 = .ok (.ldc 50, 2) := by decide +kernel
theorem dX2_seal_25 : decode cX2_seal 25 = .ok (.invokespecial 27, 3) := by decide +kernel
theorem dX2_seal_28 : decode cX2_seal 28 = .ok (.athrow, 1) := by decide +kernel
theorem dX2_seal_29 : decode cX2_seal 29 = .ok (.aload_n 0, 1) := by decide +kernel
theorem dX2_seal_30 : decode cX2_seal 30 = .ok (.getfield 10, 3) := by decide +kernel
theorem dX2_seal_33 : decode cX2_seal 33 = .ok (.getfield 52, 3) := by decide +kernel
theorem dX2_seal_36 : decode cX2_seal 36 = .ok (.iload_n 3, 1) := by decide +kernel
theorem dX2_seal_37 : decode cX2_seal 37 = .ok (.iadd, 1) := by decide +kernel
theorem dX2_seal_38 : decode cX2_seal 38 = .ok (.bipush 60, 2) := by decide +kernel
theorem dX2_seal_40 : decode cX2_seal 40 = .ok (.if_icmp .gt 14, 3) := by decide +kernel
theorem dX2_seal_43 : decode cX2_seal 43 = .ok (.aload_n 0, 1) := by decide +kernel
theorem dX2_seal_44 : decode cX2_seal 44 = .ok (.getfield 10, 3) := by decide +kernel
theorem dX2_seal_47 : decode cX2_seal 47 = .ok (.iload_n 1, 1) := by decide +kernel
theorem dX2_seal_48 : decode cX2_seal 48 = .ok (.invokevirtual 55, 3) := by decide +kernel
theorem dX2_seal_51 : decode cX2_seal 51 = .ok (.ifCond .eq 13, 3) := by decide +kernel
theorem dX2_seal_54 : decode cX2_seal 54 = .ok (.new 34, 3) := by decide +kernel
theorem dX2_seal_57 : decode cX2_seal 57 = .ok (.dup, 1) := by decide +kernel
theorem dX2_seal_58 : decode cX2_seal 58 = .ok (.ldc 59, 2) := by decide +kernel
theorem dX2_seal_60 : decode cX2_seal 60 = .ok (.invokespecial 38, 3) := by decide +kernel
theorem dX2_seal_63 : decode cX2_seal 63 = .ok (.athrow, 1) := by decide +kernel
theorem dX2_seal_64 : decode cX2_seal 64 = .ok (.aload_n 0, 1) := by decide +kernel
theorem dX2_seal_65 : decode cX2_seal 65 = .ok (.getfield 10, 3) := by decide +kernel
theorem dX2_seal_68 : decode cX2_seal 68 = .ok (.iload_n 1, 1) := by decide +kernel
theorem dX2_seal_69 : decode cX2_seal 69 = .ok (.iload_n 2, 1) := by decide +kernel
theorem dX2_seal_70 : decode cX2_seal 70 = .ok (.iload_n 3, 1) := by decide +kernel
theorem dX2_seal_71 : decode cX2_seal 71 = .ok (.invokevirtual 61, 3) := by decide +kernel
theorem dX2_seal_74 : decode cX2_seal 74 = .ok (.ireturn, 1) := by decide +kernel
set_option maxRecDepth 20000 in
theorem ggX2_move_X2_needTin : GoodIn wsX2_move wsX2_needTin := goodIn_ca (goodIn_r _ [8, 9, 10, 3, 11, 12, 7, 13, 34, 35, 36, 37, 38, 39, 40, 41, 42, 43, 44, 45, 46, 47, 48, 49] (by decide +kernel) (by decide +kernel)) (goodIn_sub (fun _ h => List.mem_cons_of_mem _ (List.mem_append_right _ h)) (by decide +kernel))
set_option maxRecDepth 20000 in
theorem gX2_move_X2_needTin : GoodIn wsX2_move (wsV RX2 65 RX2 yX2_needTin wsX2_needTin) := goodIn_app (goodIn_of _ (by decide +kernel)) ggX2_move_X2_needTin
set_option maxRecDepth 20000 in
theorem ggX2_move_X2_needShelf : GoodIn wsX2_move wsX2_needShelf := goodIn_ca (goodIn_r _ [16, 9, 10, 11, 12, 7, 13] (by decide +kernel) (by decide +kernel)) (goodIn_sub (fun _ h => List.mem_cons_of_mem _ (List.mem_append_right _ h)) (by decide +kernel))
set_option maxRecDepth 20000 in
theorem gX2_move_X2_needShelf : GoodIn wsX2_move (va_wsS RX2 47 yX2_needShelf wsX2_needShelf) := goodIn_app (goodIn_of _ (by decide +kernel)) ggX2_move_X2_needShelf
set_option maxRecDepth 20000 in
theorem ggX2_move_X1_holds : GoodIn wsX2_move wsX1_holds := goodIn_r _ [21, 22, 23, 24, 25, 26, 27, 28, 36, 37, 38, 39, 40, 41, 42, 43, 44, 45, 46, 47, 48, 49, 50] (by decide +kernel) (by decide +kernel)
set_option maxRecDepth 20000 in
theorem gX2_move_X1_holds : GoodIn wsX2_move (wsV RX2 68 RX1 yX1_holds wsX1_holds) := goodIn_app (goodIn_of _ (by decide +kernel)) ggX2_move_X1_holds
set_option maxRecDepth 20000 in
theorem ggX2_move_X0_get : GoodIn wsX2_move wsX0_get := goodIn_r _ [27, 28, 50] (by decide +kernel) (by decide +kernel)
set_option maxRecDepth 20000 in
theorem gX2_move_X0_get : GoodIn wsX2_move (wsV RX2 77 RX0 yX0_get wsX0_get) := goodIn_app (goodIn_of _ (by decide +kernel)) ggX2_move_X0_get
set_option maxRecDepth 20000 in
theorem ggX2_move_X0_set : GoodIn wsX2_move wsX0_set := goodIn_r _ [33, 28, 50] (by decide +kernel) (by decide +kernel)
set_option maxRecDepth 20000 in
theorem gX2_move_X0_set : GoodIn wsX2_move (wsV RX2 83 RX0 yX0_set wsX0_set) := goodIn_app (goodIn_of _ (by decide +kernel)) ggX2_move_X0_set
theorem dX2_move_0 : decode cX2_move 0 = .ok (.aload_n 0, 1) := by decide +kernel
theorem dX2_move_1 : decode cX2_move 1 = .ok (.iload_n 1, 1) := by decide +kernel
theorem dX2_move_2 : decode cX2_move 2 = .ok (.invokevirtual 65, 3) := by decide +kernel
theorem dX2_move_5 : decode cX2_move 5 = .ok (.iload_n 2, 1) := by decide +kernel
theorem dX2_move_6 : decode cX2_move 6 = .ok (.invokestatic 47, 3) := by decide +kernel
theorem dX2_move_9 : decode cX2_move 9 = .ok (.aload_n 0, 1) := by decide +kernel
theorem dX2_move_10 : decode cX2_move 10 = .ok (.getfield 10, 3) := by decide +kernel
theorem dX2_move_13 : decode cX2_move 13 = .ok (.iload_n 1, 1) := by decide +kernel
theorem dX2_move_14 : decode cX2_move 14 = .ok (.invokevirtual 68, 3) := by decide +kernel
theorem dX2_move_17 : decode cX2_move 17 = .ok (.ifCond .ne 13, 3) := by decide +kernel
theorem dX2_move_20 : decode cX2_move 20 = .ok (.new 34, 3) := by decide +kernel
theorem dX2_move_23 : decode cX2_move 23 = .ok (.dup, 1) := by decide +kernel
theorem dX2_move_24 : decode cX2_move 24 = .ok (.ldc 71, 2) := by decide +kernel
theorem dX2_move_26 : decode cX2_move 26 = .ok (.invokespecial 38, 3) := by decide +kernel
theorem dX2_move_29 : decode cX2_move 29 = .ok (.athrow, 1) := by decide +kernel
theorem dX2_move_30 : decode cX2_move 30 = .ok (.aload_n 0, 1) := by decide +kernel
theorem dX2_move_31 : decode cX2_move 31 = .ok (.getfield 10, 3) := by decide +kernel
theorem dX2_move_34 : decode cX2_move 34 = .ok (.getfield 73, 3) := by decide +kernel
theorem dX2_move_37 : decode cX2_move 37 = .ok (.iload_n 1, 1) := by decide +kernel
theorem dX2_move_38 : decode cX2_move 38 = .ok (.invokevirtual 77, 3) := by decide +kernel
theorem dX2_move_41 : decode cX2_move 41 = .ok (.istore_n 3, 1) := by decide +kernel
theorem dX2_move_42 : decode cX2_move 42 = .ok (.aload_n 0, 1) := by decide +kernel
theorem dX2_move_43 : decode cX2_move 43 = .ok (.getfield 10, 3) := by decide +kernel
theorem dX2_move_46 : decode cX2_move 46 = .ok (.getfield 73, 3) := by decide +kernel
theorem dX2_move_49 : decode cX2_move 49 = .ok (.iload_n 1, 1) := by decide +kernel
theorem dX2_move_50 : decode cX2_move 50 = .ok (.iload_n 2, 1) := by decide +kernel
theorem dX2_move_51 : decode cX2_move 51 = .ok (.invokevirtual 83, 3) := by decide +kernel
theorem dX2_move_54 : decode cX2_move 54 = .ok (.iload_n 3, 1) := by decide +kernel
theorem dX2_move_55 : decode cX2_move 55 = .ok (.ireturn, 1) := by decide +kernel
set_option maxRecDepth 20000 in
theorem ggX2_setWarm_X2_needShelf : GoodIn wsX2_setWarm wsX2_needShelf := goodIn_ca (goodIn_r _ [7, 8, 9, 10, 11, 6, 12] (by decide +kernel) (by decide +kernel)) (goodIn_sub (fun _ h => List.mem_cons_of_mem _ (List.mem_append_right _ h)) (by decide +kernel))
set_option maxRecDepth 20000 in
theorem gX2_setWarm_X2_needShelf : GoodIn wsX2_setWarm (va_wsS RX2 47 yX2_needShelf wsX2_needShelf) := goodIn_app (goodIn_of _ (by decide +kernel)) ggX2_setWarm_X2_needShelf
set_option maxRecDepth 20000 in
theorem ggX2_setWarm_X2_isWithin : GoodIn wsX2_setWarm wsX2_isWithin := goodIn_r _ [12] (by decide +kernel) (by decide +kernel)
set_option maxRecDepth 20000 in
theorem gX2_setWarm_X2_isWithin : GoodIn wsX2_setWarm (va_wsS RX2 19 yX2_isWithin wsX2_isWithin) := goodIn_app (goodIn_of _ (by decide +kernel)) ggX2_setWarm_X2_isWithin
set_option maxRecDepth 20000 in
theorem ggX2_setWarm_X0_get : GoodIn wsX2_setWarm wsX0_get := goodIn_r _ [17, 18, 39] (by decide +kernel) (by decide +kernel)
set_option maxRecDepth 20000 in
theorem gX2_setWarm_X0_get : GoodIn wsX2_setWarm (wsV RX2 77 RX0 yX0_get wsX0_get) := goodIn_app (goodIn_of _ (by decide +kernel)) ggX2_setWarm_X0_get
set_option maxRecDepth 20000 in
theorem ggX2_setWarm_X0_set : GoodIn wsX2_setWarm wsX0_set := goodIn_r _ [22, 18, 39] (by decide +kernel) (by decide +kernel)
set_option maxRecDepth 20000 in
theorem gX2_setWarm_X0_set : GoodIn wsX2_setWarm (wsV RX2 83 RX0 yX0_set wsX0_set) := goodIn_app (goodIn_of _ (by decide +kernel)) ggX2_setWarm_X0_set
theorem dX2_setWarm_0 : decode cX2_setWarm 0 = .ok (.iload_n 1, 1) := by decide +kernel
theorem dX2_setWarm_1 : decode cX2_setWarm 1 = .ok (.invokestatic 47, 3) := by decide +kernel
theorem dX2_setWarm_4 : decode cX2_setWarm 4 = .ok (.iload_n 2, 1) := by decide +kernel
theorem dX2_setWarm_5 : decode cX2_setWarm 5 = .ok (.iconst 0, 1) := by decide +kernel
theorem dX2_setWarm_6 : decode cX2_setWarm 6 = .ok (.iconst 3, 1) := by decide +kernel
theorem dX2_setWarm_7 : decode cX2_setWarm 7 = .ok (.invokestatic 19, 3) := by decide +kernel
theorem dX2_setWarm_10 : decode cX2_setWarm 10 = .ok (.ifCond .ne 13, 3) := by decide +kernel
theorem dX2_setWarm_13 : decode cX2_setWarm 13 = .ok (.new 23, 3) := by decide +kernel
theorem dX2_setWarm_16 : decode cX2_setWarm 16 = .ok (.dup, 1) := by decide +kernel
theorem dX2_setWarm_17 : decode cX2_setWarm 17 = .ok (.ldc 87, 2) := by decide +kernel
theorem dX2_setWarm_19 : decode cX2_setWarm 19 = .ok (.invokespecial 27, 3) := by decide +kernel
theorem dX2_setWarm_22 : decode cX2_setWarm 22 = .ok (.athrow, 1) := by decide +kernel
theorem dX2_setWarm_23 : decode cX2_setWarm 23 = .ok (.aload_n 0, 1) := by decide +kernel
theorem dX2_setWarm_24 : decode cX2_setWarm 24 = .ok (.getfield 10, 3) := by decide +kernel
theorem dX2_setWarm_27 : decode cX2_setWarm 27 = .ok (.getfield 89, 3) := by decide +kernel
theorem dX2_setWarm_30 : decode cX2_setWarm 30 = .ok (.iload_n 1, 1) := by decide +kernel
theorem dX2_setWarm_31 : decode cX2_setWarm 31 = .ok (.invokevirtual 77, 3) := by decide +kernel
theorem dX2_setWarm_34 : decode cX2_setWarm 34 = .ok (.istore_n 3, 1) := by decide +kernel
theorem dX2_setWarm_35 : decode cX2_setWarm 35 = .ok (.aload_n 0, 1) := by decide +kernel
theorem dX2_setWarm_36 : decode cX2_setWarm 36 = .ok (.getfield 10, 3) := by decide +kernel
theorem dX2_setWarm_39 : decode cX2_setWarm 39 = .ok (.getfield 89, 3) := by decide +kernel
theorem dX2_setWarm_42 : decode cX2_setWarm 42 = .ok (.iload_n 1, 1) := by decide +kernel
theorem dX2_setWarm_43 : decode cX2_setWarm 43 = .ok (.iload_n 2, 1) := by decide +kernel
theorem dX2_setWarm_44 : decode cX2_setWarm 44 = .ok (.invokevirtual 83, 3) := by decide +kernel
theorem dX2_setWarm_47 : decode cX2_setWarm 47 = .ok (.iload_n 3, 1) := by decide +kernel
theorem dX2_setWarm_48 : decode cX2_setWarm 48 = .ok (.ireturn, 1) := by decide +kernel
set_option maxRecDepth 20000 in
theorem ggX2_setShipping_X2_needShipping : GoodIn wsX2_setShipping wsX2_needShipping := goodIn_ca (goodIn_r _ [5, 6, 7, 8, 9, 4, 10, 11, 12, 13] (by decide +kernel) (by decide +kernel)) (goodIn_sub (fun _ h => List.mem_cons_of_mem _ (List.mem_append_right _ h)) (by decide +kernel))
set_option maxRecDepth 20000 in
theorem gX2_setShipping_X2_needShipping : GoodIn wsX2_setShipping (va_wsS RX2 92 yX2_needShipping wsX2_needShipping) := goodIn_app (goodIn_of _ (by decide +kernel)) ggX2_setShipping_X2_needShipping
theorem dX2_setShipping_0 : decode cX2_setShipping 0 = .ok (.iload_n 1, 1) := by decide +kernel
theorem dX2_setShipping_1 : decode cX2_setShipping 1 = .ok (.iload_n 2, 1) := by decide +kernel
theorem dX2_setShipping_2 : decode cX2_setShipping 2 = .ok (.invokestatic 92, 3) := by decide +kernel
theorem dX2_setShipping_5 : decode cX2_setShipping 5 = .ok (.aload_n 0, 1) := by decide +kernel
theorem dX2_setShipping_6 : decode cX2_setShipping 6 = .ok (.getfield 10, 3) := by decide +kernel
theorem dX2_setShipping_9 : decode cX2_setShipping 9 = .ok (.getfield 95, 3) := by decide +kernel
theorem dX2_setShipping_12 : decode cX2_setShipping 12 = .ok (.istore_n 3, 1) := by decide +kernel
theorem dX2_setShipping_13 : decode cX2_setShipping 13 = .ok (.aload_n 0, 1) := by decide +kernel
theorem dX2_setShipping_14 : decode cX2_setShipping 14 = .ok (.getfield 10, 3) := by decide +kernel
theorem dX2_setShipping_17 : decode cX2_setShipping 17 = .ok (.iload_n 1, 1) := by decide +kernel
theorem dX2_setShipping_18 : decode cX2_setShipping 18 = .ok (.putfield 95, 3) := by decide +kernel
theorem dX2_setShipping_21 : decode cX2_setShipping 21 = .ok (.aload_n 0, 1) := by decide +kernel
theorem dX2_setShipping_22 : decode cX2_setShipping 22 = .ok (.getfield 10, 3) := by decide +kernel
theorem dX2_setShipping_25 : decode cX2_setShipping 25 = .ok (.iload_n 2, 1) := by decide +kernel
theorem dX2_setShipping_26 : decode cX2_setShipping 26 = .ok (.putfield 98, 3) := by decide +kernel
theorem dX2_setShipping_29 : decode cX2_setShipping 29 = .ok (.iload_n 3, 1) := by decide +kernel
theorem dX2_setShipping_30 : decode cX2_setShipping 30 = .ok (.ireturn, 1) := by decide +kernel
set_option maxRecDepth 20000 in
theorem ggX2_recall_X2_needBatch : GoodIn wsX2_recall wsX2_needBatch := goodIn_ca (goodIn_r _ [8, 9, 10, 3, 11, 12, 7, 13, 37, 38, 39, 40, 41, 42, 43, 44, 45, 46, 47, 48, 49, 50, 51, 52] (by decide +kernel) (by decide +kernel)) (goodIn_sub (fun _ h => List.mem_cons_of_mem _ (List.mem_append_right _ h)) (by decide +kernel))
set_option maxRecDepth 20000 in
theorem gX2_recall_X2_needBatch : GoodIn wsX2_recall (wsV RX2 43 RX2 yX2_needBatch wsX2_needBatch) := goodIn_app (goodIn_of _ (by decide +kernel)) ggX2_recall_X2_needBatch
set_option maxRecDepth 20000 in
theorem ggX2_recall_X1_isBatchRecalled : GoodIn wsX2_recall wsX1_isBatchRecalled := goodIn_r _ [18, 19, 20, 21, 22, 23, 24, 25, 39, 40, 41, 42, 43, 44, 45, 46, 47, 48, 49, 50, 51, 52, 53] (by decide +kernel) (by decide +kernel)
set_option maxRecDepth 20000 in
theorem gX2_recall_X1_isBatchRecalled : GoodIn wsX2_recall (wsV RX2 55 RX1 yX1_isBatchRecalled wsX1_isBatchRecalled) := goodIn_app (goodIn_of _ (by decide +kernel)) ggX2_recall_X1_isBatchRecalled
set_option maxRecDepth 20000 in
theorem ggX2_recall_X1_recallBatch : GoodIn wsX2_recall wsX1_recallBatch := goodIn_r _ [29, 19, 30, 31, 32, 33, 34, 35, 23, 36, 25, 20, 21, 22, 24, 39, 40, 41, 42, 43, 44, 45, 46, 47, 48, 49, 50, 51, 52, 53] (by decide +kernel) (by decide +kernel)
set_option maxRecDepth 20000 in
theorem gX2_recall_X1_recallBatch : GoodIn wsX2_recall (wsV RX2 103 RX1 yX1_recallBatch wsX1_recallBatch) := goodIn_app (goodIn_of _ (by decide +kernel)) ggX2_recall_X1_recallBatch
theorem dX2_recall_0 : decode cX2_recall 0 = .ok (.aload_n 0, 1) := by decide +kernel
theorem dX2_recall_1 : decode cX2_recall 1 = .ok (.iload_n 1, 1) := by decide +kernel
theorem dX2_recall_2 : decode cX2_recall 2 = .ok (.invokevirtual 43, 3) := by decide +kernel
theorem dX2_recall_5 : decode cX2_recall 5 = .ok (.aload_n 0, 1) := by decide +kernel
theorem dX2_recall_6 : decode cX2_recall 6 = .ok (.getfield 10, 3) := by decide +kernel
theorem dX2_recall_9 : decode cX2_recall 9 = .ok (.iload_n 1, 1) := by decide +kernel
theorem dX2_recall_10 : decode cX2_recall 10 = .ok (.invokevirtual 55, 3) := by decide +kernel
theorem dX2_recall_13 : decode cX2_recall 13 = .ok (.ifCond .eq 13, 3) := by decide +kernel
theorem dX2_recall_16 : decode cX2_recall 16 = .ok (.new 34, 3) := by decide +kernel
theorem dX2_recall_19 : decode cX2_recall 19 = .ok (.dup, 1) := by decide +kernel
theorem dX2_recall_20 : decode cX2_recall 20 = .ok (.ldc 101, 2) := by decide +kernel
theorem dX2_recall_22 : decode cX2_recall 22 = .ok (.invokespecial 38, 3) := by decide +kernel
theorem dX2_recall_25 : decode cX2_recall 25 = .ok (.athrow, 1) := by decide +kernel
theorem dX2_recall_26 : decode cX2_recall 26 = .ok (.aload_n 0, 1) := by decide +kernel
theorem dX2_recall_27 : decode cX2_recall 27 = .ok (.getfield 10, 3) := by decide +kernel
theorem dX2_recall_30 : decode cX2_recall 30 = .ok (.iload_n 1, 1) := by decide +kernel
theorem dX2_recall_31 : decode cX2_recall 31 = .ok (.invokevirtual 103, 3) := by decide +kernel
theorem dX2_recall_34 : decode cX2_recall 34 = .ok (.ireturn, 1) := by decide +kernel
set_option maxRecDepth 20000 in
theorem ggX2_pass_X2_isWithin : GoodIn wsX2_pass wsX2_isWithin := goodIn_r _ [7] (by decide +kernel) (by decide +kernel)
set_option maxRecDepth 20000 in
theorem gX2_pass_X2_isWithin : GoodIn wsX2_pass (va_wsS RX2 19 yX2_isWithin wsX2_isWithin) := goodIn_app (goodIn_of _ (by decide +kernel)) ggX2_pass_X2_isWithin
set_option maxRecDepth 20000 in
theorem ggX2_pass_X1_countAt : GoodIn wsX2_pass wsX1_countAt := goodIn_r _ [12, 13, 14, 15, 16, 17, 18, 19, 20, 86, 87, 88, 89, 90, 91, 92, 93, 94, 95, 96, 97, 98, 99, 100] (by decide +kernel) (by decide +kernel)
set_option maxRecDepth 20000 in
theorem gX2_pass_X1_countAt : GoodIn wsX2_pass (wsV RX2 108 RX1 yX1_countAt wsX1_countAt) := goodIn_app (goodIn_of _ (by decide +kernel)) ggX2_pass_X1_countAt
set_option maxRecDepth 20000 in
theorem ggX2_pass_X1_passDay : GoodIn wsX2_pass wsX1_passDay := goodIn_r _ [24, 25, 26, 27, 28, 29, 30, 11, 31, 13, 32, 33, 34, 35, 36, 37, 38, 39, 40, 41, 14, 15, 16, 17, 18, 19, 20, 42, 43, 44, 45, 46, 47, 48, 49, 50, 51, 52, 53, 54, 55, 56, 57, 58, 59, 60, 61, 62, 63, 64, 65, 66, 67, 68, 69, 70, 71, 72, 73, 74, 75, 76, 77, 78, 79, 80, 81, 82, 83, 86, 87, 88, 89, 90, 91, 92, 93, 94, 95, 96, 97, 98, 99, 100] (by decide +kernel) (by decide +kernel)
set_option maxRecDepth 20000 in
theorem gX2_pass_X1_passDay : GoodIn wsX2_pass (wsV RX2 111 RX1 yX1_passDay wsX1_passDay) := goodIn_app (goodIn_of _ (by decide +kernel)) ggX2_pass_X1_passDay
theorem dX2_pass_0 : decode cX2_pass 0 = .ok (.iload_n 1, 1) := by decide +kernel
theorem dX2_pass_1 : decode cX2_pass 1 = .ok (.iconst 1, 1) := by decide +kernel
theorem dX2_pass_2 : decode cX2_pass 2 = .ok (.bipush 60, 2) := by decide +kernel
theorem dX2_pass_4 : decode cX2_pass 4 = .ok (.invokestatic 19, 3) := by decide +kernel
theorem dX2_pass_7 : decode cX2_pass 7 = .ok (.ifCond .ne 13, 3) := by decide +kernel
theorem dX2_pass_10 : decode cX2_pass 10 = .ok (.new 23, 3) := by decide +kernel
theorem dX2_pass_13 : decode cX2_pass 13 = .ok (.dup, 1) := by decide +kernel
theorem dX2_pass_14 : decode cX2_pass 14 = .ok (.ldc 106, 2) := by decide +kernel
theorem dX2_pass_16 : decode cX2_pass 16 = .ok (.invokespecial 27, 3) := by decide +kernel
theorem dX2_pass_19 : decode cX2_pass 19 = .ok (.athrow, 1) := by decide +kernel
theorem dX2_pass_20 : decode cX2_pass 20 = .ok (.aload_n 0, 1) := by decide +kernel
theorem dX2_pass_21 : decode cX2_pass 21 = .ok (.getfield 10, 3) := by decide +kernel
theorem dX2_pass_24 : decode cX2_pass 24 = .ok (.iconst 2, 1) := by decide +kernel
theorem dX2_pass_25 : decode cX2_pass 25 = .ok (.invokevirtual 108, 3) := by decide +kernel
theorem dX2_pass_28 : decode cX2_pass 28 = .ok (.istore_n 2, 1) := by decide +kernel
theorem dX2_pass_29 : decode cX2_pass 29 = .ok (.iconst 0, 1) := by decide +kernel
theorem dX2_pass_30 : decode cX2_pass 30 = .ok (.istore_n 3, 1) := by decide +kernel
theorem dX2_pass_31 : decode cX2_pass 31 = .ok (.iload_n 3, 1) := by decide +kernel
theorem dX2_pass_32 : decode cX2_pass 32 = .ok (.iload_n 1, 1) := by decide +kernel
theorem dX2_pass_33 : decode cX2_pass 33 = .ok (.if_icmp .ge 16, 3) := by decide +kernel
theorem dX2_pass_36 : decode cX2_pass 36 = .ok (.aload_n 0, 1) := by decide +kernel
theorem dX2_pass_37 : decode cX2_pass 37 = .ok (.getfield 10, 3) := by decide +kernel
theorem dX2_pass_40 : decode cX2_pass 40 = .ok (.invokevirtual 111, 3) := by decide +kernel
theorem dX2_pass_43 : decode cX2_pass 43 = .ok (.iinc 3 1, 3) := by decide +kernel
theorem dX2_pass_46 : decode cX2_pass 46 = .ok (.goto (-15), 3) := by decide +kernel
theorem dX2_pass_49 : decode cX2_pass 49 = .ok (.aload_n 0, 1) := by decide +kernel
theorem dX2_pass_50 : decode cX2_pass 50 = .ok (.getfield 10, 3) := by decide +kernel
theorem dX2_pass_53 : decode cX2_pass 53 = .ok (.iconst 2, 1) := by decide +kernel
theorem dX2_pass_54 : decode cX2_pass 54 = .ok (.invokevirtual 108, 3) := by decide +kernel
theorem dX2_pass_57 : decode cX2_pass 57 = .ok (.iload_n 2, 1) := by decide +kernel
theorem dX2_pass_58 : decode cX2_pass 58 = .ok (.isub, 1) := by decide +kernel
theorem dX2_pass_59 : decode cX2_pass 59 = .ok (.ireturn, 1) := by decide +kernel
theorem dX2_day_0 : decode cX2_day 0 = .ok (.aload_n 0, 1) := by decide +kernel
theorem dX2_day_1 : decode cX2_day 1 = .ok (.getfield 10, 3) := by decide +kernel
theorem dX2_day_4 : decode cX2_day 4 = .ok (.getfield 114, 3) := by decide +kernel
theorem dX2_day_7 : decode cX2_day 7 = .ok (.ireturn, 1) := by decide +kernel
theorem dX2_batches_0 : decode cX2_batches 0 = .ok (.aload_n 0, 1) := by decide +kernel
theorem dX2_batches_1 : decode cX2_batches 1 = .ok (.getfield 10, 3) := by decide +kernel
theorem dX2_batches_4 : decode cX2_batches 4 = .ok (.getfield 30, 3) := by decide +kernel
theorem dX2_batches_7 : decode cX2_batches 7 = .ok (.ireturn, 1) := by decide +kernel
theorem dX2_tins_0 : decode cX2_tins 0 = .ok (.aload_n 0, 1) := by decide +kernel
theorem dX2_tins_1 : decode cX2_tins 1 = .ok (.getfield 10, 3) := by decide +kernel
theorem dX2_tins_4 : decode cX2_tins 4 = .ok (.getfield 52, 3) := by decide +kernel
theorem dX2_tins_7 : decode cX2_tins 7 = .ok (.ireturn, 1) := by decide +kernel
set_option maxRecDepth 20000 in
theorem ggX2_inCellar_X1_countAt : GoodIn wsX2_inCellar wsX1_countAt := goodIn_r _ [6, 7, 8, 9, 10, 11, 12, 13, 14, 17, 18, 19, 20, 21, 22, 23, 24, 25, 26, 27, 28, 29, 30, 31] (by decide +kernel) (by decide +kernel)
set_option maxRecDepth 20000 in
theorem gX2_inCellar_X1_countAt : GoodIn wsX2_inCellar (wsV RX2 108 RX1 yX1_countAt wsX1_countAt) := goodIn_app (goodIn_of _ (by decide +kernel)) ggX2_inCellar_X1_countAt
theorem dX2_inCellar_0 : decode cX2_inCellar 0 = .ok (.aload_n 0, 1) := by decide +kernel
theorem dX2_inCellar_1 : decode cX2_inCellar 1 = .ok (.getfield 10, 3) := by decide +kernel
theorem dX2_inCellar_4 : decode cX2_inCellar 4 = .ok (.iconst 1, 1) := by decide +kernel
theorem dX2_inCellar_5 : decode cX2_inCellar 5 = .ok (.invokevirtual 108, 3) := by decide +kernel
theorem dX2_inCellar_8 : decode cX2_inCellar 8 = .ok (.ireturn, 1) := by decide +kernel
set_option maxRecDepth 20000 in
theorem ggX2_shipped_X1_countAt : GoodIn wsX2_shipped wsX1_countAt := goodIn_r _ [6, 7, 8, 9, 10, 11, 12, 13, 14, 17, 18, 19, 20, 21, 22, 23, 24, 25, 26, 27, 28, 29, 30, 31] (by decide +kernel) (by decide +kernel)
set_option maxRecDepth 20000 in
theorem gX2_shipped_X1_countAt : GoodIn wsX2_shipped (wsV RX2 108 RX1 yX1_countAt wsX1_countAt) := goodIn_app (goodIn_of _ (by decide +kernel)) ggX2_shipped_X1_countAt
theorem dX2_shipped_0 : decode cX2_shipped 0 = .ok (.aload_n 0, 1) := by decide +kernel
theorem dX2_shipped_1 : decode cX2_shipped 1 = .ok (.getfield 10, 3) := by decide +kernel
theorem dX2_shipped_4 : decode cX2_shipped 4 = .ok (.iconst 2, 1) := by decide +kernel
theorem dX2_shipped_5 : decode cX2_shipped 5 = .ok (.invokevirtual 108, 3) := by decide +kernel
theorem dX2_shipped_8 : decode cX2_shipped 8 = .ok (.ireturn, 1) := by decide +kernel
set_option maxRecDepth 20000 in
theorem ggX2_lost_X1_countAt : GoodIn wsX2_lost wsX1_countAt := goodIn_r _ [6, 7, 8, 9, 10, 11, 12, 13, 14, 17, 18, 19, 20, 21, 22, 23, 24, 25, 26, 27, 28, 29, 30, 31] (by decide +kernel) (by decide +kernel)
set_option maxRecDepth 20000 in
theorem gX2_lost_X1_countAt : GoodIn wsX2_lost (wsV RX2 108 RX1 yX1_countAt wsX1_countAt) := goodIn_app (goodIn_of _ (by decide +kernel)) ggX2_lost_X1_countAt
theorem dX2_lost_0 : decode cX2_lost 0 = .ok (.aload_n 0, 1) := by decide +kernel
theorem dX2_lost_1 : decode cX2_lost 1 = .ok (.getfield 10, 3) := by decide +kernel
theorem dX2_lost_4 : decode cX2_lost 4 = .ok (.iconst 3, 1) := by decide +kernel
theorem dX2_lost_5 : decode cX2_lost 5 = .ok (.invokevirtual 108, 3) := by decide +kernel
theorem dX2_lost_8 : decode cX2_lost 8 = .ok (.ireturn, 1) := by decide +kernel
set_option maxRecDepth 20000 in
theorem ggX2_swelled_X0_get : GoodIn wsX2_swelled wsX0_get := goodIn_r _ [6, 7, 24] (by decide +kernel) (by decide +kernel)
set_option maxRecDepth 20000 in
theorem gX2_swelled_X0_get : GoodIn wsX2_swelled (wsV RX2 77 RX0 yX0_get wsX0_get) := goodIn_app (goodIn_of _ (by decide +kernel)) ggX2_swelled_X0_get
theorem dX2_swelled_0 : decode cX2_swelled 0 = .ok (.iconst 0, 1) := by decide +kernel
theorem dX2_swelled_1 : decode cX2_swelled 1 = .ok (.istore_n 1, 1) := by decide +kernel
theorem dX2_swelled_2 : decode cX2_swelled 2 = .ok (.iconst 0, 1) := by decide +kernel
theorem dX2_swelled_3 : decode cX2_swelled 3 = .ok (.istore_n 2, 1) := by decide +kernel
theorem dX2_swelled_4 : decode cX2_swelled 4 = .ok (.iload_n 2, 1) := by decide +kernel
theorem dX2_swelled_5 : decode cX2_swelled 5 = .ok (.aload_n 0, 1) := by decide +kernel
theorem dX2_swelled_6 : decode cX2_swelled 6 = .ok (.getfield 10, 3) := by decide +kernel
theorem dX2_swelled_9 : decode cX2_swelled 9 = .ok (.getfield 30, 3) := by decide +kernel
theorem dX2_swelled_12 : decode cX2_swelled 12 = .ok (.if_icmp .ge 23, 3) := by decide +kernel
theorem dX2_swelled_15 : decode cX2_swelled 15 = .ok (.iload_n 1, 1) := by decide +kernel
theorem dX2_swelled_16 : decode cX2_swelled 16 = .ok (.aload_n 0, 1) := by decide +kernel
theorem dX2_swelled_17 : decode cX2_swelled 17 = .ok (.getfield 10, 3) := by decide +kernel
theorem dX2_swelled_20 : decode cX2_swelled 20 = .ok (.getfield 117, 3) := by decide +kernel
theorem dX2_swelled_23 : decode cX2_swelled 23 = .ok (.iload_n 2, 1) := by decide +kernel
theorem dX2_swelled_24 : decode cX2_swelled 24 = .ok (.invokevirtual 77, 3) := by decide +kernel
theorem dX2_swelled_27 : decode cX2_swelled 27 = .ok (.iadd, 1) := by decide +kernel
theorem dX2_swelled_28 : decode cX2_swelled 28 = .ok (.istore_n 1, 1) := by decide +kernel
theorem dX2_swelled_29 : decode cX2_swelled 29 = .ok (.iinc 2 1, 3) := by decide +kernel
theorem dX2_swelled_32 : decode cX2_swelled 32 = .ok (.goto (-28), 3) := by decide +kernel
theorem dX2_swelled_35 : decode cX2_swelled 35 = .ok (.iload_n 1, 1) := by decide +kernel
theorem dX2_swelled_36 : decode cX2_swelled 36 = .ok (.ireturn, 1) := by decide +kernel
set_option maxRecDepth 20000 in
theorem ggX2_standOn_X2_needShelf : GoodIn wsX2_standOn wsX2_needShelf := goodIn_ca (goodIn_r _ [5, 6, 7, 8, 9, 4, 10] (by decide +kernel) (by decide +kernel)) (goodIn_sub (fun _ h => List.mem_cons_of_mem _ (List.mem_append_right _ h)) (by decide +kernel))
set_option maxRecDepth 20000 in
theorem gX2_standOn_X2_needShelf : GoodIn wsX2_standOn (va_wsS RX2 47 yX2_needShelf wsX2_needShelf) := goodIn_app (goodIn_of _ (by decide +kernel)) ggX2_standOn_X2_needShelf
set_option maxRecDepth 20000 in
theorem ggX2_standOn_X1_countHeldWith : GoodIn wsX2_standOn wsX1_countHeldWith := goodIn_r _ [15, 16, 17, 18, 19, 14, 20, 21, 22, 23, 24, 25, 26, 27, 30, 31, 32, 33, 34, 35, 36, 37, 38, 39, 40, 41, 42, 43, 44] (by decide +kernel) (by decide +kernel)
set_option maxRecDepth 20000 in
theorem gX2_standOn_X1_countHeldWith : GoodIn wsX2_standOn (wsV RX2 120 RX1 yX1_countHeldWith wsX1_countHeldWith) := goodIn_app (goodIn_of _ (by decide +kernel)) ggX2_standOn_X1_countHeldWith
theorem dX2_standOn_0 : decode cX2_standOn 0 = .ok (.iload_n 1, 1) := by decide +kernel
theorem dX2_standOn_1 : decode cX2_standOn 1 = .ok (.invokestatic 47, 3) := by decide +kernel
theorem dX2_standOn_4 : decode cX2_standOn 4 = .ok (.aload_n 0, 1) := by decide +kernel
theorem dX2_standOn_5 : decode cX2_standOn 5 = .ok (.getfield 10, 3) := by decide +kernel
theorem dX2_standOn_8 : decode cX2_standOn 8 = .ok (.aload_n 0, 1) := by decide +kernel
theorem dX2_standOn_9 : decode cX2_standOn 9 = .ok (.getfield 10, 3) := by decide +kernel
theorem dX2_standOn_12 : decode cX2_standOn 12 = .ok (.getfield 73, 3) := by decide +kernel
theorem dX2_standOn_15 : decode cX2_standOn 15 = .ok (.iload_n 1, 1) := by decide +kernel
theorem dX2_standOn_16 : decode cX2_standOn 16 = .ok (.invokevirtual 120, 3) := by decide +kernel
theorem dX2_standOn_19 : decode cX2_standOn 19 = .ok (.ireturn, 1) := by decide +kernel
set_option maxRecDepth 20000 in
theorem ggX2_warmOf_X2_needShelf : GoodIn wsX2_warmOf wsX2_needShelf := goodIn_ca (goodIn_r _ [5, 6, 7, 8, 9, 4, 10] (by decide +kernel) (by decide +kernel)) (goodIn_sub (fun _ h => List.mem_cons_of_mem _ (List.mem_append_right _ h)) (by decide +kernel))
set_option maxRecDepth 20000 in
theorem gX2_warmOf_X2_needShelf : GoodIn wsX2_warmOf (va_wsS RX2 47 yX2_needShelf wsX2_needShelf) := goodIn_app (goodIn_of _ (by decide +kernel)) ggX2_warmOf_X2_needShelf
set_option maxRecDepth 20000 in
theorem ggX2_warmOf_X0_get : GoodIn wsX2_warmOf wsX0_get := goodIn_r _ [15, 16, 33] (by decide +kernel) (by decide +kernel)
set_option maxRecDepth 20000 in
theorem gX2_warmOf_X0_get : GoodIn wsX2_warmOf (wsV RX2 77 RX0 yX0_get wsX0_get) := goodIn_app (goodIn_of _ (by decide +kernel)) ggX2_warmOf_X0_get
theorem dX2_warmOf_0 : decode cX2_warmOf 0 = .ok (.iload_n 1, 1) := by decide +kernel
theorem dX2_warmOf_1 : decode cX2_warmOf 1 = .ok (.invokestatic 47, 3) := by decide +kernel
theorem dX2_warmOf_4 : decode cX2_warmOf 4 = .ok (.aload_n 0, 1) := by decide +kernel
theorem dX2_warmOf_5 : decode cX2_warmOf 5 = .ok (.getfield 10, 3) := by decide +kernel
theorem dX2_warmOf_8 : decode cX2_warmOf 8 = .ok (.getfield 89, 3) := by decide +kernel
theorem dX2_warmOf_11 : decode cX2_warmOf 11 = .ok (.iload_n 1, 1) := by decide +kernel
theorem dX2_warmOf_12 : decode cX2_warmOf 12 = .ok (.invokevirtual 77, 3) := by decide +kernel
theorem dX2_warmOf_15 : decode cX2_warmOf 15 = .ok (.ireturn, 1) := by decide +kernel
set_option maxRecDepth 20000 in
theorem ggX2_batchOf_X2_needTin : GoodIn wsX2_batchOf wsX2_needTin := goodIn_ca (goodIn_r _ [6, 7, 8, 1, 9, 10, 5, 11, 18, 19, 20, 21, 22, 23, 24, 25, 26, 27, 28, 29, 30, 31, 32, 33] (by decide +kernel) (by decide +kernel)) (goodIn_sub (fun _ h => List.mem_cons_of_mem _ (List.mem_append_right _ h)) (by decide +kernel))
set_option maxRecDepth 20000 in
theorem gX2_batchOf_X2_needTin : GoodIn wsX2_batchOf (wsV RX2 65 RX2 yX2_needTin wsX2_needTin) := goodIn_app (goodIn_of _ (by decide +kernel)) ggX2_batchOf_X2_needTin
set_option maxRecDepth 20000 in
theorem ggX2_batchOf_X0_get : GoodIn wsX2_batchOf wsX0_get := goodIn_r _ [16, 17, 34] (by decide +kernel) (by decide +kernel)
set_option maxRecDepth 20000 in
theorem gX2_batchOf_X0_get : GoodIn wsX2_batchOf (wsV RX2 77 RX0 yX0_get wsX0_get) := goodIn_app (goodIn_of _ (by decide +kernel)) ggX2_batchOf_X0_get
theorem dX2_batchOf_0 : decode cX2_batchOf 0 = .ok (.aload_n 0, 1) := by decide +kernel
theorem dX2_batchOf_1 : decode cX2_batchOf 1 = .ok (.iload_n 1, 1) := by decide +kernel
theorem dX2_batchOf_2 : decode cX2_batchOf 2 = .ok (.invokevirtual 65, 3) := by decide +kernel
theorem dX2_batchOf_5 : decode cX2_batchOf 5 = .ok (.aload_n 0, 1) := by decide +kernel
theorem dX2_batchOf_6 : decode cX2_batchOf 6 = .ok (.getfield 10, 3) := by decide +kernel
theorem dX2_batchOf_9 : decode cX2_batchOf 9 = .ok (.getfield 124, 3) := by decide +kernel
theorem dX2_batchOf_12 : decode cX2_batchOf 12 = .ok (.iload_n 1, 1) := by decide +kernel
theorem dX2_batchOf_13 : decode cX2_batchOf 13 = .ok (.invokevirtual 77, 3) := by decide +kernel
theorem dX2_batchOf_16 : decode cX2_batchOf 16 = .ok (.ireturn, 1) := by decide +kernel
set_option maxRecDepth 20000 in
theorem ggX2_shelfOf_X2_needTin : GoodIn wsX2_shelfOf wsX2_needTin := goodIn_ca (goodIn_r _ [6, 7, 8, 1, 9, 10, 5, 11, 25, 26, 27, 28, 29, 30, 31, 32, 33, 34, 35, 36, 37, 38, 39, 40] (by decide +kernel) (by decide +kernel)) (goodIn_sub (fun _ h => List.mem_cons_of_mem _ (List.mem_append_right _ h)) (by decide +kernel))
set_option maxRecDepth 20000 in
theorem gX2_shelfOf_X2_needTin : GoodIn wsX2_shelfOf (wsV RX2 65 RX2 yX2_needTin wsX2_needTin) := goodIn_app (goodIn_of _ (by decide +kernel)) ggX2_shelfOf_X2_needTin
set_option maxRecDepth 20000 in
theorem ggX2_shelfOf_X1_holds : GoodIn wsX2_shelfOf wsX1_holds := goodIn_r _ [16, 17, 18, 19, 20, 21, 22, 23, 27, 28, 29, 30, 31, 32, 33, 34, 35, 36, 37, 38, 39, 40, 41] (by decide +kernel) (by decide +kernel)
set_option maxRecDepth 20000 in
theorem gX2_shelfOf_X1_holds : GoodIn wsX2_shelfOf (wsV RX2 68 RX1 yX1_holds wsX1_holds) := goodIn_app (goodIn_of _ (by decide +kernel)) ggX2_shelfOf_X1_holds
set_option maxRecDepth 20000 in
theorem ggX2_shelfOf_X0_get : GoodIn wsX2_shelfOf wsX0_get := goodIn_r _ [22, 23, 41] (by decide +kernel) (by decide +kernel)
set_option maxRecDepth 20000 in
theorem gX2_shelfOf_X0_get : GoodIn wsX2_shelfOf (wsV RX2 77 RX0 yX0_get wsX0_get) := goodIn_app (goodIn_of _ (by decide +kernel)) ggX2_shelfOf_X0_get
theorem dX2_shelfOf_0 : decode cX2_shelfOf 0 = .ok (.aload_n 0, 1) := by decide +kernel
theorem dX2_shelfOf_1 : decode cX2_shelfOf 1 = .ok (.iload_n 1, 1) := by decide +kernel
theorem dX2_shelfOf_2 : decode cX2_shelfOf 2 = .ok (.invokevirtual 65, 3) := by decide +kernel
theorem dX2_shelfOf_5 : decode cX2_shelfOf 5 = .ok (.aload_n 0, 1) := by decide +kernel
theorem dX2_shelfOf_6 : decode cX2_shelfOf 6 = .ok (.getfield 10, 3) := by decide +kernel
theorem dX2_shelfOf_9 : decode cX2_shelfOf 9 = .ok (.iload_n 1, 1) := by decide +kernel
theorem dX2_shelfOf_10 : decode cX2_shelfOf 10 = .ok (.invokevirtual 68, 3) := by decide +kernel
theorem dX2_shelfOf_13 : decode cX2_shelfOf 13 = .ok (.ifCond .eq 17, 3) := by decide +kernel
theorem dX2_shelfOf_16 : decode cX2_shelfOf 16 = .ok (.aload_n 0, 1) := by decide +kernel
theorem dX2_shelfOf_17 : decode cX2_shelfOf 17 = .ok (.getfield 10, 3) := by decide +kernel
theorem dX2_shelfOf_20 : decode cX2_shelfOf 20 = .ok (.getfield 73, 3) := by decide +kernel
theorem dX2_shelfOf_23 : decode cX2_shelfOf 23 = .ok (.iload_n 1, 1) := by decide +kernel
theorem dX2_shelfOf_24 : decode cX2_shelfOf 24 = .ok (.invokevirtual 77, 3) := by decide +kernel
theorem dX2_shelfOf_27 : decode cX2_shelfOf 27 = .ok (.goto 4, 3) := by decide +kernel
theorem dX2_shelfOf_30 : decode cX2_shelfOf 30 = .ok (.iconst (-1), 1) := by decide +kernel
theorem dX2_shelfOf_31 : decode cX2_shelfOf 31 = .ok (.ireturn, 1) := by decide +kernel
set_option maxRecDepth 20000 in
theorem ggX2_vacuumOf_X2_needTin : GoodIn wsX2_vacuumOf wsX2_needTin := goodIn_ca (goodIn_r _ [6, 7, 8, 1, 9, 10, 5, 11, 18, 19, 20, 21, 22, 23, 24, 25, 26, 27, 28, 29, 30, 31, 32, 33] (by decide +kernel) (by decide +kernel)) (goodIn_sub (fun _ h => List.mem_cons_of_mem _ (List.mem_append_right _ h)) (by decide +kernel))
set_option maxRecDepth 20000 in
theorem gX2_vacuumOf_X2_needTin : GoodIn wsX2_vacuumOf (wsV RX2 65 RX2 yX2_needTin wsX2_needTin) := goodIn_app (goodIn_of _ (by decide +kernel)) ggX2_vacuumOf_X2_needTin
set_option maxRecDepth 20000 in
theorem ggX2_vacuumOf_X0_get : GoodIn wsX2_vacuumOf wsX0_get := goodIn_r _ [16, 17, 34] (by decide +kernel) (by decide +kernel)
set_option maxRecDepth 20000 in
theorem gX2_vacuumOf_X0_get : GoodIn wsX2_vacuumOf (wsV RX2 77 RX0 yX0_get wsX0_get) := goodIn_app (goodIn_of _ (by decide +kernel)) ggX2_vacuumOf_X0_get
theorem dX2_vacuumOf_0 : decode cX2_vacuumOf 0 = .ok (.aload_n 0, 1) := by decide +kernel
theorem dX2_vacuumOf_1 : decode cX2_vacuumOf 1 = .ok (.iload_n 1, 1) := by decide +kernel
theorem dX2_vacuumOf_2 : decode cX2_vacuumOf 2 = .ok (.invokevirtual 65, 3) := by decide +kernel
theorem dX2_vacuumOf_5 : decode cX2_vacuumOf 5 = .ok (.aload_n 0, 1) := by decide +kernel
theorem dX2_vacuumOf_6 : decode cX2_vacuumOf 6 = .ok (.getfield 10, 3) := by decide +kernel
theorem dX2_vacuumOf_9 : decode cX2_vacuumOf 9 = .ok (.getfield 127, 3) := by decide +kernel
theorem dX2_vacuumOf_12 : decode cX2_vacuumOf 12 = .ok (.iload_n 1, 1) := by decide +kernel
theorem dX2_vacuumOf_13 : decode cX2_vacuumOf 13 = .ok (.invokevirtual 77, 3) := by decide +kernel
theorem dX2_vacuumOf_16 : decode cX2_vacuumOf 16 = .ok (.ireturn, 1) := by decide +kernel
set_option maxRecDepth 20000 in
theorem ggX2_isShipped_X2_needTin : GoodIn wsX2_isShipped wsX2_needTin := goodIn_ca (goodIn_r _ [6, 7, 8, 1, 9, 10, 5, 11, 18, 19, 20, 21, 22, 23, 24, 25, 26, 27, 28, 29, 30, 31, 32, 33] (by decide +kernel) (by decide +kernel)) (goodIn_sub (fun _ h => List.mem_cons_of_mem _ (List.mem_append_right _ h)) (by decide +kernel))
set_option maxRecDepth 20000 in
theorem gX2_isShipped_X2_needTin : GoodIn wsX2_isShipped (wsV RX2 65 RX2 yX2_needTin wsX2_needTin) := goodIn_app (goodIn_of _ (by decide +kernel)) ggX2_isShipped_X2_needTin
set_option maxRecDepth 20000 in
theorem ggX2_isShipped_X0_get : GoodIn wsX2_isShipped wsX0_get := goodIn_r _ [16, 17, 34] (by decide +kernel) (by decide +kernel)
set_option maxRecDepth 20000 in
theorem gX2_isShipped_X0_get : GoodIn wsX2_isShipped (wsV RX2 77 RX0 yX0_get wsX0_get) := goodIn_app (goodIn_of _ (by decide +kernel)) ggX2_isShipped_X0_get
theorem dX2_isShipped_0 : decode cX2_isShipped 0 = .ok (.aload_n 0, 1) := by decide +kernel
theorem dX2_isShipped_1 : decode cX2_isShipped 1 = .ok (.iload_n 1, 1) := by decide +kernel
theorem dX2_isShipped_2 : decode cX2_isShipped 2 = .ok (.invokevirtual 65, 3) := by decide +kernel
theorem dX2_isShipped_5 : decode cX2_isShipped 5 = .ok (.aload_n 0, 1) := by decide +kernel
theorem dX2_isShipped_6 : decode cX2_isShipped 6 = .ok (.getfield 10, 3) := by decide +kernel
theorem dX2_isShipped_9 : decode cX2_isShipped 9 = .ok (.getfield 130, 3) := by decide +kernel
theorem dX2_isShipped_12 : decode cX2_isShipped 12 = .ok (.iload_n 1, 1) := by decide +kernel
theorem dX2_isShipped_13 : decode cX2_isShipped 13 = .ok (.invokevirtual 77, 3) := by decide +kernel
theorem dX2_isShipped_16 : decode cX2_isShipped 16 = .ok (.iconst 2, 1) := by decide +kernel
theorem dX2_isShipped_17 : decode cX2_isShipped 17 = .ok (.if_icmp .ne 7, 3) := by decide +kernel
theorem dX2_isShipped_20 : decode cX2_isShipped 20 = .ok (.iconst 1, 1) := by decide +kernel
theorem dX2_isShipped_21 : decode cX2_isShipped 21 = .ok (.goto 4, 3) := by decide +kernel
theorem dX2_isShipped_24 : decode cX2_isShipped 24 = .ok (.iconst 0, 1) := by decide +kernel
theorem dX2_isShipped_25 : decode cX2_isShipped 25 = .ok (.ireturn, 1) := by decide +kernel
set_option maxRecDepth 20000 in
theorem ggX2_isLost_X2_needTin : GoodIn wsX2_isLost wsX2_needTin := goodIn_ca (goodIn_r _ [6, 7, 8, 1, 9, 10, 5, 11, 18, 19, 20, 21, 22, 23, 24, 25, 26, 27, 28, 29, 30, 31, 32, 33] (by decide +kernel) (by decide +kernel)) (goodIn_sub (fun _ h => List.mem_cons_of_mem _ (List.mem_append_right _ h)) (by decide +kernel))
set_option maxRecDepth 20000 in
theorem gX2_isLost_X2_needTin : GoodIn wsX2_isLost (wsV RX2 65 RX2 yX2_needTin wsX2_needTin) := goodIn_app (goodIn_of _ (by decide +kernel)) ggX2_isLost_X2_needTin
set_option maxRecDepth 20000 in
theorem ggX2_isLost_X0_get : GoodIn wsX2_isLost wsX0_get := goodIn_r _ [16, 17, 34] (by decide +kernel) (by decide +kernel)
set_option maxRecDepth 20000 in
theorem gX2_isLost_X0_get : GoodIn wsX2_isLost (wsV RX2 77 RX0 yX0_get wsX0_get) := goodIn_app (goodIn_of _ (by decide +kernel)) ggX2_isLost_X0_get
theorem dX2_isLost_0 : decode cX2_isLost 0 = .ok (.aload_n 0, 1) := by decide +kernel
theorem dX2_isLost_1 : decode cX2_isLost 1 = .ok (.iload_n 1, 1) := by decide +kernel
theorem dX2_isLost_2 : decode cX2_isLost 2 = .ok (.invokevirtual 65, 3) := by decide +kernel
theorem dX2_isLost_5 : decode cX2_isLost 5 = .ok (.aload_n 0, 1) := by decide +kernel
theorem dX2_isLost_6 : decode cX2_isLost 6 = .ok (.getfield 10, 3) := by decide +kernel
theorem dX2_isLost_9 : decode cX2_isLost 9 = .ok (.getfield 130, 3) := by decide +kernel
theorem dX2_isLost_12 : decode cX2_isLost 12 = .ok (.iload_n 1, 1) := by decide +kernel
theorem dX2_isLost_13 : decode cX2_isLost 13 = .ok (.invokevirtual 77, 3) := by decide +kernel
theorem dX2_isLost_16 : decode cX2_isLost 16 = .ok (.iconst 3, 1) := by decide +kernel
theorem dX2_isLost_17 : decode cX2_isLost 17 = .ok (.if_icmp .ne 7, 3) := by decide +kernel
theorem dX2_isLost_20 : decode cX2_isLost 20 = .ok (.iconst 1, 1) := by decide +kernel
theorem dX2_isLost_21 : decode cX2_isLost 21 = .ok (.goto 4, 3) := by decide +kernel
theorem dX2_isLost_24 : decode cX2_isLost 24 = .ok (.iconst 0, 1) := by decide +kernel
theorem dX2_isLost_25 : decode cX2_isLost 25 = .ok (.ireturn, 1) := by decide +kernel
set_option maxRecDepth 20000 in
theorem ggX2_swelledOf_X2_needBatch : GoodIn wsX2_swelledOf wsX2_needBatch := goodIn_ca (goodIn_r _ [6, 7, 8, 1, 9, 10, 5, 11, 18, 19, 20, 21, 22, 23, 24, 25, 26, 27, 28, 29, 30, 31, 32, 33] (by decide +kernel) (by decide +kernel)) (goodIn_sub (fun _ h => List.mem_cons_of_mem _ (List.mem_append_right _ h)) (by decide +kernel))
set_option maxRecDepth 20000 in
theorem gX2_swelledOf_X2_needBatch : GoodIn wsX2_swelledOf (wsV RX2 43 RX2 yX2_needBatch wsX2_needBatch) := goodIn_app (goodIn_of _ (by decide +kernel)) ggX2_swelledOf_X2_needBatch
set_option maxRecDepth 20000 in
theorem ggX2_swelledOf_X0_get : GoodIn wsX2_swelledOf wsX0_get := goodIn_r _ [16, 17, 34] (by decide +kernel) (by decide +kernel)
set_option maxRecDepth 20000 in
theorem gX2_swelledOf_X0_get : GoodIn wsX2_swelledOf (wsV RX2 77 RX0 yX0_get wsX0_get) := goodIn_app (goodIn_of _ (by decide +kernel)) ggX2_swelledOf_X0_get
theorem dX2_swelledOf_0 : decode cX2_swelledOf 0 = .ok (.aload_n 0, 1) := by decide +kernel
theorem dX2_swelledOf_1 : decode cX2_swelledOf 1 = .ok (.iload_n 1, 1) := by decide +kernel
theorem dX2_swelledOf_2 : decode cX2_swelledOf 2 = .ok (.invokevirtual 43, 3) := by decide +kernel
theorem dX2_swelledOf_5 : decode cX2_swelledOf 5 = .ok (.aload_n 0, 1) := by decide +kernel
theorem dX2_swelledOf_6 : decode cX2_swelledOf 6 = .ok (.getfield 10, 3) := by decide +kernel
theorem dX2_swelledOf_9 : decode cX2_swelledOf 9 = .ok (.getfield 117, 3) := by decide +kernel
theorem dX2_swelledOf_12 : decode cX2_swelledOf 12 = .ok (.iload_n 1, 1) := by decide +kernel
theorem dX2_swelledOf_13 : decode cX2_swelledOf 13 = .ok (.invokevirtual 77, 3) := by decide +kernel
theorem dX2_swelledOf_16 : decode cX2_swelledOf 16 = .ok (.ireturn, 1) := by decide +kernel
set_option maxRecDepth 20000 in
theorem ggX2_leftOf_X2_needBatch : GoodIn wsX2_leftOf wsX2_needBatch := goodIn_ca (goodIn_r _ [6, 7, 8, 1, 9, 10, 5, 11, 29, 30, 31, 32, 33, 34, 35, 36, 37, 38, 39, 40, 41, 42, 43, 44] (by decide +kernel) (by decide +kernel)) (goodIn_sub (fun _ h => List.mem_cons_of_mem _ (List.mem_append_right _ h)) (by decide +kernel))
set_option maxRecDepth 20000 in
theorem gX2_leftOf_X2_needBatch : GoodIn wsX2_leftOf (wsV RX2 43 RX2 yX2_needBatch wsX2_needBatch) := goodIn_app (goodIn_of _ (by decide +kernel)) ggX2_leftOf_X2_needBatch
set_option maxRecDepth 20000 in
theorem ggX2_leftOf_X1_countHeldWith : GoodIn wsX2_leftOf wsX1_countHeldWith := goodIn_r _ [16, 17, 18, 19, 20, 15, 21, 22, 23, 24, 25, 26, 27, 28, 31, 32, 33, 34, 35, 36, 37, 38, 39, 40, 41, 42, 43, 44, 45] (by decide +kernel) (by decide +kernel)
set_option maxRecDepth 20000 in
theorem gX2_leftOf_X1_countHeldWith : GoodIn wsX2_leftOf (wsV RX2 120 RX1 yX1_countHeldWith wsX1_countHeldWith) := goodIn_app (goodIn_of _ (by decide +kernel)) ggX2_leftOf_X1_countHeldWith
theorem dX2_leftOf_0 : decode cX2_leftOf 0 = .ok (.aload_n 0, 1) := by decide +kernel
theorem dX2_leftOf_1 : decode cX2_leftOf 1 = .ok (.iload_n 1, 1) := by decide +kernel
theorem dX2_leftOf_2 : decode cX2_leftOf 2 = .ok (.invokevirtual 43, 3) := by decide +kernel
theorem dX2_leftOf_5 : decode cX2_leftOf 5 = .ok (.aload_n 0, 1) := by decide +kernel
theorem dX2_leftOf_6 : decode cX2_leftOf 6 = .ok (.getfield 10, 3) := by decide +kernel
theorem dX2_leftOf_9 : decode cX2_leftOf 9 = .ok (.aload_n 0, 1) := by decide +kernel
theorem dX2_leftOf_10 : decode cX2_leftOf 10 = .ok (.getfield 10, 3) := by decide +kernel
theorem dX2_leftOf_13 : decode cX2_leftOf 13 = .ok (.getfield 124, 3) := by decide +kernel
theorem dX2_leftOf_16 : decode cX2_leftOf 16 = .ok (.iload_n 1, 1) := by decide +kernel
theorem dX2_leftOf_17 : decode cX2_leftOf 17 = .ok (.invokevirtual 120, 3) := by decide +kernel
theorem dX2_leftOf_20 : decode cX2_leftOf 20 = .ok (.ireturn, 1) := by decide +kernel
set_option maxRecDepth 20000 in
theorem ggX2_isRecalled_X2_needBatch : GoodIn wsX2_isRecalled wsX2_needBatch := goodIn_ca (goodIn_r _ [6, 7, 8, 1, 9, 10, 5, 11, 24, 25, 26, 27, 28, 29, 30, 31, 32, 33, 34, 35, 36, 37, 38, 39] (by decide +kernel) (by decide +kernel)) (goodIn_sub (fun _ h => List.mem_cons_of_mem _ (List.mem_append_right _ h)) (by decide +kernel))
set_option maxRecDepth 20000 in
theorem gX2_isRecalled_X2_needBatch : GoodIn wsX2_isRecalled (wsV RX2 43 RX2 yX2_needBatch wsX2_needBatch) := goodIn_app (goodIn_of _ (by decide +kernel)) ggX2_isRecalled_X2_needBatch
set_option maxRecDepth 20000 in
theorem ggX2_isRecalled_X1_isBatchRecalled : GoodIn wsX2_isRecalled wsX1_isBatchRecalled := goodIn_r _ [16, 17, 18, 19, 20, 21, 22, 23, 26, 27, 28, 29, 30, 31, 32, 33, 34, 35, 36, 37, 38, 39, 40] (by decide +kernel) (by decide +kernel)
set_option maxRecDepth 20000 in
theorem gX2_isRecalled_X1_isBatchRecalled : GoodIn wsX2_isRecalled (wsV RX2 55 RX1 yX1_isBatchRecalled wsX1_isBatchRecalled) := goodIn_app (goodIn_of _ (by decide +kernel)) ggX2_isRecalled_X1_isBatchRecalled
theorem dX2_isRecalled_0 : decode cX2_isRecalled 0 = .ok (.aload_n 0, 1) := by decide +kernel
theorem dX2_isRecalled_1 : decode cX2_isRecalled 1 = .ok (.iload_n 1, 1) := by decide +kernel
theorem dX2_isRecalled_2 : decode cX2_isRecalled 2 = .ok (.invokevirtual 43, 3) := by decide +kernel
theorem dX2_isRecalled_5 : decode cX2_isRecalled 5 = .ok (.aload_n 0, 1) := by decide +kernel
theorem dX2_isRecalled_6 : decode cX2_isRecalled 6 = .ok (.getfield 10, 3) := by decide +kernel
theorem dX2_isRecalled_9 : decode cX2_isRecalled 9 = .ok (.iload_n 1, 1) := by decide +kernel
theorem dX2_isRecalled_10 : decode cX2_isRecalled 10 = .ok (.invokevirtual 55, 3) := by decide +kernel
theorem dX2_isRecalled_13 : decode cX2_isRecalled 13 = .ok (.ireturn, 1) := by decide +kernel
set_option maxRecDepth 20000 in
theorem ggX2_first_X2_needOrder : GoodIn wsX2_first wsX2_needOrder := goodIn_ca (goodIn_r _ [5, 6, 7, 8, 9, 4, 10] (by decide +kernel) (by decide +kernel)) (goodIn_sub (fun _ h => List.mem_cons_of_mem _ (List.mem_append_right _ h)) (by decide +kernel))
set_option maxRecDepth 20000 in
theorem gX2_first_X2_needOrder : GoodIn wsX2_first (va_wsS RX2 133 yX2_needOrder wsX2_needOrder) := goodIn_app (goodIn_of _ (by decide +kernel)) ggX2_first_X2_needOrder
set_option maxRecDepth 20000 in
theorem ggX2_first_X1_firstBy : GoodIn wsX2_first wsX1_firstBy := goodIn_r _ [15, 16, 17, 18, 19, 14, 20, 21, 22, 23, 24, 25, 26, 27, 28, 29, 30, 31, 32, 33, 34, 37, 38, 39, 40, 41, 42, 43, 44, 45, 46, 47, 48, 49, 50, 51] (by decide +kernel) (by decide +kernel)
set_option maxRecDepth 20000 in
theorem gX2_first_X1_firstBy : GoodIn wsX2_first (wsV RX2 136 RX1 yX1_firstBy wsX1_firstBy) := goodIn_app (goodIn_of _ (by decide +kernel)) ggX2_first_X1_firstBy
theorem dX2_first_0 : decode cX2_first 0 = .ok (.iload_n 1, 1) := by decide +kernel
theorem dX2_first_1 : decode cX2_first 1 = .ok (.invokestatic 133, 3) := by decide +kernel
theorem dX2_first_4 : decode cX2_first 4 = .ok (.aload_n 0, 1) := by decide +kernel
theorem dX2_first_5 : decode cX2_first 5 = .ok (.getfield 10, 3) := by decide +kernel
theorem dX2_first_8 : decode cX2_first 8 = .ok (.iload_n 1, 1) := by decide +kernel
theorem dX2_first_9 : decode cX2_first 9 = .ok (.invokevirtual 136, 3) := by decide +kernel
theorem dX2_first_12 : decode cX2_first 12 = .ok (.ireturn, 1) := by decide +kernel
set_option maxRecDepth 20000 in
theorem ggX2_placeBy_X2_needTin : GoodIn wsX2_placeBy wsX2_needTin := goodIn_ca (goodIn_r _ [6, 7, 8, 1, 9, 10, 5, 11, 42, 43, 44, 45, 46, 47, 48, 49, 50, 51, 52, 53, 54, 55, 56, 57] (by decide +kernel) (by decide +kernel)) (goodIn_sub (fun _ h => List.mem_cons_of_mem _ (List.mem_append_left _ (List.mem_append_right _ h))) (by decide +kernel))
set_option maxRecDepth 20000 in
theorem gX2_placeBy_X2_needTin : GoodIn wsX2_placeBy (wsV RX2 65 RX2 yX2_needTin wsX2_needTin) := goodIn_app (goodIn_of _ (by decide +kernel)) ggX2_placeBy_X2_needTin
set_option maxRecDepth 20000 in
theorem ggX2_placeBy_X2_needOrder : GoodIn wsX2_placeBy wsX2_needOrder := goodIn_ca (goodIn_r _ [14, 15, 16, 9, 10, 5, 11] (by decide +kernel) (by decide +kernel)) (goodIn_sub (fun _ h => List.mem_cons_of_mem _ (List.mem_append_right _ h)) (by decide +kernel))
set_option maxRecDepth 20000 in
theorem gX2_placeBy_X2_needOrder : GoodIn wsX2_placeBy (va_wsS RX2 133 yX2_needOrder wsX2_needOrder) := goodIn_app (goodIn_of _ (by decide +kernel)) ggX2_placeBy_X2_needOrder
set_option maxRecDepth 20000 in
theorem ggX2_placeBy_X1_holds : GoodIn wsX2_placeBy wsX1_holds := goodIn_r _ [21, 22, 23, 24, 25, 26, 27, 28, 44, 45, 46, 47, 48, 49, 50, 51, 52, 53, 54, 55, 56, 57, 58] (by decide +kernel) (by decide +kernel)
set_option maxRecDepth 20000 in
theorem gX2_placeBy_X1_holds : GoodIn wsX2_placeBy (wsV RX2 68 RX1 yX1_holds wsX1_holds) := goodIn_app (goodIn_of _ (by decide +kernel)) ggX2_placeBy_X1_holds
set_option maxRecDepth 20000 in
theorem ggX2_placeBy_X1_countAheadOf : GoodIn wsX2_placeBy wsX1_countAheadOf := goodIn_r _ [32, 33, 34, 35, 36, 20, 37, 38, 39, 40, 23, 24, 25, 26, 27, 28, 41, 18, 19, 21, 22, 44, 45, 46, 47, 48, 49, 50, 51, 52, 53, 54, 55, 56, 57, 58] (by decide +kernel) (by decide +kernel)
set_option maxRecDepth 20000 in
theorem gX2_placeBy_X1_countAheadOf : GoodIn wsX2_placeBy (wsV RX2 139 RX1 yX1_countAheadOf wsX1_countAheadOf) := goodIn_app (goodIn_of _ (by decide +kernel)) ggX2_placeBy_X1_countAheadOf
theorem dX2_placeBy_0 : decode cX2_placeBy 0 = .ok (.aload_n 0, 1) := by decide +kernel
theorem dX2_placeBy_1 : decode cX2_placeBy 1 = .ok (.iload_n 1, 1) := by decide +kernel
theorem dX2_placeBy_2 : decode cX2_placeBy 2 = .ok (.invokevirtual 65, 3) := by decide +kernel
theorem dX2_placeBy_5 : decode cX2_placeBy 5 = .ok (.iload_n 2, 1) := by decide +kernel
theorem dX2_placeBy_6 : decode cX2_placeBy 6 = .ok (.invokestatic 133, 3) := by decide +kernel
theorem dX2_placeBy_9 : decode cX2_placeBy 9 = .ok (.aload_n 0, 1) := by decide +kernel
theorem dX2_placeBy_10 : decode cX2_placeBy 10 = .ok (.getfield 10, 3) := by decide +kernel
theorem dX2_placeBy_13 : decode cX2_placeBy 13 = .ok (.iload_n 1, 1) := by decide +kernel
theorem dX2_placeBy_14 : decode cX2_placeBy 14 = .ok (.invokevirtual 68, 3) := by decide +kernel
theorem dX2_placeBy_17 : decode cX2_placeBy 17 = .ok (.ifCond .eq 15, 3) := by decide +kernel
theorem dX2_placeBy_20 : decode cX2_placeBy 20 = .ok (.aload_n 0, 1) := by decide +kernel
theorem dX2_placeBy_21 : decode cX2_placeBy 21 = .ok (.getfield 10, 3) := by decide +kernel
theorem dX2_placeBy_24 : decode cX2_placeBy 24 = .ok (.iload_n 1, 1) := by decide +kernel
theorem dX2_placeBy_25 : decode cX2_placeBy 25 = .ok (.iload_n 2, 1) := by decide +kernel
theorem dX2_placeBy_26 : decode cX2_placeBy 26 = .ok (.invokevirtual 139, 3) := by decide +kernel
theorem dX2_placeBy_29 : decode cX2_placeBy 29 = .ok (.goto 4, 3) := by decide +kernel
theorem dX2_placeBy_32 : decode cX2_placeBy 32 = .ok (.iconst (-1), 1) := by decide +kernel
theorem dX2_placeBy_33 : decode cX2_placeBy 33 = .ok (.ireturn, 1) := by decide +kernel
set_option maxRecDepth 20000 in
theorem ggX2_daysOf_X2_needTin : GoodIn wsX2_daysOf wsX2_needTin := goodIn_ca (goodIn_r _ [6, 7, 8, 1, 9, 10, 5, 11, 37, 38, 39, 40, 41, 42, 43, 44, 45, 46, 47, 48, 49, 50, 51, 52] (by decide +kernel) (by decide +kernel)) (goodIn_sub (fun _ h => List.mem_cons_of_mem _ (List.mem_append_right _ h)) (by decide +kernel))
set_option maxRecDepth 20000 in
theorem gX2_daysOf_X2_needTin : GoodIn wsX2_daysOf (wsV RX2 65 RX2 yX2_needTin wsX2_needTin) := goodIn_app (goodIn_of _ (by decide +kernel)) ggX2_daysOf_X2_needTin
set_option maxRecDepth 20000 in
theorem ggX2_daysOf_X1_holds : GoodIn wsX2_daysOf wsX1_holds := goodIn_r _ [16, 17, 18, 19, 20, 21, 22, 23, 39, 40, 41, 42, 43, 44, 45, 46, 47, 48, 49, 50, 51, 52, 53] (by decide +kernel) (by decide +kernel)
set_option maxRecDepth 20000 in
theorem gX2_daysOf_X1_holds : GoodIn wsX2_daysOf (wsV RX2 68 RX1 yX1_holds wsX1_holds) := goodIn_app (goodIn_of _ (by decide +kernel)) ggX2_daysOf_X1_holds
set_option maxRecDepth 20000 in
theorem ggX2_daysOf_X0_get : GoodIn wsX2_daysOf wsX0_get := goodIn_r _ [22, 23, 53] (by decide +kernel) (by decide +kernel)
set_option maxRecDepth 20000 in
theorem gX2_daysOf_X0_get : GoodIn wsX2_daysOf (wsV RX2 77 RX0 yX0_get wsX0_get) := goodIn_app (goodIn_of _ (by decide +kernel)) ggX2_daysOf_X0_get
set_option maxRecDepth 20000 in
theorem ggX2_daysOf_X1_daysToSwell : GoodIn wsX2_daysOf wsX1_daysToSwell := goodIn_r _ [28, 29, 30, 31, 32, 15, 33, 34, 35, 36, 18, 19, 20, 21, 22, 23, 39, 40, 41, 42, 43, 44, 45, 46, 47, 48, 49, 50, 51, 52, 53] (by decide +kernel) (by decide +kernel)
set_option maxRecDepth 20000 in
theorem gX2_daysOf_X1_daysToSwell : GoodIn wsX2_daysOf (wsV RX2 142 RX1 yX1_daysToSwell wsX1_daysToSwell) := goodIn_app (goodIn_of _ (by decide +kernel)) ggX2_daysOf_X1_daysToSwell
theorem dX2_daysOf_0 : decode cX2_daysOf 0 = .ok (.aload_n 0, 1) := by decide +kernel
theorem dX2_daysOf_1 : decode cX2_daysOf 1 = .ok (.iload_n 1, 1) := by decide +kernel
theorem dX2_daysOf_2 : decode cX2_daysOf 2 = .ok (.invokevirtual 65, 3) := by decide +kernel
theorem dX2_daysOf_5 : decode cX2_daysOf 5 = .ok (.aload_n 0, 1) := by decide +kernel
theorem dX2_daysOf_6 : decode cX2_daysOf 6 = .ok (.getfield 10, 3) := by decide +kernel
theorem dX2_daysOf_9 : decode cX2_daysOf 9 = .ok (.iload_n 1, 1) := by decide +kernel
theorem dX2_daysOf_10 : decode cX2_daysOf 10 = .ok (.invokevirtual 68, 3) := by decide +kernel
theorem dX2_daysOf_13 : decode cX2_daysOf 13 = .ok (.ifCond .eq 25, 3) := by decide +kernel
theorem dX2_daysOf_16 : decode cX2_daysOf 16 = .ok (.aload_n 0, 1) := by decide +kernel
theorem dX2_daysOf_17 : decode cX2_daysOf 17 = .ok (.getfield 10, 3) := by decide +kernel
theorem dX2_daysOf_20 : decode cX2_daysOf 20 = .ok (.iload_n 1, 1) := by decide +kernel
theorem dX2_daysOf_21 : decode cX2_daysOf 21 = .ok (.aload_n 0, 1) := by decide +kernel
theorem dX2_daysOf_22 : decode cX2_daysOf 22 = .ok (.getfield 10, 3) := by decide +kernel
theorem dX2_daysOf_25 : decode cX2_daysOf 25 = .ok (.getfield 73, 3) := by decide +kernel
theorem dX2_daysOf_28 : decode cX2_daysOf 28 = .ok (.iload_n 1, 1) := by decide +kernel
theorem dX2_daysOf_29 : decode cX2_daysOf 29 = .ok (.invokevirtual 77, 3) := by decide +kernel
theorem dX2_daysOf_32 : decode cX2_daysOf 32 = .ok (.invokevirtual 142, 3) := by decide +kernel
theorem dX2_daysOf_35 : decode cX2_daysOf 35 = .ok (.goto 4, 3) := by decide +kernel
theorem dX2_daysOf_38 : decode cX2_daysOf 38 = .ok (.iconst (-1), 1) := by decide +kernel
theorem dX2_daysOf_39 : decode cX2_daysOf 39 = .ok (.ireturn, 1) := by decide +kernel
set_option maxRecDepth 20000 in
theorem ggX2_daysUntilRecalled_X2_needBatch : GoodIn wsX2_daysUntilRecalled wsX2_needBatch := goodIn_ca (goodIn_r _ [7, 8, 9, 1, 10, 11, 6, 12, 96, 97, 98, 99, 100, 101, 102, 103, 104, 105, 106, 107, 108, 109, 110, 111] (by decide +kernel) (by decide +kernel)) (goodIn_sub (fun _ h => List.mem_cons_of_mem _ (List.mem_append_right _ h)) (by decide +kernel))
set_option maxRecDepth 20000 in
theorem gX2_daysUntilRecalled_X2_needBatch : GoodIn wsX2_daysUntilRecalled (wsV RX2 43 RX2 yX2_needBatch wsX2_needBatch) := goodIn_app (goodIn_of _ (by decide +kernel)) ggX2_daysUntilRecalled_X2_needBatch
set_option maxRecDepth 20000 in
theorem ggX2_daysUntilRecalled_X1_isBatchRecalled : GoodIn wsX2_daysUntilRecalled wsX1_isBatchRecalled := goodIn_r _ [17, 18, 19, 20, 21, 22, 23, 24, 98, 99, 100, 101, 102, 103, 104, 105, 106, 107, 108, 109, 110, 111, 112] (by decide +kernel) (by decide +kernel)
set_option maxRecDepth 20000 in
theorem gX2_daysUntilRecalled_X1_isBatchRecalled : GoodIn wsX2_daysUntilRecalled (wsV RX2 55 RX1 yX1_isBatchRecalled wsX1_isBatchRecalled) := goodIn_app (goodIn_of _ (by decide +kernel)) ggX2_daysUntilRecalled_X1_isBatchRecalled
set_option maxRecDepth 20000 in
theorem ggX2_daysUntilRecalled_X1_copyFrom : GoodIn wsX2_daysUntilRecalled wsX1_copyFrom := goodIn_r _ [28, 29, 30, 31, 32, 18, 33, 34, 35, 36, 37, 38, 39, 40, 41, 42, 43, 44, 22, 45, 24, 46, 20, 21, 23, 98, 99, 100, 101, 102, 103, 104, 105, 106, 107, 108, 109, 110, 111, 112] (by decide +kernel) (by decide +kernel)
set_option maxRecDepth 20000 in
theorem gX2_daysUntilRecalled_X1_copyFrom : GoodIn wsX2_daysUntilRecalled (wsV RX2 145 RX1 yX1_copyFrom wsX1_copyFrom) := goodIn_app (goodIn_of _ (by decide +kernel)) ggX2_daysUntilRecalled_X1_copyFrom
set_option maxRecDepth 20000 in
theorem ggX2_daysUntilRecalled_X1_passDay : GoodIn wsX2_daysUntilRecalled wsX1_passDay := goodIn_r _ [50, 39, 40, 41, 51, 52, 53, 16, 54, 38, 36, 35, 55, 56, 57, 58, 59, 60, 61, 62, 37, 19, 20, 21, 22, 23, 24, 63, 64, 65, 66, 31, 34, 29, 67, 68, 69, 70, 71, 72, 73, 74, 32, 75, 76, 77, 78, 33, 79, 14, 15, 17, 18, 80, 81, 82, 83, 84, 85, 86, 87, 88, 89, 90, 91, 92, 93, 94, 95, 98, 99, 100, 101, 102, 103, 104, 105, 106, 107, 108, 109, 110, 111, 112] (by decide +kernel) (by decide +kernel)
set_option maxRecDepth 20000 in
theorem gX2_daysUntilRecalled_X1_passDay : GoodIn wsX2_daysUntilRecalled (wsV RX2 111 RX1 yX1_passDay wsX1_passDay) := goodIn_app (goodIn_of _ (by decide +kernel)) ggX2_daysUntilRecalled_X1_passDay
theorem dX2_daysUntilRecalled_0 : decode cX2_daysUntilRecalled 0 = .ok (.aload_n 0, 1) := by decide +kernel
theorem dX2_daysUntilRecalled_1 : decode cX2_daysUntilRecalled 1 = .ok (.iload_n 1, 1) := by decide +kernel
theorem dX2_daysUntilRecalled_2 : decode cX2_daysUntilRecalled 2 = .ok (.invokevirtual 43, 3) := by decide +kernel
theorem dX2_daysUntilRecalled_5 : decode cX2_daysUntilRecalled 5 = .ok (.aload_n 0, 1) := by decide +kernel
theorem dX2_daysUntilRecalled_6 : decode cX2_daysUntilRecalled 6 = .ok (.getfield 10, 3) := by decide +kernel
theorem dX2_daysUntilRecalled_9 : decode cX2_daysUntilRecalled 9 = .ok (.iload_n 1, 1) := by decide +kernel
theorem dX2_daysUntilRecalled_10 : decode cX2_daysUntilRecalled 10 = .ok (.invokevirtual 55, 3) := by decide +kernel
theorem dX2_daysUntilRecalled_13 : decode cX2_daysUntilRecalled 13 = .ok (.ifCond .eq 5, 3) := by decide +kernel
theorem dX2_daysUntilRecalled_16 : decode cX2_daysUntilRecalled 16 = .ok (.iconst 0, 1) := by decide +kernel
theorem dX2_daysUntilRecalled_17 : decode cX2_daysUntilRecalled 17 = .ok (.ireturn, 1) := by decide +kernel
theorem dX2_daysUntilRecalled_18 : decode cX2_daysUntilRecalled 18 = .ok (.aload_n 0, 1) := by decide +kernel
theorem dX2_daysUntilRecalled_19 : decode cX2_daysUntilRecalled 19 = .ok (.getfield 16, 3) := by decide +kernel
theorem dX2_daysUntilRecalled_22 : decode cX2_daysUntilRecalled 22 = .ok (.aload_n 0, 1) := by decide +kernel
theorem dX2_daysUntilRecalled_23 : decode cX2_daysUntilRecalled 23 = .ok (.getfield 10, 3) := by decide +kernel
theorem dX2_daysUntilRecalled_26 : decode cX2_daysUntilRecalled 26 = .ok (.invokevirtual 145, 3) := by decide +kernel
theorem dX2_daysUntilRecalled_29 : decode cX2_daysUntilRecalled 29 = .ok (.iconst 1, 1) := by decide +kernel
theorem dX2_daysUntilRecalled_30 : decode cX2_daysUntilRecalled 30 = .ok (.istore_n 2, 1) := by decide +kernel
theorem dX2_daysUntilRecalled_31 : decode cX2_daysUntilRecalled 31 = .ok (.iload_n 2, 1) := by decide +kernel
theorem dX2_daysUntilRecalled_32 : decode cX2_daysUntilRecalled 32 = .ok (.bipush 60, 2) := by decide +kernel
theorem dX2_daysUntilRecalled_34 : decode cX2_daysUntilRecalled 34 = .ok (.if_icmp .gt 29, 3) := by decide +kernel
theorem dX2_daysUntilRecalled_37 : decode cX2_daysUntilRecalled 37 = .ok (.aload_n 0, 1) := by decide +kernel
theorem dX2_daysUntilRecalled_38 : decode cX2_daysUntilRecalled 38 = .ok (.getfield 16, 3) := by decide +kernel
theorem dX2_daysUntilRecalled_41 : decode cX2_daysUntilRecalled 41 = .ok (.invokevirtual 111, 3) := by decide +kernel
theorem dX2_daysUntilRecalled_44 : decode cX2_daysUntilRecalled 44 = .ok (.aload_n 0, 1) := by decide +kernel
theorem dX2_daysUntilRecalled_45 : decode cX2_daysUntilRecalled 45 = .ok (.getfield 16, 3) := by decide +kernel
theorem dX2_daysUntilRecalled_48 : decode cX2_daysUntilRecalled 48 = .ok (.iload_n 1, 1) := by decide +kernel
theorem dX2_daysUntilRecalled_49 : decode cX2_daysUntilRecalled 49 = .ok (.invokevirtual 55, 3) := by decide +kernel
theorem dX2_daysUntilRecalled_52 : decode cX2_daysUntilRecalled 52 = .ok (.ifCond .eq 5, 3) := by decide +kernel
theorem dX2_daysUntilRecalled_55 : decode cX2_daysUntilRecalled 55 = .ok (.iload_n 2, 1) := by decide +kernel
theorem dX2_daysUntilRecalled_56 : decode cX2_daysUntilRecalled 56 = .ok (.ireturn, 1) := by decide +kernel
theorem dX2_daysUntilRecalled_57 : decode cX2_daysUntilRecalled 57 = .ok (.iinc 2 1, 3) := by decide +kernel
theorem dX2_daysUntilRecalled_60 : decode cX2_daysUntilRecalled 60 = .ok (.goto (-29), 3) := by decide +kernel
theorem dX2_daysUntilRecalled_63 : decode cX2_daysUntilRecalled 63 = .ok (.iconst (-1), 1) := by decide +kernel
theorem dX2_daysUntilRecalled_64 : decode cX2_daysUntilRecalled 64 = .ok (.ireturn, 1) := by decide +kernel
set_option maxRecDepth 20000 in
theorem ggX2_lostWith_X2_needShipping : GoodIn wsX2_lostWith wsX2_needShipping := goodIn_ca (goodIn_r _ [4, 5, 6, 7, 8, 3, 9, 10, 11, 12] (by decide +kernel) (by decide +kernel)) (goodIn_sub (fun _ h => List.mem_cons_of_mem _ (List.mem_append_right _ h)) (by decide +kernel))
set_option maxRecDepth 20000 in
theorem gX2_lostWith_X2_needShipping : GoodIn wsX2_lostWith (va_wsS RX2 92 yX2_needShipping wsX2_needShipping) := goodIn_app (goodIn_of _ (by decide +kernel)) ggX2_lostWith_X2_needShipping
set_option maxRecDepth 20000 in
theorem ggX2_lostWith_X2_lossBy : GoodIn wsX2_lostWith wsX2_lossBy := goodIn_r _ [16, 17, 18, 19, 20, 21, 22, 23, 24, 25, 26, 27, 28, 29, 30, 31, 32, 33, 34, 35, 36, 37, 38, 39, 40, 41, 42, 43, 44, 45, 46, 47, 48, 49, 50, 51, 52, 53, 54, 55, 56, 57, 58, 59, 60, 61, 62, 63, 64, 65, 66, 67, 68, 69, 70, 71, 72, 73, 74, 75, 76, 77, 78, 79, 80, 81, 82, 83, 84, 85, 86, 87, 88, 89, 90, 91, 92, 93, 94, 95, 96, 97, 98, 99, 100, 101, 102, 103, 104, 105, 106, 107, 108, 109, 110, 111, 112, 113, 114, 115, 116, 117, 118, 119, 120, 121] (by decide +kernel) (by decide +kernel)
set_option maxRecDepth 20000 in
theorem gX2_lostWith_X2_lossBy : GoodIn wsX2_lostWith (wsV RX2 149 RX2 yX2_lossBy wsX2_lossBy) := goodIn_app (goodIn_of _ (by decide +kernel)) ggX2_lostWith_X2_lossBy
theorem dX2_lostWith_0 : decode cX2_lostWith 0 = .ok (.iload_n 1, 1) := by decide +kernel
theorem dX2_lostWith_1 : decode cX2_lostWith 1 = .ok (.iload_n 2, 1) := by decide +kernel
theorem dX2_lostWith_2 : decode cX2_lostWith 2 = .ok (.invokestatic 92, 3) := by decide +kernel
theorem dX2_lostWith_5 : decode cX2_lostWith 5 = .ok (.aload_n 0, 1) := by decide +kernel
theorem dX2_lostWith_6 : decode cX2_lostWith 6 = .ok (.iload_n 1, 1) := by decide +kernel
theorem dX2_lostWith_7 : decode cX2_lostWith 7 = .ok (.iload_n 2, 1) := by decide +kernel
theorem dX2_lostWith_8 : decode cX2_lostWith 8 = .ok (.invokevirtual 149, 3) := by decide +kernel
theorem dX2_lostWith_11 : decode cX2_lostWith 11 = .ok (.ireturn, 1) := by decide +kernel
set_option maxRecDepth 20000 in
theorem ggX2_bestOrder_X2_lossBy : GoodIn wsX2_bestOrder wsX2_lossBy := goodIn_r _ [6, 7, 1, 8, 9, 10, 11, 12, 13, 14, 15, 16, 17, 18, 19, 20, 21, 22, 23, 24, 25, 26, 27, 28, 29, 30, 31, 32, 33, 34, 35, 36, 37, 38, 39, 40, 41, 42, 43, 44, 45, 46, 47, 48, 49, 50, 51, 52, 53, 54, 55, 56, 57, 58, 59, 60, 61, 62, 63, 64, 65, 66, 67, 68, 69, 70, 71, 72, 73, 74, 75, 76, 77, 78, 79, 80, 81, 82, 83, 84, 85, 86, 87, 88, 89, 90, 91, 92, 93, 94, 95, 96, 97, 98, 99, 100, 101, 102, 103, 104, 105, 106, 107, 108, 109, 110] (by decide +kernel) (by decide +kernel)
set_option maxRecDepth 20000 in
theorem gX2_bestOrder_X2_lossBy : GoodIn wsX2_bestOrder (wsV RX2 149 RX2 yX2_lossBy wsX2_lossBy) := goodIn_app (goodIn_of _ (by decide +kernel)) ggX2_bestOrder_X2_lossBy
theorem dX2_bestOrder_0 : decode cX2_bestOrder 0 = .ok (.iconst 0, 1) := by decide +kernel
theorem dX2_bestOrder_1 : decode cX2_bestOrder 1 = .ok (.istore_n 1, 1) := by decide +kernel
theorem dX2_bestOrder_2 : decode cX2_bestOrder 2 = .ok (.aload_n 0, 1) := by decide +kernel
theorem dX2_bestOrder_3 : decode cX2_bestOrder 3 = .ok (.aload_n 0, 1) := by decide +kernel
theorem dX2_bestOrder_4 : decode cX2_bestOrder 4 = .ok (.getfield 10, 3) := by decide +kernel
theorem dX2_bestOrder_7 : decode cX2_bestOrder 7 = .ok (.getfield 95, 3) := by decide +kernel
theorem dX2_bestOrder_10 : decode cX2_bestOrder 10 = .ok (.iconst 0, 1) := by decide +kernel
theorem dX2_bestOrder_11 : decode cX2_bestOrder 11 = .ok (.invokevirtual 149, 3) := by decide +kernel
theorem dX2_bestOrder_14 : decode cX2_bestOrder 14 = .ok (.istore_n 2, 1) := by decide +kernel
theorem dX2_bestOrder_15 : decode cX2_bestOrder 15 = .ok (.iconst 1, 1) := by decide +kernel
theorem dX2_bestOrder_16 : decode cX2_bestOrder 16 = .ok (.istore_n 3, 1) := by decide +kernel
theorem dX2_bestOrder_17 : decode cX2_bestOrder 17 = .ok (.iload_n 3, 1) := by decide +kernel
theorem dX2_bestOrder_18 : decode cX2_bestOrder 18 = .ok (.iconst 2, 1) := by decide +kernel
theorem dX2_bestOrder_19 : decode cX2_bestOrder 19 = .ok (.if_icmp .gt 34, 3) := by decide +kernel
theorem dX2_bestOrder_22 : decode cX2_bestOrder 22 = .ok (.aload_n 0, 1) := by decide +kernel
theorem dX2_bestOrder_23 : decode cX2_bestOrder 23 = .ok (.aload_n 0, 1) := by decide +kernel
theorem dX2_bestOrder_24 : decode cX2_bestOrder 24 = .ok (.getfield 10, 3) := by decide +kernel
theorem dX2_bestOrder_27 : decode cX2_bestOrder 27 = .ok (.getfield 95, 3) := by decide +kernel
theorem dX2_bestOrder_30 : decode cX2_bestOrder 30 = .ok (.iload_n 3, 1) := by decide +kernel
theorem dX2_bestOrder_31 : decode cX2_bestOrder 31 = .ok (.invokevirtual 149, 3) := by decide +kernel
theorem dX2_bestOrder_34 : decode cX2_bestOrder 34 = .ok (.istore 4, 2) := by decide +kernel
theorem dX2_bestOrder_36 : decode cX2_bestOrder 36 = .ok (.iload 4, 2) := by decide +kernel
theorem dX2_bestOrder_38 : decode cX2_bestOrder 38 = .ok (.iload_n 2, 1) := by decide +kernel
theorem dX2_bestOrder_39 : decode cX2_bestOrder 39 = .ok (.if_icmp .ge 8, 3) := by decide +kernel
theorem dX2_bestOrder_42 : decode cX2_bestOrder 42 = .ok (.iload_n 3, 1) := by decide +kernel
theorem dX2_bestOrder_43 : decode cX2_bestOrder 43 = .ok (.istore_n 1, 1) := by decide +kernel
theorem dX2_bestOrder_44 : decode cX2_bestOrder 44 = .ok (.iload 4, 2) := by decide +kernel
theorem dX2_bestOrder_46 : decode cX2_bestOrder 46 = .ok (.istore_n 2, 1) := by decide +kernel
theorem dX2_bestOrder_47 : decode cX2_bestOrder 47 = .ok (.iinc 3 1, 3) := by decide +kernel
theorem dX2_bestOrder_50 : decode cX2_bestOrder 50 = .ok (.goto (-33), 3) := by decide +kernel
theorem dX2_bestOrder_53 : decode cX2_bestOrder 53 = .ok (.iload_n 1, 1) := by decide +kernel
theorem dX2_bestOrder_54 : decode cX2_bestOrder 54 = .ok (.ireturn, 1) := by decide +kernel
set_option maxRecDepth 20000 in
theorem ggX2_shippingWanted_X2_lossBy : GoodIn wsX2_shippingWanted wsX2_lossBy := goodIn_r _ [6, 7, 1, 8, 9, 10, 11, 12, 13, 14, 15, 16, 17, 18, 19, 20, 21, 22, 23, 24, 25, 26, 27, 28, 29, 30, 31, 32, 33, 34, 35, 36, 37, 38, 39, 40, 41, 42, 43, 44, 45, 46, 47, 48, 49, 50, 51, 52, 53, 54, 55, 56, 57, 58, 59, 60, 61, 62, 63, 64, 65, 66, 67, 68, 69, 70, 71, 72, 73, 74, 75, 76, 77, 78, 79, 80, 81, 82, 83, 84, 85, 86, 87, 88, 89, 90, 91, 92, 93, 94, 95, 96, 97, 98, 99, 100, 101, 102, 103, 104, 105, 106, 107, 108, 109, 110] (by decide +kernel) (by decide +kernel)
set_option maxRecDepth 20000 in
theorem gX2_shippingWanted_X2_lossBy : GoodIn wsX2_shippingWanted (wsV RX2 149 RX2 yX2_lossBy wsX2_lossBy) := goodIn_app (goodIn_of _ (by decide +kernel)) ggX2_shippingWanted_X2_lossBy
theorem dX2_shippingWanted_0 : decode cX2_shippingWanted 0 = .ok (.iconst 0, 1) := by decide +kernel
theorem dX2_shippingWanted_1 : decode cX2_shippingWanted 1 = .ok (.istore_n 1, 1) := by decide +kernel
theorem dX2_shippingWanted_2 : decode cX2_shippingWanted 2 = .ok (.iload_n 1, 1) := by decide +kernel
theorem dX2_shippingWanted_3 : decode cX2_shippingWanted 3 = .ok (.bipush 9, 2) := by decide +kernel
theorem dX2_shippingWanted_5 : decode cX2_shippingWanted 5 = .ok (.if_icmp .gt 26, 3) := by decide +kernel
theorem dX2_shippingWanted_8 : decode cX2_shippingWanted 8 = .ok (.aload_n 0, 1) := by decide +kernel
theorem dX2_shippingWanted_9 : decode cX2_shippingWanted 9 = .ok (.iload_n 1, 1) := by decide +kernel
theorem dX2_shippingWanted_10 : decode cX2_shippingWanted 10 = .ok (.aload_n 0, 1) := by decide +kernel
theorem dX2_shippingWanted_11 : decode cX2_shippingWanted 11 = .ok (.getfield 10, 3) := by decide +kernel
theorem dX2_shippingWanted_14 : decode cX2_shippingWanted 14 = .ok (.getfield 98, 3) := by decide +kernel
theorem dX2_shippingWanted_17 : decode cX2_shippingWanted 17 = .ok (.invokevirtual 149, 3) := by decide +kernel
theorem dX2_shippingWanted_20 : decode cX2_shippingWanted 20 = .ok (.ifCond .ne 5, 3) := by decide +kernel
theorem dX2_shippingWanted_23 : decode cX2_shippingWanted 23 = .ok (.iload_n 1, 1) := by decide +kernel
theorem dX2_shippingWanted_24 : decode cX2_shippingWanted 24 = .ok (.ireturn, 1) := by decide +kernel
theorem dX2_shippingWanted_25 : decode cX2_shippingWanted 25 = .ok (.iinc 1 1, 3) := by decide +kernel
theorem dX2_shippingWanted_28 : decode cX2_shippingWanted 28 = .ok (.goto (-26), 3) := by decide +kernel
theorem dX2_shippingWanted_31 : decode cX2_shippingWanted 31 = .ok (.iconst (-1), 1) := by decide +kernel
theorem dX2_shippingWanted_32 : decode cX2_shippingWanted 32 = .ok (.ireturn, 1) := by decide +kernel
set_option maxRecDepth 20000 in
theorem ggX2_bestShelf_X2_needTin : GoodIn wsX2_bestShelf wsX2_needTin := goodIn_ca (goodIn_r _ [6, 7, 8, 1, 9, 10, 5, 11, 39, 40, 41, 42, 43, 44, 45, 46, 47, 48, 49, 50, 51, 52, 53, 54] (by decide +kernel) (by decide +kernel)) (goodIn_sub (fun _ h => List.mem_cons_of_mem _ (List.mem_append_right _ h)) (by decide +kernel))
set_option maxRecDepth 20000 in
theorem gX2_bestShelf_X2_needTin : GoodIn wsX2_bestShelf (wsV RX2 65 RX2 yX2_needTin wsX2_needTin) := goodIn_app (goodIn_of _ (by decide +kernel)) ggX2_bestShelf_X2_needTin
set_option maxRecDepth 20000 in
theorem ggX2_bestShelf_X1_holds : GoodIn wsX2_bestShelf wsX1_holds := goodIn_r _ [16, 17, 18, 19, 20, 21, 22, 23, 41, 42, 43, 44, 45, 46, 47, 48, 49, 50, 51, 52, 53, 54, 55] (by decide +kernel) (by decide +kernel)
set_option maxRecDepth 20000 in
theorem gX2_bestShelf_X1_holds : GoodIn wsX2_bestShelf (wsV RX2 68 RX1 yX1_holds wsX1_holds) := goodIn_app (goodIn_of _ (by decide +kernel)) ggX2_bestShelf_X1_holds
set_option maxRecDepth 20000 in
theorem ggX2_bestShelf_X1_daysToSwell : GoodIn wsX2_bestShelf wsX1_daysToSwell := goodIn_r _ [27, 28, 29, 30, 31, 15, 32, 33, 34, 35, 18, 19, 20, 21, 22, 23, 41, 42, 43, 44, 45, 46, 47, 48, 49, 50, 51, 52, 53, 54, 55] (by decide +kernel) (by decide +kernel)
set_option maxRecDepth 20000 in
theorem gX2_bestShelf_X1_daysToSwell : GoodIn wsX2_bestShelf (wsV RX2 142 RX1 yX1_daysToSwell wsX1_daysToSwell) := goodIn_app (goodIn_of _ (by decide +kernel)) ggX2_bestShelf_X1_daysToSwell
set_option maxRecDepth 20000 in
theorem ggX2_bestShelf_X2_isLater : GoodIn wsX2_bestShelf wsX2_isLater := goodIn_r _ [38] (by decide +kernel) (by decide +kernel)
set_option maxRecDepth 20000 in
theorem gX2_bestShelf_X2_isLater : GoodIn wsX2_bestShelf (va_wsS RX2 152 yX2_isLater wsX2_isLater) := goodIn_app (goodIn_of _ (by decide +kernel)) ggX2_bestShelf_X2_isLater
theorem dX2_bestShelf_0 : decode cX2_bestShelf 0 = .ok (.aload_n 0, 1) := by decide +kernel
theorem dX2_bestShelf_1 : decode cX2_bestShelf 1 = .ok (.iload_n 1, 1) := by decide +kernel
theorem dX2_bestShelf_2 : decode cX2_bestShelf 2 = .ok (.invokevirtual 65, 3) := by decide +kernel
theorem dX2_bestShelf_5 : decode cX2_bestShelf 5 = .ok (.aload_n 0, 1) := by decide +kernel
theorem dX2_bestShelf_6 : decode cX2_bestShelf 6 = .ok (.getfield 10, 3) := by decide +kernel
theorem dX2_bestShelf_9 : decode cX2_bestShelf 9 = .ok (.iload_n 1, 1) := by decide +kernel
theorem dX2_bestShelf_10 : decode cX2_bestShelf 10 = .ok (.invokevirtual 68, 3) := by decide +kernel
theorem dX2_bestShelf_13 : decode cX2_bestShelf 13 = .ok (.ifCond .ne 5, 3) := by decide +kernel
theorem dX2_bestShelf_16 : decode cX2_bestShelf 16 = .ok (.iconst (-1), 1) := by decide +kernel
theorem dX2_bestShelf_17 : decode cX2_bestShelf 17 = .ok (.ireturn, 1) := by decide +kernel
theorem dX2_bestShelf_18 : decode cX2_bestShelf 18 = .ok (.iconst 0, 1) := by decide +kernel
theorem dX2_bestShelf_19 : decode cX2_bestShelf 19 = .ok (.istore_n 2, 1) := by decide +kernel
theorem dX2_bestShelf_20 : decode cX2_bestShelf 20 = .ok (.iconst 1, 1) := by decide +kernel
theorem dX2_bestShelf_21 : decode cX2_bestShelf 21 = .ok (.istore_n 3, 1) := by decide +kernel
theorem dX2_bestShelf_22 : decode cX2_bestShelf 22 = .ok (.iload_n 3, 1) := by decide +kernel
theorem dX2_bestShelf_23 : decode cX2_bestShelf 23 = .ok (.iconst 4, 1) := by decide +kernel
theorem dX2_bestShelf_24 : decode cX2_bestShelf 24 = .ok (.if_icmp .ge 35, 3) := by decide +kernel
theorem dX2_bestShelf_27 : decode cX2_bestShelf 27 = .ok (.aload_n 0, 1) := by decide +kernel
theorem dX2_bestShelf_28 : decode cX2_bestShelf 28 = .ok (.getfield 10, 3) := by decide +kernel
theorem dX2_bestShelf_31 : decode cX2_bestShelf 31 = .ok (.iload_n 1, 1) := by decide +kernel
theorem dX2_bestShelf_32 : decode cX2_bestShelf 32 = .ok (.iload_n 3, 1) := by decide +kernel
theorem dX2_bestShelf_33 : decode cX2_bestShelf 33 = .ok (.invokevirtual 142, 3) := by decide +kernel
theorem dX2_bestShelf_36 : decode cX2_bestShelf 36 = .ok (.aload_n 0, 1) := by decide +kernel
theorem dX2_bestShelf_37 : decode cX2_bestShelf 37 = .ok (.getfield 10, 3) := by decide +kernel
theorem dX2_bestShelf_40 : decode cX2_bestShelf 40 = .ok (.iload_n 1, 1) := by decide +kernel
theorem dX2_bestShelf_41 : decode cX2_bestShelf 41 = .ok (.iload_n 2, 1) := by decide +kernel
theorem dX2_bestShelf_42 : decode cX2_bestShelf 42 = .ok (.invokevirtual 142, 3) := by decide +kernel
theorem dX2_bestShelf_45 : decode cX2_bestShelf 45 = .ok (.invokestatic 152, 3) := by decide +kernel
theorem dX2_bestShelf_48 : decode cX2_bestShelf 48 = .ok (.ifCond .eq 5, 3) := by decide +kernel
theorem dX2_bestShelf_51 : decode cX2_bestShelf 51 = .ok (.iload_n 3, 1) := by decide +kernel
theorem dX2_bestShelf_52 : decode cX2_bestShelf 52 = .ok (.istore_n 2, 1) := by decide +kernel
theorem dX2_bestShelf_53 : decode cX2_bestShelf 53 = .ok (.iinc 3 1, 3) := by decide +kernel
theorem dX2_bestShelf_56 : decode cX2_bestShelf 56 = .ok (.goto (-34), 3) := by decide +kernel
theorem dX2_bestShelf_59 : decode cX2_bestShelf 59 = .ok (.iload_n 2, 1) := by decide +kernel
theorem dX2_bestShelf_60 : decode cX2_bestShelf 60 = .ok (.ireturn, 1) := by decide +kernel
set_option maxRecDepth 20000 in
theorem ggX2_meanVacuum_X1_countAt : GoodIn wsX2_meanVacuum wsX1_countAt := goodIn_r _ [6, 7, 8, 9, 10, 11, 12, 13, 14, 26, 27, 28, 29, 30, 31, 32, 33, 34, 35, 36, 37, 38, 39, 40] (by decide +kernel) (by decide +kernel)
set_option maxRecDepth 20000 in
theorem gX2_meanVacuum_X1_countAt : GoodIn wsX2_meanVacuum (wsV RX2 108 RX1 yX1_countAt wsX1_countAt) := goodIn_app (goodIn_of _ (by decide +kernel)) ggX2_meanVacuum_X1_countAt
set_option maxRecDepth 20000 in
theorem ggX2_meanVacuum_X1_vacuumHeld : GoodIn wsX2_meanVacuum wsX1_vacuumHeld := goodIn_r _ [18, 7, 19, 20, 21, 22, 5, 23, 8, 9, 10, 11, 12, 13, 14, 26, 27, 28, 29, 30, 31, 32, 33, 34, 35, 36, 37, 38, 39, 40] (by decide +kernel) (by decide +kernel)
set_option maxRecDepth 20000 in
theorem gX2_meanVacuum_X1_vacuumHeld : GoodIn wsX2_meanVacuum (wsV RX2 156 RX1 yX1_vacuumHeld wsX1_vacuumHeld) := goodIn_app (goodIn_of _ (by decide +kernel)) ggX2_meanVacuum_X1_vacuumHeld
theorem dX2_meanVacuum_0 : decode cX2_meanVacuum 0 = .ok (.aload_n 0, 1) := by decide +kernel
theorem dX2_meanVacuum_1 : decode cX2_meanVacuum 1 = .ok (.getfield 10, 3) := by decide +kernel
theorem dX2_meanVacuum_4 : decode cX2_meanVacuum 4 = .ok (.iconst 1, 1) := by decide +kernel
theorem dX2_meanVacuum_5 : decode cX2_meanVacuum 5 = .ok (.invokevirtual 108, 3) := by decide +kernel
theorem dX2_meanVacuum_8 : decode cX2_meanVacuum 8 = .ok (.istore_n 1, 1) := by decide +kernel
theorem dX2_meanVacuum_9 : decode cX2_meanVacuum 9 = .ok (.iload_n 1, 1) := by decide +kernel
theorem dX2_meanVacuum_10 : decode cX2_meanVacuum 10 = .ok (.ifCond .ne 5, 3) := by decide +kernel
theorem dX2_meanVacuum_13 : decode cX2_meanVacuum 13 = .ok (.dconst 0, 1) := by decide +kernel
theorem dX2_meanVacuum_14 : decode cX2_meanVacuum 14 = .ok (.dreturn, 1) := by decide +kernel
theorem dX2_meanVacuum_15 : decode cX2_meanVacuum 15 = .ok (.aload_n 0, 1) := by decide +kernel
theorem dX2_meanVacuum_16 : decode cX2_meanVacuum 16 = .ok (.getfield 10, 3) := by decide +kernel
theorem dX2_meanVacuum_19 : decode cX2_meanVacuum 19 = .ok (.invokevirtual 156, 3) := by decide +kernel
theorem dX2_meanVacuum_22 : decode cX2_meanVacuum 22 = .ok (.i2d, 1) := by decide +kernel
theorem dX2_meanVacuum_23 : decode cX2_meanVacuum 23 = .ok (.iload_n 1, 1) := by decide +kernel
theorem dX2_meanVacuum_24 : decode cX2_meanVacuum 24 = .ok (.i2d, 1) := by decide +kernel
theorem dX2_meanVacuum_25 : decode cX2_meanVacuum 25 = .ok (.ddiv, 1) := by decide +kernel
theorem dX2_meanVacuum_26 : decode cX2_meanVacuum 26 = .ok (.dreturn, 1) := by decide +kernel
set_option maxRecDepth 20000 in
theorem ggX2_digest_X2_day : GoodIn wsX2_digest wsX2_day := goodIn_r _ [6, 7, 239, 240, 241, 242, 243, 244, 245, 246, 247, 248, 249, 250, 251, 252, 253, 254] (by decide +kernel) (by decide +kernel)
set_option maxRecDepth 20000 in
theorem gX2_digest_X2_day : GoodIn wsX2_digest (wsV RX2 162 RX2 yX2_day wsX2_day) := goodIn_app (goodIn_of _ (by decide +kernel)) ggX2_digest_X2_day
set_option maxRecDepth 20000 in
theorem ggX2_digest_X2_mix : GoodIn wsX2_digest wsX2_mix := goodIn_r _ [10, 11] (by decide +kernel) (by decide +kernel)
set_option maxRecDepth 20000 in
theorem gX2_digest_X2_mix : GoodIn wsX2_digest (va_wsS RX2 164 yX2_mix wsX2_mix) := goodIn_app (goodIn_of _ (by decide +kernel)) ggX2_digest_X2_mix
set_option maxRecDepth 20000 in
theorem ggX2_digest_X2_batches : GoodIn wsX2_digest wsX2_batches := goodIn_r _ [15, 7, 239, 240, 241, 242, 243, 244, 245, 246, 247, 248, 249, 250, 251, 252, 253, 254] (by decide +kernel) (by decide +kernel)
set_option maxRecDepth 20000 in
theorem gX2_digest_X2_batches : GoodIn wsX2_digest (wsV RX2 168 RX2 yX2_batches wsX2_batches) := goodIn_app (goodIn_of _ (by decide +kernel)) ggX2_digest_X2_batches
set_option maxRecDepth 20000 in
theorem ggX2_digest_X2_tins : GoodIn wsX2_digest wsX2_tins := goodIn_r _ [19, 7, 239, 240, 241, 242, 243, 244, 245, 246, 247, 248, 249, 250, 251, 252, 253, 254] (by decide +kernel) (by decide +kernel)
set_option maxRecDepth 20000 in
theorem gX2_digest_X2_tins : GoodIn wsX2_digest (wsV RX2 171 RX2 yX2_tins wsX2_tins) := goodIn_app (goodIn_of _ (by decide +kernel)) ggX2_digest_X2_tins
set_option maxRecDepth 20000 in
theorem ggX2_digest_X2_inCellar : GoodIn wsX2_digest wsX2_inCellar := goodIn_r _ [23, 7, 24, 25, 26, 27, 28, 29, 30, 31, 32, 33, 34, 35, 36, 239, 240, 241, 242, 243, 244, 245, 246, 247, 248, 249, 250, 251, 252, 253, 254, 255] (by decide +kernel) (by decide +kernel)
set_option maxRecDepth 20000 in
theorem gX2_digest_X2_inCellar : GoodIn wsX2_digest (wsV RX2 174 RX2 yX2_inCellar wsX2_inCellar) := goodIn_app (goodIn_of _ (by decide +kernel)) ggX2_digest_X2_inCellar
set_option maxRecDepth 20000 in
theorem ggX2_digest_X2_shipped : GoodIn wsX2_digest wsX2_shipped := goodIn_r _ [40, 7, 24, 25, 26, 27, 28, 29, 30, 31, 32, 33, 34, 35, 36, 239, 240, 241, 242, 243, 244, 245, 246, 247, 248, 249, 250, 251, 252, 253, 254, 255] (by decide +kernel) (by decide +kernel)
set_option maxRecDepth 20000 in
theorem gX2_digest_X2_shipped : GoodIn wsX2_digest (wsV RX2 177 RX2 yX2_shipped wsX2_shipped) := goodIn_app (goodIn_of _ (by decide +kernel)) ggX2_digest_X2_shipped
set_option maxRecDepth 20000 in
theorem ggX2_digest_X2_lost : GoodIn wsX2_digest wsX2_lost := goodIn_r _ [44, 7, 24, 25, 26, 27, 28, 29, 30, 31, 32, 33, 34, 35, 36, 239, 240, 241, 242, 243, 244, 245, 246, 247, 248, 249, 250, 251, 252, 253, 254, 255] (by decide +kernel) (by decide +kernel)
set_option maxRecDepth 20000 in
theorem gX2_digest_X2_lost : GoodIn wsX2_digest (wsV RX2 180 RX2 yX2_lost wsX2_lost) := goodIn_app (goodIn_of _ (by decide +kernel)) ggX2_digest_X2_lost
set_option maxRecDepth 20000 in
theorem ggX2_digest_X2_swelled : GoodIn wsX2_digest wsX2_swelled := goodIn_r _ [48, 7, 49, 32, 33, 34, 35, 36, 239, 240, 241, 242, 243, 244, 245, 246, 247, 248, 249, 250, 251, 252, 253, 254, 255] (by decide +kernel) (by decide +kernel)
set_option maxRecDepth 20000 in
theorem gX2_digest_X2_swelled : GoodIn wsX2_digest (wsV RX2 183 RX2 yX2_swelled wsX2_swelled) := goodIn_app (goodIn_of _ (by decide +kernel)) ggX2_digest_X2_swelled
set_option maxRecDepth 20000 in
theorem ggX2_digest_X2_first : GoodIn wsX2_digest wsX2_first := goodIn_ca (goodIn_r _ [53, 7, 54, 55, 5, 56, 57, 58, 59, 60, 61, 62, 63, 64, 27, 65, 29, 66, 67, 68, 69, 30, 31, 32, 33, 34, 35, 36, 70, 71, 72, 73, 74, 75, 76, 239, 240, 241, 242, 243, 244, 245, 246, 247, 248, 249, 250, 251, 252, 253, 254, 255] (by decide +kernel) (by decide +kernel)) (goodIn_sub (fun _ h => List.mem_cons_of_mem _ (List.mem_append_left _ (List.mem_append_right _ h))) (by decide +kernel))
set_option maxRecDepth 20000 in
theorem gX2_digest_X2_first : GoodIn wsX2_digest (wsV RX2 186 RX2 yX2_first wsX2_first) := goodIn_app (goodIn_of _ (by decide +kernel)) ggX2_digest_X2_first
set_option maxRecDepth 20000 in
theorem ggX2_digest_X2_bestOrder : GoodIn wsX2_digest wsX2_bestOrder := goodIn_r _ [80, 7, 81, 82, 83, 5, 84, 85, 86, 87, 88, 27, 89, 75, 90, 91, 92, 93, 94, 95, 76, 74, 30, 29, 96, 97, 98, 99, 100, 101, 34, 102, 36, 103, 32, 33, 35, 104, 105, 106, 107, 108, 109, 110, 111, 112, 113, 114, 115, 66, 67, 68, 69, 31, 116, 117, 118, 119, 120, 121, 122, 123, 124, 125, 126, 127, 128, 129, 130, 131, 132, 133, 134, 135, 136, 137, 138, 139, 140, 63, 64, 65, 70, 71, 72, 73, 141, 142, 143, 144, 24, 25, 26, 28, 239, 240, 241, 242, 243, 244, 245, 246, 247, 248, 249, 250, 251, 252, 253, 254, 255] (by decide +kernel) (by decide +kernel)
set_option maxRecDepth 20000 in
theorem gX2_digest_X2_bestOrder : GoodIn wsX2_digest (wsV RX2 189 RX2 yX2_bestOrder wsX2_bestOrder) := goodIn_app (goodIn_of _ (by decide +kernel)) ggX2_digest_X2_bestOrder
set_option maxRecDepth 20000 in
theorem ggX2_digest_X2_shippingWanted : GoodIn wsX2_digest wsX2_shippingWanted := goodIn_r _ [148, 7, 81, 82, 83, 5, 84, 85, 86, 87, 88, 27, 89, 75, 90, 91, 92, 93, 94, 95, 76, 74, 30, 29, 96, 97, 98, 99, 100, 101, 34, 102, 36, 103, 32, 33, 35, 104, 105, 106, 107, 108, 109, 110, 111, 112, 113, 114, 115, 66, 67, 68, 69, 31, 116, 117, 118, 119, 120, 121, 122, 123, 124, 125, 126, 127, 128, 129, 130, 131, 132, 133, 134, 135, 136, 137, 138, 139, 140, 63, 64, 65, 70, 71, 72, 73, 141, 142, 143, 144, 24, 25, 26, 28, 239, 240, 241, 242, 243, 244, 245, 246, 247, 248, 249, 250, 251, 252, 253, 254, 255] (by decide +kernel) (by decide +kernel)
set_option maxRecDepth 20000 in
theorem gX2_digest_X2_shippingWanted : GoodIn wsX2_digest (wsV RX2 192 RX2 yX2_shippingWanted wsX2_shippingWanted) := goodIn_app (goodIn_of _ (by decide +kernel)) ggX2_digest_X2_shippingWanted
set_option maxRecDepth 20000 in
theorem ggX2_digest_X2_mixShelves : GoodIn wsX2_digest wsX2_mixShelves := goodIn_ca (goodIn_r _ [152, 153, 154, 155, 5, 156, 7, 157, 158, 159, 160, 161, 59, 60, 61, 162, 163, 164, 27, 165, 29, 66, 67, 68, 69, 30, 31, 32, 33, 34, 35, 36, 8, 9, 10, 11, 166, 167, 168, 169, 49, 239, 240, 241, 242, 243, 244, 245, 246, 247, 248, 249, 250, 251, 252, 253, 254, 255] (by decide +kernel) (by decide +kernel)) (goodIn_sub (fun _ h => List.mem_cons_of_mem _ (List.mem_append_right _ h)) (by decide +kernel))
set_option maxRecDepth 20000 in
theorem gX2_digest_X2_mixShelves : GoodIn wsX2_digest (wsV RX2 195 RX2 yX2_mixShelves wsX2_mixShelves) := goodIn_app (goodIn_of _ (by decide +kernel)) ggX2_digest_X2_mixShelves
set_option maxRecDepth 20000 in
theorem ggX2_digest_X2_mixBatches : GoodIn wsX2_digest wsX2_mixBatches := goodIn_ca (goodIn_r _ [173, 7, 174, 175, 176, 5, 177, 178, 179, 180, 181, 160, 161, 59, 60, 61, 49, 32, 33, 34, 35, 36, 8, 9, 10, 11, 182, 183, 184, 185, 162, 163, 164, 27, 165, 29, 66, 67, 68, 69, 30, 31, 186, 187, 188, 189, 190, 133, 134, 135, 93, 191, 192, 193, 194, 85, 86, 87, 88, 89, 75, 90, 91, 92, 94, 95, 76, 74, 96, 97, 98, 99, 100, 101, 102, 103, 104, 105, 106, 107, 108, 109, 110, 111, 112, 113, 114, 115, 116, 117, 118, 119, 120, 121, 122, 123, 124, 125, 126, 127, 128, 129, 130, 131, 132, 136, 137, 138, 139, 140, 63, 64, 65, 70, 71, 72, 73, 141, 142, 143, 144, 239, 240, 241, 242, 243, 244, 245, 246, 247, 248, 249, 250, 251, 252, 253, 254, 255] (by decide +kernel) (by decide +kernel)) (goodIn_sub (fun _ h => List.mem_cons_of_mem _ (List.mem_append_right _ h)) (by decide +kernel))
set_option maxRecDepth 20000 in
theorem gX2_digest_X2_mixBatches : GoodIn wsX2_digest (wsV RX2 199 RX2 yX2_mixBatches wsX2_mixBatches) := goodIn_app (goodIn_of _ (by decide +kernel)) ggX2_digest_X2_mixBatches
set_option maxRecDepth 20000 in
theorem ggX2_digest_X2_mixTins : GoodIn wsX2_digest wsX2_mixTins := goodIn_ca (goodIn_ca (goodIn_r _ [198, 7, 199, 200, 201, 5, 202, 203, 204, 205, 206, 160, 161, 59, 60, 61, 207, 67, 68, 27, 69, 30, 31, 32, 33, 34, 35, 36, 49, 8, 9, 10, 11, 208, 209, 210, 211, 212, 213, 214, 215, 216, 217, 218, 219, 54, 55, 56, 57, 58, 220, 221, 222, 223, 29, 70, 71, 72, 73, 74, 75, 76, 66, 224, 225, 226, 227, 228, 229, 230, 231, 116, 117, 118, 119, 91, 95, 232, 233, 234, 235, 236, 237, 238, 239, 240, 241, 242, 243, 244, 245, 246, 247, 248, 249, 250, 251, 252, 253, 254, 255] (by decide +kernel) (by decide +kernel)) (goodIn_sub (fun _ h => List.mem_cons_of_mem _ (List.mem_append_right _ h)) (by decide +kernel))) (goodIn_sub (fun _ h => List.mem_cons_of_mem _ (List.mem_append_left _ (List.mem_append_right _ h))) (by decide +kernel))
set_option maxRecDepth 20000 in
theorem gX2_digest_X2_mixTins : GoodIn wsX2_digest (wsV RX2 202 RX2 yX2_mixTins wsX2_mixTins) := goodIn_app (goodIn_of _ (by decide +kernel)) ggX2_digest_X2_mixTins
theorem dX2_digest_0 : decode cX2_digest 0 = .ok (.ldc2_w 160, 3) := by decide +kernel
theorem dX2_digest_3 : decode cX2_digest 3 = .ok (.lstore_n 1, 1) := by decide +kernel
theorem dX2_digest_4 : decode cX2_digest 4 = .ok (.lload_n 1, 1) := by decide +kernel
theorem dX2_digest_5 : decode cX2_digest 5 = .ok (.aload_n 0, 1) := by decide +kernel
theorem dX2_digest_6 : decode cX2_digest 6 = .ok (.invokevirtual 162, 3) := by decide +kernel
theorem dX2_digest_9 : decode cX2_digest 9 = .ok (.i2l, 1) := by decide +kernel
theorem dX2_digest_10 : decode cX2_digest 10 = .ok (.invokestatic 164, 3) := by decide +kernel
theorem dX2_digest_13 : decode cX2_digest 13 = .ok (.lstore_n 1, 1) := by decide +kernel
theorem dX2_digest_14 : decode cX2_digest 14 = .ok (.lload_n 1, 1) := by decide +kernel
theorem dX2_digest_15 : decode cX2_digest 15 = .ok (.aload_n 0, 1) := by decide +kernel
theorem dX2_digest_16 : decode cX2_digest 16 = .ok (.invokevirtual 168, 3) := by decide +kernel
theorem dX2_digest_19 : decode cX2_digest 19 = .ok (.i2l, 1) := by decide +kernel
theorem dX2_digest_20 : decode cX2_digest 20 = .ok (.invokestatic 164, 3) := by decide +kernel
theorem dX2_digest_23 : decode cX2_digest 23 = .ok (.lstore_n 1, 1) := by decide +kernel
theorem dX2_digest_24 : decode cX2_digest 24 = .ok (.lload_n 1, 1) := by decide +kernel
theorem dX2_digest_25 : decode cX2_digest 25 = .ok (.aload_n 0, 1) := by decide +kernel
theorem dX2_digest_26 : decode cX2_digest 26 = .ok (.invokevirtual 171, 3) := by decide +kernel
theorem dX2_digest_29 : decode cX2_digest 29 = .ok (.i2l, 1) := by decide +kernel
theorem dX2_digest_30 : decode cX2_digest 30 = .ok (.invokestatic 164, 3) := by decide +kernel
theorem dX2_digest_33 : decode cX2_digest 33 = .ok (.lstore_n 1, 1) := by decide +kernel
theorem dX2_digest_34 : decode cX2_digest 34 = .ok (.lload_n 1, 1) := by decide +kernel
theorem dX2_digest_35 : decode cX2_digest 35 = .ok (.aload_n 0, 1) := by decide +kernel
theorem dX2_digest_36 : decode cX2_digest 36 = .ok (.invokevirtual 174, 3) := by decide +kernel
theorem dX2_digest_39 : decode cX2_digest 39 = .ok (.i2l, 1) := by decide +kernel
theorem dX2_digest_40 : decode cX2_digest 40 = .ok (.invokestatic 164, 3) := by decide +kernel
theorem dX2_digest_43 : decode cX2_digest 43 = .ok (.lstore_n 1, 1) := by decide +kernel
theorem dX2_digest_44 : decode cX2_digest 44 = .ok (.lload_n 1, 1) := by decide +kernel
theorem dX2_digest_45 : decode cX2_digest 45 = .ok (.aload_n 0, 1) := by decide +kernel
theorem dX2_digest_46 : decode cX2_digest 46 = .ok (.invokevirtual 177, 3) := by decide +kernel
theorem dX2_digest_49 : decode cX2_digest 49 = .ok (.i2l, 1) := by decide +kernel
theorem dX2_digest_50 : decode cX2_digest 50 = .ok (.invokestatic 164, 3) := by decide +kernel
theorem dX2_digest_53 : decode cX2_digest 53 = .ok (.lstore_n 1, 1) := by decide +kernel
theorem dX2_digest_54 : decode cX2_digest 54 = .ok (.lload_n 1, 1) := by decide +kernel
theorem dX2_digest_55 : decode cX2_digest 55 = .ok (.aload_n 0, 1) := by decide +kernel
theorem dX2_digest_56 : decode cX2_digest 56 = .ok (.invokevirtual 180, 3) := by decide +kernel
theorem dX2_digest_59 : decode cX2_digest 59 = .ok (.i2l, 1) := by decide +kernel
theorem dX2_digest_60 : decode cX2_digest 60 = .ok (.invokestatic 164, 3) := by decide +kernel
theorem dX2_digest_63 : decode cX2_digest 63 = .ok (.lstore_n 1, 1) := by decide +kernel
theorem dX2_digest_64 : decode cX2_digest 64 = .ok (.lload_n 1, 1) := by decide +kernel
theorem dX2_digest_65 : decode cX2_digest 65 = .ok (.aload_n 0, 1) := by decide +kernel
theorem dX2_digest_66 : decode cX2_digest 66 = .ok (.invokevirtual 183, 3) := by decide +kernel
theorem dX2_digest_69 : decode cX2_digest 69 = .ok (.i2l, 1) := by decide +kernel
theorem dX2_digest_70 : decode cX2_digest 70 = .ok (.invokestatic 164, 3) := by decide +kernel
theorem dX2_digest_73 : decode cX2_digest 73 = .ok (.lstore_n 1, 1) := by decide +kernel
theorem dX2_digest_74 : decode cX2_digest 74 = .ok (.iconst 0, 1) := by decide +kernel
theorem dX2_digest_75 : decode cX2_digest 75 = .ok (.istore_n 3, 1) := by decide +kernel
theorem dX2_digest_76 : decode cX2_digest 76 = .ok (.iload_n 3, 1) := by decide +kernel
theorem dX2_digest_77 : decode cX2_digest 77 = .ok (.iconst 2, 1) := by decide +kernel
theorem dX2_digest_78 : decode cX2_digest 78 = .ok (.if_icmp .gt 20, 3) := by decide +kernel
theorem dX2_digest_81 : decode cX2_digest 81 = .ok (.lload_n 1, 1) := by decide +kernel
theorem dX2_digest_82 : decode cX2_digest 82 = .ok (.aload_n 0, 1) := by decide +kernel
theorem dX2_digest_83 : decode cX2_digest 83 = .ok (.iload_n 3, 1) := by decide +kernel
theorem dX2_digest_84 : decode cX2_digest 84 = .ok (.invokevirtual 186, 3) := by decide +kernel
theorem dX2_digest_87 : decode cX2_digest 87 = .ok (.i2l, 1) := by decide +kernel
theorem dX2_digest_88 : decode cX2_digest 88 = .ok (.invokestatic 164, 3) := by decide +kernel
theorem dX2_digest_91 : decode cX2_digest 91 = .ok (.lstore_n 1, 1) := by decide +kernel
theorem dX2_digest_92 : decode cX2_digest 92 = .ok (.iinc 3 1, 3) := by decide +kernel
theorem dX2_digest_95 : decode cX2_digest 95 = .ok (.goto (-19), 3) := by decide +kernel
theorem dX2_digest_98 : decode cX2_digest 98 = .ok (.lload_n 1, 1) := by decide +kernel
theorem dX2_digest_99 : decode cX2_digest 99 = .ok (.aload_n 0, 1) := by decide +kernel
theorem dX2_digest_100 : decode cX2_digest 100 = .ok (.invokevirtual 189, 3) := by decide +kernel
theorem dX2_digest_103 : decode cX2_digest 103 = .ok (.i2l, 1) := by decide +kernel
theorem dX2_digest_104 : decode cX2_digest 104 = .ok (.invokestatic 164, 3) := by decide +kernel
theorem dX2_digest_107 : decode cX2_digest 107 = .ok (.lstore_n 1, 1) := by decide +kernel
theorem dX2_digest_108 : decode cX2_digest 108 = .ok (.lload_n 1, 1) := by decide +kernel
theorem dX2_digest_109 : decode cX2_digest 109 = .ok (.aload_n 0, 1) := by decide +kernel
theorem dX2_digest_110 : decode cX2_digest 110 = .ok (.invokevirtual 192, 3) := by decide +kernel
theorem dX2_digest_113 : decode cX2_digest 113 = .ok (.i2l, 1) := by decide +kernel
theorem dX2_digest_114 : decode cX2_digest 114 = .ok (.invokestatic 164, 3) := by decide +kernel
theorem dX2_digest_117 : decode cX2_digest 117 = .ok (.lstore_n 1, 1) := by decide +kernel
theorem dX2_digest_118 : decode cX2_digest 118 = .ok (.aload_n 0, 1) := by decide +kernel
theorem dX2_digest_119 : decode cX2_digest 119 = .ok (.lload_n 1, 1) := by decide +kernel
theorem dX2_digest_120 : decode cX2_digest 120 = .ok (.invokevirtual 195, 3) := by decide +kernel
theorem dX2_digest_123 : decode cX2_digest 123 = .ok (.lstore_n 1, 1) := by decide +kernel
theorem dX2_digest_124 : decode cX2_digest 124 = .ok (.aload_n 0, 1) := by decide +kernel
theorem dX2_digest_125 : decode cX2_digest 125 = .ok (.lload_n 1, 1) := by decide +kernel
theorem dX2_digest_126 : decode cX2_digest 126 = .ok (.invokevirtual 199, 3) := by decide +kernel
theorem dX2_digest_129 : decode cX2_digest 129 = .ok (.lstore_n 1, 1) := by decide +kernel
theorem dX2_digest_130 : decode cX2_digest 130 = .ok (.aload_n 0, 1) := by decide +kernel
theorem dX2_digest_131 : decode cX2_digest 131 = .ok (.lload_n 1, 1) := by decide +kernel
theorem dX2_digest_132 : decode cX2_digest 132 = .ok (.invokevirtual 202, 3) := by decide +kernel
theorem dX2_digest_135 : decode cX2_digest 135 = .ok (.lreturn, 1) := by decide +kernel
set_option maxRecDepth 20000 in
theorem ggX2_mixShelves_X2_standOn : GoodIn wsX2_mixShelves wsX2_standOn := goodIn_ca (goodIn_r _ [5, 6, 7, 8, 4, 9, 10, 11, 12, 13, 14, 15, 16, 17, 18, 19, 20, 21, 22, 23, 24, 25, 26, 27, 28, 29, 30, 31, 41, 42, 43, 44, 45, 46, 47, 48, 49, 50, 51, 52, 53, 54, 55, 56, 57] (by decide +kernel) (by decide +kernel)) (goodIn_sub (fun _ h => List.mem_cons_of_mem _ (List.mem_append_right _ h)) (by decide +kernel))
set_option maxRecDepth 20000 in
theorem gX2_mixShelves_X2_standOn : GoodIn wsX2_mixShelves (wsV RX2 205 RX2 yX2_standOn wsX2_standOn) := goodIn_app (goodIn_of _ (by decide +kernel)) ggX2_mixShelves_X2_standOn
set_option maxRecDepth 20000 in
theorem ggX2_mixShelves_X2_mix : GoodIn wsX2_mixShelves wsX2_mix := goodIn_r _ [34, 35] (by decide +kernel) (by decide +kernel)
set_option maxRecDepth 20000 in
theorem gX2_mixShelves_X2_mix : GoodIn wsX2_mixShelves (va_wsS RX2 164 yX2_mix wsX2_mix) := goodIn_app (goodIn_of _ (by decide +kernel)) ggX2_mixShelves_X2_mix
set_option maxRecDepth 20000 in
theorem ggX2_mixShelves_X2_warmOf : GoodIn wsX2_mixShelves wsX2_warmOf := goodIn_ca (goodIn_r _ [39, 6, 7, 8, 4, 9, 10, 11, 12, 13, 14, 40, 27, 28, 29, 30, 31, 41, 42, 43, 44, 45, 46, 47, 48, 49, 50, 51, 52, 53, 54, 55, 56, 57] (by decide +kernel) (by decide +kernel)) (goodIn_sub (fun _ h => List.mem_cons_of_mem _ (List.mem_append_right _ h)) (by decide +kernel))
set_option maxRecDepth 20000 in
theorem gX2_mixShelves_X2_warmOf : GoodIn wsX2_mixShelves (wsV RX2 208 RX2 yX2_warmOf wsX2_warmOf) := goodIn_app (goodIn_of _ (by decide +kernel)) ggX2_mixShelves_X2_warmOf
theorem dX2_mixShelves_0 : decode cX2_mixShelves 0 = .ok (.lload_n 1, 1) := by decide +kernel
theorem dX2_mixShelves_1 : decode cX2_mixShelves 1 = .ok (.lstore_n 3, 1) := by decide +kernel
theorem dX2_mixShelves_2 : decode cX2_mixShelves 2 = .ok (.iconst 0, 1) := by decide +kernel
theorem dX2_mixShelves_3 : decode cX2_mixShelves 3 = .ok (.istore 5, 2) := by decide +kernel
theorem dX2_mixShelves_5 : decode cX2_mixShelves 5 = .ok (.iload 5, 2) := by decide +kernel
theorem dX2_mixShelves_7 : decode cX2_mixShelves 7 = .ok (.iconst 4, 1) := by decide +kernel
theorem dX2_mixShelves_8 : decode cX2_mixShelves 8 = .ok (.if_icmp .ge 33, 3) := by decide +kernel
theorem dX2_mixShelves_11 : decode cX2_mixShelves 11 = .ok (.lload_n 3, 1) := by decide +kernel
theorem dX2_mixShelves_12 : decode cX2_mixShelves 12 = .ok (.aload_n 0, 1) := by decide +kernel
theorem dX2_mixShelves_13 : decode cX2_mixShelves 13 = .ok (.iload 5, 2) := by decide +kernel
theorem dX2_mixShelves_15 : decode cX2_mixShelves 15 = .ok (.invokevirtual 205, 3) := by decide +kernel
theorem dX2_mixShelves_18 : decode cX2_mixShelves 18 = .ok (.i2l, 1) := by decide +kernel
theorem dX2_mixShelves_19 : decode cX2_mixShelves 19 = .ok (.invokestatic 164, 3) := by decide +kernel
theorem dX2_mixShelves_22 : decode cX2_mixShelves 22 = .ok (.lstore_n 3, 1) := by decide +kernel
theorem dX2_mixShelves_23 : decode cX2_mixShelves 23 = .ok (.lload_n 3, 1) := by decide +kernel
theorem dX2_mixShelves_24 : decode cX2_mixShelves 24 = .ok (.aload_n 0, 1) := by decide +kernel
theorem dX2_mixShelves_25 : decode cX2_mixShelves 25 = .ok (.iload 5, 2) := by decide +kernel
theorem dX2_mixShelves_27 : decode cX2_mixShelves 27 = .ok (.invokevirtual 208, 3) := by decide +kernel
theorem dX2_mixShelves_30 : decode cX2_mixShelves 30 = .ok (.i2l, 1) := by decide +kernel
theorem dX2_mixShelves_31 : decode cX2_mixShelves 31 = .ok (.invokestatic 164, 3) := by decide +kernel
theorem dX2_mixShelves_34 : decode cX2_mixShelves 34 = .ok (.lstore_n 3, 1) := by decide +kernel
theorem dX2_mixShelves_35 : decode cX2_mixShelves 35 = .ok (.iinc 5 1, 3) := by decide +kernel
theorem dX2_mixShelves_38 : decode cX2_mixShelves 38 = .ok (.goto (-33), 3) := by decide +kernel
theorem dX2_mixShelves_41 : decode cX2_mixShelves 41 = .ok (.lload_n 3, 1) := by decide +kernel
theorem dX2_mixShelves_42 : decode cX2_mixShelves 42 = .ok (.lreturn, 1) := by decide +kernel
set_option maxRecDepth 20000 in
theorem ggX2_mixBatches_X2_swelledOf : GoodIn wsX2_mixBatches wsX2_swelledOf := goodIn_ca (goodIn_r _ [6, 1, 7, 8, 9, 5, 10, 11, 12, 13, 14, 15, 16, 17, 18, 19, 20, 21, 121, 122, 123, 124, 125, 126, 127, 128, 129, 130, 131, 132, 133, 134, 135, 136, 137] (by decide +kernel) (by decide +kernel)) (goodIn_sub (fun _ h => List.mem_cons_of_mem _ (List.mem_append_right _ h)) (by decide +kernel))
set_option maxRecDepth 20000 in
theorem gX2_mixBatches_X2_swelledOf : GoodIn wsX2_mixBatches (wsV RX2 211 RX2 yX2_swelledOf wsX2_swelledOf) := goodIn_app (goodIn_of _ (by decide +kernel)) ggX2_mixBatches_X2_swelledOf
set_option maxRecDepth 20000 in
theorem ggX2_mixBatches_X2_mix : GoodIn wsX2_mixBatches wsX2_mix := goodIn_r _ [24, 25] (by decide +kernel) (by decide +kernel)
set_option maxRecDepth 20000 in
theorem gX2_mixBatches_X2_mix : GoodIn wsX2_mixBatches (va_wsS RX2 164 yX2_mix wsX2_mix) := goodIn_app (goodIn_of _ (by decide +kernel)) ggX2_mixBatches_X2_mix
set_option maxRecDepth 20000 in
theorem ggX2_mixBatches_X2_leftOf : GoodIn wsX2_mixBatches wsX2_leftOf := goodIn_ca (goodIn_r _ [29, 1, 7, 8, 9, 5, 10, 11, 12, 13, 14, 15, 30, 31, 32, 33, 34, 35, 36, 37, 38, 39, 40, 41, 17, 18, 19, 20, 21, 121, 122, 123, 124, 125, 126, 127, 128, 129, 130, 131, 132, 133, 134, 135, 136, 137] (by decide +kernel) (by decide +kernel)) (goodIn_sub (fun _ h => List.mem_cons_of_mem _ (List.mem_append_right _ h)) (by decide +kernel))
set_option maxRecDepth 20000 in
theorem gX2_mixBatches_X2_leftOf : GoodIn wsX2_mixBatches (wsV RX2 214 RX2 yX2_leftOf wsX2_leftOf) := goodIn_app (goodIn_of _ (by decide +kernel)) ggX2_mixBatches_X2_leftOf
set_option maxRecDepth 20000 in
theorem ggX2_mixBatches_X2_isRecalled : GoodIn wsX2_mixBatches wsX2_isRecalled := goodIn_ca (goodIn_r _ [45, 1, 7, 8, 9, 5, 10, 11, 12, 13, 14, 15, 46, 47, 48, 33, 49, 50, 41, 17, 18, 19, 20, 21, 121, 122, 123, 124, 125, 126, 127, 128, 129, 130, 131, 132, 133, 134, 135, 136, 137] (by decide +kernel) (by decide +kernel)) (goodIn_sub (fun _ h => List.mem_cons_of_mem _ (List.mem_append_right _ h)) (by decide +kernel))
set_option maxRecDepth 20000 in
theorem gX2_mixBatches_X2_isRecalled : GoodIn wsX2_mixBatches (wsV RX2 217 RX2 yX2_isRecalled wsX2_isRecalled) := goodIn_app (goodIn_of _ (by decide +kernel)) ggX2_mixBatches_X2_isRecalled
set_option maxRecDepth 20000 in
theorem ggX2_mixBatches_X2_daysUntilRecalled : GoodIn wsX2_mixBatches wsX2_daysUntilRecalled := goodIn_ca (goodIn_r _ [54, 1, 55, 7, 8, 9, 5, 10, 11, 12, 13, 14, 15, 46, 47, 48, 33, 49, 50, 41, 17, 18, 19, 20, 21, 56, 57, 58, 59, 60, 61, 62, 63, 64, 65, 66, 67, 40, 35, 68, 69, 70, 71, 72, 73, 74, 75, 76, 77, 78, 79, 80, 81, 82, 83, 84, 85, 86, 87, 36, 37, 38, 39, 88, 89, 90, 91, 92, 93, 94, 95, 96, 97, 98, 99, 100, 101, 102, 103, 104, 105, 106, 107, 108, 109, 110, 111, 112, 113, 114, 115, 116, 117, 118, 119, 120, 121, 122, 123, 124, 125, 126, 127, 128, 129, 130, 131, 132, 133, 134, 135, 136, 137] (by decide +kernel) (by decide +kernel)) (goodIn_sub (fun _ h => List.mem_cons_of_mem _ (List.mem_append_right _ h)) (by decide +kernel))
set_option maxRecDepth 20000 in
theorem gX2_mixBatches_X2_daysUntilRecalled : GoodIn wsX2_mixBatches (wsV RX2 220 RX2 yX2_daysUntilRecalled wsX2_daysUntilRecalled) := goodIn_app (goodIn_of _ (by decide +kernel)) ggX2_mixBatches_X2_daysUntilRecalled
theorem dX2_mixBatches_0 : decode cX2_mixBatches 0 = .ok (.lload_n 1, 1) := by decide +kernel
theorem dX2_mixBatches_1 : decode cX2_mixBatches 1 = .ok (.lstore_n 3, 1) := by decide +kernel
theorem dX2_mixBatches_2 : decode cX2_mixBatches 2 = .ok (.iconst 0, 1) := by decide +kernel
theorem dX2_mixBatches_3 : decode cX2_mixBatches 3 = .ok (.istore 5, 2) := by decide +kernel
theorem dX2_mixBatches_5 : decode cX2_mixBatches 5 = .ok (.iload 5, 2) := by decide +kernel
theorem dX2_mixBatches_7 : decode cX2_mixBatches 7 = .ok (.aload_n 0, 1) := by decide +kernel
theorem dX2_mixBatches_8 : decode cX2_mixBatches 8 = .ok (.getfield 10, 3) := by decide +kernel
theorem dX2_mixBatches_11 : decode cX2_mixBatches 11 = .ok (.getfield 30, 3) := by decide +kernel
theorem dX2_mixBatches_14 : decode cX2_mixBatches 14 = .ok (.if_icmp .ge 64, 3) := by decide +kernel
theorem dX2_mixBatches_17 : decode cX2_mixBatches 17 = .ok (.lload_n 3, 1) := by decide +kernel
theorem dX2_mixBatches_18 : decode cX2_mixBatches 18 = .ok (.aload_n 0, 1) := by decide +kernel
theorem dX2_mixBatches_19 : decode cX2_mixBatches 19 = .ok (.iload 5, 2) := by decide +kernel
theorem dX2_mixBatches_21 : decode cX2_mixBatches 21 = .ok (.invokevirtual 211, 3) := by decide +kernel
theorem dX2_mixBatches_24 : decode cX2_mixBatches 24 = .ok (.i2l, 1) := by decide +kernel
theorem dX2_mixBatches_25 : decode cX2_mixBatches 25 = .ok (.invokestatic 164, 3) := by decide +kernel
theorem dX2_mixBatches_28 : decode cX2_mixBatches 28 = .ok (.lstore_n 3, 1) := by decide +kernel
theorem dX2_mixBatches_29 : decode cX2_mixBatches 29 = .ok (.lload_n 3, 1) := by decide +kernel
theorem dX2_mixBatches_30 : decode cX2_mixBatches 30 = .ok (.aload_n 0, 1) := by decide +kernel
theorem dX2_mixBatches_31 : decode cX2_mixBatches 31 = .ok (.iload 5, 2) := by decide +kernel
theorem dX2_mixBatches_33 : decode cX2_mixBatches 33 = .ok (.invokevirtual 214, 3) := by decide +kernel
theorem dX2_mixBatches_36 : decode cX2_mixBatches 36 = .ok (.i2l, 1) := by decide +kernel
theorem dX2_mixBatches_37 : decode cX2_mixBatches 37 = .ok (.invokestatic 164, 3) := by decide +kernel
theorem dX2_mixBatches_40 : decode cX2_mixBatches 40 = .ok (.lstore_n 3, 1) := by decide +kernel
theorem dX2_mixBatches_41 : decode cX2_mixBatches 41 = .ok (.lload_n 3, 1) := by decide +kernel
theorem dX2_mixBatches_42 : decode cX2_mixBatches 42 = .ok (.aload_n 0, 1) := by decide +kernel
theorem dX2_mixBatches_43 : decode cX2_mixBatches 43 = .ok (.iload 5, 2) := by decide +kernel
theorem dX2_mixBatches_45 : decode cX2_mixBatches 45 = .ok (.invokevirtual 217, 3) := by decide +kernel
theorem dX2_mixBatches_48 : decode cX2_mixBatches 48 = .ok (.ifCond .eq 7, 3) := by decide +kernel
theorem dX2_mixBatches_51 : decode cX2_mixBatches 51 = .ok (.lconst 1, 1) := by decide +kernel
theorem dX2_mixBatches_52 : decode cX2_mixBatches 52 = .ok (.goto 4, 3) := by decide +kernel
theorem dX2_mixBatches_55 : decode cX2_mixBatches 55 = .ok (.lconst 0, 1) := by decide +kernel
theorem dX2_mixBatches_56 : decode cX2_mixBatches 56 = .ok (.invokestatic 164, 3) := by decide +kernel
theorem dX2_mixBatches_59 : decode cX2_mixBatches 59 = .ok (.lstore_n 3, 1) := by decide +kernel
theorem dX2_mixBatches_60 : decode cX2_mixBatches 60 = .ok (.lload_n 3, 1) := by decide +kernel
theorem dX2_mixBatches_61 : decode cX2_mixBatches 61 = .ok (.aload_n 0, 1) := by decide +kernel
theorem dX2_mixBatches_62 : decode cX2_mixBatches 62 = .ok (.iload 5, 2) := by decide +kernel
theorem dX2_mixBatches_64 : decode cX2_mixBatches 64 = .ok (.invokevirtual 220, 3) := by decide +kernel
theorem dX2_mixBatches_67 : decode cX2_mixBatches 67 = .ok (.i2l, 1) := by decide +kernel
theorem dX2_mixBatches_68 : decode cX2_mixBatches 68 = .ok (.invokestatic 164, 3) := by decide +kernel
theorem dX2_mixBatches_71 : decode cX2_mixBatches 71 = .ok (.lstore_n 3, 1) := by decide +kernel
theorem dX2_mixBatches_72 : decode cX2_mixBatches 72 = .ok (.iinc 5 1, 3) := by decide +kernel
theorem dX2_mixBatches_75 : decode cX2_mixBatches 75 = .ok (.goto (-70), 3) := by decide +kernel
theorem dX2_mixBatches_78 : decode cX2_mixBatches 78 = .ok (.lload_n 3, 1) := by decide +kernel
theorem dX2_mixBatches_79 : decode cX2_mixBatches 79 = .ok (.lreturn, 1) := by decide +kernel
set_option maxRecDepth 20000 in
theorem ggX2_mixTins_X2_shelfOf : GoodIn wsX2_mixTins wsX2_shelfOf := goodIn_ca (goodIn_r _ [6, 1, 7, 8, 9, 5, 10, 11, 12, 13, 14, 15, 16, 17, 18, 19, 20, 21, 22, 23, 24, 25, 26, 27, 28, 84, 85, 86, 87, 88, 89, 90, 91, 92, 93, 94, 95, 96, 97, 98, 99, 100] (by decide +kernel) (by decide +kernel)) (goodIn_sub (fun _ h => List.mem_cons_of_mem _ (List.mem_append_left _ (List.mem_append_right _ h))) (by decide +kernel))
set_option maxRecDepth 20000 in
theorem gX2_mixTins_X2_shelfOf : GoodIn wsX2_mixTins (wsV RX2 223 RX2 yX2_shelfOf wsX2_shelfOf) := goodIn_app (goodIn_of _ (by decide +kernel)) ggX2_mixTins_X2_shelfOf
set_option maxRecDepth 20000 in
theorem ggX2_mixTins_X2_mix : GoodIn wsX2_mixTins wsX2_mix := goodIn_r _ [31, 32] (by decide +kernel) (by decide +kernel)
set_option maxRecDepth 20000 in
theorem gX2_mixTins_X2_mix : GoodIn wsX2_mixTins (va_wsS RX2 164 yX2_mix wsX2_mix) := goodIn_app (goodIn_of _ (by decide +kernel)) ggX2_mixTins_X2_mix
set_option maxRecDepth 20000 in
theorem ggX2_mixTins_X2_vacuumOf : GoodIn wsX2_mixTins wsX2_vacuumOf := goodIn_ca (goodIn_r _ [36, 1, 7, 8, 9, 5, 10, 11, 12, 13, 14, 15, 28, 23, 24, 25, 26, 27, 84, 85, 86, 87, 88, 89, 90, 91, 92, 93, 94, 95, 96, 97, 98, 99, 100] (by decide +kernel) (by decide +kernel)) (goodIn_sub (fun _ h => List.mem_cons_of_mem _ (List.mem_append_left _ (List.mem_append_right _ h))) (by decide +kernel))
set_option maxRecDepth 20000 in
theorem gX2_mixTins_X2_vacuumOf : GoodIn wsX2_mixTins (wsV RX2 226 RX2 yX2_vacuumOf wsX2_vacuumOf) := goodIn_app (goodIn_of _ (by decide +kernel)) ggX2_mixTins_X2_vacuumOf
set_option maxRecDepth 20000 in
theorem ggX2_mixTins_X2_isShipped : GoodIn wsX2_mixTins wsX2_isShipped := goodIn_ca (goodIn_r _ [40, 1, 7, 8, 9, 5, 10, 11, 12, 13, 14, 15, 28, 23, 24, 25, 26, 27, 84, 85, 86, 87, 88, 89, 90, 91, 92, 93, 94, 95, 96, 97, 98, 99, 100] (by decide +kernel) (by decide +kernel)) (goodIn_sub (fun _ h => List.mem_cons_of_mem _ (List.mem_append_left _ (List.mem_append_right _ h))) (by decide +kernel))
set_option maxRecDepth 20000 in
theorem gX2_mixTins_X2_isShipped : GoodIn wsX2_mixTins (wsV RX2 229 RX2 yX2_isShipped wsX2_isShipped) := goodIn_app (goodIn_of _ (by decide +kernel)) ggX2_mixTins_X2_isShipped
set_option maxRecDepth 20000 in
theorem ggX2_mixTins_X2_placeBy : GoodIn wsX2_mixTins wsX2_placeBy := goodIn_ca (goodIn_ca (goodIn_r _ [44, 1, 7, 8, 9, 5, 10, 11, 12, 13, 14, 15, 45, 46, 47, 48, 49, 16, 17, 18, 19, 20, 21, 22, 23, 24, 25, 26, 27, 50, 51, 52, 53, 54, 55, 56, 57, 58, 59, 60, 61, 62, 84, 85, 86, 87, 88, 89, 90, 91, 92, 93, 94, 95, 96, 97, 98, 99, 100] (by decide +kernel) (by decide +kernel)) (goodIn_sub (fun _ h => List.mem_cons_of_mem _ (List.mem_append_left _ (List.mem_append_right _ h))) (by decide +kernel))) (goodIn_sub (fun _ h => List.mem_cons_of_mem _ (List.mem_append_right _ h)) (by decide +kernel))
set_option maxRecDepth 20000 in
theorem gX2_mixTins_X2_placeBy : GoodIn wsX2_mixTins (wsV RX2 232 RX2 yX2_placeBy wsX2_placeBy) := goodIn_app (goodIn_of _ (by decide +kernel)) ggX2_mixTins_X2_placeBy
set_option maxRecDepth 20000 in
theorem ggX2_mixTins_X2_daysOf : GoodIn wsX2_mixTins wsX2_daysOf := goodIn_ca (goodIn_r _ [66, 1, 7, 8, 9, 5, 10, 11, 12, 13, 14, 15, 16, 17, 18, 19, 20, 21, 22, 23, 24, 25, 26, 27, 28, 67, 68, 69, 70, 59, 71, 72, 73, 74, 75, 76, 60, 84, 85, 86, 87, 88, 89, 90, 91, 92, 93, 94, 95, 96, 97, 98, 99, 100] (by decide +kernel) (by decide +kernel)) (goodIn_sub (fun _ h => List.mem_cons_of_mem _ (List.mem_append_left _ (List.mem_append_right _ h))) (by decide +kernel))
set_option maxRecDepth 20000 in
theorem gX2_mixTins_X2_daysOf : GoodIn wsX2_mixTins (wsV RX2 235 RX2 yX2_daysOf wsX2_daysOf) := goodIn_app (goodIn_of _ (by decide +kernel)) ggX2_mixTins_X2_daysOf
set_option maxRecDepth 20000 in
theorem ggX2_mixTins_X2_bestShelf : GoodIn wsX2_mixTins wsX2_bestShelf := goodIn_ca (goodIn_r _ [80, 1, 7, 8, 9, 5, 10, 11, 12, 13, 14, 15, 16, 17, 18, 19, 20, 21, 22, 23, 24, 25, 26, 27, 67, 68, 69, 70, 59, 71, 72, 73, 74, 75, 76, 60, 81, 82, 83, 84, 85, 86, 87, 88, 89, 90, 91, 92, 93, 94, 95, 96, 97, 98, 99, 100] (by decide +kernel) (by decide +kernel)) (goodIn_sub (fun _ h => List.mem_cons_of_mem _ (List.mem_append_left _ (List.mem_append_right _ h))) (by decide +kernel))
set_option maxRecDepth 20000 in
theorem gX2_mixTins_X2_bestShelf : GoodIn wsX2_mixTins (wsV RX2 238 RX2 yX2_bestShelf wsX2_bestShelf) := goodIn_app (goodIn_of _ (by decide +kernel)) ggX2_mixTins_X2_bestShelf
theorem dX2_mixTins_0 : decode cX2_mixTins 0 = .ok (.lload_n 1, 1) := by decide +kernel
theorem dX2_mixTins_1 : decode cX2_mixTins 1 = .ok (.lstore_n 3, 1) := by decide +kernel
theorem dX2_mixTins_2 : decode cX2_mixTins 2 = .ok (.iconst 0, 1) := by decide +kernel
theorem dX2_mixTins_3 : decode cX2_mixTins 3 = .ok (.istore 5, 2) := by decide +kernel
theorem dX2_mixTins_5 : decode cX2_mixTins 5 = .ok (.iload 5, 2) := by decide +kernel
theorem dX2_mixTins_7 : decode cX2_mixTins 7 = .ok (.aload_n 0, 1) := by decide +kernel
theorem dX2_mixTins_8 : decode cX2_mixTins 8 = .ok (.getfield 10, 3) := by decide +kernel
theorem dX2_mixTins_11 : decode cX2_mixTins 11 = .ok (.getfield 52, 3) := by decide +kernel
theorem dX2_mixTins_14 : decode cX2_mixTins 14 = .ok (.if_icmp .ge 89, 3) := by decide +kernel
theorem dX2_mixTins_17 : decode cX2_mixTins 17 = .ok (.lload_n 3, 1) := by decide +kernel
theorem dX2_mixTins_18 : decode cX2_mixTins 18 = .ok (.aload_n 0, 1) := by decide +kernel
theorem dX2_mixTins_19 : decode cX2_mixTins 19 = .ok (.iload 5, 2) := by decide +kernel
theorem dX2_mixTins_21 : decode cX2_mixTins 21 = .ok (.invokevirtual 223, 3) := by decide +kernel
theorem dX2_mixTins_24 : decode cX2_mixTins 24 = .ok (.i2l, 1) := by decide +kernel
theorem dX2_mixTins_25 : decode cX2_mixTins 25 = .ok (.invokestatic 164, 3) := by decide +kernel
theorem dX2_mixTins_28 : decode cX2_mixTins 28 = .ok (.lstore_n 3, 1) := by decide +kernel
theorem dX2_mixTins_29 : decode cX2_mixTins 29 = .ok (.lload_n 3, 1) := by decide +kernel
theorem dX2_mixTins_30 : decode cX2_mixTins 30 = .ok (.aload_n 0, 1) := by decide +kernel
theorem dX2_mixTins_31 : decode cX2_mixTins 31 = .ok (.iload 5, 2) := by decide +kernel
theorem dX2_mixTins_33 : decode cX2_mixTins 33 = .ok (.invokevirtual 226, 3) := by decide +kernel
theorem dX2_mixTins_36 : decode cX2_mixTins 36 = .ok (.i2l, 1) := by decide +kernel
theorem dX2_mixTins_37 : decode cX2_mixTins 37 = .ok (.invokestatic 164, 3) := by decide +kernel
theorem dX2_mixTins_40 : decode cX2_mixTins 40 = .ok (.lstore_n 3, 1) := by decide +kernel
theorem dX2_mixTins_41 : decode cX2_mixTins 41 = .ok (.lload_n 3, 1) := by decide +kernel
theorem dX2_mixTins_42 : decode cX2_mixTins 42 = .ok (.aload_n 0, 1) := by decide +kernel
theorem dX2_mixTins_43 : decode cX2_mixTins 43 = .ok (.iload 5, 2) := by decide +kernel
theorem dX2_mixTins_45 : decode cX2_mixTins 45 = .ok (.invokevirtual 229, 3) := by decide +kernel
theorem dX2_mixTins_48 : decode cX2_mixTins 48 = .ok (.ifCond .eq 7, 3) := by decide +kernel
theorem dX2_mixTins_51 : decode cX2_mixTins 51 = .ok (.lconst 1, 1) := by decide +kernel
theorem dX2_mixTins_52 : decode cX2_mixTins 52 = .ok (.goto 4, 3) := by decide +kernel
theorem dX2_mixTins_55 : decode cX2_mixTins 55 = .ok (.lconst 0, 1) := by decide +kernel
theorem dX2_mixTins_56 : decode cX2_mixTins 56 = .ok (.invokestatic 164, 3) := by decide +kernel
theorem dX2_mixTins_59 : decode cX2_mixTins 59 = .ok (.lstore_n 3, 1) := by decide +kernel
theorem dX2_mixTins_60 : decode cX2_mixTins 60 = .ok (.lload_n 3, 1) := by decide +kernel
theorem dX2_mixTins_61 : decode cX2_mixTins 61 = .ok (.aload_n 0, 1) := by decide +kernel
theorem dX2_mixTins_62 : decode cX2_mixTins 62 = .ok (.iload 5, 2) := by decide +kernel
theorem dX2_mixTins_64 : decode cX2_mixTins 64 = .ok (.iconst 1, 1) := by decide +kernel
theorem dX2_mixTins_65 : decode cX2_mixTins 65 = .ok (.invokevirtual 232, 3) := by decide +kernel
theorem dX2_mixTins_68 : decode cX2_mixTins 68 = .ok (.i2l, 1) := by decide +kernel
theorem dX2_mixTins_69 : decode cX2_mixTins 69 = .ok (.invokestatic 164, 3) := by decide +kernel
theorem dX2_mixTins_72 : decode cX2_mixTins 72 = .ok (.lstore_n 3, 1) := by decide +kernel
theorem dX2_mixTins_73 : decode cX2_mixTins 73 = .ok (.lload_n 3, 1) := by decide +kernel
theorem dX2_mixTins_74 : decode cX2_mixTins 74 = .ok (.aload_n 0, 1) := by decide +kernel
theorem dX2_mixTins_75 : decode cX2_mixTins 75 = .ok (.iload 5, 2) := by decide +kernel
theorem dX2_mixTins_77 : decode cX2_mixTins 77 = .ok (.invokevirtual 235, 3) := by decide +kernel
theorem dX2_mixTins_80 : decode cX2_mixTins 80 = .ok (.i2l, 1) := by decide +kernel
theorem dX2_mixTins_81 : decode cX2_mixTins 81 = .ok (.invokestatic 164, 3) := by decide +kernel
theorem dX2_mixTins_84 : decode cX2_mixTins 84 = .ok (.lstore_n 3, 1) := by decide +kernel
theorem dX2_mixTins_85 : decode cX2_mixTins 85 = .ok (.lload_n 3, 1) := by decide +kernel
theorem dX2_mixTins_86 : decode cX2_mixTins 86 = .ok (.aload_n 0, 1) := by decide +kernel
theorem dX2_mixTins_87 : decode cX2_mixTins 87 = .ok (.iload 5, 2) := by decide +kernel
theorem dX2_mixTins_89 : decode cX2_mixTins 89 = .ok (.invokevirtual 238, 3) := by decide +kernel
theorem dX2_mixTins_92 : decode cX2_mixTins 92 = .ok (.i2l, 1) := by decide +kernel
theorem dX2_mixTins_93 : decode cX2_mixTins 93 = .ok (.invokestatic 164, 3) := by decide +kernel
theorem dX2_mixTins_96 : decode cX2_mixTins 96 = .ok (.lstore_n 3, 1) := by decide +kernel
theorem dX2_mixTins_97 : decode cX2_mixTins 97 = .ok (.iinc 5 1, 3) := by decide +kernel
theorem dX2_mixTins_100 : decode cX2_mixTins 100 = .ok (.goto (-95), 3) := by decide +kernel
theorem dX2_mixTins_103 : decode cX2_mixTins 103 = .ok (.lload_n 3, 1) := by decide +kernel
theorem dX2_mixTins_104 : decode cX2_mixTins 104 = .ok (.lreturn, 1) := by decide +kernel
theorem dX2_mix_0 : decode cX2_mix 0 = .ok (.lload_n 0, 1) := by decide +kernel
theorem dX2_mix_1 : decode cX2_mix 1 = .ok (.ldc2_w 241, 3) := by decide +kernel
theorem dX2_mix_4 : decode cX2_mix 4 = .ok (.lmul, 1) := by decide +kernel
theorem dX2_mix_5 : decode cX2_mix 5 = .ok (.lload_n 2, 1) := by decide +kernel
theorem dX2_mix_6 : decode cX2_mix 6 = .ok (.ladd, 1) := by decide +kernel
theorem dX2_mix_7 : decode cX2_mix 7 = .ok (.lreturn, 1) := by decide +kernel
set_option maxRecDepth 20000 in
theorem ggX2_lossBy_X1_copyFrom : GoodIn wsX2_lossBy wsX1_copyFrom := goodIn_r _ [7, 8, 9, 10, 11, 12, 13, 14, 15, 16, 17, 18, 19, 20, 21, 22, 23, 24, 25, 26, 27, 28, 29, 30, 31, 91, 92, 93, 94, 95, 96, 97, 98, 99, 100, 101, 102, 103, 104, 105] (by decide +kernel) (by decide +kernel)
set_option maxRecDepth 20000 in
theorem gX2_lossBy_X1_copyFrom : GoodIn wsX2_lossBy (wsV RX2 145 RX1 yX1_copyFrom wsX1_copyFrom) := goodIn_app (goodIn_of _ (by decide +kernel)) ggX2_lossBy_X1_copyFrom
set_option maxRecDepth 20000 in
theorem ggX2_lossBy_X1_passDay : GoodIn wsX2_lossBy wsX1_passDay := goodIn_r _ [35, 19, 20, 21, 36, 37, 38, 6, 39, 18, 16, 15, 40, 41, 42, 43, 44, 45, 46, 47, 17, 48, 29, 30, 25, 31, 27, 49, 50, 51, 52, 10, 14, 8, 53, 54, 55, 56, 57, 58, 59, 60, 11, 61, 62, 63, 64, 13, 65, 66, 67, 68, 12, 69, 70, 71, 72, 73, 74, 75, 76, 77, 78, 79, 80, 81, 82, 83, 84, 91, 92, 93, 94, 95, 96, 97, 98, 99, 100, 101, 102, 103, 104, 105] (by decide +kernel) (by decide +kernel)
set_option maxRecDepth 20000 in
theorem gX2_lossBy_X1_passDay : GoodIn wsX2_lossBy (wsV RX2 111 RX1 yX1_passDay wsX1_passDay) := goodIn_app (goodIn_of _ (by decide +kernel)) ggX2_lossBy_X1_passDay
set_option maxRecDepth 20000 in
theorem ggX2_lossBy_X1_countAt : GoodIn wsX2_lossBy wsX1_countAt := goodIn_r _ [88, 18, 17, 48, 29, 30, 25, 31, 27, 91, 92, 93, 94, 95, 96, 97, 98, 99, 100, 101, 102, 103, 104, 105] (by decide +kernel) (by decide +kernel)
set_option maxRecDepth 20000 in
theorem gX2_lossBy_X1_countAt : GoodIn wsX2_lossBy (wsV RX2 108 RX1 yX1_countAt wsX1_countAt) := goodIn_app (goodIn_of _ (by decide +kernel)) ggX2_lossBy_X1_countAt
theorem dX2_lossBy_0 : decode cX2_lossBy 0 = .ok (.aload_n 0, 1) := by decide +kernel
theorem dX2_lossBy_1 : decode cX2_lossBy 1 = .ok (.getfield 16, 3) := by decide +kernel
theorem dX2_lossBy_4 : decode cX2_lossBy 4 = .ok (.aload_n 0, 1) := by decide +kernel
theorem dX2_lossBy_5 : decode cX2_lossBy 5 = .ok (.getfield 10, 3) := by decide +kernel
theorem dX2_lossBy_8 : decode cX2_lossBy 8 = .ok (.invokevirtual 145, 3) := by decide +kernel
theorem dX2_lossBy_11 : decode cX2_lossBy 11 = .ok (.aload_n 0, 1) := by decide +kernel
theorem dX2_lossBy_12 : decode cX2_lossBy 12 = .ok (.getfield 16, 3) := by decide +kernel
theorem dX2_lossBy_15 : decode cX2_lossBy 15 = .ok (.iload_n 1, 1) := by decide +kernel
theorem dX2_lossBy_16 : decode cX2_lossBy 16 = .ok (.putfield 95, 3) := by decide +kernel
theorem dX2_lossBy_19 : decode cX2_lossBy 19 = .ok (.aload_n 0, 1) := by decide +kernel
theorem dX2_lossBy_20 : decode cX2_lossBy 20 = .ok (.getfield 16, 3) := by decide +kernel
theorem dX2_lossBy_23 : decode cX2_lossBy 23 = .ok (.iload_n 2, 1) := by decide +kernel
theorem dX2_lossBy_24 : decode cX2_lossBy 24 = .ok (.putfield 98, 3) := by decide +kernel
theorem dX2_lossBy_27 : decode cX2_lossBy 27 = .ok (.iconst 0, 1) := by decide +kernel
theorem dX2_lossBy_28 : decode cX2_lossBy 28 = .ok (.istore_n 3, 1) := by decide +kernel
theorem dX2_lossBy_29 : decode cX2_lossBy 29 = .ok (.iload_n 3, 1) := by decide +kernel
theorem dX2_lossBy_30 : decode cX2_lossBy 30 = .ok (.bipush 30, 2) := by decide +kernel
theorem dX2_lossBy_32 : decode cX2_lossBy 32 = .ok (.if_icmp .ge 16, 3) := by decide +kernel
theorem dX2_lossBy_35 : decode cX2_lossBy 35 = .ok (.aload_n 0, 1) := by decide +kernel
theorem dX2_lossBy_36 : decode cX2_lossBy 36 = .ok (.getfield 16, 3) := by decide +kernel
theorem dX2_lossBy_39 : decode cX2_lossBy 39 = .ok (.invokevirtual 111, 3) := by decide +kernel
theorem dX2_lossBy_42 : decode cX2_lossBy 42 = .ok (.iinc 3 1, 3) := by decide +kernel
theorem dX2_lossBy_45 : decode cX2_lossBy 45 = .ok (.goto (-16), 3) := by decide +kernel
theorem dX2_lossBy_48 : decode cX2_lossBy 48 = .ok (.aload_n 0, 1) := by decide +kernel
theorem dX2_lossBy_49 : decode cX2_lossBy 49 = .ok (.getfield 16, 3) := by decide +kernel
theorem dX2_lossBy_52 : decode cX2_lossBy 52 = .ok (.iconst 3, 1) := by decide +kernel
theorem dX2_lossBy_53 : decode cX2_lossBy 53 = .ok (.invokevirtual 108, 3) := by decide +kernel
theorem dX2_lossBy_56 : decode cX2_lossBy 56 = .ok (.aload_n 0, 1) := by decide +kernel
theorem dX2_lossBy_57 : decode cX2_lossBy 57 = .ok (.getfield 10, 3) := by decide +kernel
theorem dX2_lossBy_60 : decode cX2_lossBy 60 = .ok (.iconst 3, 1) := by decide +kernel
theorem dX2_lossBy_61 : decode cX2_lossBy 61 = .ok (.invokevirtual 108, 3) := by decide +kernel
theorem dX2_lossBy_64 : decode cX2_lossBy 64 = .ok (.isub, 1) := by decide +kernel
theorem dX2_lossBy_65 : decode cX2_lossBy 65 = .ok (.ireturn, 1) := by decide +kernel
theorem dX2_isLater_0 : decode cX2_isLater 0 = .ok (.iload_n 1, 1) := by decide +kernel
theorem dX2_isLater_1 : decode cX2_isLater 1 = .ok (.iconst (-1), 1) := by decide +kernel
theorem dX2_isLater_2 : decode cX2_isLater 2 = .ok (.if_icmp .eq 17, 3) := by decide +kernel
theorem dX2_isLater_5 : decode cX2_isLater 5 = .ok (.iload_n 0, 1) := by decide +kernel
theorem dX2_isLater_6 : decode cX2_isLater 6 = .ok (.iconst (-1), 1) := by decide +kernel
theorem dX2_isLater_7 : decode cX2_isLater 7 = .ok (.if_icmp .eq 8, 3) := by decide +kernel
theorem dX2_isLater_10 : decode cX2_isLater 10 = .ok (.iload_n 0, 1) := by decide +kernel
theorem dX2_isLater_11 : decode cX2_isLater 11 = .ok (.iload_n 1, 1) := by decide +kernel
theorem dX2_isLater_12 : decode cX2_isLater 12 = .ok (.if_icmp .le 7, 3) := by decide +kernel
theorem dX2_isLater_15 : decode cX2_isLater 15 = .ok (.iconst 1, 1) := by decide +kernel
theorem dX2_isLater_16 : decode cX2_isLater 16 = .ok (.goto 4, 3) := by decide +kernel
theorem dX2_isLater_19 : decode cX2_isLater 19 = .ok (.iconst 0, 1) := by decide +kernel
theorem dX2_isLater_20 : decode cX2_isLater 20 = .ok (.ireturn, 1) := by decide +kernel
theorem dX2_isWithin_0 : decode cX2_isWithin 0 = .ok (.iload_n 0, 1) := by decide +kernel
theorem dX2_isWithin_1 : decode cX2_isWithin 1 = .ok (.iload_n 1, 1) := by decide +kernel
theorem dX2_isWithin_2 : decode cX2_isWithin 2 = .ok (.if_icmp .lt 12, 3) := by decide +kernel
theorem dX2_isWithin_5 : decode cX2_isWithin 5 = .ok (.iload_n 0, 1) := by decide +kernel
theorem dX2_isWithin_6 : decode cX2_isWithin 6 = .ok (.iload_n 2, 1) := by decide +kernel
theorem dX2_isWithin_7 : decode cX2_isWithin 7 = .ok (.if_icmp .gt 7, 3) := by decide +kernel
theorem dX2_isWithin_10 : decode cX2_isWithin 10 = .ok (.iconst 1, 1) := by decide +kernel
theorem dX2_isWithin_11 : decode cX2_isWithin 11 = .ok (.goto 4, 3) := by decide +kernel
theorem dX2_isWithin_14 : decode cX2_isWithin 14 = .ok (.iconst 0, 1) := by decide +kernel
theorem dX2_isWithin_15 : decode cX2_isWithin 15 = .ok (.ireturn, 1) := by decide +kernel
set_option maxRecDepth 20000 in
theorem ggX2_needShelf_X2_isWithin : GoodIn wsX2_needShelf wsX2_isWithin := goodIn_r _ [6] (by decide +kernel) (by decide +kernel)
set_option maxRecDepth 20000 in
theorem gX2_needShelf_X2_isWithin : GoodIn wsX2_needShelf (va_wsS RX2 19 yX2_isWithin wsX2_isWithin) := goodIn_app (goodIn_of _ (by decide +kernel)) ggX2_needShelf_X2_isWithin
theorem dX2_needShelf_0 : decode cX2_needShelf 0 = .ok (.iload_n 0, 1) := by decide +kernel
theorem dX2_needShelf_1 : decode cX2_needShelf 1 = .ok (.iconst 0, 1) := by decide +kernel
theorem dX2_needShelf_2 : decode cX2_needShelf 2 = .ok (.iconst 3, 1) := by decide +kernel
theorem dX2_needShelf_3 : decode cX2_needShelf 3 = .ok (.invokestatic 19, 3) := by decide +kernel
theorem dX2_needShelf_6 : decode cX2_needShelf 6 = .ok (.ifCond .ne 13, 3) := by decide +kernel
theorem dX2_needShelf_9 : decode cX2_needShelf 9 = .ok (.new 243, 3) := by decide +kernel
theorem dX2_needShelf_12 : decode cX2_needShelf 12 = .ok (.dup, 1) := by decide +kernel
theorem dX2_needShelf_13 : decode cX2_needShelf 13 = .ok (.ldc 245, 2) := by decide +kernel
theorem dX2_needShelf_15 : decode cX2_needShelf 15 = .ok (.invokespecial 247, 3) := by decide +kernel
theorem dX2_needShelf_18 : decode cX2_needShelf 18 = .ok (.athrow, 1) := by decide +kernel
theorem dX2_needShelf_19 : decode cX2_needShelf 19 = .ok (.return_, 1) := by decide +kernel
set_option maxRecDepth 20000 in
theorem ggX2_needBatch_X2_isWithin : GoodIn wsX2_needBatch wsX2_isWithin := goodIn_r _ [7] (by decide +kernel) (by decide +kernel)
set_option maxRecDepth 20000 in
theorem gX2_needBatch_X2_isWithin : GoodIn wsX2_needBatch (va_wsS RX2 19 yX2_isWithin wsX2_isWithin) := goodIn_app (goodIn_of _ (by decide +kernel)) ggX2_needBatch_X2_isWithin
theorem dX2_needBatch_0 : decode cX2_needBatch 0 = .ok (.iload_n 1, 1) := by decide +kernel
theorem dX2_needBatch_1 : decode cX2_needBatch 1 = .ok (.iconst 0, 1) := by decide +kernel
theorem dX2_needBatch_2 : decode cX2_needBatch 2 = .ok (.aload_n 0, 1) := by decide +kernel
theorem dX2_needBatch_3 : decode cX2_needBatch 3 = .ok (.getfield 10, 3) := by decide +kernel
theorem dX2_needBatch_6 : decode cX2_needBatch 6 = .ok (.getfield 30, 3) := by decide +kernel
theorem dX2_needBatch_9 : decode cX2_needBatch 9 = .ok (.iconst 1, 1) := by decide +kernel
theorem dX2_needBatch_10 : decode cX2_needBatch 10 = .ok (.isub, 1) := by decide +kernel
theorem dX2_needBatch_11 : decode cX2_needBatch 11 = .ok (.invokestatic 19, 3) := by decide +kernel
theorem dX2_needBatch_14 : decode cX2_needBatch 14 = .ok (.ifCond .ne 13, 3) := by decide +kernel
theorem dX2_needBatch_17 : decode cX2_needBatch 17 = .ok (.new 243, 3) := by decide +kernel
theorem dX2_needBatch_20 : decode cX2_needBatch 20 = .ok (.dup, 1) := by decide +kernel
theorem dX2_needBatch_21 : decode cX2_needBatch 21 = .ok (.ldc 248, 2) := by decide +kernel
theorem dX2_needBatch_23 : decode cX2_needBatch 23 = .ok (.invokespecial 247, 3) := by decide +kernel
theorem dX2_needBatch_26 : decode cX2_needBatch 26 = .ok (.athrow, 1) := by decide +kernel
theorem dX2_needBatch_27 : decode cX2_needBatch 27 = .ok (.return_, 1) := by decide +kernel
set_option maxRecDepth 20000 in
theorem ggX2_needTin_X2_isWithin : GoodIn wsX2_needTin wsX2_isWithin := goodIn_r _ [7] (by decide +kernel) (by decide +kernel)
set_option maxRecDepth 20000 in
theorem gX2_needTin_X2_isWithin : GoodIn wsX2_needTin (va_wsS RX2 19 yX2_isWithin wsX2_isWithin) := goodIn_app (goodIn_of _ (by decide +kernel)) ggX2_needTin_X2_isWithin
theorem dX2_needTin_0 : decode cX2_needTin 0 = .ok (.iload_n 1, 1) := by decide +kernel
theorem dX2_needTin_1 : decode cX2_needTin 1 = .ok (.iconst 0, 1) := by decide +kernel
theorem dX2_needTin_2 : decode cX2_needTin 2 = .ok (.aload_n 0, 1) := by decide +kernel
theorem dX2_needTin_3 : decode cX2_needTin 3 = .ok (.getfield 10, 3) := by decide +kernel
theorem dX2_needTin_6 : decode cX2_needTin 6 = .ok (.getfield 52, 3) := by decide +kernel
theorem dX2_needTin_9 : decode cX2_needTin 9 = .ok (.iconst 1, 1) := by decide +kernel
theorem dX2_needTin_10 : decode cX2_needTin 10 = .ok (.isub, 1) := by decide +kernel
theorem dX2_needTin_11 : decode cX2_needTin 11 = .ok (.invokestatic 19, 3) := by decide +kernel
theorem dX2_needTin_14 : decode cX2_needTin 14 = .ok (.ifCond .ne 13, 3) := by decide +kernel
theorem dX2_needTin_17 : decode cX2_needTin 17 = .ok (.new 243, 3) := by decide +kernel
theorem dX2_needTin_20 : decode cX2_needTin 20 = .ok (.dup, 1) := by decide +kernel
theorem dX2_needTin_21 : decode cX2_needTin 21 = .ok (.ldc 250, 2) := by decide +kernel
theorem dX2_needTin_23 : decode cX2_needTin 23 = .ok (.invokespecial 247, 3) := by decide +kernel
theorem dX2_needTin_26 : decode cX2_needTin 26 = .ok (.athrow, 1) := by decide +kernel
theorem dX2_needTin_27 : decode cX2_needTin 27 = .ok (.return_, 1) := by decide +kernel
set_option maxRecDepth 20000 in
theorem ggX2_needOrder_X2_isWithin : GoodIn wsX2_needOrder wsX2_isWithin := goodIn_r _ [6] (by decide +kernel) (by decide +kernel)
set_option maxRecDepth 20000 in
theorem gX2_needOrder_X2_isWithin : GoodIn wsX2_needOrder (va_wsS RX2 19 yX2_isWithin wsX2_isWithin) := goodIn_app (goodIn_of _ (by decide +kernel)) ggX2_needOrder_X2_isWithin
theorem dX2_needOrder_0 : decode cX2_needOrder 0 = .ok (.iload_n 0, 1) := by decide +kernel
theorem dX2_needOrder_1 : decode cX2_needOrder 1 = .ok (.iconst 0, 1) := by decide +kernel
theorem dX2_needOrder_2 : decode cX2_needOrder 2 = .ok (.iconst 2, 1) := by decide +kernel
theorem dX2_needOrder_3 : decode cX2_needOrder 3 = .ok (.invokestatic 19, 3) := by decide +kernel
theorem dX2_needOrder_6 : decode cX2_needOrder 6 = .ok (.ifCond .ne 13, 3) := by decide +kernel
theorem dX2_needOrder_9 : decode cX2_needOrder 9 = .ok (.new 23, 3) := by decide +kernel
theorem dX2_needOrder_12 : decode cX2_needOrder 12 = .ok (.dup, 1) := by decide +kernel
theorem dX2_needOrder_13 : decode cX2_needOrder 13 = .ok (.ldc 252, 2) := by decide +kernel
theorem dX2_needOrder_15 : decode cX2_needOrder 15 = .ok (.invokespecial 27, 3) := by decide +kernel
theorem dX2_needOrder_18 : decode cX2_needOrder 18 = .ok (.athrow, 1) := by decide +kernel
theorem dX2_needOrder_19 : decode cX2_needOrder 19 = .ok (.return_, 1) := by decide +kernel
set_option maxRecDepth 20000 in
theorem ggX2_needShipping_X2_isWithin : GoodIn wsX2_needShipping wsX2_isWithin := goodIn_r _ [6] (by decide +kernel) (by decide +kernel)
set_option maxRecDepth 20000 in
theorem gX2_needShipping_X2_isWithin : GoodIn wsX2_needShipping (va_wsS RX2 19 yX2_isWithin wsX2_isWithin) := goodIn_app (goodIn_of _ (by decide +kernel)) ggX2_needShipping_X2_isWithin
set_option maxRecDepth 20000 in
theorem ggX2_needShipping_X2_needOrder : GoodIn wsX2_needShipping wsX2_needOrder := goodIn_ca (goodIn_r _ [9, 1, 2, 3, 4, 5, 6] (by decide +kernel) (by decide +kernel)) (goodIn_sub (fun _ h => List.mem_cons_of_mem _ (List.mem_append_right _ h)) (by decide +kernel))
set_option maxRecDepth 20000 in
theorem gX2_needShipping_X2_needOrder : GoodIn wsX2_needShipping (va_wsS RX2 133 yX2_needOrder wsX2_needOrder) := goodIn_app (goodIn_of _ (by decide +kernel)) ggX2_needShipping_X2_needOrder
theorem dX2_needShipping_0 : decode cX2_needShipping 0 = .ok (.iload_n 0, 1) := by decide +kernel
theorem dX2_needShipping_1 : decode cX2_needShipping 1 = .ok (.iconst 0, 1) := by decide +kernel
theorem dX2_needShipping_2 : decode cX2_needShipping 2 = .ok (.bipush 9, 2) := by decide +kernel
theorem dX2_needShipping_4 : decode cX2_needShipping 4 = .ok (.invokestatic 19, 3) := by decide +kernel
theorem dX2_needShipping_7 : decode cX2_needShipping 7 = .ok (.ifCond .ne 13, 3) := by decide +kernel
theorem dX2_needShipping_10 : decode cX2_needShipping 10 = .ok (.new 23, 3) := by decide +kernel
theorem dX2_needShipping_13 : decode cX2_needShipping 13 = .ok (.dup, 1) := by decide +kernel
theorem dX2_needShipping_14 : decode cX2_needShipping 14 = .ok (.ldc 254, 2) := by decide +kernel
theorem dX2_needShipping_16 : decode cX2_needShipping 16 = .ok (.invokespecial 27, 3) := by decide +kernel
theorem dX2_needShipping_19 : decode cX2_needShipping 19 = .ok (.athrow, 1) := by decide +kernel
theorem dX2_needShipping_20 : decode cX2_needShipping 20 = .ok (.iload_n 1, 1) := by decide +kernel
theorem dX2_needShipping_21 : decode cX2_needShipping 21 = .ok (.invokestatic 133, 3) := by decide +kernel
theorem dX2_needShipping_24 : decode cX2_needShipping 24 = .ok (.return_, 1) := by decide +kernel
end
section
theorem dX3_init_0 : decode cX3_init 0 = .ok (.aload_n 0, 1) := by decide +kernel
theorem dX3_init_1 : decode cX3_init 1 = .ok (.invokespecial 3, 3) := by decide +kernel
theorem dX3_init_4 : decode cX3_init 4 = .ok (.aload_n 0, 1) := by decide +kernel
theorem dX3_init_5 : decode cX3_init 5 = .ok (.bipush 6, 2) := by decide +kernel
theorem dX3_init_7 : decode cX3_init 7 = .ok (.newarray .int, 2) := by decide +kernel
theorem dX3_init_9 : decode cX3_init 9 = .ok (.putfield 9, 3) := by decide +kernel
theorem dX3_init_12 : decode cX3_init 12 = .ok (.aload_n 0, 1) := by decide +kernel
theorem dX3_init_13 : decode cX3_init 13 = .ok (.bipush 6, 2) := by decide +kernel
theorem dX3_init_15 : decode cX3_init 15 = .ok (.newarray .int, 2) := by decide +kernel
theorem dX3_init_17 : decode cX3_init 17 = .ok (.putfield 13, 3) := by decide +kernel
theorem dX3_init_20 : decode cX3_init 20 = .ok (.aload_n 0, 1) := by decide +kernel
theorem dX3_init_21 : decode cX3_init 21 = .ok (.iconst 4, 1) := by decide +kernel
theorem dX3_init_22 : decode cX3_init 22 = .ok (.newarray .int, 2) := by decide +kernel
theorem dX3_init_24 : decode cX3_init 24 = .ok (.putfield 16, 3) := by decide +kernel
theorem dX3_init_27 : decode cX3_init 27 = .ok (.aload_n 0, 1) := by decide +kernel
theorem dX3_init_28 : decode cX3_init 28 = .ok (.bipush 60, 2) := by decide +kernel
theorem dX3_init_30 : decode cX3_init 30 = .ok (.newarray .int, 2) := by decide +kernel
theorem dX3_init_32 : decode cX3_init 32 = .ok (.putfield 19, 3) := by decide +kernel
theorem dX3_init_35 : decode cX3_init 35 = .ok (.aload_n 0, 1) := by decide +kernel
theorem dX3_init_36 : decode cX3_init 36 = .ok (.bipush 60, 2) := by decide +kernel
theorem dX3_init_38 : decode cX3_init 38 = .ok (.newarray .int, 2) := by decide +kernel
theorem dX3_init_40 : decode cX3_init 40 = .ok (.putfield 22, 3) := by decide +kernel
theorem dX3_init_43 : decode cX3_init 43 = .ok (.aload_n 0, 1) := by decide +kernel
theorem dX3_init_44 : decode cX3_init 44 = .ok (.sipush 133, 3) := by decide +kernel
theorem dX3_init_47 : decode cX3_init 47 = .ok (.newarray .int, 2) := by decide +kernel
theorem dX3_init_49 : decode cX3_init 49 = .ok (.putfield 25, 3) := by decide +kernel
theorem dX3_init_52 : decode cX3_init 52 = .ok (.aload_n 0, 1) := by decide +kernel
theorem dX3_init_53 : decode cX3_init 53 = .ok (.sipush 133, 3) := by decide +kernel
theorem dX3_init_56 : decode cX3_init 56 = .ok (.newarray .int, 2) := by decide +kernel
theorem dX3_init_58 : decode cX3_init 58 = .ok (.putfield 28, 3) := by decide +kernel
theorem dX3_init_61 : decode cX3_init 61 = .ok (.return_, 1) := by decide +kernel
theorem dX3_thrown_0 : decode cX3_thrown 0 = .ok (.aload_n 0, 1) := by decide +kernel
theorem dX3_thrown_1 : decode cX3_thrown 1 = .ok (.getfield 31, 3) := by decide +kernel
theorem dX3_thrown_4 : decode cX3_thrown 4 = .ok (.ireturn, 1) := by decide +kernel
theorem dX3_no_0 : decode cX3_no 0 = .ok (.aload_n 0, 1) := by decide +kernel
theorem dX3_no_1 : decode cX3_no 1 = .ok (.iload_n 1, 1) := by decide +kernel
theorem dX3_no_2 : decode cX3_no 2 = .ok (.putfield 31, 3) := by decide +kernel
theorem dX3_no_5 : decode cX3_no 5 = .ok (.iconst 0, 1) := by decide +kernel
theorem dX3_no_6 : decode cX3_no 6 = .ok (.ireturn, 1) := by decide +kernel
theorem dX3_isNot_0 : decode cX3_isNot 0 = .ok (.aload_n 0, 1) := by decide +kernel
theorem dX3_isNot_1 : decode cX3_isNot 1 = .ok (.iload_n 1, 1) := by decide +kernel
theorem dX3_isNot_2 : decode cX3_isNot 2 = .ok (.putfield 31, 3) := by decide +kernel
theorem dX3_isNot_5 : decode cX3_isNot 5 = .ok (.iconst 0, 1) := by decide +kernel
theorem dX3_isNot_6 : decode cX3_isNot 6 = .ok (.ireturn, 1) := by decide +kernel
theorem dX3_ok_0 : decode cX3_ok 0 = .ok (.aload_n 0, 1) := by decide +kernel
theorem dX3_ok_1 : decode cX3_ok 1 = .ok (.iconst 0, 1) := by decide +kernel
theorem dX3_ok_2 : decode cX3_ok 2 = .ok (.putfield 31, 3) := by decide +kernel
theorem dX3_ok_5 : decode cX3_ok 5 = .ok (.iload_n 1, 1) := by decide +kernel
theorem dX3_ok_6 : decode cX3_ok 6 = .ok (.ireturn, 1) := by decide +kernel
theorem dX3_isIn_0 : decode cX3_isIn 0 = .ok (.iload_n 0, 1) := by decide +kernel
theorem dX3_isIn_1 : decode cX3_isIn 1 = .ok (.iload_n 1, 1) := by decide +kernel
theorem dX3_isIn_2 : decode cX3_isIn 2 = .ok (.if_icmp .lt 12, 3) := by decide +kernel
theorem dX3_isIn_5 : decode cX3_isIn 5 = .ok (.iload_n 0, 1) := by decide +kernel
theorem dX3_isIn_6 : decode cX3_isIn 6 = .ok (.iload_n 2, 1) := by decide +kernel
theorem dX3_isIn_7 : decode cX3_isIn 7 = .ok (.if_icmp .gt 7, 3) := by decide +kernel
theorem dX3_isIn_10 : decode cX3_isIn 10 = .ok (.iconst 1, 1) := by decide +kernel
theorem dX3_isIn_11 : decode cX3_isIn 11 = .ok (.goto 4, 3) := by decide +kernel
theorem dX3_isIn_14 : decode cX3_isIn 14 = .ok (.iconst 0, 1) := by decide +kernel
theorem dX3_isIn_15 : decode cX3_isIn 15 = .ok (.ireturn, 1) := by decide +kernel
set_option maxRecDepth 20000 in
theorem ggX3_isShelf_X3_isIn : GoodIn wsX3_isShelf wsX3_isIn := goodIn_r _ [4] (by decide +kernel) (by decide +kernel)
set_option maxRecDepth 20000 in
theorem gX3_isShelf_X3_isIn : GoodIn wsX3_isShelf (va_wsS RX3 35 yX3_isIn wsX3_isIn) := goodIn_app (goodIn_of _ (by decide +kernel)) ggX3_isShelf_X3_isIn
theorem dX3_isShelf_0 : decode cX3_isShelf 0 = .ok (.iload_n 0, 1) := by decide +kernel
theorem dX3_isShelf_1 : decode cX3_isShelf 1 = .ok (.iconst 0, 1) := by decide +kernel
theorem dX3_isShelf_2 : decode cX3_isShelf 2 = .ok (.iconst 3, 1) := by decide +kernel
theorem dX3_isShelf_3 : decode cX3_isShelf 3 = .ok (.invokestatic 35, 3) := by decide +kernel
theorem dX3_isShelf_6 : decode cX3_isShelf 6 = .ok (.ireturn, 1) := by decide +kernel
set_option maxRecDepth 20000 in
theorem ggX3_isOrder_X3_isIn : GoodIn wsX3_isOrder wsX3_isIn := goodIn_r _ [4] (by decide +kernel) (by decide +kernel)
set_option maxRecDepth 20000 in
theorem gX3_isOrder_X3_isIn : GoodIn wsX3_isOrder (va_wsS RX3 35 yX3_isIn wsX3_isIn) := goodIn_app (goodIn_of _ (by decide +kernel)) ggX3_isOrder_X3_isIn
theorem dX3_isOrder_0 : decode cX3_isOrder 0 = .ok (.iload_n 0, 1) := by decide +kernel
theorem dX3_isOrder_1 : decode cX3_isOrder 1 = .ok (.iconst 0, 1) := by decide +kernel
theorem dX3_isOrder_2 : decode cX3_isOrder 2 = .ok (.iconst 2, 1) := by decide +kernel
theorem dX3_isOrder_3 : decode cX3_isOrder 3 = .ok (.invokestatic 35, 3) := by decide +kernel
theorem dX3_isOrder_6 : decode cX3_isOrder 6 = .ok (.ireturn, 1) := by decide +kernel
set_option maxRecDepth 20000 in
theorem ggX3_isBatch_X3_isIn : GoodIn wsX3_isBatch wsX3_isIn := goodIn_r _ [5] (by decide +kernel) (by decide +kernel)
set_option maxRecDepth 20000 in
theorem gX3_isBatch_X3_isIn : GoodIn wsX3_isBatch (va_wsS RX3 35 yX3_isIn wsX3_isIn) := goodIn_app (goodIn_of _ (by decide +kernel)) ggX3_isBatch_X3_isIn
theorem dX3_isBatch_0 : decode cX3_isBatch 0 = .ok (.iload_n 1, 1) := by decide +kernel
theorem dX3_isBatch_1 : decode cX3_isBatch 1 = .ok (.iconst 0, 1) := by decide +kernel
theorem dX3_isBatch_2 : decode cX3_isBatch 2 = .ok (.aload_n 0, 1) := by decide +kernel
theorem dX3_isBatch_3 : decode cX3_isBatch 3 = .ok (.getfield 39, 3) := by decide +kernel
theorem dX3_isBatch_6 : decode cX3_isBatch 6 = .ok (.iconst 1, 1) := by decide +kernel
theorem dX3_isBatch_7 : decode cX3_isBatch 7 = .ok (.isub, 1) := by decide +kernel
theorem dX3_isBatch_8 : decode cX3_isBatch 8 = .ok (.invokestatic 35, 3) := by decide +kernel
theorem dX3_isBatch_11 : decode cX3_isBatch 11 = .ok (.ireturn, 1) := by decide +kernel
set_option maxRecDepth 20000 in
theorem ggX3_isTin_X3_isIn : GoodIn wsX3_isTin wsX3_isIn := goodIn_r _ [5] (by decide +kernel) (by decide +kernel)
set_option maxRecDepth 20000 in
theorem gX3_isTin_X3_isIn : GoodIn wsX3_isTin (va_wsS RX3 35 yX3_isIn wsX3_isIn) := goodIn_app (goodIn_of _ (by decide +kernel)) ggX3_isTin_X3_isIn
theorem dX3_isTin_0 : decode cX3_isTin 0 = .ok (.iload_n 1, 1) := by decide +kernel
theorem dX3_isTin_1 : decode cX3_isTin 1 = .ok (.iconst 0, 1) := by decide +kernel
theorem dX3_isTin_2 : decode cX3_isTin 2 = .ok (.aload_n 0, 1) := by decide +kernel
theorem dX3_isTin_3 : decode cX3_isTin 3 = .ok (.getfield 42, 3) := by decide +kernel
theorem dX3_isTin_6 : decode cX3_isTin 6 = .ok (.iconst 1, 1) := by decide +kernel
theorem dX3_isTin_7 : decode cX3_isTin 7 = .ok (.isub, 1) := by decide +kernel
theorem dX3_isTin_8 : decode cX3_isTin 8 = .ok (.invokestatic 35, 3) := by decide +kernel
theorem dX3_isTin_11 : decode cX3_isTin 11 = .ok (.ireturn, 1) := by decide +kernel
theorem dX3_keep_0 : decode cX3_keep 0 = .ok (.aload_n 0, 1) := by decide +kernel
theorem dX3_keep_1 : decode cX3_keep 1 = .ok (.getfield 25, 3) := by decide +kernel
theorem dX3_keep_4 : decode cX3_keep 4 = .ok (.iconst 0, 1) := by decide +kernel
theorem dX3_keep_5 : decode cX3_keep 5 = .ok (.aload_n 0, 1) := by decide +kernel
theorem dX3_keep_6 : decode cX3_keep 6 = .ok (.getfield 28, 3) := by decide +kernel
theorem dX3_keep_9 : decode cX3_keep 9 = .ok (.iconst 0, 1) := by decide +kernel
theorem dX3_keep_10 : decode cX3_keep 10 = .ok (.sipush 133, 3) := by decide +kernel
theorem dX3_keep_13 : decode cX3_keep 13 = .ok (.invokestatic 45, 3) := by decide +kernel
theorem dX3_keep_16 : decode cX3_keep 16 = .ok (.return_, 1) := by decide +kernel
theorem dX3_bringBack_0 : decode cX3_bringBack 0 = .ok (.aload_n 0, 1) := by decide +kernel
theorem dX3_bringBack_1 : decode cX3_bringBack 1 = .ok (.getfield 28, 3) := by decide +kernel
theorem dX3_bringBack_4 : decode cX3_bringBack 4 = .ok (.iconst 0, 1) := by decide +kernel
theorem dX3_bringBack_5 : decode cX3_bringBack 5 = .ok (.aload_n 0, 1) := by decide +kernel
theorem dX3_bringBack_6 : decode cX3_bringBack 6 = .ok (.getfield 25, 3) := by decide +kernel
theorem dX3_bringBack_9 : decode cX3_bringBack 9 = .ok (.iconst 0, 1) := by decide +kernel
theorem dX3_bringBack_10 : decode cX3_bringBack 10 = .ok (.sipush 133, 3) := by decide +kernel
theorem dX3_bringBack_13 : decode cX3_bringBack 13 = .ok (.invokestatic 45, 3) := by decide +kernel
theorem dX3_bringBack_16 : decode cX3_bringBack 16 = .ok (.return_, 1) := by decide +kernel
theorem dX3_isHere_0 : decode cX3_isHere 0 = .ok (.aload_n 0, 1) := by decide +kernel
theorem dX3_isHere_1 : decode cX3_isHere 1 = .ok (.getfield 25, 3) := by decide +kernel
theorem dX3_isHere_4 : decode cX3_isHere 4 = .ok (.bipush 13, 2) := by decide +kernel
theorem dX3_isHere_6 : decode cX3_isHere 6 = .ok (.iload_n 1, 1) := by decide +kernel
theorem dX3_isHere_7 : decode cX3_isHere 7 = .ok (.iadd, 1) := by decide +kernel
theorem dX3_isHere_8 : decode cX3_isHere 8 = .ok (.iaload, 1) := by decide +kernel
theorem dX3_isHere_9 : decode cX3_isHere 9 = .ok (.ifCond .ne 7, 3) := by decide +kernel
theorem dX3_isHere_12 : decode cX3_isHere 12 = .ok (.iconst 1, 1) := by decide +kernel
theorem dX3_isHere_13 : decode cX3_isHere 13 = .ok (.goto 4, 3) := by decide +kernel
theorem dX3_isHere_16 : decode cX3_isHere 16 = .ok (.iconst 0, 1) := by decide +kernel
theorem dX3_isHere_17 : decode cX3_isHere 17 = .ok (.ireturn, 1) := by decide +kernel
theorem dX3_rate_0 : decode cX3_rate 0 = .ok (.aload_n 0, 1) := by decide +kernel
theorem dX3_rate_1 : decode cX3_rate 1 = .ok (.getfield 13, 3) := by decide +kernel
theorem dX3_rate_4 : decode cX3_rate 4 = .ok (.aload_n 0, 1) := by decide +kernel
theorem dX3_rate_5 : decode cX3_rate 5 = .ok (.getfield 19, 3) := by decide +kernel
theorem dX3_rate_8 : decode cX3_rate 8 = .ok (.iload_n 1, 1) := by decide +kernel
theorem dX3_rate_9 : decode cX3_rate 9 = .ok (.iaload, 1) := by decide +kernel
theorem dX3_rate_10 : decode cX3_rate 10 = .ok (.iaload, 1) := by decide +kernel
theorem dX3_rate_11 : decode cX3_rate 11 = .ok (.aload_n 0, 1) := by decide +kernel
theorem dX3_rate_12 : decode cX3_rate 12 = .ok (.getfield 16, 3) := by decide +kernel
theorem dX3_rate_15 : decode cX3_rate 15 = .ok (.iload_n 2, 1) := by decide +kernel
theorem dX3_rate_16 : decode cX3_rate 16 = .ok (.iaload, 1) := by decide +kernel
theorem dX3_rate_17 : decode cX3_rate 17 = .ok (.iadd, 1) := by decide +kernel
theorem dX3_rate_18 : decode cX3_rate 18 = .ok (.ireturn, 1) := by decide +kernel
theorem dX3_key_0 : decode cX3_key 0 = .ok (.iload_n 2, 1) := by decide +kernel
theorem dX3_key_1 : decode cX3_key 1 = .ok (.ifCond .ne 7, 3) := by decide +kernel
theorem dX3_key_4 : decode cX3_key 4 = .ok (.iload_n 1, 1) := by decide +kernel
theorem dX3_key_5 : decode cX3_key 5 = .ok (.goto 43, 3) := by decide +kernel
theorem dX3_key_8 : decode cX3_key 8 = .ok (.iload_n 2, 1) := by decide +kernel
theorem dX3_key_9 : decode cX3_key 9 = .ok (.iconst 1, 1) := by decide +kernel
theorem dX3_key_10 : decode cX3_key 10 = .ok (.if_icmp .ne 20, 3) := by decide +kernel
theorem dX3_key_13 : decode cX3_key 13 = .ok (.bipush 60, 2) := by decide +kernel
theorem dX3_key_15 : decode cX3_key 15 = .ok (.aload_n 0, 1) := by decide +kernel
theorem dX3_key_16 : decode cX3_key 16 = .ok (.getfield 25, 3) := by decide +kernel
theorem dX3_key_19 : decode cX3_key 19 = .ok (.bipush 73, 2) := by decide +kernel
theorem dX3_key_21 : decode cX3_key 21 = .ok (.iload_n 1, 1) := by decide +kernel
theorem dX3_key_22 : decode cX3_key 22 = .ok (.iadd, 1) := by decide +kernel
theorem dX3_key_23 : decode cX3_key 23 = .ok (.iaload, 1) := by decide +kernel
theorem dX3_key_24 : decode cX3_key 24 = .ok (.imul, 1) := by decide +kernel
theorem dX3_key_25 : decode cX3_key 25 = .ok (.iload_n 1, 1) := by decide +kernel
theorem dX3_key_26 : decode cX3_key 26 = .ok (.iadd, 1) := by decide +kernel
theorem dX3_key_27 : decode cX3_key 27 = .ok (.goto 21, 3) := by decide +kernel
theorem dX3_key_30 : decode cX3_key 30 = .ok (.bipush 60, 2) := by decide +kernel
theorem dX3_key_32 : decode cX3_key 32 = .ok (.iconst 3, 1) := by decide +kernel
theorem dX3_key_33 : decode cX3_key 33 = .ok (.aload_n 0, 1) := by decide +kernel
theorem dX3_key_34 : decode cX3_key 34 = .ok (.getfield 16, 3) := by decide +kernel
theorem dX3_key_37 : decode cX3_key 37 = .ok (.aload_n 0, 1) := by decide +kernel
theorem dX3_key_38 : decode cX3_key 38 = .ok (.getfield 22, 3) := by decide +kernel
theorem dX3_key_41 : decode cX3_key 41 = .ok (.iload_n 1, 1) := by decide +kernel
theorem dX3_key_42 : decode cX3_key 42 = .ok (.iaload, 1) := by decide +kernel
theorem dX3_key_43 : decode cX3_key 43 = .ok (.iaload, 1) := by decide +kernel
theorem dX3_key_44 : decode cX3_key 44 = .ok (.isub, 1) := by decide +kernel
theorem dX3_key_45 : decode cX3_key 45 = .ok (.imul, 1) := by decide +kernel
theorem dX3_key_46 : decode cX3_key 46 = .ok (.iload_n 1, 1) := by decide +kernel
theorem dX3_key_47 : decode cX3_key 47 = .ok (.iadd, 1) := by decide +kernel
theorem dX3_key_48 : decode cX3_key 48 = .ok (.ireturn, 1) := by decide +kernel
set_option maxRecDepth 20000 in
theorem ggX3_firstBy_X3_isHere : GoodIn wsX3_firstBy wsX3_isHere := goodIn_r _ [6, 7, 14, 15, 16, 17, 18, 19, 20, 21, 22, 23, 24, 25] (by decide +kernel) (by decide +kernel)
set_option maxRecDepth 20000 in
theorem gX3_firstBy_X3_isHere : GoodIn wsX3_firstBy (wsV RX3 51 RX3 yX3_isHere wsX3_isHere) := goodIn_app (goodIn_of _ (by decide +kernel)) ggX3_firstBy_X3_isHere
set_option maxRecDepth 20000 in
theorem ggX3_firstBy_X3_key : GoodIn wsX3_firstBy wsX3_key := goodIn_r _ [11, 7, 12, 13, 14, 15, 16, 17, 18, 19, 20, 21, 22, 23, 24, 25] (by decide +kernel) (by decide +kernel)
set_option maxRecDepth 20000 in
theorem gX3_firstBy_X3_key : GoodIn wsX3_firstBy (wsV RX3 55 RX3 yX3_key wsX3_key) := goodIn_app (goodIn_of _ (by decide +kernel)) ggX3_firstBy_X3_key
theorem dX3_firstBy_0 : decode cX3_firstBy 0 = .ok (.iconst (-1), 1) := by decide +kernel
theorem dX3_firstBy_1 : decode cX3_firstBy 1 = .ok (.istore_n 2, 1) := by decide +kernel
theorem dX3_firstBy_2 : decode cX3_firstBy 2 = .ok (.iconst 0, 1) := by decide +kernel
theorem dX3_firstBy_3 : decode cX3_firstBy 3 = .ok (.istore_n 3, 1) := by decide +kernel
theorem dX3_firstBy_4 : decode cX3_firstBy 4 = .ok (.iload_n 3, 1) := by decide +kernel
theorem dX3_firstBy_5 : decode cX3_firstBy 5 = .ok (.aload_n 0, 1) := by decide +kernel
theorem dX3_firstBy_6 : decode cX3_firstBy 6 = .ok (.getfield 42, 3) := by decide +kernel
theorem dX3_firstBy_9 : decode cX3_firstBy 9 = .ok (.if_icmp .ge 39, 3) := by decide +kernel
theorem dX3_firstBy_12 : decode cX3_firstBy 12 = .ok (.aload_n 0, 1) := by decide +kernel
theorem dX3_firstBy_13 : decode cX3_firstBy 13 = .ok (.iload_n 3, 1) := by decide +kernel
theorem dX3_firstBy_14 : decode cX3_firstBy 14 = .ok (.invokevirtual 51, 3) := by decide +kernel
theorem dX3_firstBy_17 : decode cX3_firstBy 17 = .ok (.ifCond .eq 25, 3) := by decide +kernel
theorem dX3_firstBy_20 : decode cX3_firstBy 20 = .ok (.iload_n 2, 1) := by decide +kernel
theorem dX3_firstBy_21 : decode cX3_firstBy 21 = .ok (.iconst (-1), 1) := by decide +kernel
theorem dX3_firstBy_22 : decode cX3_firstBy 22 = .ok (.if_icmp .eq 18, 3) := by decide +kernel
theorem dX3_firstBy_25 : decode cX3_firstBy 25 = .ok (.aload_n 0, 1) := by decide +kernel
theorem dX3_firstBy_26 : decode cX3_firstBy 26 = .ok (.iload_n 3, 1) := by decide +kernel
theorem dX3_firstBy_27 : decode cX3_firstBy 27 = .ok (.iload_n 1, 1) := by decide +kernel
theorem dX3_firstBy_28 : decode cX3_firstBy 28 = .ok (.invokevirtual 55, 3) := by decide +kernel
theorem dX3_firstBy_31 : decode cX3_firstBy 31 = .ok (.aload_n 0, 1) := by decide +kernel
theorem dX3_firstBy_32 : decode cX3_firstBy 32 = .ok (.iload_n 2, 1) := by decide +kernel
theorem dX3_firstBy_33 : decode cX3_firstBy 33 = .ok (.iload_n 1, 1) := by decide +kernel
theorem dX3_firstBy_34 : decode cX3_firstBy 34 = .ok (.invokevirtual 55, 3) := by decide +kernel
theorem dX3_firstBy_37 : decode cX3_firstBy 37 = .ok (.if_icmp .ge 5, 3) := by decide +kernel
theorem dX3_firstBy_40 : decode cX3_firstBy 40 = .ok (.iload_n 3, 1) := by decide +kernel
theorem dX3_firstBy_41 : decode cX3_firstBy 41 = .ok (.istore_n 2, 1) := by decide +kernel
theorem dX3_firstBy_42 : decode cX3_firstBy 42 = .ok (.iinc 3 1, 3) := by decide +kernel
theorem dX3_firstBy_45 : decode cX3_firstBy 45 = .ok (.goto (-41), 3) := by decide +kernel
theorem dX3_firstBy_48 : decode cX3_firstBy 48 = .ok (.iload_n 2, 1) := by decide +kernel
theorem dX3_firstBy_49 : decode cX3_firstBy 49 = .ok (.ireturn, 1) := by decide +kernel
set_option maxRecDepth 20000 in
theorem ggX3_leak_X3_rate : GoodIn wsX3_leak wsX3_rate := goodIn_r _ [12, 13, 7, 14, 15, 16, 17, 18, 19, 20, 21, 22, 23, 24, 25, 26] (by decide +kernel) (by decide +kernel)
set_option maxRecDepth 20000 in
theorem gX3_leak_X3_rate : GoodIn wsX3_leak (wsV RX3 59 RX3 yX3_rate wsX3_rate) := goodIn_app (goodIn_of _ (by decide +kernel)) ggX3_leak_X3_rate
theorem dX3_leak_0 : decode cX3_leak 0 = .ok (.aload_n 0, 1) := by decide +kernel
theorem dX3_leak_1 : decode cX3_leak 1 = .ok (.getfield 25, 3) := by decide +kernel
theorem dX3_leak_4 : decode cX3_leak 4 = .ok (.bipush 73, 2) := by decide +kernel
theorem dX3_leak_6 : decode cX3_leak 6 = .ok (.iload_n 1, 1) := by decide +kernel
theorem dX3_leak_7 : decode cX3_leak 7 = .ok (.iadd, 1) := by decide +kernel
theorem dX3_leak_8 : decode cX3_leak 8 = .ok (.iconst 0, 1) := by decide +kernel
theorem dX3_leak_9 : decode cX3_leak 9 = .ok (.aload_n 0, 1) := by decide +kernel
theorem dX3_leak_10 : decode cX3_leak 10 = .ok (.getfield 25, 3) := by decide +kernel
theorem dX3_leak_13 : decode cX3_leak 13 = .ok (.bipush 73, 2) := by decide +kernel
theorem dX3_leak_15 : decode cX3_leak 15 = .ok (.iload_n 1, 1) := by decide +kernel
theorem dX3_leak_16 : decode cX3_leak 16 = .ok (.iadd, 1) := by decide +kernel
theorem dX3_leak_17 : decode cX3_leak 17 = .ok (.iaload, 1) := by decide +kernel
theorem dX3_leak_18 : decode cX3_leak 18 = .ok (.aload_n 0, 1) := by decide +kernel
theorem dX3_leak_19 : decode cX3_leak 19 = .ok (.iload_n 1, 1) := by decide +kernel
theorem dX3_leak_20 : decode cX3_leak 20 = .ok (.aload_n 0, 1) := by decide +kernel
theorem dX3_leak_21 : decode cX3_leak 21 = .ok (.getfield 22, 3) := by decide +kernel
theorem dX3_leak_24 : decode cX3_leak 24 = .ok (.iload_n 1, 1) := by decide +kernel
theorem dX3_leak_25 : decode cX3_leak 25 = .ok (.iaload, 1) := by decide +kernel
theorem dX3_leak_26 : decode cX3_leak 26 = .ok (.invokevirtual 59, 3) := by decide +kernel
theorem dX3_leak_29 : decode cX3_leak 29 = .ok (.isub, 1) := by decide +kernel
theorem dX3_leak_30 : decode cX3_leak 30 = .ok (.invokestatic 62, 3) := by decide +kernel
theorem dX3_leak_33 : decode cX3_leak 33 = .ok (.iastore, 1) := by decide +kernel
theorem dX3_leak_34 : decode cX3_leak 34 = .ok (.aload_n 0, 1) := by decide +kernel
theorem dX3_leak_35 : decode cX3_leak 35 = .ok (.getfield 25, 3) := by decide +kernel
theorem dX3_leak_38 : decode cX3_leak 38 = .ok (.bipush 73, 2) := by decide +kernel
theorem dX3_leak_40 : decode cX3_leak 40 = .ok (.iload_n 1, 1) := by decide +kernel
theorem dX3_leak_41 : decode cX3_leak 41 = .ok (.iadd, 1) := by decide +kernel
theorem dX3_leak_42 : decode cX3_leak 42 = .ok (.iaload, 1) := by decide +kernel
theorem dX3_leak_43 : decode cX3_leak 43 = .ok (.ifCond .le 4, 3) := by decide +kernel
theorem dX3_leak_46 : decode cX3_leak 46 = .ok (.return_, 1) := by decide +kernel
theorem dX3_leak_47 : decode cX3_leak 47 = .ok (.aload_n 0, 1) := by decide +kernel
theorem dX3_leak_48 : decode cX3_leak 48 = .ok (.getfield 25, 3) := by decide +kernel
theorem dX3_leak_51 : decode cX3_leak 51 = .ok (.bipush 13, 2) := by decide +kernel
theorem dX3_leak_53 : decode cX3_leak 53 = .ok (.iload_n 1, 1) := by decide +kernel
theorem dX3_leak_54 : decode cX3_leak 54 = .ok (.iadd, 1) := by decide +kernel
theorem dX3_leak_55 : decode cX3_leak 55 = .ok (.iconst 2, 1) := by decide +kernel
theorem dX3_leak_56 : decode cX3_leak 56 = .ok (.iastore, 1) := by decide +kernel
theorem dX3_leak_57 : decode cX3_leak 57 = .ok (.aload_n 0, 1) := by decide +kernel
theorem dX3_leak_58 : decode cX3_leak 58 = .ok (.getfield 25, 3) := by decide +kernel
theorem dX3_leak_61 : decode cX3_leak 61 = .ok (.iconst 1, 1) := by decide +kernel
theorem dX3_leak_62 : decode cX3_leak 62 = .ok (.aload_n 0, 1) := by decide +kernel
theorem dX3_leak_63 : decode cX3_leak 63 = .ok (.getfield 19, 3) := by decide +kernel
theorem dX3_leak_66 : decode cX3_leak 66 = .ok (.iload_n 1, 1) := by decide +kernel
theorem dX3_leak_67 : decode cX3_leak 67 = .ok (.iaload, 1) := by decide +kernel
theorem dX3_leak_68 : decode cX3_leak 68 = .ok (.iadd, 1) := by decide +kernel
theorem dX3_leak_69 : decode cX3_leak 69 = .ok (.dup2, 1) := by decide +kernel
theorem dX3_leak_70 : decode cX3_leak 70 = .ok (.iaload, 1) := by decide +kernel
theorem dX3_leak_71 : decode cX3_leak 71 = .ok (.iconst 1, 1) := by decide +kernel
theorem dX3_leak_72 : decode cX3_leak 72 = .ok (.iadd, 1) := by decide +kernel
theorem dX3_leak_73 : decode cX3_leak 73 = .ok (.iastore, 1) := by decide +kernel
theorem dX3_leak_74 : decode cX3_leak 74 = .ok (.return_, 1) := by decide +kernel
set_option maxRecDepth 20000 in
theorem ggX3_takeBack_X3_isHere : GoodIn wsX3_takeBack wsX3_isHere := goodIn_r _ [8, 1, 9, 10, 11, 12, 13, 14, 15, 16, 17, 18, 19, 20] (by decide +kernel) (by decide +kernel)
set_option maxRecDepth 20000 in
theorem gX3_takeBack_X3_isHere : GoodIn wsX3_takeBack (wsV RX3 51 RX3 yX3_isHere wsX3_isHere) := goodIn_app (goodIn_of _ (by decide +kernel)) ggX3_takeBack_X3_isHere
theorem dX3_takeBack_0 : decode cX3_takeBack 0 = .ok (.aload_n 0, 1) := by decide +kernel
theorem dX3_takeBack_1 : decode cX3_takeBack 1 = .ok (.getfield 25, 3) := by decide +kernel
theorem dX3_takeBack_4 : decode cX3_takeBack 4 = .ok (.bipush 7, 2) := by decide +kernel
theorem dX3_takeBack_6 : decode cX3_takeBack 6 = .ok (.iload_n 1, 1) := by decide +kernel
theorem dX3_takeBack_7 : decode cX3_takeBack 7 = .ok (.iadd, 1) := by decide +kernel
theorem dX3_takeBack_8 : decode cX3_takeBack 8 = .ok (.iconst 1, 1) := by decide +kernel
theorem dX3_takeBack_9 : decode cX3_takeBack 9 = .ok (.iastore, 1) := by decide +kernel
theorem dX3_takeBack_10 : decode cX3_takeBack 10 = .ok (.iconst 0, 1) := by decide +kernel
theorem dX3_takeBack_11 : decode cX3_takeBack 11 = .ok (.istore_n 2, 1) := by decide +kernel
theorem dX3_takeBack_12 : decode cX3_takeBack 12 = .ok (.iconst 0, 1) := by decide +kernel
theorem dX3_takeBack_13 : decode cX3_takeBack 13 = .ok (.istore_n 3, 1) := by decide +kernel
theorem dX3_takeBack_14 : decode cX3_takeBack 14 = .ok (.iload_n 3, 1) := by decide +kernel
theorem dX3_takeBack_15 : decode cX3_takeBack 15 = .ok (.aload_n 0, 1) := by decide +kernel
theorem dX3_takeBack_16 : decode cX3_takeBack 16 = .ok (.getfield 42, 3) := by decide +kernel
theorem dX3_takeBack_19 : decode cX3_takeBack 19 = .ok (.if_icmp .ge 43, 3) := by decide +kernel
theorem dX3_takeBack_22 : decode cX3_takeBack 22 = .ok (.aload_n 0, 1) := by decide +kernel
theorem dX3_takeBack_23 : decode cX3_takeBack 23 = .ok (.iload_n 3, 1) := by decide +kernel
theorem dX3_takeBack_24 : decode cX3_takeBack 24 = .ok (.invokevirtual 51, 3) := by decide +kernel
theorem dX3_takeBack_27 : decode cX3_takeBack 27 = .ok (.ifCond .eq 29, 3) := by decide +kernel
theorem dX3_takeBack_30 : decode cX3_takeBack 30 = .ok (.aload_n 0, 1) := by decide +kernel
theorem dX3_takeBack_31 : decode cX3_takeBack 31 = .ok (.getfield 19, 3) := by decide +kernel
theorem dX3_takeBack_34 : decode cX3_takeBack 34 = .ok (.iload_n 3, 1) := by decide +kernel
theorem dX3_takeBack_35 : decode cX3_takeBack 35 = .ok (.iaload, 1) := by decide +kernel
theorem dX3_takeBack_36 : decode cX3_takeBack 36 = .ok (.iload_n 1, 1) := by decide +kernel
theorem dX3_takeBack_37 : decode cX3_takeBack 37 = .ok (.if_icmp .eq 6, 3) := by decide +kernel
theorem dX3_takeBack_40 : decode cX3_takeBack 40 = .ok (.goto 16, 3) := by decide +kernel
theorem dX3_takeBack_43 : decode cX3_takeBack 43 = .ok (.aload_n 0, 1) := by decide +kernel
theorem dX3_takeBack_44 : decode cX3_takeBack 44 = .ok (.getfield 25, 3) := by decide +kernel
theorem dX3_takeBack_47 : decode cX3_takeBack 47 = .ok (.bipush 13, 2) := by decide +kernel
theorem dX3_takeBack_49 : decode cX3_takeBack 49 = .ok (.iload_n 3, 1) := by decide +kernel
theorem dX3_takeBack_50 : decode cX3_takeBack 50 = .ok (.iadd, 1) := by decide +kernel
theorem dX3_takeBack_51 : decode cX3_takeBack 51 = .ok (.iconst 2, 1) := by decide +kernel
theorem dX3_takeBack_52 : decode cX3_takeBack 52 = .ok (.iastore, 1) := by decide +kernel
theorem dX3_takeBack_53 : decode cX3_takeBack 53 = .ok (.iinc 2 1, 3) := by decide +kernel
theorem dX3_takeBack_56 : decode cX3_takeBack 56 = .ok (.iinc 3 1, 3) := by decide +kernel
theorem dX3_takeBack_59 : decode cX3_takeBack 59 = .ok (.goto (-45), 3) := by decide +kernel
theorem dX3_takeBack_62 : decode cX3_takeBack 62 = .ok (.iload_n 2, 1) := by decide +kernel
theorem dX3_takeBack_63 : decode cX3_takeBack 63 = .ok (.ireturn, 1) := by decide +kernel
set_option maxRecDepth 20000 in
theorem ggX3_dayOn_X3_isHere : GoodIn wsX3_dayOn wsX3_isHere := goodIn_r _ [10, 3, 39, 40, 41, 42, 43, 44, 45, 46, 47, 48, 49, 50] (by decide +kernel) (by decide +kernel)
set_option maxRecDepth 20000 in
theorem gX3_dayOn_X3_isHere : GoodIn wsX3_dayOn (wsV RX3 51 RX3 yX3_isHere wsX3_isHere) := goodIn_app (goodIn_of _ (by decide +kernel)) ggX3_dayOn_X3_isHere
set_option maxRecDepth 20000 in
theorem ggX3_dayOn_X3_leak : GoodIn wsX3_dayOn wsX3_leak := goodIn_r _ [14, 3, 15, 16, 17, 18, 19, 20, 21, 22, 23, 9, 24, 25, 26, 39, 40, 41, 42, 43, 44, 45, 46, 47, 48, 49, 50] (by decide +kernel) (by decide +kernel)
set_option maxRecDepth 20000 in
theorem gX3_dayOn_X3_leak : GoodIn wsX3_dayOn (wsV RX3 67 RX3 yX3_leak wsX3_leak) := goodIn_app (goodIn_of _ (by decide +kernel)) ggX3_dayOn_X3_leak
set_option maxRecDepth 20000 in
theorem ggX3_dayOn_X3_takeBack : GoodIn wsX3_dayOn wsX3_takeBack := goodIn_r _ [30, 3, 1, 20, 6, 7, 8, 9, 10, 39, 40, 41, 42, 43, 44, 45, 46, 47, 48, 49, 50] (by decide +kernel) (by decide +kernel)
set_option maxRecDepth 20000 in
theorem gX3_dayOn_X3_takeBack : GoodIn wsX3_dayOn (wsV RX3 71 RX3 yX3_takeBack wsX3_takeBack) := goodIn_app (goodIn_of _ (by decide +kernel)) ggX3_dayOn_X3_takeBack
set_option maxRecDepth 20000 in
theorem ggX3_dayOn_X3_firstBy : GoodIn wsX3_dayOn wsX3_firstBy := goodIn_r _ [34, 1, 6, 7, 8, 9, 10, 3, 35, 36, 37, 38, 26, 15, 39, 40, 41, 42, 43, 44, 45, 46, 47, 48, 49, 50] (by decide +kernel) (by decide +kernel)
set_option maxRecDepth 20000 in
theorem gX3_dayOn_X3_firstBy : GoodIn wsX3_dayOn (wsV RX3 81 RX3 yX3_firstBy wsX3_firstBy) := goodIn_app (goodIn_of _ (by decide +kernel)) ggX3_dayOn_X3_firstBy
theorem dX3_dayOn_0 : decode cX3_dayOn 0 = .ok (.iconst 0, 1) := by decide +kernel
theorem dX3_dayOn_1 : decode cX3_dayOn 1 = .ok (.istore_n 1, 1) := by decide +kernel
theorem dX3_dayOn_2 : decode cX3_dayOn 2 = .ok (.iload_n 1, 1) := by decide +kernel
theorem dX3_dayOn_3 : decode cX3_dayOn 3 = .ok (.aload_n 0, 1) := by decide +kernel
theorem dX3_dayOn_4 : decode cX3_dayOn 4 = .ok (.getfield 42, 3) := by decide +kernel
theorem dX3_dayOn_7 : decode cX3_dayOn 7 = .ok (.if_icmp .ge 22, 3) := by decide +kernel
theorem dX3_dayOn_10 : decode cX3_dayOn 10 = .ok (.aload_n 0, 1) := by decide +kernel
theorem dX3_dayOn_11 : decode cX3_dayOn 11 = .ok (.iload_n 1, 1) := by decide +kernel
theorem dX3_dayOn_12 : decode cX3_dayOn 12 = .ok (.invokevirtual 51, 3) := by decide +kernel
theorem dX3_dayOn_15 : decode cX3_dayOn 15 = .ok (.ifCond .eq 8, 3) := by decide +kernel
theorem dX3_dayOn_18 : decode cX3_dayOn 18 = .ok (.aload_n 0, 1) := by decide +kernel
theorem dX3_dayOn_19 : decode cX3_dayOn 19 = .ok (.iload_n 1, 1) := by decide +kernel
theorem dX3_dayOn_20 : decode cX3_dayOn 20 = .ok (.invokevirtual 67, 3) := by decide +kernel
theorem dX3_dayOn_23 : decode cX3_dayOn 23 = .ok (.iinc 1 1, 3) := by decide +kernel
theorem dX3_dayOn_26 : decode cX3_dayOn 26 = .ok (.goto (-24), 3) := by decide +kernel
theorem dX3_dayOn_29 : decode cX3_dayOn 29 = .ok (.iconst 0, 1) := by decide +kernel
theorem dX3_dayOn_30 : decode cX3_dayOn 30 = .ok (.istore_n 1, 1) := by decide +kernel
theorem dX3_dayOn_31 : decode cX3_dayOn 31 = .ok (.iload_n 1, 1) := by decide +kernel
theorem dX3_dayOn_32 : decode cX3_dayOn 32 = .ok (.aload_n 0, 1) := by decide +kernel
theorem dX3_dayOn_33 : decode cX3_dayOn 33 = .ok (.getfield 39, 3) := by decide +kernel
theorem dX3_dayOn_36 : decode cX3_dayOn 36 = .ok (.if_icmp .ge 39, 3) := by decide +kernel
theorem dX3_dayOn_39 : decode cX3_dayOn 39 = .ok (.aload_n 0, 1) := by decide +kernel
theorem dX3_dayOn_40 : decode cX3_dayOn 40 = .ok (.getfield 25, 3) := by decide +kernel
theorem dX3_dayOn_43 : decode cX3_dayOn 43 = .ok (.bipush 7, 2) := by decide +kernel
theorem dX3_dayOn_45 : decode cX3_dayOn 45 = .ok (.iload_n 1, 1) := by decide +kernel
theorem dX3_dayOn_46 : decode cX3_dayOn 46 = .ok (.iadd, 1) := by decide +kernel
theorem dX3_dayOn_47 : decode cX3_dayOn 47 = .ok (.iaload, 1) := by decide +kernel
theorem dX3_dayOn_48 : decode cX3_dayOn 48 = .ok (.ifCond .ne 21, 3) := by decide +kernel
theorem dX3_dayOn_51 : decode cX3_dayOn 51 = .ok (.aload_n 0, 1) := by decide +kernel
theorem dX3_dayOn_52 : decode cX3_dayOn 52 = .ok (.getfield 25, 3) := by decide +kernel
theorem dX3_dayOn_55 : decode cX3_dayOn 55 = .ok (.iconst 1, 1) := by decide +kernel
theorem dX3_dayOn_56 : decode cX3_dayOn 56 = .ok (.iload_n 1, 1) := by decide +kernel
theorem dX3_dayOn_57 : decode cX3_dayOn 57 = .ok (.iadd, 1) := by decide +kernel
theorem dX3_dayOn_58 : decode cX3_dayOn 58 = .ok (.iaload, 1) := by decide +kernel
theorem dX3_dayOn_59 : decode cX3_dayOn 59 = .ok (.iconst 3, 1) := by decide +kernel
theorem dX3_dayOn_60 : decode cX3_dayOn 60 = .ok (.if_icmp .lt 9, 3) := by decide +kernel
theorem dX3_dayOn_63 : decode cX3_dayOn 63 = .ok (.aload_n 0, 1) := by decide +kernel
theorem dX3_dayOn_64 : decode cX3_dayOn 64 = .ok (.iload_n 1, 1) := by decide +kernel
theorem dX3_dayOn_65 : decode cX3_dayOn 65 = .ok (.invokevirtual 71, 3) := by decide +kernel
theorem dX3_dayOn_68 : decode cX3_dayOn 68 = .ok (.pop, 1) := by decide +kernel
theorem dX3_dayOn_69 : decode cX3_dayOn 69 = .ok (.iinc 1 1, 3) := by decide +kernel
theorem dX3_dayOn_72 : decode cX3_dayOn 72 = .ok (.goto (-41), 3) := by decide +kernel
theorem dX3_dayOn_75 : decode cX3_dayOn 75 = .ok (.iconst 0, 1) := by decide +kernel
theorem dX3_dayOn_76 : decode cX3_dayOn 76 = .ok (.istore_n 1, 1) := by decide +kernel
theorem dX3_dayOn_77 : decode cX3_dayOn 77 = .ok (.iload_n 1, 1) := by decide +kernel
theorem dX3_dayOn_78 : decode cX3_dayOn 78 = .ok (.aload_n 0, 1) := by decide +kernel
theorem dX3_dayOn_79 : decode cX3_dayOn 79 = .ok (.getfield 75, 3) := by decide +kernel
theorem dX3_dayOn_82 : decode cX3_dayOn 82 = .ok (.if_icmp .ge 33, 3) := by decide +kernel
theorem dX3_dayOn_85 : decode cX3_dayOn 85 = .ok (.aload_n 0, 1) := by decide +kernel
theorem dX3_dayOn_86 : decode cX3_dayOn 86 = .ok (.aload_n 0, 1) := by decide +kernel
theorem dX3_dayOn_87 : decode cX3_dayOn 87 = .ok (.getfield 78, 3) := by decide +kernel
theorem dX3_dayOn_90 : decode cX3_dayOn 90 = .ok (.invokevirtual 81, 3) := by decide +kernel
theorem dX3_dayOn_93 : decode cX3_dayOn 93 = .ok (.istore_n 2, 1) := by decide +kernel
theorem dX3_dayOn_94 : decode cX3_dayOn 94 = .ok (.iload_n 2, 1) := by decide +kernel
theorem dX3_dayOn_95 : decode cX3_dayOn 95 = .ok (.iconst (-1), 1) := by decide +kernel
theorem dX3_dayOn_96 : decode cX3_dayOn 96 = .ok (.if_icmp .eq 13, 3) := by decide +kernel
theorem dX3_dayOn_99 : decode cX3_dayOn 99 = .ok (.aload_n 0, 1) := by decide +kernel
theorem dX3_dayOn_100 : decode cX3_dayOn 100 = .ok (.getfield 25, 3) := by decide +kernel
theorem dX3_dayOn_103 : decode cX3_dayOn 103 = .ok (.bipush 13, 2) := by decide +kernel
theorem dX3_dayOn_105 : decode cX3_dayOn 105 = .ok (.iload_n 2, 1) := by decide +kernel
theorem dX3_dayOn_106 : decode cX3_dayOn 106 = .ok (.iadd, 1) := by decide +kernel
theorem dX3_dayOn_107 : decode cX3_dayOn 107 = .ok (.iconst 1, 1) := by decide +kernel
theorem dX3_dayOn_108 : decode cX3_dayOn 108 = .ok (.iastore, 1) := by decide +kernel
theorem dX3_dayOn_109 : decode cX3_dayOn 109 = .ok (.iinc 1 1, 3) := by decide +kernel
theorem dX3_dayOn_112 : decode cX3_dayOn 112 = .ok (.goto (-35), 3) := by decide +kernel
theorem dX3_dayOn_115 : decode cX3_dayOn 115 = .ok (.aload_n 0, 1) := by decide +kernel
theorem dX3_dayOn_116 : decode cX3_dayOn 116 = .ok (.getfield 25, 3) := by decide +kernel
theorem dX3_dayOn_119 : decode cX3_dayOn 119 = .ok (.iconst 0, 1) := by decide +kernel
theorem dX3_dayOn_120 : decode cX3_dayOn 120 = .ok (.dup2, 1) := by decide +kernel
theorem dX3_dayOn_121 : decode cX3_dayOn 121 = .ok (.iaload, 1) := by decide +kernel
theorem dX3_dayOn_122 : decode cX3_dayOn 122 = .ok (.iconst 1, 1) := by decide +kernel
theorem dX3_dayOn_123 : decode cX3_dayOn 123 = .ok (.iadd, 1) := by decide +kernel
theorem dX3_dayOn_124 : decode cX3_dayOn 124 = .ok (.iastore, 1) := by decide +kernel
theorem dX3_dayOn_125 : decode cX3_dayOn 125 = .ok (.return_, 1) := by decide +kernel
set_option maxRecDepth 20000 in
theorem ggX3_daysOn_X3_dayOn : GoodIn wsX3_daysOn wsX3_dayOn := goodIn_r _ [5, 6, 7, 8, 9, 10, 11, 12, 13, 4, 14, 15, 16, 17, 18, 19, 20, 21, 22, 23, 24, 25, 26, 27, 28, 29, 30, 31, 32, 33, 34, 35, 36, 37, 38, 39, 40, 41, 42, 43, 44, 45, 46, 47, 48, 49, 50, 51, 52, 53, 54] (by decide +kernel) (by decide +kernel)
set_option maxRecDepth 20000 in
theorem gX3_daysOn_X3_dayOn : GoodIn wsX3_daysOn (wsV RX3 84 RX3 yX3_dayOn wsX3_dayOn) := goodIn_app (goodIn_of _ (by decide +kernel)) ggX3_daysOn_X3_dayOn
theorem dX3_daysOn_0 : decode cX3_daysOn 0 = .ok (.iconst 0, 1) := by decide +kernel
theorem dX3_daysOn_1 : decode cX3_daysOn 1 = .ok (.istore_n 2, 1) := by decide +kernel
theorem dX3_daysOn_2 : decode cX3_daysOn 2 = .ok (.iload_n 2, 1) := by decide +kernel
theorem dX3_daysOn_3 : decode cX3_daysOn 3 = .ok (.iload_n 1, 1) := by decide +kernel
theorem dX3_daysOn_4 : decode cX3_daysOn 4 = .ok (.if_icmp .ge 13, 3) := by decide +kernel
theorem dX3_daysOn_7 : decode cX3_daysOn 7 = .ok (.aload_n 0, 1) := by decide +kernel
theorem dX3_daysOn_8 : decode cX3_daysOn 8 = .ok (.invokevirtual 84, 3) := by decide +kernel
theorem dX3_daysOn_11 : decode cX3_daysOn 11 = .ok (.iinc 2 1, 3) := by decide +kernel
theorem dX3_daysOn_14 : decode cX3_daysOn 14 = .ok (.goto (-12), 3) := by decide +kernel
theorem dX3_daysOn_17 : decode cX3_daysOn 17 = .ok (.return_, 1) := by decide +kernel
theorem dX3_count_0 : decode cX3_count 0 = .ok (.iconst 0, 1) := by decide +kernel
theorem dX3_count_1 : decode cX3_count 1 = .ok (.istore_n 2, 1) := by decide +kernel
theorem dX3_count_2 : decode cX3_count 2 = .ok (.iconst 0, 1) := by decide +kernel
theorem dX3_count_3 : decode cX3_count 3 = .ok (.istore_n 3, 1) := by decide +kernel
theorem dX3_count_4 : decode cX3_count 4 = .ok (.iload_n 3, 1) := by decide +kernel
theorem dX3_count_5 : decode cX3_count 5 = .ok (.aload_n 0, 1) := by decide +kernel
theorem dX3_count_6 : decode cX3_count 6 = .ok (.getfield 42, 3) := by decide +kernel
theorem dX3_count_9 : decode cX3_count 9 = .ok (.if_icmp .ge 30, 3) := by decide +kernel
theorem dX3_count_12 : decode cX3_count 12 = .ok (.iload_n 2, 1) := by decide +kernel
theorem dX3_count_13 : decode cX3_count 13 = .ok (.aload_n 0, 1) := by decide +kernel
theorem dX3_count_14 : decode cX3_count 14 = .ok (.getfield 25, 3) := by decide +kernel
theorem dX3_count_17 : decode cX3_count 17 = .ok (.bipush 13, 2) := by decide +kernel
theorem dX3_count_19 : decode cX3_count 19 = .ok (.iload_n 3, 1) := by decide +kernel
theorem dX3_count_20 : decode cX3_count 20 = .ok (.iadd, 1) := by decide +kernel
theorem dX3_count_21 : decode cX3_count 21 = .ok (.iaload, 1) := by decide +kernel
theorem dX3_count_22 : decode cX3_count 22 = .ok (.iload_n 1, 1) := by decide +kernel
theorem dX3_count_23 : decode cX3_count 23 = .ok (.if_icmp .ne 7, 3) := by decide +kernel
theorem dX3_count_26 : decode cX3_count 26 = .ok (.iconst 1, 1) := by decide +kernel
theorem dX3_count_27 : decode cX3_count 27 = .ok (.goto 4, 3) := by decide +kernel
theorem dX3_count_30 : decode cX3_count 30 = .ok (.iconst 0, 1) := by decide +kernel
theorem dX3_count_31 : decode cX3_count 31 = .ok (.iadd, 1) := by decide +kernel
theorem dX3_count_32 : decode cX3_count 32 = .ok (.istore_n 2, 1) := by decide +kernel
theorem dX3_count_33 : decode cX3_count 33 = .ok (.iinc 3 1, 3) := by decide +kernel
theorem dX3_count_36 : decode cX3_count 36 = .ok (.goto (-32), 3) := by decide +kernel
theorem dX3_count_39 : decode cX3_count 39 = .ok (.iload_n 2, 1) := by decide +kernel
theorem dX3_count_40 : decode cX3_count 40 = .ok (.ireturn, 1) := by decide +kernel
set_option maxRecDepth 20000 in
theorem ggX3_addBatch_X3_isIn : GoodIn wsX3_addBatch wsX3_isIn := goodIn_r _ [8] (by decide +kernel) (by decide +kernel)
set_option maxRecDepth 20000 in
theorem gX3_addBatch_X3_isIn : GoodIn wsX3_addBatch (va_wsS RX3 35 yX3_isIn wsX3_isIn) := goodIn_app (goodIn_of _ (by decide +kernel)) ggX3_addBatch_X3_isIn
set_option maxRecDepth 20000 in
theorem ggX3_addBatch_X3_no : GoodIn wsX3_addBatch wsX3_no := goodIn_r _ [12, 1, 13, 14, 15, 16, 17, 18, 19, 20, 21, 22, 23, 24] (by decide +kernel) (by decide +kernel)
set_option maxRecDepth 20000 in
theorem gX3_addBatch_X3_no : GoodIn wsX3_addBatch (wsV RX3 87 RX3 yX3_no wsX3_no) := goodIn_app (goodIn_of _ (by decide +kernel)) ggX3_addBatch_X3_no
theorem dX3_addBatch_0 : decode cX3_addBatch 0 = .ok (.aload_n 0, 1) := by decide +kernel
theorem dX3_addBatch_1 : decode cX3_addBatch 1 = .ok (.iconst 0, 1) := by decide +kernel
theorem dX3_addBatch_2 : decode cX3_addBatch 2 = .ok (.putfield 31, 3) := by decide +kernel
theorem dX3_addBatch_5 : decode cX3_addBatch 5 = .ok (.iload_n 1, 1) := by decide +kernel
theorem dX3_addBatch_6 : decode cX3_addBatch 6 = .ok (.iconst 1, 1) := by decide +kernel
theorem dX3_addBatch_7 : decode cX3_addBatch 7 = .ok (.bipush 99, 2) := by decide +kernel
theorem dX3_addBatch_9 : decode cX3_addBatch 9 = .ok (.invokestatic 35, 3) := by decide +kernel
theorem dX3_addBatch_12 : decode cX3_addBatch 12 = .ok (.ifCond .eq 12, 3) := by decide +kernel
theorem dX3_addBatch_15 : decode cX3_addBatch 15 = .ok (.iload_n 2, 1) := by decide +kernel
theorem dX3_addBatch_16 : decode cX3_addBatch 16 = .ok (.iconst 0, 1) := by decide +kernel
theorem dX3_addBatch_17 : decode cX3_addBatch 17 = .ok (.iconst 5, 1) := by decide +kernel
theorem dX3_addBatch_18 : decode cX3_addBatch 18 = .ok (.invokestatic 35, 3) := by decide +kernel
theorem dX3_addBatch_21 : decode cX3_addBatch 21 = .ok (.ifCond .ne 9, 3) := by decide +kernel
theorem dX3_addBatch_24 : decode cX3_addBatch 24 = .ok (.aload_n 0, 1) := by decide +kernel
theorem dX3_addBatch_25 : decode cX3_addBatch 25 = .ok (.iconst 1, 1) := by decide +kernel
theorem dX3_addBatch_26 : decode cX3_addBatch 26 = .ok (.invokevirtual 87, 3) := by decide +kernel
theorem dX3_addBatch_29 : decode cX3_addBatch 29 = .ok (.ireturn, 1) := by decide +kernel
theorem dX3_addBatch_30 : decode cX3_addBatch 30 = .ok (.aload_n 0, 1) := by decide +kernel
theorem dX3_addBatch_31 : decode cX3_addBatch 31 = .ok (.getfield 39, 3) := by decide +kernel
theorem dX3_addBatch_34 : decode cX3_addBatch 34 = .ok (.bipush 6, 2) := by decide +kernel
theorem dX3_addBatch_36 : decode cX3_addBatch 36 = .ok (.if_icmp .ne 9, 3) := by decide +kernel
theorem dX3_addBatch_39 : decode cX3_addBatch 39 = .ok (.aload_n 0, 1) := by decide +kernel
theorem dX3_addBatch_40 : decode cX3_addBatch 40 = .ok (.iconst 2, 1) := by decide +kernel
theorem dX3_addBatch_41 : decode cX3_addBatch 41 = .ok (.invokevirtual 87, 3) := by decide +kernel
theorem dX3_addBatch_44 : decode cX3_addBatch 44 = .ok (.ireturn, 1) := by decide +kernel
theorem dX3_addBatch_45 : decode cX3_addBatch 45 = .ok (.aload_n 0, 1) := by decide +kernel
theorem dX3_addBatch_46 : decode cX3_addBatch 46 = .ok (.getfield 9, 3) := by decide +kernel
theorem dX3_addBatch_49 : decode cX3_addBatch 49 = .ok (.aload_n 0, 1) := by decide +kernel
theorem dX3_addBatch_50 : decode cX3_addBatch 50 = .ok (.getfield 39, 3) := by decide +kernel
theorem dX3_addBatch_53 : decode cX3_addBatch 53 = .ok (.iload_n 1, 1) := by decide +kernel
theorem dX3_addBatch_54 : decode cX3_addBatch 54 = .ok (.iastore, 1) := by decide +kernel
theorem dX3_addBatch_55 : decode cX3_addBatch 55 = .ok (.aload_n 0, 1) := by decide +kernel
theorem dX3_addBatch_56 : decode cX3_addBatch 56 = .ok (.getfield 13, 3) := by decide +kernel
theorem dX3_addBatch_59 : decode cX3_addBatch 59 = .ok (.aload_n 0, 1) := by decide +kernel
theorem dX3_addBatch_60 : decode cX3_addBatch 60 = .ok (.getfield 39, 3) := by decide +kernel
theorem dX3_addBatch_63 : decode cX3_addBatch 63 = .ok (.iload_n 2, 1) := by decide +kernel
theorem dX3_addBatch_64 : decode cX3_addBatch 64 = .ok (.iastore, 1) := by decide +kernel
theorem dX3_addBatch_65 : decode cX3_addBatch 65 = .ok (.aload_n 0, 1) := by decide +kernel
theorem dX3_addBatch_66 : decode cX3_addBatch 66 = .ok (.dup, 1) := by decide +kernel
theorem dX3_addBatch_67 : decode cX3_addBatch 67 = .ok (.getfield 39, 3) := by decide +kernel
theorem dX3_addBatch_70 : decode cX3_addBatch 70 = .ok (.iconst 1, 1) := by decide +kernel
theorem dX3_addBatch_71 : decode cX3_addBatch 71 = .ok (.iadd, 1) := by decide +kernel
theorem dX3_addBatch_72 : decode cX3_addBatch 72 = .ok (.putfield 39, 3) := by decide +kernel
theorem dX3_addBatch_75 : decode cX3_addBatch 75 = .ok (.aload_n 0, 1) := by decide +kernel
theorem dX3_addBatch_76 : decode cX3_addBatch 76 = .ok (.getfield 39, 3) := by decide +kernel
theorem dX3_addBatch_79 : decode cX3_addBatch 79 = .ok (.iconst 1, 1) := by decide +kernel
theorem dX3_addBatch_80 : decode cX3_addBatch 80 = .ok (.isub, 1) := by decide +kernel
theorem dX3_addBatch_81 : decode cX3_addBatch 81 = .ok (.ireturn, 1) := by decide +kernel
set_option maxRecDepth 20000 in
theorem ggX3_seal_X3_isBatch : GoodIn wsX3_seal wsX3_isBatch := goodIn_r _ [11, 12, 13, 14, 10, 15, 23, 24, 25, 26, 27, 28, 29, 30, 31, 32, 33, 34] (by decide +kernel) (by decide +kernel)
set_option maxRecDepth 20000 in
theorem gX3_seal_X3_isBatch : GoodIn wsX3_seal (wsV RX3 90 RX3 yX3_isBatch wsX3_isBatch) := goodIn_app (goodIn_of _ (by decide +kernel)) ggX3_seal_X3_isBatch
set_option maxRecDepth 20000 in
theorem ggX3_seal_X3_isShelf : GoodIn wsX3_seal wsX3_isShelf := goodIn_r _ [18, 13, 14, 10, 15] (by decide +kernel) (by decide +kernel)
set_option maxRecDepth 20000 in
theorem gX3_seal_X3_isShelf : GoodIn wsX3_seal (va_wsS RX3 93 yX3_isShelf wsX3_isShelf) := goodIn_app (goodIn_of _ (by decide +kernel)) ggX3_seal_X3_isShelf
set_option maxRecDepth 20000 in
theorem ggX3_seal_X3_no : GoodIn wsX3_seal wsX3_no := goodIn_r _ [22, 1, 23, 24, 25, 26, 27, 28, 29, 30, 31, 32, 33, 34] (by decide +kernel) (by decide +kernel)
set_option maxRecDepth 20000 in
theorem gX3_seal_X3_no : GoodIn wsX3_seal (wsV RX3 87 RX3 yX3_no wsX3_no) := goodIn_app (goodIn_of _ (by decide +kernel)) ggX3_seal_X3_no
set_option maxRecDepth 20000 in
theorem ggX3_seal_X3_isIn : GoodIn wsX3_seal wsX3_isIn := goodIn_r _ [15] (by decide +kernel) (by decide +kernel)
set_option maxRecDepth 20000 in
theorem gX3_seal_X3_isIn : GoodIn wsX3_seal (va_wsS RX3 35 yX3_isIn wsX3_isIn) := goodIn_app (goodIn_of _ (by decide +kernel)) ggX3_seal_X3_isIn
theorem dX3_seal_0 : decode cX3_seal 0 = .ok (.aload_n 0, 1) := by decide +kernel
theorem dX3_seal_1 : decode cX3_seal 1 = .ok (.iconst 0, 1) := by decide +kernel
theorem dX3_seal_2 : decode cX3_seal 2 = .ok (.putfield 31, 3) := by decide +kernel
theorem dX3_seal_5 : decode cX3_seal 5 = .ok (.aload_n 0, 1) := by decide +kernel
theorem dX3_seal_6 : decode cX3_seal 6 = .ok (.iload_n 1, 1) := by decide +kernel
theorem dX3_seal_7 : decode cX3_seal 7 = .ok (.invokevirtual 90, 3) := by decide +kernel
theorem dX3_seal_10 : decode cX3_seal 10 = .ok (.ifCond .eq 10, 3) := by decide +kernel
theorem dX3_seal_13 : decode cX3_seal 13 = .ok (.iload_n 2, 1) := by decide +kernel
theorem dX3_seal_14 : decode cX3_seal 14 = .ok (.invokestatic 93, 3) := by decide +kernel
theorem dX3_seal_17 : decode cX3_seal 17 = .ok (.ifCond .ne 9, 3) := by decide +kernel
theorem dX3_seal_20 : decode cX3_seal 20 = .ok (.aload_n 0, 1) := by decide +kernel
theorem dX3_seal_21 : decode cX3_seal 21 = .ok (.iconst 1, 1) := by decide +kernel
theorem dX3_seal_22 : decode cX3_seal 22 = .ok (.invokevirtual 87, 3) := by decide +kernel
theorem dX3_seal_25 : decode cX3_seal 25 = .ok (.ireturn, 1) := by decide +kernel
theorem dX3_seal_26 : decode cX3_seal 26 = .ok (.iload_n 3, 1) := by decide +kernel
theorem dX3_seal_27 : decode cX3_seal 27 = .ok (.iconst 1, 1) := by decide +kernel
theorem dX3_seal_28 : decode cX3_seal 28 = .ok (.bipush 20, 2) := by decide +kernel
theorem dX3_seal_30 : decode cX3_seal 30 = .ok (.invokestatic 35, 3) := by decide +kernel
theorem dX3_seal_33 : decode cX3_seal 33 = .ok (.ifCond .ne 9, 3) := by decide +kernel
theorem dX3_seal_36 : decode cX3_seal 36 = .ok (.aload_n 0, 1) := by decide +kernel
theorem dX3_seal_37 : decode cX3_seal 37 = .ok (.iconst 2, 1) := by decide +kernel
theorem dX3_seal_38 : decode cX3_seal 38 = .ok (.invokevirtual 87, 3) := by decide +kernel
theorem dX3_seal_41 : decode cX3_seal 41 = .ok (.ireturn, 1) := by decide +kernel
theorem dX3_seal_42 : decode cX3_seal 42 = .ok (.aload_n 0, 1) := by decide +kernel
theorem dX3_seal_43 : decode cX3_seal 43 = .ok (.getfield 42, 3) := by decide +kernel
theorem dX3_seal_46 : decode cX3_seal 46 = .ok (.iload_n 3, 1) := by decide +kernel
theorem dX3_seal_47 : decode cX3_seal 47 = .ok (.iadd, 1) := by decide +kernel
theorem dX3_seal_48 : decode cX3_seal 48 = .ok (.bipush 60, 2) := by decide +kernel
theorem dX3_seal_50 : decode cX3_seal 50 = .ok (.if_icmp .gt 16, 3) := by decide +kernel
theorem dX3_seal_53 : decode cX3_seal 53 = .ok (.aload_n 0, 1) := by decide +kernel
theorem dX3_seal_54 : decode cX3_seal 54 = .ok (.getfield 25, 3) := by decide +kernel
theorem dX3_seal_57 : decode cX3_seal 57 = .ok (.bipush 7, 2) := by decide +kernel
theorem dX3_seal_59 : decode cX3_seal 59 = .ok (.iload_n 1, 1) := by decide +kernel
theorem dX3_seal_60 : decode cX3_seal 60 = .ok (.iadd, 1) := by decide +kernel
theorem dX3_seal_61 : decode cX3_seal 61 = .ok (.iaload, 1) := by decide +kernel
theorem dX3_seal_62 : decode cX3_seal 62 = .ok (.iconst 1, 1) := by decide +kernel
theorem dX3_seal_63 : decode cX3_seal 63 = .ok (.if_icmp .ne 9, 3) := by decide +kernel
theorem dX3_seal_66 : decode cX3_seal 66 = .ok (.aload_n 0, 1) := by decide +kernel
theorem dX3_seal_67 : decode cX3_seal 67 = .ok (.iconst 3, 1) := by decide +kernel
theorem dX3_seal_68 : decode cX3_seal 68 = .ok (.invokevirtual 87, 3) := by decide +kernel
theorem dX3_seal_71 : decode cX3_seal 71 = .ok (.ireturn, 1) := by decide +kernel
theorem dX3_seal_72 : decode cX3_seal 72 = .ok (.iconst 0, 1) := by decide +kernel
theorem dX3_seal_73 : decode cX3_seal 73 = .ok (.istore 4, 2) := by decide +kernel
theorem dX3_seal_75 : decode cX3_seal 75 = .ok (.iload 4, 2) := by decide +kernel
theorem dX3_seal_77 : decode cX3_seal 77 = .ok (.iload_n 3, 1) := by decide +kernel
theorem dX3_seal_78 : decode cX3_seal 78 = .ok (.if_icmp .ge 70, 3) := by decide +kernel
theorem dX3_seal_81 : decode cX3_seal 81 = .ok (.aload_n 0, 1) := by decide +kernel
theorem dX3_seal_82 : decode cX3_seal 82 = .ok (.getfield 19, 3) := by decide +kernel
theorem dX3_seal_85 : decode cX3_seal 85 = .ok (.aload_n 0, 1) := by decide +kernel
theorem dX3_seal_86 : decode cX3_seal 86 = .ok (.getfield 42, 3) := by decide +kernel
theorem dX3_seal_89 : decode cX3_seal 89 = .ok (.iload_n 1, 1) := by decide +kernel
theorem dX3_seal_90 : decode cX3_seal 90 = .ok (.iastore, 1) := by decide +kernel
theorem dX3_seal_91 : decode cX3_seal 91 = .ok (.aload_n 0, 1) := by decide +kernel
theorem dX3_seal_92 : decode cX3_seal 92 = .ok (.getfield 22, 3) := by decide +kernel
theorem dX3_seal_95 : decode cX3_seal 95 = .ok (.aload_n 0, 1) := by decide +kernel
theorem dX3_seal_96 : decode cX3_seal 96 = .ok (.getfield 42, 3) := by decide +kernel
theorem dX3_seal_99 : decode cX3_seal 99 = .ok (.iload_n 2, 1) := by decide +kernel
theorem dX3_seal_100 : decode cX3_seal 100 = .ok (.iastore, 1) := by decide +kernel
theorem dX3_seal_101 : decode cX3_seal 101 = .ok (.aload_n 0, 1) := by decide +kernel
theorem dX3_seal_102 : decode cX3_seal 102 = .ok (.getfield 25, 3) := by decide +kernel
theorem dX3_seal_105 : decode cX3_seal 105 = .ok (.bipush 13, 2) := by decide +kernel
theorem dX3_seal_107 : decode cX3_seal 107 = .ok (.aload_n 0, 1) := by decide +kernel
theorem dX3_seal_108 : decode cX3_seal 108 = .ok (.getfield 42, 3) := by decide +kernel
theorem dX3_seal_111 : decode cX3_seal 111 = .ok (.iadd, 1) := by decide +kernel
theorem dX3_seal_112 : decode cX3_seal 112 = .ok (.iconst 0, 1) := by decide +kernel
theorem dX3_seal_113 : decode cX3_seal 113 = .ok (.iastore, 1) := by decide +kernel
theorem dX3_seal_114 : decode cX3_seal 114 = .ok (.aload_n 0, 1) := by decide +kernel
theorem dX3_seal_115 : decode cX3_seal 115 = .ok (.getfield 25, 3) := by decide +kernel
theorem dX3_seal_118 : decode cX3_seal 118 = .ok (.bipush 73, 2) := by decide +kernel
theorem dX3_seal_120 : decode cX3_seal 120 = .ok (.aload_n 0, 1) := by decide +kernel
theorem dX3_seal_121 : decode cX3_seal 121 = .ok (.getfield 42, 3) := by decide +kernel
theorem dX3_seal_124 : decode cX3_seal 124 = .ok (.iadd, 1) := by decide +kernel
theorem dX3_seal_125 : decode cX3_seal 125 = .ok (.aload_n 0, 1) := by decide +kernel
theorem dX3_seal_126 : decode cX3_seal 126 = .ok (.getfield 9, 3) := by decide +kernel
theorem dX3_seal_129 : decode cX3_seal 129 = .ok (.iload_n 1, 1) := by decide +kernel
theorem dX3_seal_130 : decode cX3_seal 130 = .ok (.iaload, 1) := by decide +kernel
theorem dX3_seal_131 : decode cX3_seal 131 = .ok (.iastore, 1) := by decide +kernel
theorem dX3_seal_132 : decode cX3_seal 132 = .ok (.aload_n 0, 1) := by decide +kernel
theorem dX3_seal_133 : decode cX3_seal 133 = .ok (.dup, 1) := by decide +kernel
theorem dX3_seal_134 : decode cX3_seal 134 = .ok (.getfield 42, 3) := by decide +kernel
theorem dX3_seal_137 : decode cX3_seal 137 = .ok (.iconst 1, 1) := by decide +kernel
theorem dX3_seal_138 : decode cX3_seal 138 = .ok (.iadd, 1) := by decide +kernel
theorem dX3_seal_139 : decode cX3_seal 139 = .ok (.putfield 42, 3) := by decide +kernel
theorem dX3_seal_142 : decode cX3_seal 142 = .ok (.iinc 4 1, 3) := by decide +kernel
theorem dX3_seal_145 : decode cX3_seal 145 = .ok (.goto (-70), 3) := by decide +kernel
theorem dX3_seal_148 : decode cX3_seal 148 = .ok (.aload_n 0, 1) := by decide +kernel
theorem dX3_seal_149 : decode cX3_seal 149 = .ok (.getfield 42, 3) := by decide +kernel
theorem dX3_seal_152 : decode cX3_seal 152 = .ok (.iload_n 3, 1) := by decide +kernel
theorem dX3_seal_153 : decode cX3_seal 153 = .ok (.isub, 1) := by decide +kernel
theorem dX3_seal_154 : decode cX3_seal 154 = .ok (.ireturn, 1) := by decide +kernel
set_option maxRecDepth 20000 in
theorem ggX3_move_X3_isTin : GoodIn wsX3_move wsX3_isTin := goodIn_r _ [7, 8, 9, 10, 6, 11, 24, 25, 26, 27, 28, 29, 30, 31, 32, 33, 34, 35] (by decide +kernel) (by decide +kernel)
set_option maxRecDepth 20000 in
theorem gX3_move_X3_isTin : GoodIn wsX3_move (wsV RX3 96 RX3 yX3_isTin wsX3_isTin) := goodIn_app (goodIn_of _ (by decide +kernel)) ggX3_move_X3_isTin
set_option maxRecDepth 20000 in
theorem ggX3_move_X3_isShelf : GoodIn wsX3_move wsX3_isShelf := goodIn_r _ [14, 9, 10, 6, 11] (by decide +kernel) (by decide +kernel)
set_option maxRecDepth 20000 in
theorem gX3_move_X3_isShelf : GoodIn wsX3_move (va_wsS RX3 93 yX3_isShelf wsX3_isShelf) := goodIn_app (goodIn_of _ (by decide +kernel)) ggX3_move_X3_isShelf
set_option maxRecDepth 20000 in
theorem ggX3_move_X3_no : GoodIn wsX3_move wsX3_no := goodIn_r _ [18, 1, 24, 25, 26, 27, 28, 29, 30, 31, 32, 33, 34, 35] (by decide +kernel) (by decide +kernel)
set_option maxRecDepth 20000 in
theorem gX3_move_X3_no : GoodIn wsX3_move (wsV RX3 87 RX3 yX3_no wsX3_no) := goodIn_app (goodIn_of _ (by decide +kernel)) ggX3_move_X3_no
set_option maxRecDepth 20000 in
theorem ggX3_move_X3_isHere : GoodIn wsX3_move wsX3_isHere := goodIn_r _ [22, 23, 24, 25, 26, 27, 28, 29, 30, 31, 32, 33, 34, 35] (by decide +kernel) (by decide +kernel)
set_option maxRecDepth 20000 in
theorem gX3_move_X3_isHere : GoodIn wsX3_move (wsV RX3 51 RX3 yX3_isHere wsX3_isHere) := goodIn_app (goodIn_of _ (by decide +kernel)) ggX3_move_X3_isHere
theorem dX3_move_0 : decode cX3_move 0 = .ok (.aload_n 0, 1) := by decide +kernel
theorem dX3_move_1 : decode cX3_move 1 = .ok (.iconst 0, 1) := by decide +kernel
theorem dX3_move_2 : decode cX3_move 2 = .ok (.putfield 31, 3) := by decide +kernel
theorem dX3_move_5 : decode cX3_move 5 = .ok (.aload_n 0, 1) := by decide +kernel
theorem dX3_move_6 : decode cX3_move 6 = .ok (.iload_n 1, 1) := by decide +kernel
theorem dX3_move_7 : decode cX3_move 7 = .ok (.invokevirtual 96, 3) := by decide +kernel
theorem dX3_move_10 : decode cX3_move 10 = .ok (.ifCond .eq 10, 3) := by decide +kernel
theorem dX3_move_13 : decode cX3_move 13 = .ok (.iload_n 2, 1) := by decide +kernel
theorem dX3_move_14 : decode cX3_move 14 = .ok (.invokestatic 93, 3) := by decide +kernel
theorem dX3_move_17 : decode cX3_move 17 = .ok (.ifCond .ne 9, 3) := by decide +kernel
theorem dX3_move_20 : decode cX3_move 20 = .ok (.aload_n 0, 1) := by decide +kernel
theorem dX3_move_21 : decode cX3_move 21 = .ok (.iconst 1, 1) := by decide +kernel
theorem dX3_move_22 : decode cX3_move 22 = .ok (.invokevirtual 87, 3) := by decide +kernel
theorem dX3_move_25 : decode cX3_move 25 = .ok (.ireturn, 1) := by decide +kernel
theorem dX3_move_26 : decode cX3_move 26 = .ok (.aload_n 0, 1) := by decide +kernel
theorem dX3_move_27 : decode cX3_move 27 = .ok (.iload_n 1, 1) := by decide +kernel
theorem dX3_move_28 : decode cX3_move 28 = .ok (.invokevirtual 51, 3) := by decide +kernel
theorem dX3_move_31 : decode cX3_move 31 = .ok (.ifCond .ne 9, 3) := by decide +kernel
theorem dX3_move_34 : decode cX3_move 34 = .ok (.aload_n 0, 1) := by decide +kernel
theorem dX3_move_35 : decode cX3_move 35 = .ok (.iconst 2, 1) := by decide +kernel
theorem dX3_move_36 : decode cX3_move 36 = .ok (.invokevirtual 87, 3) := by decide +kernel
theorem dX3_move_39 : decode cX3_move 39 = .ok (.ireturn, 1) := by decide +kernel
theorem dX3_move_40 : decode cX3_move 40 = .ok (.aload_n 0, 1) := by decide +kernel
theorem dX3_move_41 : decode cX3_move 41 = .ok (.getfield 22, 3) := by decide +kernel
theorem dX3_move_44 : decode cX3_move 44 = .ok (.iload_n 1, 1) := by decide +kernel
theorem dX3_move_45 : decode cX3_move 45 = .ok (.iaload, 1) := by decide +kernel
theorem dX3_move_46 : decode cX3_move 46 = .ok (.istore_n 3, 1) := by decide +kernel
theorem dX3_move_47 : decode cX3_move 47 = .ok (.aload_n 0, 1) := by decide +kernel
theorem dX3_move_48 : decode cX3_move 48 = .ok (.getfield 22, 3) := by decide +kernel
theorem dX3_move_51 : decode cX3_move 51 = .ok (.iload_n 1, 1) := by decide +kernel
theorem dX3_move_52 : decode cX3_move 52 = .ok (.iload_n 2, 1) := by decide +kernel
theorem dX3_move_53 : decode cX3_move 53 = .ok (.iastore, 1) := by decide +kernel
theorem dX3_move_54 : decode cX3_move 54 = .ok (.iload_n 3, 1) := by decide +kernel
theorem dX3_move_55 : decode cX3_move 55 = .ok (.ireturn, 1) := by decide +kernel
set_option maxRecDepth 20000 in
theorem ggX3_setWarm_X3_isShelf : GoodIn wsX3_setWarm wsX3_isShelf := goodIn_r _ [6, 7, 8, 5, 9] (by decide +kernel) (by decide +kernel)
set_option maxRecDepth 20000 in
theorem gX3_setWarm_X3_isShelf : GoodIn wsX3_setWarm (va_wsS RX3 93 yX3_isShelf wsX3_isShelf) := goodIn_app (goodIn_of _ (by decide +kernel)) ggX3_setWarm_X3_isShelf
set_option maxRecDepth 20000 in
theorem ggX3_setWarm_X3_no : GoodIn wsX3_setWarm wsX3_no := goodIn_r _ [13, 1, 14, 15, 16, 17, 18, 19, 20, 21, 22, 23, 24, 25] (by decide +kernel) (by decide +kernel)
set_option maxRecDepth 20000 in
theorem gX3_setWarm_X3_no : GoodIn wsX3_setWarm (wsV RX3 87 RX3 yX3_no wsX3_no) := goodIn_app (goodIn_of _ (by decide +kernel)) ggX3_setWarm_X3_no
set_option maxRecDepth 20000 in
theorem ggX3_setWarm_X3_isIn : GoodIn wsX3_setWarm wsX3_isIn := goodIn_r _ [9] (by decide +kernel) (by decide +kernel)
set_option maxRecDepth 20000 in
theorem gX3_setWarm_X3_isIn : GoodIn wsX3_setWarm (va_wsS RX3 35 yX3_isIn wsX3_isIn) := goodIn_app (goodIn_of _ (by decide +kernel)) ggX3_setWarm_X3_isIn
theorem dX3_setWarm_0 : decode cX3_setWarm 0 = .ok (.aload_n 0, 1) := by decide +kernel
theorem dX3_setWarm_1 : decode cX3_setWarm 1 = .ok (.iconst 0, 1) := by decide +kernel
theorem dX3_setWarm_2 : decode cX3_setWarm 2 = .ok (.putfield 31, 3) := by decide +kernel
theorem dX3_setWarm_5 : decode cX3_setWarm 5 = .ok (.iload_n 1, 1) := by decide +kernel
theorem dX3_setWarm_6 : decode cX3_setWarm 6 = .ok (.invokestatic 93, 3) := by decide +kernel
theorem dX3_setWarm_9 : decode cX3_setWarm 9 = .ok (.ifCond .ne 9, 3) := by decide +kernel
theorem dX3_setWarm_12 : decode cX3_setWarm 12 = .ok (.aload_n 0, 1) := by decide +kernel
theorem dX3_setWarm_13 : decode cX3_setWarm 13 = .ok (.iconst 1, 1) := by decide +kernel
theorem dX3_setWarm_14 : decode cX3_setWarm 14 = .ok (.invokevirtual 87, 3) := by decide +kernel
theorem dX3_setWarm_17 : decode cX3_setWarm 17 = .ok (.ireturn, 1) := by decide +kernel
theorem dX3_setWarm_18 : decode cX3_setWarm 18 = .ok (.iload_n 2, 1) := by decide +kernel
theorem dX3_setWarm_19 : decode cX3_setWarm 19 = .ok (.iconst 0, 1) := by decide +kernel
theorem dX3_setWarm_20 : decode cX3_setWarm 20 = .ok (.iconst 3, 1) := by decide +kernel
theorem dX3_setWarm_21 : decode cX3_setWarm 21 = .ok (.invokestatic 35, 3) := by decide +kernel
theorem dX3_setWarm_24 : decode cX3_setWarm 24 = .ok (.ifCond .ne 9, 3) := by decide +kernel
theorem dX3_setWarm_27 : decode cX3_setWarm 27 = .ok (.aload_n 0, 1) := by decide +kernel
theorem dX3_setWarm_28 : decode cX3_setWarm 28 = .ok (.iconst 2, 1) := by decide +kernel
theorem dX3_setWarm_29 : decode cX3_setWarm 29 = .ok (.invokevirtual 87, 3) := by decide +kernel
theorem dX3_setWarm_32 : decode cX3_setWarm 32 = .ok (.ireturn, 1) := by decide +kernel
theorem dX3_setWarm_33 : decode cX3_setWarm 33 = .ok (.aload_n 0, 1) := by decide +kernel
theorem dX3_setWarm_34 : decode cX3_setWarm 34 = .ok (.getfield 16, 3) := by decide +kernel
theorem dX3_setWarm_37 : decode cX3_setWarm 37 = .ok (.iload_n 1, 1) := by decide +kernel
theorem dX3_setWarm_38 : decode cX3_setWarm 38 = .ok (.iaload, 1) := by decide +kernel
theorem dX3_setWarm_39 : decode cX3_setWarm 39 = .ok (.istore_n 3, 1) := by decide +kernel
theorem dX3_setWarm_40 : decode cX3_setWarm 40 = .ok (.aload_n 0, 1) := by decide +kernel
theorem dX3_setWarm_41 : decode cX3_setWarm 41 = .ok (.getfield 16, 3) := by decide +kernel
theorem dX3_setWarm_44 : decode cX3_setWarm 44 = .ok (.iload_n 1, 1) := by decide +kernel
theorem dX3_setWarm_45 : decode cX3_setWarm 45 = .ok (.iload_n 2, 1) := by decide +kernel
theorem dX3_setWarm_46 : decode cX3_setWarm 46 = .ok (.iastore, 1) := by decide +kernel
theorem dX3_setWarm_47 : decode cX3_setWarm 47 = .ok (.iload_n 3, 1) := by decide +kernel
theorem dX3_setWarm_48 : decode cX3_setWarm 48 = .ok (.ireturn, 1) := by decide +kernel
set_option maxRecDepth 20000 in
theorem ggX3_setShipping_X3_isIn : GoodIn wsX3_setShipping wsX3_isIn := goodIn_r _ [7] (by decide +kernel) (by decide +kernel)
set_option maxRecDepth 20000 in
theorem gX3_setShipping_X3_isIn : GoodIn wsX3_setShipping (va_wsS RX3 35 yX3_isIn wsX3_isIn) := goodIn_app (goodIn_of _ (by decide +kernel)) ggX3_setShipping_X3_isIn
set_option maxRecDepth 20000 in
theorem ggX3_setShipping_X3_isOrder : GoodIn wsX3_setShipping wsX3_isOrder := goodIn_r _ [10, 4, 5, 6, 7] (by decide +kernel) (by decide +kernel)
set_option maxRecDepth 20000 in
theorem gX3_setShipping_X3_isOrder : GoodIn wsX3_setShipping (va_wsS RX3 99 yX3_isOrder wsX3_isOrder) := goodIn_app (goodIn_of _ (by decide +kernel)) ggX3_setShipping_X3_isOrder
set_option maxRecDepth 20000 in
theorem ggX3_setShipping_X3_no : GoodIn wsX3_setShipping wsX3_no := goodIn_r _ [14, 1, 15, 16, 17, 18, 19, 20, 21, 22, 23, 24, 25, 26] (by decide +kernel) (by decide +kernel)
set_option maxRecDepth 20000 in
theorem gX3_setShipping_X3_no : GoodIn wsX3_setShipping (wsV RX3 87 RX3 yX3_no wsX3_no) := goodIn_app (goodIn_of _ (by decide +kernel)) ggX3_setShipping_X3_no
theorem dX3_setShipping_0 : decode cX3_setShipping 0 = .ok (.aload_n 0, 1) := by decide +kernel
theorem dX3_setShipping_1 : decode cX3_setShipping 1 = .ok (.iconst 0, 1) := by decide +kernel
theorem dX3_setShipping_2 : decode cX3_setShipping 2 = .ok (.putfield 31, 3) := by decide +kernel
theorem dX3_setShipping_5 : decode cX3_setShipping 5 = .ok (.iload_n 1, 1) := by decide +kernel
theorem dX3_setShipping_6 : decode cX3_setShipping 6 = .ok (.iconst 0, 1) := by decide +kernel
theorem dX3_setShipping_7 : decode cX3_setShipping 7 = .ok (.bipush 9, 2) := by decide +kernel
theorem dX3_setShipping_9 : decode cX3_setShipping 9 = .ok (.invokestatic 35, 3) := by decide +kernel
theorem dX3_setShipping_12 : decode cX3_setShipping 12 = .ok (.ifCond .eq 10, 3) := by decide +kernel
theorem dX3_setShipping_15 : decode cX3_setShipping 15 = .ok (.iload_n 2, 1) := by decide +kernel
theorem dX3_setShipping_16 : decode cX3_setShipping 16 = .ok (.invokestatic 99, 3) := by decide +kernel
theorem dX3_setShipping_19 : decode cX3_setShipping 19 = .ok (.ifCond .ne 9, 3) := by decide +kernel
theorem dX3_setShipping_22 : decode cX3_setShipping 22 = .ok (.aload_n 0, 1) := by decide +kernel
theorem dX3_setShipping_23 : decode cX3_setShipping 23 = .ok (.iconst 1, 1) := by decide +kernel
theorem dX3_setShipping_24 : decode cX3_setShipping 24 = .ok (.invokevirtual 87, 3) := by decide +kernel
theorem dX3_setShipping_27 : decode cX3_setShipping 27 = .ok (.ireturn, 1) := by decide +kernel
theorem dX3_setShipping_28 : decode cX3_setShipping 28 = .ok (.aload_n 0, 1) := by decide +kernel
theorem dX3_setShipping_29 : decode cX3_setShipping 29 = .ok (.getfield 75, 3) := by decide +kernel
theorem dX3_setShipping_32 : decode cX3_setShipping 32 = .ok (.istore_n 3, 1) := by decide +kernel
theorem dX3_setShipping_33 : decode cX3_setShipping 33 = .ok (.aload_n 0, 1) := by decide +kernel
theorem dX3_setShipping_34 : decode cX3_setShipping 34 = .ok (.iload_n 1, 1) := by decide +kernel
theorem dX3_setShipping_35 : decode cX3_setShipping 35 = .ok (.putfield 75, 3) := by decide +kernel
theorem dX3_setShipping_38 : decode cX3_setShipping 38 = .ok (.aload_n 0, 1) := by decide +kernel
theorem dX3_setShipping_39 : decode cX3_setShipping 39 = .ok (.iload_n 2, 1) := by decide +kernel
theorem dX3_setShipping_40 : decode cX3_setShipping 40 = .ok (.putfield 78, 3) := by decide +kernel
theorem dX3_setShipping_43 : decode cX3_setShipping 43 = .ok (.iload_n 3, 1) := by decide +kernel
theorem dX3_setShipping_44 : decode cX3_setShipping 44 = .ok (.ireturn, 1) := by decide +kernel
set_option maxRecDepth 20000 in
theorem ggX3_recall_X3_isBatch : GoodIn wsX3_recall wsX3_isBatch := goodIn_r _ [7, 8, 9, 10, 6, 11, 26, 27, 28, 29, 30, 31, 32, 33, 34, 35, 36, 37] (by decide +kernel) (by decide +kernel)
set_option maxRecDepth 20000 in
theorem gX3_recall_X3_isBatch : GoodIn wsX3_recall (wsV RX3 90 RX3 yX3_isBatch wsX3_isBatch) := goodIn_app (goodIn_of _ (by decide +kernel)) ggX3_recall_X3_isBatch
set_option maxRecDepth 20000 in
theorem ggX3_recall_X3_no : GoodIn wsX3_recall wsX3_no := goodIn_r _ [15, 1, 26, 27, 28, 29, 30, 31, 32, 33, 34, 35, 36, 37] (by decide +kernel) (by decide +kernel)
set_option maxRecDepth 20000 in
theorem gX3_recall_X3_no : GoodIn wsX3_recall (wsV RX3 87 RX3 yX3_no wsX3_no) := goodIn_app (goodIn_of _ (by decide +kernel)) ggX3_recall_X3_no
set_option maxRecDepth 20000 in
theorem ggX3_recall_X3_takeBack : GoodIn wsX3_recall wsX3_takeBack := goodIn_r _ [19, 2, 20, 21, 22, 23, 24, 6, 25, 26, 27, 28, 29, 30, 31, 32, 33, 34, 35, 36, 37] (by decide +kernel) (by decide +kernel)
set_option maxRecDepth 20000 in
theorem gX3_recall_X3_takeBack : GoodIn wsX3_recall (wsV RX3 71 RX3 yX3_takeBack wsX3_takeBack) := goodIn_app (goodIn_of _ (by decide +kernel)) ggX3_recall_X3_takeBack
theorem dX3_recall_0 : decode cX3_recall 0 = .ok (.aload_n 0, 1) := by decide +kernel
theorem dX3_recall_1 : decode cX3_recall 1 = .ok (.iconst 0, 1) := by decide +kernel
theorem dX3_recall_2 : decode cX3_recall 2 = .ok (.putfield 31, 3) := by decide +kernel
theorem dX3_recall_5 : decode cX3_recall 5 = .ok (.aload_n 0, 1) := by decide +kernel
theorem dX3_recall_6 : decode cX3_recall 6 = .ok (.iload_n 1, 1) := by decide +kernel
theorem dX3_recall_7 : decode cX3_recall 7 = .ok (.invokevirtual 90, 3) := by decide +kernel
theorem dX3_recall_10 : decode cX3_recall 10 = .ok (.ifCond .ne 9, 3) := by decide +kernel
theorem dX3_recall_13 : decode cX3_recall 13 = .ok (.aload_n 0, 1) := by decide +kernel
theorem dX3_recall_14 : decode cX3_recall 14 = .ok (.iconst 1, 1) := by decide +kernel
theorem dX3_recall_15 : decode cX3_recall 15 = .ok (.invokevirtual 87, 3) := by decide +kernel
theorem dX3_recall_18 : decode cX3_recall 18 = .ok (.ireturn, 1) := by decide +kernel
theorem dX3_recall_19 : decode cX3_recall 19 = .ok (.aload_n 0, 1) := by decide +kernel
theorem dX3_recall_20 : decode cX3_recall 20 = .ok (.getfield 25, 3) := by decide +kernel
theorem dX3_recall_23 : decode cX3_recall 23 = .ok (.bipush 7, 2) := by decide +kernel
theorem dX3_recall_25 : decode cX3_recall 25 = .ok (.iload_n 1, 1) := by decide +kernel
theorem dX3_recall_26 : decode cX3_recall 26 = .ok (.iadd, 1) := by decide +kernel
theorem dX3_recall_27 : decode cX3_recall 27 = .ok (.iaload, 1) := by decide +kernel
theorem dX3_recall_28 : decode cX3_recall 28 = .ok (.iconst 1, 1) := by decide +kernel
theorem dX3_recall_29 : decode cX3_recall 29 = .ok (.if_icmp .ne 11, 3) := by decide +kernel
theorem dX3_recall_32 : decode cX3_recall 32 = .ok (.aload_n 0, 1) := by decide +kernel
theorem dX3_recall_33 : decode cX3_recall 33 = .ok (.iconst 2, 1) := by decide +kernel
theorem dX3_recall_34 : decode cX3_recall 34 = .ok (.invokevirtual 87, 3) := by decide +kernel
theorem dX3_recall_37 : decode cX3_recall 37 = .ok (.goto 8, 3) := by decide +kernel
theorem dX3_recall_40 : decode cX3_recall 40 = .ok (.aload_n 0, 1) := by decide +kernel
theorem dX3_recall_41 : decode cX3_recall 41 = .ok (.iload_n 1, 1) := by decide +kernel
theorem dX3_recall_42 : decode cX3_recall 42 = .ok (.invokevirtual 71, 3) := by decide +kernel
theorem dX3_recall_45 : decode cX3_recall 45 = .ok (.ireturn, 1) := by decide +kernel
set_option maxRecDepth 20000 in
theorem ggX3_pass_X3_isIn : GoodIn wsX3_pass wsX3_isIn := goodIn_r _ [5] (by decide +kernel) (by decide +kernel)
set_option maxRecDepth 20000 in
theorem gX3_pass_X3_isIn : GoodIn wsX3_pass (va_wsS RX3 35 yX3_isIn wsX3_isIn) := goodIn_app (goodIn_of _ (by decide +kernel)) ggX3_pass_X3_isIn
set_option maxRecDepth 20000 in
theorem ggX3_pass_X3_no : GoodIn wsX3_pass wsX3_no := goodIn_r _ [9, 1, 59, 60, 61, 62, 63, 64, 65, 66, 67, 68, 69, 70] (by decide +kernel) (by decide +kernel)
set_option maxRecDepth 20000 in
theorem gX3_pass_X3_no : GoodIn wsX3_pass (wsV RX3 87 RX3 yX3_no wsX3_no) := goodIn_app (goodIn_of _ (by decide +kernel)) ggX3_pass_X3_no
set_option maxRecDepth 20000 in
theorem ggX3_pass_X3_count : GoodIn wsX3_pass wsX3_count := goodIn_r _ [13, 14, 15, 59, 60, 61, 62, 63, 64, 65, 66, 67, 68, 69, 70] (by decide +kernel) (by decide +kernel)
set_option maxRecDepth 20000 in
theorem gX3_pass_X3_count : GoodIn wsX3_pass (wsV RX3 102 RX3 yX3_count wsX3_count) := goodIn_app (goodIn_of _ (by decide +kernel)) ggX3_pass_X3_count
set_option maxRecDepth 20000 in
theorem ggX3_pass_X3_daysOn : GoodIn wsX3_pass wsX3_daysOn := goodIn_r _ [19, 20, 21, 22, 4, 23, 14, 24, 15, 25, 26, 27, 28, 29, 30, 31, 32, 33, 34, 35, 36, 37, 38, 39, 40, 41, 42, 43, 44, 45, 46, 47, 48, 49, 50, 51, 52, 53, 54, 55, 56, 57, 58, 59, 60, 61, 62, 63, 64, 65, 66, 67, 68, 69, 70] (by decide +kernel) (by decide +kernel)
set_option maxRecDepth 20000 in
theorem gX3_pass_X3_daysOn : GoodIn wsX3_pass (wsV RX3 105 RX3 yX3_daysOn wsX3_daysOn) := goodIn_app (goodIn_of _ (by decide +kernel)) ggX3_pass_X3_daysOn
theorem dX3_pass_0 : decode cX3_pass 0 = .ok (.aload_n 0, 1) := by decide +kernel
theorem dX3_pass_1 : decode cX3_pass 1 = .ok (.iconst 0, 1) := by decide +kernel
theorem dX3_pass_2 : decode cX3_pass 2 = .ok (.putfield 31, 3) := by decide +kernel
theorem dX3_pass_5 : decode cX3_pass 5 = .ok (.iload_n 1, 1) := by decide +kernel
theorem dX3_pass_6 : decode cX3_pass 6 = .ok (.iconst 1, 1) := by decide +kernel
theorem dX3_pass_7 : decode cX3_pass 7 = .ok (.bipush 60, 2) := by decide +kernel
theorem dX3_pass_9 : decode cX3_pass 9 = .ok (.invokestatic 35, 3) := by decide +kernel
theorem dX3_pass_12 : decode cX3_pass 12 = .ok (.ifCond .ne 9, 3) := by decide +kernel
theorem dX3_pass_15 : decode cX3_pass 15 = .ok (.aload_n 0, 1) := by decide +kernel
theorem dX3_pass_16 : decode cX3_pass 16 = .ok (.iconst 1, 1) := by decide +kernel
theorem dX3_pass_17 : decode cX3_pass 17 = .ok (.invokevirtual 87, 3) := by decide +kernel
theorem dX3_pass_20 : decode cX3_pass 20 = .ok (.ireturn, 1) := by decide +kernel
theorem dX3_pass_21 : decode cX3_pass 21 = .ok (.aload_n 0, 1) := by decide +kernel
theorem dX3_pass_22 : decode cX3_pass 22 = .ok (.iconst 1, 1) := by decide +kernel
theorem dX3_pass_23 : decode cX3_pass 23 = .ok (.invokevirtual 102, 3) := by decide +kernel
theorem dX3_pass_26 : decode cX3_pass 26 = .ok (.istore_n 2, 1) := by decide +kernel
theorem dX3_pass_27 : decode cX3_pass 27 = .ok (.aload_n 0, 1) := by decide +kernel
theorem dX3_pass_28 : decode cX3_pass 28 = .ok (.iload_n 1, 1) := by decide +kernel
theorem dX3_pass_29 : decode cX3_pass 29 = .ok (.invokevirtual 105, 3) := by decide +kernel
theorem dX3_pass_32 : decode cX3_pass 32 = .ok (.aload_n 0, 1) := by decide +kernel
theorem dX3_pass_33 : decode cX3_pass 33 = .ok (.iconst 1, 1) := by decide +kernel
theorem dX3_pass_34 : decode cX3_pass 34 = .ok (.invokevirtual 102, 3) := by decide +kernel
theorem dX3_pass_37 : decode cX3_pass 37 = .ok (.iload_n 2, 1) := by decide +kernel
theorem dX3_pass_38 : decode cX3_pass 38 = .ok (.isub, 1) := by decide +kernel
theorem dX3_pass_39 : decode cX3_pass 39 = .ok (.ireturn, 1) := by decide +kernel
set_option maxRecDepth 20000 in
theorem ggX3_day_X3_ok : GoodIn wsX3_day wsX3_ok := goodIn_r _ [6, 7, 8, 9, 10, 11, 12, 13, 14, 15, 16, 17, 18, 19] (by decide +kernel) (by decide +kernel)
set_option maxRecDepth 20000 in
theorem gX3_day_X3_ok : GoodIn wsX3_day (wsV RX3 108 RX3 yX3_ok wsX3_ok) := goodIn_app (goodIn_of _ (by decide +kernel)) ggX3_day_X3_ok
theorem dX3_day_0 : decode cX3_day 0 = .ok (.aload_n 0, 1) := by decide +kernel
theorem dX3_day_1 : decode cX3_day 1 = .ok (.aload_n 0, 1) := by decide +kernel
theorem dX3_day_2 : decode cX3_day 2 = .ok (.getfield 25, 3) := by decide +kernel
theorem dX3_day_5 : decode cX3_day 5 = .ok (.iconst 0, 1) := by decide +kernel
theorem dX3_day_6 : decode cX3_day 6 = .ok (.iaload, 1) := by decide +kernel
theorem dX3_day_7 : decode cX3_day 7 = .ok (.invokevirtual 108, 3) := by decide +kernel
theorem dX3_day_10 : decode cX3_day 10 = .ok (.ireturn, 1) := by decide +kernel
set_option maxRecDepth 20000 in
theorem ggX3_batches_X3_ok : GoodIn wsX3_batches wsX3_ok := goodIn_r _ [6, 7, 8, 9, 10, 11, 12, 13, 14, 15, 16, 17, 18, 19] (by decide +kernel) (by decide +kernel)
set_option maxRecDepth 20000 in
theorem gX3_batches_X3_ok : GoodIn wsX3_batches (wsV RX3 108 RX3 yX3_ok wsX3_ok) := goodIn_app (goodIn_of _ (by decide +kernel)) ggX3_batches_X3_ok
theorem dX3_batches_0 : decode cX3_batches 0 = .ok (.aload_n 0, 1) := by decide +kernel
theorem dX3_batches_1 : decode cX3_batches 1 = .ok (.aload_n 0, 1) := by decide +kernel
theorem dX3_batches_2 : decode cX3_batches 2 = .ok (.getfield 39, 3) := by decide +kernel
theorem dX3_batches_5 : decode cX3_batches 5 = .ok (.invokevirtual 108, 3) := by decide +kernel
theorem dX3_batches_8 : decode cX3_batches 8 = .ok (.ireturn, 1) := by decide +kernel
set_option maxRecDepth 20000 in
theorem ggX3_tins_X3_ok : GoodIn wsX3_tins wsX3_ok := goodIn_r _ [6, 7, 8, 9, 10, 11, 12, 13, 14, 15, 16, 17, 18, 19] (by decide +kernel) (by decide +kernel)
set_option maxRecDepth 20000 in
theorem gX3_tins_X3_ok : GoodIn wsX3_tins (wsV RX3 108 RX3 yX3_ok wsX3_ok) := goodIn_app (goodIn_of _ (by decide +kernel)) ggX3_tins_X3_ok
theorem dX3_tins_0 : decode cX3_tins 0 = .ok (.aload_n 0, 1) := by decide +kernel
theorem dX3_tins_1 : decode cX3_tins 1 = .ok (.aload_n 0, 1) := by decide +kernel
theorem dX3_tins_2 : decode cX3_tins 2 = .ok (.getfield 42, 3) := by decide +kernel
theorem dX3_tins_5 : decode cX3_tins 5 = .ok (.invokevirtual 108, 3) := by decide +kernel
theorem dX3_tins_8 : decode cX3_tins 8 = .ok (.ireturn, 1) := by decide +kernel
set_option maxRecDepth 20000 in
theorem ggX3_inCellar_X3_count : GoodIn wsX3_inCellar wsX3_count := goodIn_r _ [5, 6, 7, 13, 14, 15, 16, 17, 18, 19, 20, 21, 22, 23, 24] (by decide +kernel) (by decide +kernel)
set_option maxRecDepth 20000 in
theorem gX3_inCellar_X3_count : GoodIn wsX3_inCellar (wsV RX3 102 RX3 yX3_count wsX3_count) := goodIn_app (goodIn_of _ (by decide +kernel)) ggX3_inCellar_X3_count
set_option maxRecDepth 20000 in
theorem ggX3_inCellar_X3_ok : GoodIn wsX3_inCellar wsX3_ok := goodIn_r _ [11, 12, 13, 14, 15, 16, 17, 18, 19, 20, 21, 22, 23, 24] (by decide +kernel) (by decide +kernel)
set_option maxRecDepth 20000 in
theorem gX3_inCellar_X3_ok : GoodIn wsX3_inCellar (wsV RX3 108 RX3 yX3_ok wsX3_ok) := goodIn_app (goodIn_of _ (by decide +kernel)) ggX3_inCellar_X3_ok
theorem dX3_inCellar_0 : decode cX3_inCellar 0 = .ok (.aload_n 0, 1) := by decide +kernel
theorem dX3_inCellar_1 : decode cX3_inCellar 1 = .ok (.aload_n 0, 1) := by decide +kernel
theorem dX3_inCellar_2 : decode cX3_inCellar 2 = .ok (.iconst 0, 1) := by decide +kernel
theorem dX3_inCellar_3 : decode cX3_inCellar 3 = .ok (.invokevirtual 102, 3) := by decide +kernel
theorem dX3_inCellar_6 : decode cX3_inCellar 6 = .ok (.invokevirtual 108, 3) := by decide +kernel
theorem dX3_inCellar_9 : decode cX3_inCellar 9 = .ok (.ireturn, 1) := by decide +kernel
set_option maxRecDepth 20000 in
theorem ggX3_shipped_X3_count : GoodIn wsX3_shipped wsX3_count := goodIn_r _ [5, 6, 7, 13, 14, 15, 16, 17, 18, 19, 20, 21, 22, 23, 24] (by decide +kernel) (by decide +kernel)
set_option maxRecDepth 20000 in
theorem gX3_shipped_X3_count : GoodIn wsX3_shipped (wsV RX3 102 RX3 yX3_count wsX3_count) := goodIn_app (goodIn_of _ (by decide +kernel)) ggX3_shipped_X3_count
set_option maxRecDepth 20000 in
theorem ggX3_shipped_X3_ok : GoodIn wsX3_shipped wsX3_ok := goodIn_r _ [11, 12, 13, 14, 15, 16, 17, 18, 19, 20, 21, 22, 23, 24] (by decide +kernel) (by decide +kernel)
set_option maxRecDepth 20000 in
theorem gX3_shipped_X3_ok : GoodIn wsX3_shipped (wsV RX3 108 RX3 yX3_ok wsX3_ok) := goodIn_app (goodIn_of _ (by decide +kernel)) ggX3_shipped_X3_ok
theorem dX3_shipped_0 : decode cX3_shipped 0 = .ok (.aload_n 0, 1) := by decide +kernel
theorem dX3_shipped_1 : decode cX3_shipped 1 = .ok (.aload_n 0, 1) := by decide +kernel
theorem dX3_shipped_2 : decode cX3_shipped 2 = .ok (.iconst 1, 1) := by decide +kernel
theorem dX3_shipped_3 : decode cX3_shipped 3 = .ok (.invokevirtual 102, 3) := by decide +kernel
theorem dX3_shipped_6 : decode cX3_shipped 6 = .ok (.invokevirtual 108, 3) := by decide +kernel
theorem dX3_shipped_9 : decode cX3_shipped 9 = .ok (.ireturn, 1) := by decide +kernel
set_option maxRecDepth 20000 in
theorem ggX3_lost_X3_count : GoodIn wsX3_lost wsX3_count := goodIn_r _ [5, 6, 7, 13, 14, 15, 16, 17, 18, 19, 20, 21, 22, 23, 24] (by decide +kernel) (by decide +kernel)
set_option maxRecDepth 20000 in
theorem gX3_lost_X3_count : GoodIn wsX3_lost (wsV RX3 102 RX3 yX3_count wsX3_count) := goodIn_app (goodIn_of _ (by decide +kernel)) ggX3_lost_X3_count
set_option maxRecDepth 20000 in
theorem ggX3_lost_X3_ok : GoodIn wsX3_lost wsX3_ok := goodIn_r _ [11, 12, 13, 14, 15, 16, 17, 18, 19, 20, 21, 22, 23, 24] (by decide +kernel) (by decide +kernel)
set_option maxRecDepth 20000 in
theorem gX3_lost_X3_ok : GoodIn wsX3_lost (wsV RX3 108 RX3 yX3_ok wsX3_ok) := goodIn_app (goodIn_of _ (by decide +kernel)) ggX3_lost_X3_ok
theorem dX3_lost_0 : decode cX3_lost 0 = .ok (.aload_n 0, 1) := by decide +kernel
theorem dX3_lost_1 : decode cX3_lost 1 = .ok (.aload_n 0, 1) := by decide +kernel
theorem dX3_lost_2 : decode cX3_lost 2 = .ok (.iconst 2, 1) := by decide +kernel
theorem dX3_lost_3 : decode cX3_lost 3 = .ok (.invokevirtual 102, 3) := by decide +kernel
theorem dX3_lost_6 : decode cX3_lost 6 = .ok (.invokevirtual 108, 3) := by decide +kernel
theorem dX3_lost_9 : decode cX3_lost 9 = .ok (.ireturn, 1) := by decide +kernel
theorem dX3_allSwelled_0 : decode cX3_allSwelled 0 = .ok (.iconst 0, 1) := by decide +kernel
theorem dX3_allSwelled_1 : decode cX3_allSwelled 1 = .ok (.istore_n 1, 1) := by decide +kernel
theorem dX3_allSwelled_2 : decode cX3_allSwelled 2 = .ok (.iconst 0, 1) := by decide +kernel
theorem dX3_allSwelled_3 : decode cX3_allSwelled 3 = .ok (.istore_n 2, 1) := by decide +kernel
theorem dX3_allSwelled_4 : decode cX3_allSwelled 4 = .ok (.iload_n 2, 1) := by decide +kernel
theorem dX3_allSwelled_5 : decode cX3_allSwelled 5 = .ok (.aload_n 0, 1) := by decide +kernel
theorem dX3_allSwelled_6 : decode cX3_allSwelled 6 = .ok (.getfield 39, 3) := by decide +kernel
theorem dX3_allSwelled_9 : decode cX3_allSwelled 9 = .ok (.if_icmp .ge 20, 3) := by decide +kernel
theorem dX3_allSwelled_12 : decode cX3_allSwelled 12 = .ok (.iload_n 1, 1) := by decide +kernel
theorem dX3_allSwelled_13 : decode cX3_allSwelled 13 = .ok (.aload_n 0, 1) := by decide +kernel
theorem dX3_allSwelled_14 : decode cX3_allSwelled 14 = .ok (.getfield 25, 3) := by decide +kernel
theorem dX3_allSwelled_17 : decode cX3_allSwelled 17 = .ok (.iconst 1, 1) := by decide +kernel
theorem dX3_allSwelled_18 : decode cX3_allSwelled 18 = .ok (.iload_n 2, 1) := by decide +kernel
theorem dX3_allSwelled_19 : decode cX3_allSwelled 19 = .ok (.iadd, 1) := by decide +kernel
theorem dX3_allSwelled_20 : decode cX3_allSwelled 20 = .ok (.iaload, 1) := by decide +kernel
theorem dX3_allSwelled_21 : decode cX3_allSwelled 21 = .ok (.iadd, 1) := by decide +kernel
theorem dX3_allSwelled_22 : decode cX3_allSwelled 22 = .ok (.istore_n 1, 1) := by decide +kernel
theorem dX3_allSwelled_23 : decode cX3_allSwelled 23 = .ok (.iinc 2 1, 3) := by decide +kernel
theorem dX3_allSwelled_26 : decode cX3_allSwelled 26 = .ok (.goto (-22), 3) := by decide +kernel
theorem dX3_allSwelled_29 : decode cX3_allSwelled 29 = .ok (.iload_n 1, 1) := by decide +kernel
theorem dX3_allSwelled_30 : decode cX3_allSwelled 30 = .ok (.ireturn, 1) := by decide +kernel
set_option maxRecDepth 20000 in
theorem ggX3_swelled_X3_allSwelled : GoodIn wsX3_swelled wsX3_allSwelled := goodIn_r _ [5, 6, 7, 13, 14, 15, 16, 17, 18, 19, 20, 21, 22, 23, 24] (by decide +kernel) (by decide +kernel)
set_option maxRecDepth 20000 in
theorem gX3_swelled_X3_allSwelled : GoodIn wsX3_swelled (wsV RX3 111 RX3 yX3_allSwelled wsX3_allSwelled) := goodIn_app (goodIn_of _ (by decide +kernel)) ggX3_swelled_X3_allSwelled
set_option maxRecDepth 20000 in
theorem ggX3_swelled_X3_ok : GoodIn wsX3_swelled wsX3_ok := goodIn_r _ [11, 12, 13, 14, 15, 16, 17, 18, 19, 20, 21, 22, 23, 24] (by decide +kernel) (by decide +kernel)
set_option maxRecDepth 20000 in
theorem gX3_swelled_X3_ok : GoodIn wsX3_swelled (wsV RX3 108 RX3 yX3_ok wsX3_ok) := goodIn_app (goodIn_of _ (by decide +kernel)) ggX3_swelled_X3_ok
theorem dX3_swelled_0 : decode cX3_swelled 0 = .ok (.aload_n 0, 1) := by decide +kernel
theorem dX3_swelled_1 : decode cX3_swelled 1 = .ok (.aload_n 0, 1) := by decide +kernel
theorem dX3_swelled_2 : decode cX3_swelled 2 = .ok (.invokevirtual 111, 3) := by decide +kernel
theorem dX3_swelled_5 : decode cX3_swelled 5 = .ok (.invokevirtual 108, 3) := by decide +kernel
theorem dX3_swelled_8 : decode cX3_swelled 8 = .ok (.ireturn, 1) := by decide +kernel
set_option maxRecDepth 20000 in
theorem ggX3_on_X3_isHere : GoodIn wsX3_on wsX3_isHere := goodIn_r _ [7, 8, 9, 10, 11, 12, 13, 14, 15, 16, 17, 18, 19, 20] (by decide +kernel) (by decide +kernel)
set_option maxRecDepth 20000 in
theorem gX3_on_X3_isHere : GoodIn wsX3_on (wsV RX3 51 RX3 yX3_isHere wsX3_isHere) := goodIn_app (goodIn_of _ (by decide +kernel)) ggX3_on_X3_isHere
theorem dX3_on_0 : decode cX3_on 0 = .ok (.iconst 0, 1) := by decide +kernel
theorem dX3_on_1 : decode cX3_on 1 = .ok (.istore_n 2, 1) := by decide +kernel
theorem dX3_on_2 : decode cX3_on 2 = .ok (.iconst 0, 1) := by decide +kernel
theorem dX3_on_3 : decode cX3_on 3 = .ok (.istore_n 3, 1) := by decide +kernel
theorem dX3_on_4 : decode cX3_on 4 = .ok (.iload_n 3, 1) := by decide +kernel
theorem dX3_on_5 : decode cX3_on 5 = .ok (.aload_n 0, 1) := by decide +kernel
theorem dX3_on_6 : decode cX3_on 6 = .ok (.getfield 42, 3) := by decide +kernel
theorem dX3_on_9 : decode cX3_on 9 = .ok (.if_icmp .ge 35, 3) := by decide +kernel
theorem dX3_on_12 : decode cX3_on 12 = .ok (.iload_n 2, 1) := by decide +kernel
theorem dX3_on_13 : decode cX3_on 13 = .ok (.aload_n 0, 1) := by decide +kernel
theorem dX3_on_14 : decode cX3_on 14 = .ok (.iload_n 3, 1) := by decide +kernel
theorem dX3_on_15 : decode cX3_on 15 = .ok (.invokevirtual 51, 3) := by decide +kernel
theorem dX3_on_18 : decode cX3_on 18 = .ok (.ifCond .eq 17, 3) := by decide +kernel
theorem dX3_on_21 : decode cX3_on 21 = .ok (.aload_n 0, 1) := by decide +kernel
theorem dX3_on_22 : decode cX3_on 22 = .ok (.getfield 22, 3) := by decide +kernel
theorem dX3_on_25 : decode cX3_on 25 = .ok (.iload_n 3, 1) := by decide +kernel
theorem dX3_on_26 : decode cX3_on 26 = .ok (.iaload, 1) := by decide +kernel
theorem dX3_on_27 : decode cX3_on 27 = .ok (.iload_n 1, 1) := by decide +kernel
theorem dX3_on_28 : decode cX3_on 28 = .ok (.if_icmp .ne 7, 3) := by decide +kernel
theorem dX3_on_31 : decode cX3_on 31 = .ok (.iconst 1, 1) := by decide +kernel
theorem dX3_on_32 : decode cX3_on 32 = .ok (.goto 4, 3) := by decide +kernel
theorem dX3_on_35 : decode cX3_on 35 = .ok (.iconst 0, 1) := by decide +kernel
theorem dX3_on_36 : decode cX3_on 36 = .ok (.iadd, 1) := by decide +kernel
theorem dX3_on_37 : decode cX3_on 37 = .ok (.istore_n 2, 1) := by decide +kernel
theorem dX3_on_38 : decode cX3_on 38 = .ok (.iinc 3 1, 3) := by decide +kernel
theorem dX3_on_41 : decode cX3_on 41 = .ok (.goto (-37), 3) := by decide +kernel
theorem dX3_on_44 : decode cX3_on 44 = .ok (.iload_n 2, 1) := by decide +kernel
theorem dX3_on_45 : decode cX3_on 45 = .ok (.ireturn, 1) := by decide +kernel
set_option maxRecDepth 20000 in
theorem ggX3_standOn_X3_isShelf : GoodIn wsX3_standOn wsX3_isShelf := goodIn_r _ [5, 6, 7, 4, 8] (by decide +kernel) (by decide +kernel)
set_option maxRecDepth 20000 in
theorem gX3_standOn_X3_isShelf : GoodIn wsX3_standOn (va_wsS RX3 93 yX3_isShelf wsX3_isShelf) := goodIn_app (goodIn_of _ (by decide +kernel)) ggX3_standOn_X3_isShelf
set_option maxRecDepth 20000 in
theorem ggX3_standOn_X3_on : GoodIn wsX3_standOn wsX3_on := goodIn_r _ [12, 13, 14, 15, 16, 17, 4, 18, 19, 24, 25, 26, 27, 28, 29, 30, 31, 32, 33, 34, 35] (by decide +kernel) (by decide +kernel)
set_option maxRecDepth 20000 in
theorem gX3_standOn_X3_on : GoodIn wsX3_standOn (wsV RX3 115 RX3 yX3_on wsX3_on) := goodIn_app (goodIn_of _ (by decide +kernel)) ggX3_standOn_X3_on
set_option maxRecDepth 20000 in
theorem ggX3_standOn_X3_no : GoodIn wsX3_standOn wsX3_no := goodIn_r _ [23, 1, 24, 25, 26, 27, 28, 29, 30, 31, 32, 33, 34, 35] (by decide +kernel) (by decide +kernel)
set_option maxRecDepth 20000 in
theorem gX3_standOn_X3_no : GoodIn wsX3_standOn (wsV RX3 87 RX3 yX3_no wsX3_no) := goodIn_app (goodIn_of _ (by decide +kernel)) ggX3_standOn_X3_no
theorem dX3_standOn_0 : decode cX3_standOn 0 = .ok (.aload_n 0, 1) := by decide +kernel
theorem dX3_standOn_1 : decode cX3_standOn 1 = .ok (.iconst 0, 1) := by decide +kernel
theorem dX3_standOn_2 : decode cX3_standOn 2 = .ok (.putfield 31, 3) := by decide +kernel
theorem dX3_standOn_5 : decode cX3_standOn 5 = .ok (.iload_n 1, 1) := by decide +kernel
theorem dX3_standOn_6 : decode cX3_standOn 6 = .ok (.invokestatic 93, 3) := by decide +kernel
theorem dX3_standOn_9 : decode cX3_standOn 9 = .ok (.ifCond .eq 11, 3) := by decide +kernel
theorem dX3_standOn_12 : decode cX3_standOn 12 = .ok (.aload_n 0, 1) := by decide +kernel
theorem dX3_standOn_13 : decode cX3_standOn 13 = .ok (.iload_n 1, 1) := by decide +kernel
theorem dX3_standOn_14 : decode cX3_standOn 14 = .ok (.invokevirtual 115, 3) := by decide +kernel
theorem dX3_standOn_17 : decode cX3_standOn 17 = .ok (.goto 8, 3) := by decide +kernel
theorem dX3_standOn_20 : decode cX3_standOn 20 = .ok (.aload_n 0, 1) := by decide +kernel
theorem dX3_standOn_21 : decode cX3_standOn 21 = .ok (.iconst 1, 1) := by decide +kernel
theorem dX3_standOn_22 : decode cX3_standOn 22 = .ok (.invokevirtual 87, 3) := by decide +kernel
theorem dX3_standOn_25 : decode cX3_standOn 25 = .ok (.ireturn, 1) := by decide +kernel
set_option maxRecDepth 20000 in
theorem ggX3_warmOf_X3_isShelf : GoodIn wsX3_warmOf wsX3_isShelf := goodIn_r _ [6, 7, 8, 5, 9] (by decide +kernel) (by decide +kernel)
set_option maxRecDepth 20000 in
theorem gX3_warmOf_X3_isShelf : GoodIn wsX3_warmOf (va_wsS RX3 93 yX3_isShelf wsX3_isShelf) := goodIn_app (goodIn_of _ (by decide +kernel)) ggX3_warmOf_X3_isShelf
set_option maxRecDepth 20000 in
theorem ggX3_warmOf_X3_no : GoodIn wsX3_warmOf wsX3_no := goodIn_r _ [13, 1, 14, 15, 16, 17, 18, 19, 20, 21, 22, 23, 24, 25] (by decide +kernel) (by decide +kernel)
set_option maxRecDepth 20000 in
theorem gX3_warmOf_X3_no : GoodIn wsX3_warmOf (wsV RX3 87 RX3 yX3_no wsX3_no) := goodIn_app (goodIn_of _ (by decide +kernel)) ggX3_warmOf_X3_no
theorem dX3_warmOf_0 : decode cX3_warmOf 0 = .ok (.aload_n 0, 1) := by decide +kernel
theorem dX3_warmOf_1 : decode cX3_warmOf 1 = .ok (.iconst 0, 1) := by decide +kernel
theorem dX3_warmOf_2 : decode cX3_warmOf 2 = .ok (.putfield 31, 3) := by decide +kernel
theorem dX3_warmOf_5 : decode cX3_warmOf 5 = .ok (.iload_n 1, 1) := by decide +kernel
theorem dX3_warmOf_6 : decode cX3_warmOf 6 = .ok (.invokestatic 93, 3) := by decide +kernel
theorem dX3_warmOf_9 : decode cX3_warmOf 9 = .ok (.ifCond .eq 12, 3) := by decide +kernel
theorem dX3_warmOf_12 : decode cX3_warmOf 12 = .ok (.aload_n 0, 1) := by decide +kernel
theorem dX3_warmOf_13 : decode cX3_warmOf 13 = .ok (.getfield 16, 3) := by decide +kernel
theorem dX3_warmOf_16 : decode cX3_warmOf 16 = .ok (.iload_n 1, 1) := by decide +kernel
theorem dX3_warmOf_17 : decode cX3_warmOf 17 = .ok (.iaload, 1) := by decide +kernel
theorem dX3_warmOf_18 : decode cX3_warmOf 18 = .ok (.goto 8, 3) := by decide +kernel
theorem dX3_warmOf_21 : decode cX3_warmOf 21 = .ok (.aload_n 0, 1) := by decide +kernel
theorem dX3_warmOf_22 : decode cX3_warmOf 22 = .ok (.iconst 1, 1) := by decide +kernel
theorem dX3_warmOf_23 : decode cX3_warmOf 23 = .ok (.invokevirtual 87, 3) := by decide +kernel
theorem dX3_warmOf_26 : decode cX3_warmOf 26 = .ok (.ireturn, 1) := by decide +kernel
set_option maxRecDepth 20000 in
theorem ggX3_batchOf_X3_isTin : GoodIn wsX3_batchOf wsX3_isTin := goodIn_r _ [7, 8, 9, 10, 6, 11, 16, 17, 18, 19, 20, 21, 22, 23, 24, 25, 26, 27] (by decide +kernel) (by decide +kernel)
set_option maxRecDepth 20000 in
theorem gX3_batchOf_X3_isTin : GoodIn wsX3_batchOf (wsV RX3 96 RX3 yX3_isTin wsX3_isTin) := goodIn_app (goodIn_of _ (by decide +kernel)) ggX3_batchOf_X3_isTin
set_option maxRecDepth 20000 in
theorem ggX3_batchOf_X3_no : GoodIn wsX3_batchOf wsX3_no := goodIn_r _ [15, 1, 16, 17, 18, 19, 20, 21, 22, 23, 24, 25, 26, 27] (by decide +kernel) (by decide +kernel)
set_option maxRecDepth 20000 in
theorem gX3_batchOf_X3_no : GoodIn wsX3_batchOf (wsV RX3 87 RX3 yX3_no wsX3_no) := goodIn_app (goodIn_of _ (by decide +kernel)) ggX3_batchOf_X3_no
theorem dX3_batchOf_0 : decode cX3_batchOf 0 = .ok (.aload_n 0, 1) := by decide +kernel
theorem dX3_batchOf_1 : decode cX3_batchOf 1 = .ok (.iconst 0, 1) := by decide +kernel
theorem dX3_batchOf_2 : decode cX3_batchOf 2 = .ok (.putfield 31, 3) := by decide +kernel
theorem dX3_batchOf_5 : decode cX3_batchOf 5 = .ok (.aload_n 0, 1) := by decide +kernel
theorem dX3_batchOf_6 : decode cX3_batchOf 6 = .ok (.iload_n 1, 1) := by decide +kernel
theorem dX3_batchOf_7 : decode cX3_batchOf 7 = .ok (.invokevirtual 96, 3) := by decide +kernel
theorem dX3_batchOf_10 : decode cX3_batchOf 10 = .ok (.ifCond .eq 12, 3) := by decide +kernel
theorem dX3_batchOf_13 : decode cX3_batchOf 13 = .ok (.aload_n 0, 1) := by decide +kernel
theorem dX3_batchOf_14 : decode cX3_batchOf 14 = .ok (.getfield 19, 3) := by decide +kernel
theorem dX3_batchOf_17 : decode cX3_batchOf 17 = .ok (.iload_n 1, 1) := by decide +kernel
theorem dX3_batchOf_18 : decode cX3_batchOf 18 = .ok (.iaload, 1) := by decide +kernel
theorem dX3_batchOf_19 : decode cX3_batchOf 19 = .ok (.goto 8, 3) := by decide +kernel
theorem dX3_batchOf_22 : decode cX3_batchOf 22 = .ok (.aload_n 0, 1) := by decide +kernel
theorem dX3_batchOf_23 : decode cX3_batchOf 23 = .ok (.iconst 1, 1) := by decide +kernel
theorem dX3_batchOf_24 : decode cX3_batchOf 24 = .ok (.invokevirtual 87, 3) := by decide +kernel
theorem dX3_batchOf_27 : decode cX3_batchOf 27 = .ok (.ireturn, 1) := by decide +kernel
set_option maxRecDepth 20000 in
theorem ggX3_place_X3_isHere : GoodIn wsX3_place wsX3_isHere := goodIn_r _ [6, 7, 8, 9, 10, 11, 12, 13, 14, 15, 16, 17, 18, 19] (by decide +kernel) (by decide +kernel)
set_option maxRecDepth 20000 in
theorem gX3_place_X3_isHere : GoodIn wsX3_place (wsV RX3 51 RX3 yX3_isHere wsX3_isHere) := goodIn_app (goodIn_of _ (by decide +kernel)) ggX3_place_X3_isHere
theorem dX3_place_0 : decode cX3_place 0 = .ok (.aload_n 0, 1) := by decide +kernel
theorem dX3_place_1 : decode cX3_place 1 = .ok (.iload_n 1, 1) := by decide +kernel
theorem dX3_place_2 : decode cX3_place 2 = .ok (.invokevirtual 51, 3) := by decide +kernel
theorem dX3_place_5 : decode cX3_place 5 = .ok (.ifCond .eq 12, 3) := by decide +kernel
theorem dX3_place_8 : decode cX3_place 8 = .ok (.aload_n 0, 1) := by decide +kernel
theorem dX3_place_9 : decode cX3_place 9 = .ok (.getfield 22, 3) := by decide +kernel
theorem dX3_place_12 : decode cX3_place 12 = .ok (.iload_n 1, 1) := by decide +kernel
theorem dX3_place_13 : decode cX3_place 13 = .ok (.iaload, 1) := by decide +kernel
theorem dX3_place_14 : decode cX3_place 14 = .ok (.goto 4, 3) := by decide +kernel
theorem dX3_place_17 : decode cX3_place 17 = .ok (.iconst (-1), 1) := by decide +kernel
theorem dX3_place_18 : decode cX3_place 18 = .ok (.ireturn, 1) := by decide +kernel
set_option maxRecDepth 20000 in
theorem ggX3_shelfOf_X3_isTin : GoodIn wsX3_shelfOf wsX3_isTin := goodIn_r _ [6, 7, 8, 9, 5, 10, 25, 26, 27, 28, 29, 30, 31, 32, 33, 34, 35, 36] (by decide +kernel) (by decide +kernel)
set_option maxRecDepth 20000 in
theorem gX3_shelfOf_X3_isTin : GoodIn wsX3_shelfOf (wsV RX3 96 RX3 yX3_isTin wsX3_isTin) := goodIn_app (goodIn_of _ (by decide +kernel)) ggX3_shelfOf_X3_isTin
set_option maxRecDepth 20000 in
theorem ggX3_shelfOf_X3_place : GoodIn wsX3_shelfOf wsX3_place := goodIn_r _ [14, 15, 16, 17, 18, 5, 19, 20, 25, 26, 27, 28, 29, 30, 31, 32, 33, 34, 35, 36] (by decide +kernel) (by decide +kernel)
set_option maxRecDepth 20000 in
theorem gX3_shelfOf_X3_place : GoodIn wsX3_shelfOf (wsV RX3 118 RX3 yX3_place wsX3_place) := goodIn_app (goodIn_of _ (by decide +kernel)) ggX3_shelfOf_X3_place
set_option maxRecDepth 20000 in
theorem ggX3_shelfOf_X3_no : GoodIn wsX3_shelfOf wsX3_no := goodIn_r _ [24, 1, 25, 26, 27, 28, 29, 30, 31, 32, 33, 34, 35, 36] (by decide +kernel) (by decide +kernel)
set_option maxRecDepth 20000 in
theorem gX3_shelfOf_X3_no : GoodIn wsX3_shelfOf (wsV RX3 87 RX3 yX3_no wsX3_no) := goodIn_app (goodIn_of _ (by decide +kernel)) ggX3_shelfOf_X3_no
theorem dX3_shelfOf_0 : decode cX3_shelfOf 0 = .ok (.aload_n 0, 1) := by decide +kernel
theorem dX3_shelfOf_1 : decode cX3_shelfOf 1 = .ok (.iconst 0, 1) := by decide +kernel
theorem dX3_shelfOf_2 : decode cX3_shelfOf 2 = .ok (.putfield 31, 3) := by decide +kernel
theorem dX3_shelfOf_5 : decode cX3_shelfOf 5 = .ok (.aload_n 0, 1) := by decide +kernel
theorem dX3_shelfOf_6 : decode cX3_shelfOf 6 = .ok (.iload_n 1, 1) := by decide +kernel
theorem dX3_shelfOf_7 : decode cX3_shelfOf 7 = .ok (.invokevirtual 96, 3) := by decide +kernel
theorem dX3_shelfOf_10 : decode cX3_shelfOf 10 = .ok (.ifCond .eq 11, 3) := by decide +kernel
theorem dX3_shelfOf_13 : decode cX3_shelfOf 13 = .ok (.aload_n 0, 1) := by decide +kernel
theorem dX3_shelfOf_14 : decode cX3_shelfOf 14 = .ok (.iload_n 1, 1) := by decide +kernel
theorem dX3_shelfOf_15 : decode cX3_shelfOf 15 = .ok (.invokevirtual 118, 3) := by decide +kernel
theorem dX3_shelfOf_18 : decode cX3_shelfOf 18 = .ok (.goto 8, 3) := by decide +kernel
theorem dX3_shelfOf_21 : decode cX3_shelfOf 21 = .ok (.aload_n 0, 1) := by decide +kernel
theorem dX3_shelfOf_22 : decode cX3_shelfOf 22 = .ok (.iconst 1, 1) := by decide +kernel
theorem dX3_shelfOf_23 : decode cX3_shelfOf 23 = .ok (.invokevirtual 87, 3) := by decide +kernel
theorem dX3_shelfOf_26 : decode cX3_shelfOf 26 = .ok (.ireturn, 1) := by decide +kernel
set_option maxRecDepth 20000 in
theorem ggX3_vacuumOf_X3_isTin : GoodIn wsX3_vacuumOf wsX3_isTin := goodIn_r _ [7, 8, 9, 10, 6, 11, 16, 17, 18, 19, 20, 21, 22, 23, 24, 25, 26, 27] (by decide +kernel) (by decide +kernel)
set_option maxRecDepth 20000 in
theorem gX3_vacuumOf_X3_isTin : GoodIn wsX3_vacuumOf (wsV RX3 96 RX3 yX3_isTin wsX3_isTin) := goodIn_app (goodIn_of _ (by decide +kernel)) ggX3_vacuumOf_X3_isTin
set_option maxRecDepth 20000 in
theorem ggX3_vacuumOf_X3_no : GoodIn wsX3_vacuumOf wsX3_no := goodIn_r _ [15, 1, 16, 17, 18, 19, 20, 21, 22, 23, 24, 25, 26, 27] (by decide +kernel) (by decide +kernel)
set_option maxRecDepth 20000 in
theorem gX3_vacuumOf_X3_no : GoodIn wsX3_vacuumOf (wsV RX3 87 RX3 yX3_no wsX3_no) := goodIn_app (goodIn_of _ (by decide +kernel)) ggX3_vacuumOf_X3_no
theorem dX3_vacuumOf_0 : decode cX3_vacuumOf 0 = .ok (.aload_n 0, 1) := by decide +kernel
theorem dX3_vacuumOf_1 : decode cX3_vacuumOf 1 = .ok (.iconst 0, 1) := by decide +kernel
theorem dX3_vacuumOf_2 : decode cX3_vacuumOf 2 = .ok (.putfield 31, 3) := by decide +kernel
theorem dX3_vacuumOf_5 : decode cX3_vacuumOf 5 = .ok (.aload_n 0, 1) := by decide +kernel
theorem dX3_vacuumOf_6 : decode cX3_vacuumOf 6 = .ok (.iload_n 1, 1) := by decide +kernel
theorem dX3_vacuumOf_7 : decode cX3_vacuumOf 7 = .ok (.invokevirtual 96, 3) := by decide +kernel
theorem dX3_vacuumOf_10 : decode cX3_vacuumOf 10 = .ok (.ifCond .eq 15, 3) := by decide +kernel
theorem dX3_vacuumOf_13 : decode cX3_vacuumOf 13 = .ok (.aload_n 0, 1) := by decide +kernel
theorem dX3_vacuumOf_14 : decode cX3_vacuumOf 14 = .ok (.getfield 25, 3) := by decide +kernel
theorem dX3_vacuumOf_17 : decode cX3_vacuumOf 17 = .ok (.bipush 73, 2) := by decide +kernel
theorem dX3_vacuumOf_19 : decode cX3_vacuumOf 19 = .ok (.iload_n 1, 1) := by decide +kernel
theorem dX3_vacuumOf_20 : decode cX3_vacuumOf 20 = .ok (.iadd, 1) := by decide +kernel
theorem dX3_vacuumOf_21 : decode cX3_vacuumOf 21 = .ok (.iaload, 1) := by decide +kernel
theorem dX3_vacuumOf_22 : decode cX3_vacuumOf 22 = .ok (.goto 8, 3) := by decide +kernel
theorem dX3_vacuumOf_25 : decode cX3_vacuumOf 25 = .ok (.aload_n 0, 1) := by decide +kernel
theorem dX3_vacuumOf_26 : decode cX3_vacuumOf 26 = .ok (.iconst 1, 1) := by decide +kernel
theorem dX3_vacuumOf_27 : decode cX3_vacuumOf 27 = .ok (.invokevirtual 87, 3) := by decide +kernel
theorem dX3_vacuumOf_30 : decode cX3_vacuumOf 30 = .ok (.ireturn, 1) := by decide +kernel
set_option maxRecDepth 20000 in
theorem ggX3_is_X3_isTin : GoodIn wsX3_is wsX3_isTin := goodIn_r _ [7, 8, 9, 10, 6, 11, 16, 17, 18, 19, 20, 21, 22, 23, 24, 25, 26, 27] (by decide +kernel) (by decide +kernel)
set_option maxRecDepth 20000 in
theorem gX3_is_X3_isTin : GoodIn wsX3_is (wsV RX3 96 RX3 yX3_isTin wsX3_isTin) := goodIn_app (goodIn_of _ (by decide +kernel)) ggX3_is_X3_isTin
set_option maxRecDepth 20000 in
theorem ggX3_is_X3_isNot : GoodIn wsX3_is wsX3_isNot := goodIn_r _ [15, 1, 16, 17, 18, 19, 20, 21, 22, 23, 24, 25, 26, 27] (by decide +kernel) (by decide +kernel)
set_option maxRecDepth 20000 in
theorem gX3_is_X3_isNot : GoodIn wsX3_is (wsV RX3 121 RX3 yX3_isNot wsX3_isNot) := goodIn_app (goodIn_of _ (by decide +kernel)) ggX3_is_X3_isNot
theorem dX3_is_0 : decode cX3_is 0 = .ok (.aload_n 0, 1) := by decide +kernel
theorem dX3_is_1 : decode cX3_is 1 = .ok (.iconst 0, 1) := by decide +kernel
theorem dX3_is_2 : decode cX3_is 2 = .ok (.putfield 31, 3) := by decide +kernel
theorem dX3_is_5 : decode cX3_is 5 = .ok (.aload_n 0, 1) := by decide +kernel
theorem dX3_is_6 : decode cX3_is 6 = .ok (.iload_n 1, 1) := by decide +kernel
theorem dX3_is_7 : decode cX3_is 7 = .ok (.invokevirtual 96, 3) := by decide +kernel
theorem dX3_is_10 : decode cX3_is 10 = .ok (.ifCond .eq 24, 3) := by decide +kernel
theorem dX3_is_13 : decode cX3_is 13 = .ok (.aload_n 0, 1) := by decide +kernel
theorem dX3_is_14 : decode cX3_is 14 = .ok (.getfield 25, 3) := by decide +kernel
theorem dX3_is_17 : decode cX3_is 17 = .ok (.bipush 13, 2) := by decide +kernel
theorem dX3_is_19 : decode cX3_is 19 = .ok (.iload_n 1, 1) := by decide +kernel
theorem dX3_is_20 : decode cX3_is 20 = .ok (.iadd, 1) := by decide +kernel
theorem dX3_is_21 : decode cX3_is 21 = .ok (.iaload, 1) := by decide +kernel
theorem dX3_is_22 : decode cX3_is 22 = .ok (.iload_n 2, 1) := by decide +kernel
theorem dX3_is_23 : decode cX3_is 23 = .ok (.if_icmp .ne 7, 3) := by decide +kernel
theorem dX3_is_26 : decode cX3_is 26 = .ok (.iconst 1, 1) := by decide +kernel
theorem dX3_is_27 : decode cX3_is 27 = .ok (.goto 12, 3) := by decide +kernel
theorem dX3_is_30 : decode cX3_is 30 = .ok (.iconst 0, 1) := by decide +kernel
theorem dX3_is_31 : decode cX3_is 31 = .ok (.goto 8, 3) := by decide +kernel
theorem dX3_is_34 : decode cX3_is 34 = .ok (.aload_n 0, 1) := by decide +kernel
theorem dX3_is_35 : decode cX3_is 35 = .ok (.iconst 1, 1) := by decide +kernel
theorem dX3_is_36 : decode cX3_is 36 = .ok (.invokevirtual 121, 3) := by decide +kernel
theorem dX3_is_39 : decode cX3_is 39 = .ok (.ireturn, 1) := by decide +kernel
set_option maxRecDepth 20000 in
theorem ggX3_isShipped_X3_is : GoodIn wsX3_isShipped wsX3_is := goodIn_r _ [5, 6, 7, 8, 9, 10, 4, 11, 12, 13, 14, 15, 16, 17, 18, 19, 20, 21, 22, 23, 24, 25, 26, 27, 28, 29, 30, 31] (by decide +kernel) (by decide +kernel)
set_option maxRecDepth 20000 in
theorem gX3_isShipped_X3_is : GoodIn wsX3_isShipped (wsV RX3 124 RX3 yX3_is wsX3_is) := goodIn_app (goodIn_of _ (by decide +kernel)) ggX3_isShipped_X3_is
theorem dX3_isShipped_0 : decode cX3_isShipped 0 = .ok (.aload_n 0, 1) := by decide +kernel
theorem dX3_isShipped_1 : decode cX3_isShipped 1 = .ok (.iload_n 1, 1) := by decide +kernel
theorem dX3_isShipped_2 : decode cX3_isShipped 2 = .ok (.iconst 1, 1) := by decide +kernel
theorem dX3_isShipped_3 : decode cX3_isShipped 3 = .ok (.invokevirtual 124, 3) := by decide +kernel
theorem dX3_isShipped_6 : decode cX3_isShipped 6 = .ok (.ireturn, 1) := by decide +kernel
set_option maxRecDepth 20000 in
theorem ggX3_isLost_X3_is : GoodIn wsX3_isLost wsX3_is := goodIn_r _ [5, 6, 7, 8, 9, 10, 4, 11, 12, 13, 14, 15, 16, 17, 18, 19, 20, 21, 22, 23, 24, 25, 26, 27, 28, 29, 30, 31] (by decide +kernel) (by decide +kernel)
set_option maxRecDepth 20000 in
theorem gX3_isLost_X3_is : GoodIn wsX3_isLost (wsV RX3 124 RX3 yX3_is wsX3_is) := goodIn_app (goodIn_of _ (by decide +kernel)) ggX3_isLost_X3_is
theorem dX3_isLost_0 : decode cX3_isLost 0 = .ok (.aload_n 0, 1) := by decide +kernel
theorem dX3_isLost_1 : decode cX3_isLost 1 = .ok (.iload_n 1, 1) := by decide +kernel
theorem dX3_isLost_2 : decode cX3_isLost 2 = .ok (.iconst 2, 1) := by decide +kernel
theorem dX3_isLost_3 : decode cX3_isLost 3 = .ok (.invokevirtual 124, 3) := by decide +kernel
theorem dX3_isLost_6 : decode cX3_isLost 6 = .ok (.ireturn, 1) := by decide +kernel
set_option maxRecDepth 20000 in
theorem ggX3_swelledOf_X3_isBatch : GoodIn wsX3_swelledOf wsX3_isBatch := goodIn_r _ [7, 8, 9, 10, 6, 11, 16, 17, 18, 19, 20, 21, 22, 23, 24, 25, 26, 27] (by decide +kernel) (by decide +kernel)
set_option maxRecDepth 20000 in
theorem gX3_swelledOf_X3_isBatch : GoodIn wsX3_swelledOf (wsV RX3 90 RX3 yX3_isBatch wsX3_isBatch) := goodIn_app (goodIn_of _ (by decide +kernel)) ggX3_swelledOf_X3_isBatch
set_option maxRecDepth 20000 in
theorem ggX3_swelledOf_X3_no : GoodIn wsX3_swelledOf wsX3_no := goodIn_r _ [15, 1, 16, 17, 18, 19, 20, 21, 22, 23, 24, 25, 26, 27] (by decide +kernel) (by decide +kernel)
set_option maxRecDepth 20000 in
theorem gX3_swelledOf_X3_no : GoodIn wsX3_swelledOf (wsV RX3 87 RX3 yX3_no wsX3_no) := goodIn_app (goodIn_of _ (by decide +kernel)) ggX3_swelledOf_X3_no
theorem dX3_swelledOf_0 : decode cX3_swelledOf 0 = .ok (.aload_n 0, 1) := by decide +kernel
theorem dX3_swelledOf_1 : decode cX3_swelledOf 1 = .ok (.iconst 0, 1) := by decide +kernel
theorem dX3_swelledOf_2 : decode cX3_swelledOf 2 = .ok (.putfield 31, 3) := by decide +kernel
theorem dX3_swelledOf_5 : decode cX3_swelledOf 5 = .ok (.aload_n 0, 1) := by decide +kernel
theorem dX3_swelledOf_6 : decode cX3_swelledOf 6 = .ok (.iload_n 1, 1) := by decide +kernel
theorem dX3_swelledOf_7 : decode cX3_swelledOf 7 = .ok (.invokevirtual 90, 3) := by decide +kernel
theorem dX3_swelledOf_10 : decode cX3_swelledOf 10 = .ok (.ifCond .eq 14, 3) := by decide +kernel
theorem dX3_swelledOf_13 : decode cX3_swelledOf 13 = .ok (.aload_n 0, 1) := by decide +kernel
theorem dX3_swelledOf_14 : decode cX3_swelledOf 14 = .ok (.getfield 25, 3) := by decide +kernel
theorem dX3_swelledOf_17 : decode cX3_swelledOf 17 = .ok (.iconst 1, 1) := by decide +kernel
theorem dX3_swelledOf_18 : decode cX3_swelledOf 18 = .ok (.iload_n 1, 1) := by decide +kernel
theorem dX3_swelledOf_19 : decode cX3_swelledOf 19 = .ok (.iadd, 1) := by decide +kernel
theorem dX3_swelledOf_20 : decode cX3_swelledOf 20 = .ok (.iaload, 1) := by decide +kernel
theorem dX3_swelledOf_21 : decode cX3_swelledOf 21 = .ok (.goto 8, 3) := by decide +kernel
theorem dX3_swelledOf_24 : decode cX3_swelledOf 24 = .ok (.aload_n 0, 1) := by decide +kernel
theorem dX3_swelledOf_25 : decode cX3_swelledOf 25 = .ok (.iconst 1, 1) := by decide +kernel
theorem dX3_swelledOf_26 : decode cX3_swelledOf 26 = .ok (.invokevirtual 87, 3) := by decide +kernel
theorem dX3_swelledOf_29 : decode cX3_swelledOf 29 = .ok (.ireturn, 1) := by decide +kernel
set_option maxRecDepth 20000 in
theorem ggX3_left_X3_isHere : GoodIn wsX3_left wsX3_isHere := goodIn_r _ [7, 8, 9, 10, 11, 12, 13, 14, 15, 16, 17, 18, 19, 20] (by decide +kernel) (by decide +kernel)
set_option maxRecDepth 20000 in
theorem gX3_left_X3_isHere : GoodIn wsX3_left (wsV RX3 51 RX3 yX3_isHere wsX3_isHere) := goodIn_app (goodIn_of _ (by decide +kernel)) ggX3_left_X3_isHere
theorem dX3_left_0 : decode cX3_left 0 = .ok (.iconst 0, 1) := by decide +kernel
theorem dX3_left_1 : decode cX3_left 1 = .ok (.istore_n 2, 1) := by decide +kernel
theorem dX3_left_2 : decode cX3_left 2 = .ok (.iconst 0, 1) := by decide +kernel
theorem dX3_left_3 : decode cX3_left 3 = .ok (.istore_n 3, 1) := by decide +kernel
theorem dX3_left_4 : decode cX3_left 4 = .ok (.iload_n 3, 1) := by decide +kernel
theorem dX3_left_5 : decode cX3_left 5 = .ok (.aload_n 0, 1) := by decide +kernel
theorem dX3_left_6 : decode cX3_left 6 = .ok (.getfield 42, 3) := by decide +kernel
theorem dX3_left_9 : decode cX3_left 9 = .ok (.if_icmp .ge 35, 3) := by decide +kernel
theorem dX3_left_12 : decode cX3_left 12 = .ok (.iload_n 2, 1) := by decide +kernel
theorem dX3_left_13 : decode cX3_left 13 = .ok (.aload_n 0, 1) := by decide +kernel
theorem dX3_left_14 : decode cX3_left 14 = .ok (.iload_n 3, 1) := by decide +kernel
theorem dX3_left_15 : decode cX3_left 15 = .ok (.invokevirtual 51, 3) := by decide +kernel
theorem dX3_left_18 : decode cX3_left 18 = .ok (.ifCond .eq 17, 3) := by decide +kernel
theorem dX3_left_21 : decode cX3_left 21 = .ok (.aload_n 0, 1) := by decide +kernel
theorem dX3_left_22 : decode cX3_left 22 = .ok (.getfield 19, 3) := by decide +kernel
theorem dX3_left_25 : decode cX3_left 25 = .ok (.iload_n 3, 1) := by decide +kernel
theorem dX3_left_26 : decode cX3_left 26 = .ok (.iaload, 1) := by decide +kernel
theorem dX3_left_27 : decode cX3_left 27 = .ok (.iload_n 1, 1) := by decide +kernel
theorem dX3_left_28 : decode cX3_left 28 = .ok (.if_icmp .ne 7, 3) := by decide +kernel
theorem dX3_left_31 : decode cX3_left 31 = .ok (.iconst 1, 1) := by decide +kernel
theorem dX3_left_32 : decode cX3_left 32 = .ok (.goto 4, 3) := by decide +kernel
theorem dX3_left_35 : decode cX3_left 35 = .ok (.iconst 0, 1) := by decide +kernel
theorem dX3_left_36 : decode cX3_left 36 = .ok (.iadd, 1) := by decide +kernel
theorem dX3_left_37 : decode cX3_left 37 = .ok (.istore_n 2, 1) := by decide +kernel
theorem dX3_left_38 : decode cX3_left 38 = .ok (.iinc 3 1, 3) := by decide +kernel
theorem dX3_left_41 : decode cX3_left 41 = .ok (.goto (-37), 3) := by decide +kernel
theorem dX3_left_44 : decode cX3_left 44 = .ok (.iload_n 2, 1) := by decide +kernel
theorem dX3_left_45 : decode cX3_left 45 = .ok (.ireturn, 1) := by decide +kernel
set_option maxRecDepth 20000 in
theorem ggX3_leftOf_X3_isBatch : GoodIn wsX3_leftOf wsX3_isBatch := goodIn_r _ [6, 7, 8, 9, 5, 10, 26, 27, 28, 29, 30, 31, 32, 33, 34, 35, 36, 37] (by decide +kernel) (by decide +kernel)
set_option maxRecDepth 20000 in
theorem gX3_leftOf_X3_isBatch : GoodIn wsX3_leftOf (wsV RX3 90 RX3 yX3_isBatch wsX3_isBatch) := goodIn_app (goodIn_of _ (by decide +kernel)) ggX3_leftOf_X3_isBatch
set_option maxRecDepth 20000 in
theorem ggX3_leftOf_X3_left : GoodIn wsX3_leftOf wsX3_left := goodIn_r _ [14, 15, 16, 17, 18, 19, 5, 20, 21, 26, 27, 28, 29, 30, 31, 32, 33, 34, 35, 36, 37] (by decide +kernel) (by decide +kernel)
set_option maxRecDepth 20000 in
theorem gX3_leftOf_X3_left : GoodIn wsX3_leftOf (wsV RX3 128 RX3 yX3_left wsX3_left) := goodIn_app (goodIn_of _ (by decide +kernel)) ggX3_leftOf_X3_left
set_option maxRecDepth 20000 in
theorem ggX3_leftOf_X3_no : GoodIn wsX3_leftOf wsX3_no := goodIn_r _ [25, 1, 26, 27, 28, 29, 30, 31, 32, 33, 34, 35, 36, 37] (by decide +kernel) (by decide +kernel)
set_option maxRecDepth 20000 in
theorem gX3_leftOf_X3_no : GoodIn wsX3_leftOf (wsV RX3 87 RX3 yX3_no wsX3_no) := goodIn_app (goodIn_of _ (by decide +kernel)) ggX3_leftOf_X3_no
theorem dX3_leftOf_0 : decode cX3_leftOf 0 = .ok (.aload_n 0, 1) := by decide +kernel
theorem dX3_leftOf_1 : decode cX3_leftOf 1 = .ok (.iconst 0, 1) := by decide +kernel
theorem dX3_leftOf_2 : decode cX3_leftOf 2 = .ok (.putfield 31, 3) := by decide +kernel
theorem dX3_leftOf_5 : decode cX3_leftOf 5 = .ok (.aload_n 0, 1) := by decide +kernel
theorem dX3_leftOf_6 : decode cX3_leftOf 6 = .ok (.iload_n 1, 1) := by decide +kernel
theorem dX3_leftOf_7 : decode cX3_leftOf 7 = .ok (.invokevirtual 90, 3) := by decide +kernel
theorem dX3_leftOf_10 : decode cX3_leftOf 10 = .ok (.ifCond .eq 11, 3) := by decide +kernel
theorem dX3_leftOf_13 : decode cX3_leftOf 13 = .ok (.aload_n 0, 1) := by decide +kernel
theorem dX3_leftOf_14 : decode cX3_leftOf 14 = .ok (.iload_n 1, 1) := by decide +kernel
theorem dX3_leftOf_15 : decode cX3_leftOf 15 = .ok (.invokevirtual 128, 3) := by decide +kernel
theorem dX3_leftOf_18 : decode cX3_leftOf 18 = .ok (.goto 8, 3) := by decide +kernel
theorem dX3_leftOf_21 : decode cX3_leftOf 21 = .ok (.aload_n 0, 1) := by decide +kernel
theorem dX3_leftOf_22 : decode cX3_leftOf 22 = .ok (.iconst 1, 1) := by decide +kernel
theorem dX3_leftOf_23 : decode cX3_leftOf 23 = .ok (.invokevirtual 87, 3) := by decide +kernel
theorem dX3_leftOf_26 : decode cX3_leftOf 26 = .ok (.ireturn, 1) := by decide +kernel
set_option maxRecDepth 20000 in
theorem ggX3_isRecalled_X3_isBatch : GoodIn wsX3_isRecalled wsX3_isBatch := goodIn_r _ [7, 8, 9, 10, 6, 11, 16, 17, 18, 19, 20, 21, 22, 23, 24, 25, 26, 27] (by decide +kernel) (by decide +kernel)
set_option maxRecDepth 20000 in
theorem gX3_isRecalled_X3_isBatch : GoodIn wsX3_isRecalled (wsV RX3 90 RX3 yX3_isBatch wsX3_isBatch) := goodIn_app (goodIn_of _ (by decide +kernel)) ggX3_isRecalled_X3_isBatch
set_option maxRecDepth 20000 in
theorem ggX3_isRecalled_X3_isNot : GoodIn wsX3_isRecalled wsX3_isNot := goodIn_r _ [15, 1, 16, 17, 18, 19, 20, 21, 22, 23, 24, 25, 26, 27] (by decide +kernel) (by decide +kernel)
set_option maxRecDepth 20000 in
theorem gX3_isRecalled_X3_isNot : GoodIn wsX3_isRecalled (wsV RX3 121 RX3 yX3_isNot wsX3_isNot) := goodIn_app (goodIn_of _ (by decide +kernel)) ggX3_isRecalled_X3_isNot
theorem dX3_isRecalled_0 : decode cX3_isRecalled 0 = .ok (.aload_n 0, 1) := by decide +kernel
theorem dX3_isRecalled_1 : decode cX3_isRecalled 1 = .ok (.iconst 0, 1) := by decide +kernel
theorem dX3_isRecalled_2 : decode cX3_isRecalled 2 = .ok (.putfield 31, 3) := by decide +kernel
theorem dX3_isRecalled_5 : decode cX3_isRecalled 5 = .ok (.aload_n 0, 1) := by decide +kernel
theorem dX3_isRecalled_6 : decode cX3_isRecalled 6 = .ok (.iload_n 1, 1) := by decide +kernel
theorem dX3_isRecalled_7 : decode cX3_isRecalled 7 = .ok (.invokevirtual 90, 3) := by decide +kernel
theorem dX3_isRecalled_10 : decode cX3_isRecalled 10 = .ok (.ifCond .eq 24, 3) := by decide +kernel
theorem dX3_isRecalled_13 : decode cX3_isRecalled 13 = .ok (.aload_n 0, 1) := by decide +kernel
theorem dX3_isRecalled_14 : decode cX3_isRecalled 14 = .ok (.getfield 25, 3) := by decide +kernel
theorem dX3_isRecalled_17 : decode cX3_isRecalled 17 = .ok (.bipush 7, 2) := by decide +kernel
theorem dX3_isRecalled_19 : decode cX3_isRecalled 19 = .ok (.iload_n 1, 1) := by decide +kernel
theorem dX3_isRecalled_20 : decode cX3_isRecalled 20 = .ok (.iadd, 1) := by decide +kernel
theorem dX3_isRecalled_21 : decode cX3_isRecalled 21 = .ok (.iaload, 1) := by decide +kernel
theorem dX3_isRecalled_22 : decode cX3_isRecalled 22 = .ok (.iconst 1, 1) := by decide +kernel
theorem dX3_isRecalled_23 : decode cX3_isRecalled 23 = .ok (.if_icmp .ne 7, 3) := by decide +kernel
theorem dX3_isRecalled_26 : decode cX3_isRecalled 26 = .ok (.iconst 1, 1) := by decide +kernel
theorem dX3_isRecalled_27 : decode cX3_isRecalled 27 = .ok (.goto 12, 3) := by decide +kernel
theorem dX3_isRecalled_30 : decode cX3_isRecalled 30 = .ok (.iconst 0, 1) := by decide +kernel
theorem dX3_isRecalled_31 : decode cX3_isRecalled 31 = .ok (.goto 8, 3) := by decide +kernel
theorem dX3_isRecalled_34 : decode cX3_isRecalled 34 = .ok (.aload_n 0, 1) := by decide +kernel
theorem dX3_isRecalled_35 : decode cX3_isRecalled 35 = .ok (.iconst 1, 1) := by decide +kernel
theorem dX3_isRecalled_36 : decode cX3_isRecalled 36 = .ok (.invokevirtual 121, 3) := by decide +kernel
theorem dX3_isRecalled_39 : decode cX3_isRecalled 39 = .ok (.ireturn, 1) := by decide +kernel
set_option maxRecDepth 20000 in
theorem ggX3_first_X3_isOrder : GoodIn wsX3_first wsX3_isOrder := goodIn_r _ [5, 6, 7, 4, 8] (by decide +kernel) (by decide +kernel)
set_option maxRecDepth 20000 in
theorem gX3_first_X3_isOrder : GoodIn wsX3_first (va_wsS RX3 99 yX3_isOrder wsX3_isOrder) := goodIn_app (goodIn_of _ (by decide +kernel)) ggX3_first_X3_isOrder
set_option maxRecDepth 20000 in
theorem ggX3_first_X3_firstBy : GoodIn wsX3_first wsX3_firstBy := goodIn_r _ [12, 13, 14, 15, 16, 4, 17, 18, 19, 20, 21, 22, 23, 24, 29, 30, 31, 32, 33, 34, 35, 36, 37, 38, 39, 40] (by decide +kernel) (by decide +kernel)
set_option maxRecDepth 20000 in
theorem gX3_first_X3_firstBy : GoodIn wsX3_first (wsV RX3 81 RX3 yX3_firstBy wsX3_firstBy) := goodIn_app (goodIn_of _ (by decide +kernel)) ggX3_first_X3_firstBy
set_option maxRecDepth 20000 in
theorem ggX3_first_X3_no : GoodIn wsX3_first wsX3_no := goodIn_r _ [28, 1, 29, 30, 31, 32, 33, 34, 35, 36, 37, 38, 39, 40] (by decide +kernel) (by decide +kernel)
set_option maxRecDepth 20000 in
theorem gX3_first_X3_no : GoodIn wsX3_first (wsV RX3 87 RX3 yX3_no wsX3_no) := goodIn_app (goodIn_of _ (by decide +kernel)) ggX3_first_X3_no
theorem dX3_first_0 : decode cX3_first 0 = .ok (.aload_n 0, 1) := by decide +kernel
theorem dX3_first_1 : decode cX3_first 1 = .ok (.iconst 0, 1) := by decide +kernel
theorem dX3_first_2 : decode cX3_first 2 = .ok (.putfield 31, 3) := by decide +kernel
theorem dX3_first_5 : decode cX3_first 5 = .ok (.iload_n 1, 1) := by decide +kernel
theorem dX3_first_6 : decode cX3_first 6 = .ok (.invokestatic 99, 3) := by decide +kernel
theorem dX3_first_9 : decode cX3_first 9 = .ok (.ifCond .eq 11, 3) := by decide +kernel
theorem dX3_first_12 : decode cX3_first 12 = .ok (.aload_n 0, 1) := by decide +kernel
theorem dX3_first_13 : decode cX3_first 13 = .ok (.iload_n 1, 1) := by decide +kernel
theorem dX3_first_14 : decode cX3_first 14 = .ok (.invokevirtual 81, 3) := by decide +kernel
theorem dX3_first_17 : decode cX3_first 17 = .ok (.goto 8, 3) := by decide +kernel
theorem dX3_first_20 : decode cX3_first 20 = .ok (.aload_n 0, 1) := by decide +kernel
theorem dX3_first_21 : decode cX3_first 21 = .ok (.iconst 1, 1) := by decide +kernel
theorem dX3_first_22 : decode cX3_first 22 = .ok (.invokevirtual 87, 3) := by decide +kernel
theorem dX3_first_25 : decode cX3_first 25 = .ok (.ireturn, 1) := by decide +kernel
set_option maxRecDepth 20000 in
theorem ggX3_ahead_X3_isHere : GoodIn wsX3_ahead wsX3_isHere := goodIn_r _ [6, 7, 14, 15, 16, 17, 18, 19, 20, 21, 22, 23, 24, 25] (by decide +kernel) (by decide +kernel)
set_option maxRecDepth 20000 in
theorem gX3_ahead_X3_isHere : GoodIn wsX3_ahead (wsV RX3 51 RX3 yX3_isHere wsX3_isHere) := goodIn_app (goodIn_of _ (by decide +kernel)) ggX3_ahead_X3_isHere
set_option maxRecDepth 20000 in
theorem ggX3_ahead_X3_key : GoodIn wsX3_ahead wsX3_key := goodIn_r _ [11, 7, 12, 13, 14, 15, 16, 17, 18, 19, 20, 21, 22, 23, 24, 25] (by decide +kernel) (by decide +kernel)
set_option maxRecDepth 20000 in
theorem gX3_ahead_X3_key : GoodIn wsX3_ahead (wsV RX3 55 RX3 yX3_key wsX3_key) := goodIn_app (goodIn_of _ (by decide +kernel)) ggX3_ahead_X3_key
theorem dX3_ahead_0 : decode cX3_ahead 0 = .ok (.aload_n 0, 1) := by decide +kernel
theorem dX3_ahead_1 : decode cX3_ahead 1 = .ok (.iload_n 1, 1) := by decide +kernel
theorem dX3_ahead_2 : decode cX3_ahead 2 = .ok (.invokevirtual 51, 3) := by decide +kernel
theorem dX3_ahead_5 : decode cX3_ahead 5 = .ok (.ifCond .ne 5, 3) := by decide +kernel
theorem dX3_ahead_8 : decode cX3_ahead 8 = .ok (.iconst (-1), 1) := by decide +kernel
theorem dX3_ahead_9 : decode cX3_ahead 9 = .ok (.ireturn, 1) := by decide +kernel
theorem dX3_ahead_10 : decode cX3_ahead 10 = .ok (.iconst 0, 1) := by decide +kernel
theorem dX3_ahead_11 : decode cX3_ahead 11 = .ok (.istore_n 3, 1) := by decide +kernel
theorem dX3_ahead_12 : decode cX3_ahead 12 = .ok (.iconst 0, 1) := by decide +kernel
theorem dX3_ahead_13 : decode cX3_ahead 13 = .ok (.istore 4, 2) := by decide +kernel
theorem dX3_ahead_15 : decode cX3_ahead 15 = .ok (.iload 4, 2) := by decide +kernel
theorem dX3_ahead_17 : decode cX3_ahead 17 = .ok (.aload_n 0, 1) := by decide +kernel
theorem dX3_ahead_18 : decode cX3_ahead 18 = .ok (.getfield 42, 3) := by decide +kernel
theorem dX3_ahead_21 : decode cX3_ahead 21 = .ok (.if_icmp .ge 42, 3) := by decide +kernel
theorem dX3_ahead_24 : decode cX3_ahead 24 = .ok (.iload_n 3, 1) := by decide +kernel
theorem dX3_ahead_25 : decode cX3_ahead 25 = .ok (.aload_n 0, 1) := by decide +kernel
theorem dX3_ahead_26 : decode cX3_ahead 26 = .ok (.iload 4, 2) := by decide +kernel
theorem dX3_ahead_28 : decode cX3_ahead 28 = .ok (.invokevirtual 51, 3) := by decide +kernel
theorem dX3_ahead_31 : decode cX3_ahead 31 = .ok (.ifCond .eq 23, 3) := by decide +kernel
theorem dX3_ahead_34 : decode cX3_ahead 34 = .ok (.aload_n 0, 1) := by decide +kernel
theorem dX3_ahead_35 : decode cX3_ahead 35 = .ok (.iload 4, 2) := by decide +kernel
theorem dX3_ahead_37 : decode cX3_ahead 37 = .ok (.iload_n 2, 1) := by decide +kernel
theorem dX3_ahead_38 : decode cX3_ahead 38 = .ok (.invokevirtual 55, 3) := by decide +kernel
theorem dX3_ahead_41 : decode cX3_ahead 41 = .ok (.aload_n 0, 1) := by decide +kernel
theorem dX3_ahead_42 : decode cX3_ahead 42 = .ok (.iload_n 1, 1) := by decide +kernel
theorem dX3_ahead_43 : decode cX3_ahead 43 = .ok (.iload_n 2, 1) := by decide +kernel
theorem dX3_ahead_44 : decode cX3_ahead 44 = .ok (.invokevirtual 55, 3) := by decide +kernel
theorem dX3_ahead_47 : decode cX3_ahead 47 = .ok (.if_icmp .ge 7, 3) := by decide +kernel
theorem dX3_ahead_50 : decode cX3_ahead 50 = .ok (.iconst 1, 1) := by decide +kernel
theorem dX3_ahead_51 : decode cX3_ahead 51 = .ok (.goto 4, 3) := by decide +kernel
theorem dX3_ahead_54 : decode cX3_ahead 54 = .ok (.iconst 0, 1) := by decide +kernel
theorem dX3_ahead_55 : decode cX3_ahead 55 = .ok (.iadd, 1) := by decide +kernel
theorem dX3_ahead_56 : decode cX3_ahead 56 = .ok (.istore_n 3, 1) := by decide +kernel
theorem dX3_ahead_57 : decode cX3_ahead 57 = .ok (.iinc 4 1, 3) := by decide +kernel
theorem dX3_ahead_60 : decode cX3_ahead 60 = .ok (.goto (-45), 3) := by decide +kernel
theorem dX3_ahead_63 : decode cX3_ahead 63 = .ok (.iload_n 3, 1) := by decide +kernel
theorem dX3_ahead_64 : decode cX3_ahead 64 = .ok (.ireturn, 1) := by decide +kernel
set_option maxRecDepth 20000 in
theorem ggX3_placeBy_X3_isTin : GoodIn wsX3_placeBy wsX3_isTin := goodIn_r _ [6, 7, 8, 9, 5, 10, 33, 34, 35, 36, 37, 38, 39, 40, 41, 42, 43, 44] (by decide +kernel) (by decide +kernel)
set_option maxRecDepth 20000 in
theorem gX3_placeBy_X3_isTin : GoodIn wsX3_placeBy (wsV RX3 96 RX3 yX3_isTin wsX3_isTin) := goodIn_app (goodIn_of _ (by decide +kernel)) ggX3_placeBy_X3_isTin
set_option maxRecDepth 20000 in
theorem ggX3_placeBy_X3_no : GoodIn wsX3_placeBy wsX3_no := goodIn_r _ [14, 1, 33, 34, 35, 36, 37, 38, 39, 40, 41, 42, 43, 44] (by decide +kernel) (by decide +kernel)
set_option maxRecDepth 20000 in
theorem gX3_placeBy_X3_no : GoodIn wsX3_placeBy (wsV RX3 87 RX3 yX3_no wsX3_no) := goodIn_app (goodIn_of _ (by decide +kernel)) ggX3_placeBy_X3_no
set_option maxRecDepth 20000 in
theorem ggX3_placeBy_X3_isOrder : GoodIn wsX3_placeBy wsX3_isOrder := goodIn_r _ [17, 8, 9, 5, 10] (by decide +kernel) (by decide +kernel)
set_option maxRecDepth 20000 in
theorem gX3_placeBy_X3_isOrder : GoodIn wsX3_placeBy (va_wsS RX3 99 yX3_isOrder wsX3_isOrder) := goodIn_app (goodIn_of _ (by decide +kernel)) ggX3_placeBy_X3_isOrder
set_option maxRecDepth 20000 in
theorem ggX3_placeBy_X3_ahead : GoodIn wsX3_placeBy wsX3_ahead := goodIn_r _ [21, 7, 22, 23, 24, 5, 25, 26, 27, 28, 29, 30, 31, 32, 33, 34, 35, 36, 37, 38, 39, 40, 41, 42, 43, 44] (by decide +kernel) (by decide +kernel)
set_option maxRecDepth 20000 in
theorem gX3_placeBy_X3_ahead : GoodIn wsX3_placeBy (wsV RX3 131 RX3 yX3_ahead wsX3_ahead) := goodIn_app (goodIn_of _ (by decide +kernel)) ggX3_placeBy_X3_ahead
theorem dX3_placeBy_0 : decode cX3_placeBy 0 = .ok (.aload_n 0, 1) := by decide +kernel
theorem dX3_placeBy_1 : decode cX3_placeBy 1 = .ok (.iconst 0, 1) := by decide +kernel
theorem dX3_placeBy_2 : decode cX3_placeBy 2 = .ok (.putfield 31, 3) := by decide +kernel
theorem dX3_placeBy_5 : decode cX3_placeBy 5 = .ok (.aload_n 0, 1) := by decide +kernel
theorem dX3_placeBy_6 : decode cX3_placeBy 6 = .ok (.iload_n 1, 1) := by decide +kernel
theorem dX3_placeBy_7 : decode cX3_placeBy 7 = .ok (.invokevirtual 96, 3) := by decide +kernel
theorem dX3_placeBy_10 : decode cX3_placeBy 10 = .ok (.ifCond .ne 9, 3) := by decide +kernel
theorem dX3_placeBy_13 : decode cX3_placeBy 13 = .ok (.aload_n 0, 1) := by decide +kernel
theorem dX3_placeBy_14 : decode cX3_placeBy 14 = .ok (.iconst 1, 1) := by decide +kernel
theorem dX3_placeBy_15 : decode cX3_placeBy 15 = .ok (.invokevirtual 87, 3) := by decide +kernel
theorem dX3_placeBy_18 : decode cX3_placeBy 18 = .ok (.ireturn, 1) := by decide +kernel
theorem dX3_placeBy_19 : decode cX3_placeBy 19 = .ok (.iload_n 2, 1) := by decide +kernel
theorem dX3_placeBy_20 : decode cX3_placeBy 20 = .ok (.invokestatic 99, 3) := by decide +kernel
theorem dX3_placeBy_23 : decode cX3_placeBy 23 = .ok (.ifCond .eq 12, 3) := by decide +kernel
theorem dX3_placeBy_26 : decode cX3_placeBy 26 = .ok (.aload_n 0, 1) := by decide +kernel
theorem dX3_placeBy_27 : decode cX3_placeBy 27 = .ok (.iload_n 1, 1) := by decide +kernel
theorem dX3_placeBy_28 : decode cX3_placeBy 28 = .ok (.iload_n 2, 1) := by decide +kernel
theorem dX3_placeBy_29 : decode cX3_placeBy 29 = .ok (.invokevirtual 131, 3) := by decide +kernel
theorem dX3_placeBy_32 : decode cX3_placeBy 32 = .ok (.goto 8, 3) := by decide +kernel
theorem dX3_placeBy_35 : decode cX3_placeBy 35 = .ok (.aload_n 0, 1) := by decide +kernel
theorem dX3_placeBy_36 : decode cX3_placeBy 36 = .ok (.iconst 2, 1) := by decide +kernel
theorem dX3_placeBy_37 : decode cX3_placeBy 37 = .ok (.invokevirtual 87, 3) := by decide +kernel
theorem dX3_placeBy_40 : decode cX3_placeBy 40 = .ok (.ireturn, 1) := by decide +kernel
set_option maxRecDepth 20000 in
theorem ggX3_until_X3_rate : GoodIn wsX3_until wsX3_rate := goodIn_r _ [6, 7, 8, 9, 10, 11, 12, 13, 14, 15, 16, 17, 18, 19, 20, 21] (by decide +kernel) (by decide +kernel)
set_option maxRecDepth 20000 in
theorem gX3_until_X3_rate : GoodIn wsX3_until (wsV RX3 59 RX3 yX3_rate wsX3_rate) := goodIn_app (goodIn_of _ (by decide +kernel)) ggX3_until_X3_rate
theorem dX3_until_0 : decode cX3_until 0 = .ok (.aload_n 0, 1) := by decide +kernel
theorem dX3_until_1 : decode cX3_until 1 = .ok (.iload_n 1, 1) := by decide +kernel
theorem dX3_until_2 : decode cX3_until 2 = .ok (.iload_n 2, 1) := by decide +kernel
theorem dX3_until_3 : decode cX3_until 3 = .ok (.invokevirtual 59, 3) := by decide +kernel
theorem dX3_until_6 : decode cX3_until 6 = .ok (.istore_n 3, 1) := by decide +kernel
theorem dX3_until_7 : decode cX3_until 7 = .ok (.iload_n 3, 1) := by decide +kernel
theorem dX3_until_8 : decode cX3_until 8 = .ok (.ifCond .ne 7, 3) := by decide +kernel
theorem dX3_until_11 : decode cX3_until 11 = .ok (.iconst (-1), 1) := by decide +kernel
theorem dX3_until_12 : decode cX3_until 12 = .ok (.goto 18, 3) := by decide +kernel
theorem dX3_until_15 : decode cX3_until 15 = .ok (.aload_n 0, 1) := by decide +kernel
theorem dX3_until_16 : decode cX3_until 16 = .ok (.getfield 25, 3) := by decide +kernel
theorem dX3_until_19 : decode cX3_until 19 = .ok (.bipush 73, 2) := by decide +kernel
theorem dX3_until_21 : decode cX3_until 21 = .ok (.iload_n 1, 1) := by decide +kernel
theorem dX3_until_22 : decode cX3_until 22 = .ok (.iadd, 1) := by decide +kernel
theorem dX3_until_23 : decode cX3_until 23 = .ok (.iaload, 1) := by decide +kernel
theorem dX3_until_24 : decode cX3_until 24 = .ok (.iload_n 3, 1) := by decide +kernel
theorem dX3_until_25 : decode cX3_until 25 = .ok (.iadd, 1) := by decide +kernel
theorem dX3_until_26 : decode cX3_until 26 = .ok (.iconst 1, 1) := by decide +kernel
theorem dX3_until_27 : decode cX3_until 27 = .ok (.isub, 1) := by decide +kernel
theorem dX3_until_28 : decode cX3_until 28 = .ok (.iload_n 3, 1) := by decide +kernel
theorem dX3_until_29 : decode cX3_until 29 = .ok (.idiv, 1) := by decide +kernel
theorem dX3_until_30 : decode cX3_until 30 = .ok (.ireturn, 1) := by decide +kernel
set_option maxRecDepth 20000 in
theorem ggX3_daysOf_X3_isTin : GoodIn wsX3_daysOf wsX3_isTin := goodIn_r _ [7, 8, 9, 10, 6, 11, 32, 33, 34, 35, 36, 37, 38, 39, 40, 41, 42, 43] (by decide +kernel) (by decide +kernel)
set_option maxRecDepth 20000 in
theorem gX3_daysOf_X3_isTin : GoodIn wsX3_daysOf (wsV RX3 96 RX3 yX3_isTin wsX3_isTin) := goodIn_app (goodIn_of _ (by decide +kernel)) ggX3_daysOf_X3_isTin
set_option maxRecDepth 20000 in
theorem ggX3_daysOf_X3_no : GoodIn wsX3_daysOf wsX3_no := goodIn_r _ [15, 1, 32, 33, 34, 35, 36, 37, 38, 39, 40, 41, 42, 43] (by decide +kernel) (by decide +kernel)
set_option maxRecDepth 20000 in
theorem gX3_daysOf_X3_no : GoodIn wsX3_daysOf (wsV RX3 87 RX3 yX3_no wsX3_no) := goodIn_app (goodIn_of _ (by decide +kernel)) ggX3_daysOf_X3_no
set_option maxRecDepth 20000 in
theorem ggX3_daysOf_X3_isHere : GoodIn wsX3_daysOf wsX3_isHere := goodIn_r _ [19, 20, 32, 33, 34, 35, 36, 37, 38, 39, 40, 41, 42, 43] (by decide +kernel) (by decide +kernel)
set_option maxRecDepth 20000 in
theorem gX3_daysOf_X3_isHere : GoodIn wsX3_daysOf (wsV RX3 51 RX3 yX3_isHere wsX3_isHere) := goodIn_app (goodIn_of _ (by decide +kernel)) ggX3_daysOf_X3_isHere
set_option maxRecDepth 20000 in
theorem ggX3_daysOf_X3_until : GoodIn wsX3_daysOf wsX3_until := goodIn_r _ [24, 20, 25, 26, 27, 6, 28, 29, 30, 31, 32, 33, 34, 35, 36, 37, 38, 39, 40, 41, 42, 43] (by decide +kernel) (by decide +kernel)
set_option maxRecDepth 20000 in
theorem gX3_daysOf_X3_until : GoodIn wsX3_daysOf (wsV RX3 134 RX3 yX3_until wsX3_until) := goodIn_app (goodIn_of _ (by decide +kernel)) ggX3_daysOf_X3_until
theorem dX3_daysOf_0 : decode cX3_daysOf 0 = .ok (.aload_n 0, 1) := by decide +kernel
theorem dX3_daysOf_1 : decode cX3_daysOf 1 = .ok (.iconst 0, 1) := by decide +kernel
theorem dX3_daysOf_2 : decode cX3_daysOf 2 = .ok (.putfield 31, 3) := by decide +kernel
theorem dX3_daysOf_5 : decode cX3_daysOf 5 = .ok (.aload_n 0, 1) := by decide +kernel
theorem dX3_daysOf_6 : decode cX3_daysOf 6 = .ok (.iload_n 1, 1) := by decide +kernel
theorem dX3_daysOf_7 : decode cX3_daysOf 7 = .ok (.invokevirtual 96, 3) := by decide +kernel
theorem dX3_daysOf_10 : decode cX3_daysOf 10 = .ok (.ifCond .ne 9, 3) := by decide +kernel
theorem dX3_daysOf_13 : decode cX3_daysOf 13 = .ok (.aload_n 0, 1) := by decide +kernel
theorem dX3_daysOf_14 : decode cX3_daysOf 14 = .ok (.iconst 1, 1) := by decide +kernel
theorem dX3_daysOf_15 : decode cX3_daysOf 15 = .ok (.invokevirtual 87, 3) := by decide +kernel
theorem dX3_daysOf_18 : decode cX3_daysOf 18 = .ok (.ireturn, 1) := by decide +kernel
theorem dX3_daysOf_19 : decode cX3_daysOf 19 = .ok (.aload_n 0, 1) := by decide +kernel
theorem dX3_daysOf_20 : decode cX3_daysOf 20 = .ok (.iload_n 1, 1) := by decide +kernel
theorem dX3_daysOf_21 : decode cX3_daysOf 21 = .ok (.invokevirtual 51, 3) := by decide +kernel
theorem dX3_daysOf_24 : decode cX3_daysOf 24 = .ok (.ifCond .eq 17, 3) := by decide +kernel
theorem dX3_daysOf_27 : decode cX3_daysOf 27 = .ok (.aload_n 0, 1) := by decide +kernel
theorem dX3_daysOf_28 : decode cX3_daysOf 28 = .ok (.iload_n 1, 1) := by decide +kernel
theorem dX3_daysOf_29 : decode cX3_daysOf 29 = .ok (.aload_n 0, 1) := by decide +kernel
theorem dX3_daysOf_30 : decode cX3_daysOf 30 = .ok (.getfield 22, 3) := by decide +kernel
theorem dX3_daysOf_33 : decode cX3_daysOf 33 = .ok (.iload_n 1, 1) := by decide +kernel
theorem dX3_daysOf_34 : decode cX3_daysOf 34 = .ok (.iaload, 1) := by decide +kernel
theorem dX3_daysOf_35 : decode cX3_daysOf 35 = .ok (.invokevirtual 134, 3) := by decide +kernel
theorem dX3_daysOf_38 : decode cX3_daysOf 38 = .ok (.goto 4, 3) := by decide +kernel
theorem dX3_daysOf_41 : decode cX3_daysOf 41 = .ok (.iconst (-1), 1) := by decide +kernel
theorem dX3_daysOf_42 : decode cX3_daysOf 42 = .ok (.ireturn, 1) := by decide +kernel
set_option maxRecDepth 20000 in
theorem ggX3_untilRecalled_X3_keep : GoodIn wsX3_untilRecalled wsX3_keep := goodIn_r _ [6, 1, 7, 8, 9, 10, 11, 56, 57, 58, 59, 60, 61, 62, 63, 64, 65, 66, 67] (by decide +kernel) (by decide +kernel)
set_option maxRecDepth 20000 in
theorem gX3_untilRecalled_X3_keep : GoodIn wsX3_untilRecalled (wsV RX3 137 RX3 yX3_keep wsX3_keep) := goodIn_app (goodIn_of _ (by decide +kernel)) ggX3_untilRecalled_X3_keep
set_option maxRecDepth 20000 in
theorem ggX3_untilRecalled_X3_dayOn : GoodIn wsX3_untilRecalled wsX3_dayOn := goodIn_r _ [15, 16, 17, 1, 18, 19, 20, 21, 22, 5, 23, 24, 25, 26, 27, 28, 29, 30, 31, 32, 33, 34, 35, 36, 37, 38, 39, 40, 41, 42, 43, 44, 45, 46, 47, 48, 49, 50, 51, 56, 57, 58, 59, 60, 61, 62, 63, 64, 65, 66, 67] (by decide +kernel) (by decide +kernel)
set_option maxRecDepth 20000 in
theorem gX3_untilRecalled_X3_dayOn : GoodIn wsX3_untilRecalled (wsV RX3 84 RX3 yX3_dayOn wsX3_dayOn) := goodIn_app (goodIn_of _ (by decide +kernel)) ggX3_untilRecalled_X3_dayOn
set_option maxRecDepth 20000 in
theorem ggX3_untilRecalled_X3_bringBack : GoodIn wsX3_untilRecalled wsX3_bringBack := goodIn_r _ [55, 7, 1, 8, 9, 10, 11, 56, 57, 58, 59, 60, 61, 62, 63, 64, 65, 66, 67] (by decide +kernel) (by decide +kernel)
set_option maxRecDepth 20000 in
theorem gX3_untilRecalled_X3_bringBack : GoodIn wsX3_untilRecalled (wsV RX3 140 RX3 yX3_bringBack wsX3_bringBack) := goodIn_app (goodIn_of _ (by decide +kernel)) ggX3_untilRecalled_X3_bringBack
theorem dX3_untilRecalled_0 : decode cX3_untilRecalled 0 = .ok (.aload_n 0, 1) := by decide +kernel
theorem dX3_untilRecalled_1 : decode cX3_untilRecalled 1 = .ok (.invokevirtual 137, 3) := by decide +kernel
theorem dX3_untilRecalled_4 : decode cX3_untilRecalled 4 = .ok (.iconst 0, 1) := by decide +kernel
theorem dX3_untilRecalled_5 : decode cX3_untilRecalled 5 = .ok (.istore_n 2, 1) := by decide +kernel
theorem dX3_untilRecalled_6 : decode cX3_untilRecalled 6 = .ok (.iload_n 2, 1) := by decide +kernel
theorem dX3_untilRecalled_7 : decode cX3_untilRecalled 7 = .ok (.bipush 60, 2) := by decide +kernel
theorem dX3_untilRecalled_9 : decode cX3_untilRecalled 9 = .ok (.if_icmp .gt 25, 3) := by decide +kernel
theorem dX3_untilRecalled_12 : decode cX3_untilRecalled 12 = .ok (.aload_n 0, 1) := by decide +kernel
theorem dX3_untilRecalled_13 : decode cX3_untilRecalled 13 = .ok (.getfield 25, 3) := by decide +kernel
theorem dX3_untilRecalled_16 : decode cX3_untilRecalled 16 = .ok (.bipush 7, 2) := by decide +kernel
theorem dX3_untilRecalled_18 : decode cX3_untilRecalled 18 = .ok (.iload_n 1, 1) := by decide +kernel
theorem dX3_untilRecalled_19 : decode cX3_untilRecalled 19 = .ok (.iadd, 1) := by decide +kernel
theorem dX3_untilRecalled_20 : decode cX3_untilRecalled 20 = .ok (.iaload, 1) := by decide +kernel
theorem dX3_untilRecalled_21 : decode cX3_untilRecalled 21 = .ok (.ifCond .ne 13, 3) := by decide +kernel
theorem dX3_untilRecalled_24 : decode cX3_untilRecalled 24 = .ok (.aload_n 0, 1) := by decide +kernel
theorem dX3_untilRecalled_25 : decode cX3_untilRecalled 25 = .ok (.invokevirtual 84, 3) := by decide +kernel
theorem dX3_untilRecalled_28 : decode cX3_untilRecalled 28 = .ok (.iinc 2 1, 3) := by decide +kernel
theorem dX3_untilRecalled_31 : decode cX3_untilRecalled 31 = .ok (.goto (-25), 3) := by decide +kernel
theorem dX3_untilRecalled_34 : decode cX3_untilRecalled 34 = .ok (.aload_n 0, 1) := by decide +kernel
theorem dX3_untilRecalled_35 : decode cX3_untilRecalled 35 = .ok (.invokevirtual 140, 3) := by decide +kernel
theorem dX3_untilRecalled_38 : decode cX3_untilRecalled 38 = .ok (.iload_n 2, 1) := by decide +kernel
theorem dX3_untilRecalled_39 : decode cX3_untilRecalled 39 = .ok (.bipush 60, 2) := by decide +kernel
theorem dX3_untilRecalled_41 : decode cX3_untilRecalled 41 = .ok (.if_icmp .le 7, 3) := by decide +kernel
theorem dX3_untilRecalled_44 : decode cX3_untilRecalled 44 = .ok (.iconst (-1), 1) := by decide +kernel
theorem dX3_untilRecalled_45 : decode cX3_untilRecalled 45 = .ok (.goto 4, 3) := by decide +kernel
theorem dX3_untilRecalled_48 : decode cX3_untilRecalled 48 = .ok (.iload_n 2, 1) := by decide +kernel
theorem dX3_untilRecalled_49 : decode cX3_untilRecalled 49 = .ok (.ireturn, 1) := by decide +kernel
set_option maxRecDepth 20000 in
theorem ggX3_daysUntilRecalled_X3_isBatch : GoodIn wsX3_daysUntilRecalled wsX3_isBatch := goodIn_r _ [6, 7, 8, 9, 5, 10, 72, 73, 74, 75, 76, 77, 78, 79, 80, 81, 82, 83] (by decide +kernel) (by decide +kernel)
set_option maxRecDepth 20000 in
theorem gX3_daysUntilRecalled_X3_isBatch : GoodIn wsX3_daysUntilRecalled (wsV RX3 90 RX3 yX3_isBatch wsX3_isBatch) := goodIn_app (goodIn_of _ (by decide +kernel)) ggX3_daysUntilRecalled_X3_isBatch
set_option maxRecDepth 20000 in
theorem ggX3_daysUntilRecalled_X3_untilRecalled : GoodIn wsX3_daysUntilRecalled wsX3_untilRecalled := goodIn_r _ [14, 15, 16, 17, 18, 5, 19, 20, 21, 22, 23, 24, 25, 26, 27, 28, 29, 7, 30, 31, 32, 33, 34, 35, 36, 37, 38, 39, 40, 41, 42, 43, 44, 45, 46, 47, 48, 49, 50, 51, 52, 53, 54, 55, 56, 57, 58, 59, 60, 61, 62, 63, 64, 65, 66, 67, 72, 73, 74, 75, 76, 77, 78, 79, 80, 81, 82, 83] (by decide +kernel) (by decide +kernel)
set_option maxRecDepth 20000 in
theorem gX3_daysUntilRecalled_X3_untilRecalled : GoodIn wsX3_daysUntilRecalled (wsV RX3 143 RX3 yX3_untilRecalled wsX3_untilRecalled) := goodIn_app (goodIn_of _ (by decide +kernel)) ggX3_daysUntilRecalled_X3_untilRecalled
set_option maxRecDepth 20000 in
theorem ggX3_daysUntilRecalled_X3_no : GoodIn wsX3_daysUntilRecalled wsX3_no := goodIn_r _ [71, 1, 72, 73, 74, 75, 76, 77, 78, 79, 80, 81, 82, 83] (by decide +kernel) (by decide +kernel)
set_option maxRecDepth 20000 in
theorem gX3_daysUntilRecalled_X3_no : GoodIn wsX3_daysUntilRecalled (wsV RX3 87 RX3 yX3_no wsX3_no) := goodIn_app (goodIn_of _ (by decide +kernel)) ggX3_daysUntilRecalled_X3_no
theorem dX3_daysUntilRecalled_0 : decode cX3_daysUntilRecalled 0 = .ok (.aload_n 0, 1) := by decide +kernel
theorem dX3_daysUntilRecalled_1 : decode cX3_daysUntilRecalled 1 = .ok (.iconst 0, 1) := by decide +kernel
theorem dX3_daysUntilRecalled_2 : decode cX3_daysUntilRecalled 2 = .ok (.putfield 31, 3) := by decide +kernel
theorem dX3_daysUntilRecalled_5 : decode cX3_daysUntilRecalled 5 = .ok (.aload_n 0, 1) := by decide +kernel
theorem dX3_daysUntilRecalled_6 : decode cX3_daysUntilRecalled 6 = .ok (.iload_n 1, 1) := by decide +kernel
theorem dX3_daysUntilRecalled_7 : decode cX3_daysUntilRecalled 7 = .ok (.invokevirtual 90, 3) := by decide +kernel
theorem dX3_daysUntilRecalled_10 : decode cX3_daysUntilRecalled 10 = .ok (.ifCond .eq 11, 3) := by decide +kernel
theorem dX3_daysUntilRecalled_13 : decode cX3_daysUntilRecalled 13 = .ok (.aload_n 0, 1) := by decide +kernel
theorem dX3_daysUntilRecalled_14 : decode cX3_daysUntilRecalled 14 = .ok (.iload_n 1, 1) := by decide +kernel
theorem dX3_daysUntilRecalled_15 : decode cX3_daysUntilRecalled 15 = .ok (.invokevirtual 143, 3) := by decide +kernel
theorem dX3_daysUntilRecalled_18 : decode cX3_daysUntilRecalled 18 = .ok (.goto 8, 3) := by decide +kernel
theorem dX3_daysUntilRecalled_21 : decode cX3_daysUntilRecalled 21 = .ok (.aload_n 0, 1) := by decide +kernel
theorem dX3_daysUntilRecalled_22 : decode cX3_daysUntilRecalled 22 = .ok (.iconst 1, 1) := by decide +kernel
theorem dX3_daysUntilRecalled_23 : decode cX3_daysUntilRecalled 23 = .ok (.invokevirtual 87, 3) := by decide +kernel
theorem dX3_daysUntilRecalled_26 : decode cX3_daysUntilRecalled 26 = .ok (.ireturn, 1) := by decide +kernel
set_option maxRecDepth 20000 in
theorem ggX3_lostBehind_X3_count : GoodIn wsX3_lostBehind wsX3_count := goodIn_r _ [7, 8, 9, 64, 65, 66, 67, 68, 69, 70, 71, 72, 73, 74, 75] (by decide +kernel) (by decide +kernel)
set_option maxRecDepth 20000 in
theorem gX3_lostBehind_X3_count : GoodIn wsX3_lostBehind (wsV RX3 102 RX3 yX3_count wsX3_count) := goodIn_app (goodIn_of _ (by decide +kernel)) ggX3_lostBehind_X3_count
set_option maxRecDepth 20000 in
theorem ggX3_lostBehind_X3_keep : GoodIn wsX3_lostBehind wsX3_keep := goodIn_r _ [13, 9, 14, 15, 16, 17, 18, 64, 65, 66, 67, 68, 69, 70, 71, 72, 73, 74, 75] (by decide +kernel) (by decide +kernel)
set_option maxRecDepth 20000 in
theorem gX3_lostBehind_X3_keep : GoodIn wsX3_lostBehind (wsV RX3 137 RX3 yX3_keep wsX3_keep) := goodIn_app (goodIn_of _ (by decide +kernel)) ggX3_lostBehind_X3_keep
set_option maxRecDepth 20000 in
theorem ggX3_lostBehind_X3_daysOn : GoodIn wsX3_lostBehind wsX3_daysOn := goodIn_r _ [22, 23, 24, 25, 6, 26, 8, 27, 9, 1, 2, 28, 29, 30, 31, 32, 33, 34, 35, 36, 37, 38, 39, 40, 41, 42, 43, 44, 45, 46, 47, 48, 49, 50, 51, 52, 53, 54, 55, 56, 57, 58, 59, 64, 65, 66, 67, 68, 69, 70, 71, 72, 73, 74, 75] (by decide +kernel) (by decide +kernel)
set_option maxRecDepth 20000 in
theorem gX3_lostBehind_X3_daysOn : GoodIn wsX3_lostBehind (wsV RX3 105 RX3 yX3_daysOn wsX3_daysOn) := goodIn_app (goodIn_of _ (by decide +kernel)) ggX3_lostBehind_X3_daysOn
set_option maxRecDepth 20000 in
theorem ggX3_lostBehind_X3_bringBack : GoodIn wsX3_lostBehind wsX3_bringBack := goodIn_r _ [63, 14, 9, 15, 16, 17, 18, 64, 65, 66, 67, 68, 69, 70, 71, 72, 73, 74, 75] (by decide +kernel) (by decide +kernel)
set_option maxRecDepth 20000 in
theorem gX3_lostBehind_X3_bringBack : GoodIn wsX3_lostBehind (wsV RX3 140 RX3 yX3_bringBack wsX3_bringBack) := goodIn_app (goodIn_of _ (by decide +kernel)) ggX3_lostBehind_X3_bringBack
theorem dX3_lostBehind_0 : decode cX3_lostBehind 0 = .ok (.aload_n 0, 1) := by decide +kernel
theorem dX3_lostBehind_1 : decode cX3_lostBehind 1 = .ok (.getfield 75, 3) := by decide +kernel
theorem dX3_lostBehind_4 : decode cX3_lostBehind 4 = .ok (.istore_n 3, 1) := by decide +kernel
theorem dX3_lostBehind_5 : decode cX3_lostBehind 5 = .ok (.aload_n 0, 1) := by decide +kernel
theorem dX3_lostBehind_6 : decode cX3_lostBehind 6 = .ok (.getfield 78, 3) := by decide +kernel
theorem dX3_lostBehind_9 : decode cX3_lostBehind 9 = .ok (.istore 4, 2) := by decide +kernel
theorem dX3_lostBehind_11 : decode cX3_lostBehind 11 = .ok (.aload_n 0, 1) := by decide +kernel
theorem dX3_lostBehind_12 : decode cX3_lostBehind 12 = .ok (.iconst 2, 1) := by decide +kernel
theorem dX3_lostBehind_13 : decode cX3_lostBehind 13 = .ok (.invokevirtual 102, 3) := by decide +kernel
theorem dX3_lostBehind_16 : decode cX3_lostBehind 16 = .ok (.istore 5, 2) := by decide +kernel
theorem dX3_lostBehind_18 : decode cX3_lostBehind 18 = .ok (.aload_n 0, 1) := by decide +kernel
theorem dX3_lostBehind_19 : decode cX3_lostBehind 19 = .ok (.iload_n 1, 1) := by decide +kernel
theorem dX3_lostBehind_20 : decode cX3_lostBehind 20 = .ok (.putfield 75, 3) := by decide +kernel
theorem dX3_lostBehind_23 : decode cX3_lostBehind 23 = .ok (.aload_n 0, 1) := by decide +kernel
theorem dX3_lostBehind_24 : decode cX3_lostBehind 24 = .ok (.iload_n 2, 1) := by decide +kernel
theorem dX3_lostBehind_25 : decode cX3_lostBehind 25 = .ok (.putfield 78, 3) := by decide +kernel
theorem dX3_lostBehind_28 : decode cX3_lostBehind 28 = .ok (.aload_n 0, 1) := by decide +kernel
theorem dX3_lostBehind_29 : decode cX3_lostBehind 29 = .ok (.invokevirtual 137, 3) := by decide +kernel
theorem dX3_lostBehind_32 : decode cX3_lostBehind 32 = .ok (.aload_n 0, 1) := by decide +kernel
theorem dX3_lostBehind_33 : decode cX3_lostBehind 33 = .ok (.bipush 30, 2) := by decide +kernel
theorem dX3_lostBehind_35 : decode cX3_lostBehind 35 = .ok (.invokevirtual 105, 3) := by decide +kernel
theorem dX3_lostBehind_38 : decode cX3_lostBehind 38 = .ok (.aload_n 0, 1) := by decide +kernel
theorem dX3_lostBehind_39 : decode cX3_lostBehind 39 = .ok (.iconst 2, 1) := by decide +kernel
theorem dX3_lostBehind_40 : decode cX3_lostBehind 40 = .ok (.invokevirtual 102, 3) := by decide +kernel
theorem dX3_lostBehind_43 : decode cX3_lostBehind 43 = .ok (.iload 5, 2) := by decide +kernel
theorem dX3_lostBehind_45 : decode cX3_lostBehind 45 = .ok (.isub, 1) := by decide +kernel
theorem dX3_lostBehind_46 : decode cX3_lostBehind 46 = .ok (.istore 6, 2) := by decide +kernel
theorem dX3_lostBehind_48 : decode cX3_lostBehind 48 = .ok (.aload_n 0, 1) := by decide +kernel
theorem dX3_lostBehind_49 : decode cX3_lostBehind 49 = .ok (.invokevirtual 140, 3) := by decide +kernel
theorem dX3_lostBehind_52 : decode cX3_lostBehind 52 = .ok (.aload_n 0, 1) := by decide +kernel
theorem dX3_lostBehind_53 : decode cX3_lostBehind 53 = .ok (.iload_n 3, 1) := by decide +kernel
theorem dX3_lostBehind_54 : decode cX3_lostBehind 54 = .ok (.putfield 75, 3) := by decide +kernel
theorem dX3_lostBehind_57 : decode cX3_lostBehind 57 = .ok (.aload_n 0, 1) := by decide +kernel
theorem dX3_lostBehind_58 : decode cX3_lostBehind 58 = .ok (.iload 4, 2) := by decide +kernel
theorem dX3_lostBehind_60 : decode cX3_lostBehind 60 = .ok (.putfield 78, 3) := by decide +kernel
theorem dX3_lostBehind_63 : decode cX3_lostBehind 63 = .ok (.iload 6, 2) := by decide +kernel
theorem dX3_lostBehind_65 : decode cX3_lostBehind 65 = .ok (.ireturn, 1) := by decide +kernel
set_option maxRecDepth 20000 in
theorem ggX3_lostWith_X3_isIn : GoodIn wsX3_lostWith wsX3_isIn := goodIn_r _ [5] (by decide +kernel) (by decide +kernel)
set_option maxRecDepth 20000 in
theorem gX3_lostWith_X3_isIn : GoodIn wsX3_lostWith (va_wsS RX3 35 yX3_isIn wsX3_isIn) := goodIn_app (goodIn_of _ (by decide +kernel)) ggX3_lostWith_X3_isIn
set_option maxRecDepth 20000 in
theorem ggX3_lostWith_X3_isOrder : GoodIn wsX3_lostWith wsX3_isOrder := goodIn_r _ [8, 2, 3, 4, 5] (by decide +kernel) (by decide +kernel)
set_option maxRecDepth 20000 in
theorem gX3_lostWith_X3_isOrder : GoodIn wsX3_lostWith (va_wsS RX3 99 yX3_isOrder wsX3_isOrder) := goodIn_app (goodIn_of _ (by decide +kernel)) ggX3_lostWith_X3_isOrder
set_option maxRecDepth 20000 in
theorem ggX3_lostWith_X3_lostBehind : GoodIn wsX3_lostWith wsX3_lostBehind := goodIn_r _ [12, 13, 14, 15, 16, 17, 4, 18, 19, 20, 21, 22, 23, 24, 25, 26, 27, 28, 29, 30, 31, 32, 33, 34, 35, 36, 37, 38, 39, 40, 41, 42, 43, 44, 45, 46, 47, 48, 49, 50, 51, 52, 53, 54, 55, 56, 57, 58, 59, 60, 61, 62, 63, 64, 65, 66, 67, 68, 69, 70, 71, 72, 73, 74, 79, 80, 81, 82, 83, 84, 85, 86, 87, 88, 89, 90] (by decide +kernel) (by decide +kernel)
set_option maxRecDepth 20000 in
theorem gX3_lostWith_X3_lostBehind : GoodIn wsX3_lostWith (wsV RX3 146 RX3 yX3_lostBehind wsX3_lostBehind) := goodIn_app (goodIn_of _ (by decide +kernel)) ggX3_lostWith_X3_lostBehind
set_option maxRecDepth 20000 in
theorem ggX3_lostWith_X3_no : GoodIn wsX3_lostWith wsX3_no := goodIn_r _ [78, 1, 79, 80, 81, 82, 83, 84, 85, 86, 87, 88, 89, 90] (by decide +kernel) (by decide +kernel)
set_option maxRecDepth 20000 in
theorem gX3_lostWith_X3_no : GoodIn wsX3_lostWith (wsV RX3 87 RX3 yX3_no wsX3_no) := goodIn_app (goodIn_of _ (by decide +kernel)) ggX3_lostWith_X3_no
theorem dX3_lostWith_0 : decode cX3_lostWith 0 = .ok (.aload_n 0, 1) := by decide +kernel
theorem dX3_lostWith_1 : decode cX3_lostWith 1 = .ok (.iconst 0, 1) := by decide +kernel
theorem dX3_lostWith_2 : decode cX3_lostWith 2 = .ok (.putfield 31, 3) := by decide +kernel
theorem dX3_lostWith_5 : decode cX3_lostWith 5 = .ok (.iload_n 1, 1) := by decide +kernel
theorem dX3_lostWith_6 : decode cX3_lostWith 6 = .ok (.iconst 0, 1) := by decide +kernel
theorem dX3_lostWith_7 : decode cX3_lostWith 7 = .ok (.bipush 9, 2) := by decide +kernel
theorem dX3_lostWith_9 : decode cX3_lostWith 9 = .ok (.invokestatic 35, 3) := by decide +kernel
theorem dX3_lostWith_12 : decode cX3_lostWith 12 = .ok (.ifCond .eq 19, 3) := by decide +kernel
theorem dX3_lostWith_15 : decode cX3_lostWith 15 = .ok (.iload_n 2, 1) := by decide +kernel
theorem dX3_lostWith_16 : decode cX3_lostWith 16 = .ok (.invokestatic 99, 3) := by decide +kernel
theorem dX3_lostWith_19 : decode cX3_lostWith 19 = .ok (.ifCond .eq 12, 3) := by decide +kernel
theorem dX3_lostWith_22 : decode cX3_lostWith 22 = .ok (.aload_n 0, 1) := by decide +kernel
theorem dX3_lostWith_23 : decode cX3_lostWith 23 = .ok (.iload_n 1, 1) := by decide +kernel
theorem dX3_lostWith_24 : decode cX3_lostWith 24 = .ok (.iload_n 2, 1) := by decide +kernel
theorem dX3_lostWith_25 : decode cX3_lostWith 25 = .ok (.invokevirtual 146, 3) := by decide +kernel
theorem dX3_lostWith_28 : decode cX3_lostWith 28 = .ok (.goto 8, 3) := by decide +kernel
theorem dX3_lostWith_31 : decode cX3_lostWith 31 = .ok (.aload_n 0, 1) := by decide +kernel
theorem dX3_lostWith_32 : decode cX3_lostWith 32 = .ok (.iconst 1, 1) := by decide +kernel
theorem dX3_lostWith_33 : decode cX3_lostWith 33 = .ok (.invokevirtual 87, 3) := by decide +kernel
theorem dX3_lostWith_36 : decode cX3_lostWith 36 = .ok (.ireturn, 1) := by decide +kernel
set_option maxRecDepth 20000 in
theorem ggX3_best_X3_lostBehind : GoodIn wsX3_best wsX3_lostBehind := goodIn_r _ [6, 1, 7, 8, 9, 10, 5, 11, 12, 13, 14, 15, 16, 17, 18, 19, 20, 21, 22, 23, 24, 25, 26, 27, 28, 29, 30, 31, 32, 33, 34, 35, 36, 37, 38, 39, 40, 41, 42, 43, 44, 45, 46, 47, 48, 49, 50, 51, 52, 53, 54, 55, 56, 57, 58, 59, 60, 61, 62, 63, 64, 65, 66, 67, 68, 69, 70, 71, 72, 73, 74, 75, 76, 77, 78, 79] (by decide +kernel) (by decide +kernel)
set_option maxRecDepth 20000 in
theorem gX3_best_X3_lostBehind : GoodIn wsX3_best (wsV RX3 146 RX3 yX3_lostBehind wsX3_lostBehind) := goodIn_app (goodIn_of _ (by decide +kernel)) ggX3_best_X3_lostBehind
theorem dX3_best_0 : decode cX3_best 0 = .ok (.iconst 0, 1) := by decide +kernel
theorem dX3_best_1 : decode cX3_best 1 = .ok (.istore_n 1, 1) := by decide +kernel
theorem dX3_best_2 : decode cX3_best 2 = .ok (.aload_n 0, 1) := by decide +kernel
theorem dX3_best_3 : decode cX3_best 3 = .ok (.aload_n 0, 1) := by decide +kernel
theorem dX3_best_4 : decode cX3_best 4 = .ok (.getfield 75, 3) := by decide +kernel
theorem dX3_best_7 : decode cX3_best 7 = .ok (.iconst 0, 1) := by decide +kernel
theorem dX3_best_8 : decode cX3_best 8 = .ok (.invokevirtual 146, 3) := by decide +kernel
theorem dX3_best_11 : decode cX3_best 11 = .ok (.istore_n 2, 1) := by decide +kernel
theorem dX3_best_12 : decode cX3_best 12 = .ok (.iconst 1, 1) := by decide +kernel
theorem dX3_best_13 : decode cX3_best 13 = .ok (.istore_n 3, 1) := by decide +kernel
theorem dX3_best_14 : decode cX3_best 14 = .ok (.iload_n 3, 1) := by decide +kernel
theorem dX3_best_15 : decode cX3_best 15 = .ok (.iconst 3, 1) := by decide +kernel
theorem dX3_best_16 : decode cX3_best 16 = .ok (.if_icmp .ge 34, 3) := by decide +kernel
theorem dX3_best_19 : decode cX3_best 19 = .ok (.aload_n 0, 1) := by decide +kernel
theorem dX3_best_20 : decode cX3_best 20 = .ok (.aload_n 0, 1) := by decide +kernel
theorem dX3_best_21 : decode cX3_best 21 = .ok (.getfield 75, 3) := by decide +kernel
theorem dX3_best_24 : decode cX3_best 24 = .ok (.iload_n 3, 1) := by decide +kernel
theorem dX3_best_25 : decode cX3_best 25 = .ok (.invokevirtual 146, 3) := by decide +kernel
theorem dX3_best_28 : decode cX3_best 28 = .ok (.istore 4, 2) := by decide +kernel
theorem dX3_best_30 : decode cX3_best 30 = .ok (.iload 4, 2) := by decide +kernel
theorem dX3_best_32 : decode cX3_best 32 = .ok (.iload_n 2, 1) := by decide +kernel
theorem dX3_best_33 : decode cX3_best 33 = .ok (.if_icmp .lt 6, 3) := by decide +kernel
theorem dX3_best_36 : decode cX3_best 36 = .ok (.goto 8, 3) := by decide +kernel
theorem dX3_best_39 : decode cX3_best 39 = .ok (.iload_n 3, 1) := by decide +kernel
theorem dX3_best_40 : decode cX3_best 40 = .ok (.istore_n 1, 1) := by decide +kernel
theorem dX3_best_41 : decode cX3_best 41 = .ok (.iload 4, 2) := by decide +kernel
theorem dX3_best_43 : decode cX3_best 43 = .ok (.istore_n 2, 1) := by decide +kernel
theorem dX3_best_44 : decode cX3_best 44 = .ok (.iinc 3 1, 3) := by decide +kernel
theorem dX3_best_47 : decode cX3_best 47 = .ok (.goto (-33), 3) := by decide +kernel
theorem dX3_best_50 : decode cX3_best 50 = .ok (.iload_n 1, 1) := by decide +kernel
theorem dX3_best_51 : decode cX3_best 51 = .ok (.ireturn, 1) := by decide +kernel
set_option maxRecDepth 20000 in
theorem ggX3_bestOrder_X3_best : GoodIn wsX3_bestOrder wsX3_best := goodIn_r _ [5, 6, 7, 8, 9, 4, 10, 11, 12, 13, 14, 15, 16, 17, 18, 19, 20, 21, 22, 23, 24, 25, 26, 27, 28, 29, 30, 31, 32, 33, 34, 35, 36, 37, 38, 39, 40, 41, 42, 43, 44, 45, 46, 47, 48, 49, 50, 51, 52, 53, 54, 55, 56, 57, 58, 59, 60, 61, 62, 63, 64, 65, 66, 67, 68, 69, 70, 71, 77, 78, 79, 80, 81, 82, 83, 84, 85, 86, 87, 88] (by decide +kernel) (by decide +kernel)
set_option maxRecDepth 20000 in
theorem gX3_bestOrder_X3_best : GoodIn wsX3_bestOrder (wsV RX3 149 RX3 yX3_best wsX3_best) := goodIn_app (goodIn_of _ (by decide +kernel)) ggX3_bestOrder_X3_best
set_option maxRecDepth 20000 in
theorem ggX3_bestOrder_X3_ok : GoodIn wsX3_bestOrder wsX3_ok := goodIn_r _ [75, 76, 77, 78, 79, 80, 81, 82, 83, 84, 85, 86, 87, 88] (by decide +kernel) (by decide +kernel)
set_option maxRecDepth 20000 in
theorem gX3_bestOrder_X3_ok : GoodIn wsX3_bestOrder (wsV RX3 108 RX3 yX3_ok wsX3_ok) := goodIn_app (goodIn_of _ (by decide +kernel)) ggX3_bestOrder_X3_ok
theorem dX3_bestOrder_0 : decode cX3_bestOrder 0 = .ok (.aload_n 0, 1) := by decide +kernel
theorem dX3_bestOrder_1 : decode cX3_bestOrder 1 = .ok (.aload_n 0, 1) := by decide +kernel
theorem dX3_bestOrder_2 : decode cX3_bestOrder 2 = .ok (.invokevirtual 149, 3) := by decide +kernel
theorem dX3_bestOrder_5 : decode cX3_bestOrder 5 = .ok (.invokevirtual 108, 3) := by decide +kernel
theorem dX3_bestOrder_8 : decode cX3_bestOrder 8 = .ok (.ireturn, 1) := by decide +kernel
set_option maxRecDepth 20000 in
theorem ggX3_wanted_X3_lostBehind : GoodIn wsX3_wanted wsX3_lostBehind := goodIn_r _ [6, 7, 1, 8, 9, 10, 5, 11, 12, 13, 14, 15, 16, 17, 18, 19, 20, 21, 22, 23, 24, 25, 26, 27, 28, 29, 30, 31, 32, 33, 34, 35, 36, 37, 38, 39, 40, 41, 42, 43, 44, 45, 46, 47, 48, 49, 50, 51, 52, 53, 54, 55, 56, 57, 58, 59, 60, 61, 62, 63, 64, 65, 66, 67, 68, 69, 70, 71, 72, 73, 74, 75, 76, 77, 78, 79] (by decide +kernel) (by decide +kernel)
set_option maxRecDepth 20000 in
theorem gX3_wanted_X3_lostBehind : GoodIn wsX3_wanted (wsV RX3 146 RX3 yX3_lostBehind wsX3_lostBehind) := goodIn_app (goodIn_of _ (by decide +kernel)) ggX3_wanted_X3_lostBehind
theorem dX3_wanted_0 : decode cX3_wanted 0 = .ok (.iconst 0, 1) := by decide +kernel
theorem dX3_wanted_1 : decode cX3_wanted 1 = .ok (.istore_n 1, 1) := by decide +kernel
theorem dX3_wanted_2 : decode cX3_wanted 2 = .ok (.iload_n 1, 1) := by decide +kernel
theorem dX3_wanted_3 : decode cX3_wanted 3 = .ok (.bipush 9, 2) := by decide +kernel
theorem dX3_wanted_5 : decode cX3_wanted 5 = .ok (.if_icmp .gt 23, 3) := by decide +kernel
theorem dX3_wanted_8 : decode cX3_wanted 8 = .ok (.aload_n 0, 1) := by decide +kernel
theorem dX3_wanted_9 : decode cX3_wanted 9 = .ok (.iload_n 1, 1) := by decide +kernel
theorem dX3_wanted_10 : decode cX3_wanted 10 = .ok (.aload_n 0, 1) := by decide +kernel
theorem dX3_wanted_11 : decode cX3_wanted 11 = .ok (.getfield 78, 3) := by decide +kernel
theorem dX3_wanted_14 : decode cX3_wanted 14 = .ok (.invokevirtual 146, 3) := by decide +kernel
theorem dX3_wanted_17 : decode cX3_wanted 17 = .ok (.ifCond .ne 5, 3) := by decide +kernel
theorem dX3_wanted_20 : decode cX3_wanted 20 = .ok (.iload_n 1, 1) := by decide +kernel
theorem dX3_wanted_21 : decode cX3_wanted 21 = .ok (.ireturn, 1) := by decide +kernel
theorem dX3_wanted_22 : decode cX3_wanted 22 = .ok (.iinc 1 1, 3) := by decide +kernel
theorem dX3_wanted_25 : decode cX3_wanted 25 = .ok (.goto (-23), 3) := by decide +kernel
theorem dX3_wanted_28 : decode cX3_wanted 28 = .ok (.iconst (-1), 1) := by decide +kernel
theorem dX3_wanted_29 : decode cX3_wanted 29 = .ok (.ireturn, 1) := by decide +kernel
set_option maxRecDepth 20000 in
theorem ggX3_shippingWanted_X3_wanted : GoodIn wsX3_shippingWanted wsX3_wanted := goodIn_r _ [5, 6, 7, 8, 9, 4, 10, 11, 12, 13, 14, 15, 16, 17, 18, 19, 20, 21, 22, 23, 24, 25, 26, 27, 28, 29, 30, 31, 32, 33, 34, 35, 36, 37, 38, 39, 40, 41, 42, 43, 44, 45, 46, 47, 48, 49, 50, 51, 52, 53, 54, 55, 56, 57, 58, 59, 60, 61, 62, 63, 64, 65, 66, 67, 68, 69, 70, 71, 77, 78, 79, 80, 81, 82, 83, 84, 85, 86, 87, 88] (by decide +kernel) (by decide +kernel)
set_option maxRecDepth 20000 in
theorem gX3_shippingWanted_X3_wanted : GoodIn wsX3_shippingWanted (wsV RX3 152 RX3 yX3_wanted wsX3_wanted) := goodIn_app (goodIn_of _ (by decide +kernel)) ggX3_shippingWanted_X3_wanted
set_option maxRecDepth 20000 in
theorem ggX3_shippingWanted_X3_ok : GoodIn wsX3_shippingWanted wsX3_ok := goodIn_r _ [75, 76, 77, 78, 79, 80, 81, 82, 83, 84, 85, 86, 87, 88] (by decide +kernel) (by decide +kernel)
set_option maxRecDepth 20000 in
theorem gX3_shippingWanted_X3_ok : GoodIn wsX3_shippingWanted (wsV RX3 108 RX3 yX3_ok wsX3_ok) := goodIn_app (goodIn_of _ (by decide +kernel)) ggX3_shippingWanted_X3_ok
theorem dX3_shippingWanted_0 : decode cX3_shippingWanted 0 = .ok (.aload_n 0, 1) := by decide +kernel
theorem dX3_shippingWanted_1 : decode cX3_shippingWanted 1 = .ok (.aload_n 0, 1) := by decide +kernel
theorem dX3_shippingWanted_2 : decode cX3_shippingWanted 2 = .ok (.invokevirtual 152, 3) := by decide +kernel
theorem dX3_shippingWanted_5 : decode cX3_shippingWanted 5 = .ok (.invokevirtual 108, 3) := by decide +kernel
theorem dX3_shippingWanted_8 : decode cX3_shippingWanted 8 = .ok (.ireturn, 1) := by decide +kernel
set_option maxRecDepth 20000 in
theorem ggX3_shelfFor_X3_isHere : GoodIn wsX3_shelfFor wsX3_isHere := goodIn_r _ [5, 6, 18, 19, 20, 21, 22, 23, 24, 25, 26, 27, 28, 29] (by decide +kernel) (by decide +kernel)
set_option maxRecDepth 20000 in
theorem gX3_shelfFor_X3_isHere : GoodIn wsX3_shelfFor (wsV RX3 51 RX3 yX3_isHere wsX3_isHere) := goodIn_app (goodIn_of _ (by decide +kernel)) ggX3_shelfFor_X3_isHere
set_option maxRecDepth 20000 in
theorem ggX3_shelfFor_X3_until : GoodIn wsX3_shelfFor wsX3_until := goodIn_r _ [10, 6, 11, 12, 13, 4, 14, 15, 16, 17, 18, 19, 20, 21, 22, 23, 24, 25, 26, 27, 28, 29] (by decide +kernel) (by decide +kernel)
set_option maxRecDepth 20000 in
theorem gX3_shelfFor_X3_until : GoodIn wsX3_shelfFor (wsV RX3 134 RX3 yX3_until wsX3_until) := goodIn_app (goodIn_of _ (by decide +kernel)) ggX3_shelfFor_X3_until
theorem dX3_shelfFor_0 : decode cX3_shelfFor 0 = .ok (.aload_n 0, 1) := by decide +kernel
theorem dX3_shelfFor_1 : decode cX3_shelfFor 1 = .ok (.iload_n 1, 1) := by decide +kernel
theorem dX3_shelfFor_2 : decode cX3_shelfFor 2 = .ok (.invokevirtual 51, 3) := by decide +kernel
theorem dX3_shelfFor_5 : decode cX3_shelfFor 5 = .ok (.ifCond .ne 5, 3) := by decide +kernel
theorem dX3_shelfFor_8 : decode cX3_shelfFor 8 = .ok (.iconst (-1), 1) := by decide +kernel
theorem dX3_shelfFor_9 : decode cX3_shelfFor 9 = .ok (.ireturn, 1) := by decide +kernel
theorem dX3_shelfFor_10 : decode cX3_shelfFor 10 = .ok (.iconst 0, 1) := by decide +kernel
theorem dX3_shelfFor_11 : decode cX3_shelfFor 11 = .ok (.istore_n 2, 1) := by decide +kernel
theorem dX3_shelfFor_12 : decode cX3_shelfFor 12 = .ok (.iconst 1, 1) := by decide +kernel
theorem dX3_shelfFor_13 : decode cX3_shelfFor 13 = .ok (.istore_n 3, 1) := by decide +kernel
theorem dX3_shelfFor_14 : decode cX3_shelfFor 14 = .ok (.iload_n 3, 1) := by decide +kernel
theorem dX3_shelfFor_15 : decode cX3_shelfFor 15 = .ok (.iconst 4, 1) := by decide +kernel
theorem dX3_shelfFor_16 : decode cX3_shelfFor 16 = .ok (.if_icmp .ge 46, 3) := by decide +kernel
theorem dX3_shelfFor_19 : decode cX3_shelfFor 19 = .ok (.aload_n 0, 1) := by decide +kernel
theorem dX3_shelfFor_20 : decode cX3_shelfFor 20 = .ok (.iload_n 1, 1) := by decide +kernel
theorem dX3_shelfFor_21 : decode cX3_shelfFor 21 = .ok (.iload_n 2, 1) := by decide +kernel
theorem dX3_shelfFor_22 : decode cX3_shelfFor 22 = .ok (.invokevirtual 134, 3) := by decide +kernel
theorem dX3_shelfFor_25 : decode cX3_shelfFor 25 = .ok (.iconst (-1), 1) := by decide +kernel
theorem dX3_shelfFor_26 : decode cX3_shelfFor 26 = .ok (.if_icmp .eq 30, 3) := by decide +kernel
theorem dX3_shelfFor_29 : decode cX3_shelfFor 29 = .ok (.aload_n 0, 1) := by decide +kernel
theorem dX3_shelfFor_30 : decode cX3_shelfFor 30 = .ok (.iload_n 1, 1) := by decide +kernel
theorem dX3_shelfFor_31 : decode cX3_shelfFor 31 = .ok (.iload_n 3, 1) := by decide +kernel
theorem dX3_shelfFor_32 : decode cX3_shelfFor 32 = .ok (.invokevirtual 134, 3) := by decide +kernel
theorem dX3_shelfFor_35 : decode cX3_shelfFor 35 = .ok (.iconst (-1), 1) := by decide +kernel
theorem dX3_shelfFor_36 : decode cX3_shelfFor 36 = .ok (.if_icmp .eq 18, 3) := by decide +kernel
theorem dX3_shelfFor_39 : decode cX3_shelfFor 39 = .ok (.aload_n 0, 1) := by decide +kernel
theorem dX3_shelfFor_40 : decode cX3_shelfFor 40 = .ok (.iload_n 1, 1) := by decide +kernel
theorem dX3_shelfFor_41 : decode cX3_shelfFor 41 = .ok (.iload_n 3, 1) := by decide +kernel
theorem dX3_shelfFor_42 : decode cX3_shelfFor 42 = .ok (.invokevirtual 134, 3) := by decide +kernel
theorem dX3_shelfFor_45 : decode cX3_shelfFor 45 = .ok (.aload_n 0, 1) := by decide +kernel
theorem dX3_shelfFor_46 : decode cX3_shelfFor 46 = .ok (.iload_n 1, 1) := by decide +kernel
theorem dX3_shelfFor_47 : decode cX3_shelfFor 47 = .ok (.iload_n 2, 1) := by decide +kernel
theorem dX3_shelfFor_48 : decode cX3_shelfFor 48 = .ok (.invokevirtual 134, 3) := by decide +kernel
theorem dX3_shelfFor_51 : decode cX3_shelfFor 51 = .ok (.if_icmp .le 5, 3) := by decide +kernel
theorem dX3_shelfFor_54 : decode cX3_shelfFor 54 = .ok (.iload_n 3, 1) := by decide +kernel
theorem dX3_shelfFor_55 : decode cX3_shelfFor 55 = .ok (.istore_n 2, 1) := by decide +kernel
theorem dX3_shelfFor_56 : decode cX3_shelfFor 56 = .ok (.iinc 3 1, 3) := by decide +kernel
theorem dX3_shelfFor_59 : decode cX3_shelfFor 59 = .ok (.goto (-45), 3) := by decide +kernel
theorem dX3_shelfFor_62 : decode cX3_shelfFor 62 = .ok (.iload_n 2, 1) := by decide +kernel
theorem dX3_shelfFor_63 : decode cX3_shelfFor 63 = .ok (.ireturn, 1) := by decide +kernel
set_option maxRecDepth 20000 in
theorem ggX3_bestShelf_X3_isTin : GoodIn wsX3_bestShelf wsX3_isTin := goodIn_r _ [6, 7, 8, 9, 5, 10, 35, 36, 37, 38, 39, 40, 41, 42, 43, 44, 45, 46] (by decide +kernel) (by decide +kernel)
set_option maxRecDepth 20000 in
theorem gX3_bestShelf_X3_isTin : GoodIn wsX3_bestShelf (wsV RX3 96 RX3 yX3_isTin wsX3_isTin) := goodIn_app (goodIn_of _ (by decide +kernel)) ggX3_bestShelf_X3_isTin
set_option maxRecDepth 20000 in
theorem ggX3_bestShelf_X3_shelfFor : GoodIn wsX3_bestShelf wsX3_shelfFor := goodIn_r _ [14, 15, 16, 17, 5, 18, 19, 20, 21, 22, 23, 24, 25, 26, 27, 28, 29, 30, 35, 36, 37, 38, 39, 40, 41, 42, 43, 44, 45, 46] (by decide +kernel) (by decide +kernel)
set_option maxRecDepth 20000 in
theorem gX3_bestShelf_X3_shelfFor : GoodIn wsX3_bestShelf (wsV RX3 155 RX3 yX3_shelfFor wsX3_shelfFor) := goodIn_app (goodIn_of _ (by decide +kernel)) ggX3_bestShelf_X3_shelfFor
set_option maxRecDepth 20000 in
theorem ggX3_bestShelf_X3_no : GoodIn wsX3_bestShelf wsX3_no := goodIn_r _ [34, 1, 35, 36, 37, 38, 39, 40, 41, 42, 43, 44, 45, 46] (by decide +kernel) (by decide +kernel)
set_option maxRecDepth 20000 in
theorem gX3_bestShelf_X3_no : GoodIn wsX3_bestShelf (wsV RX3 87 RX3 yX3_no wsX3_no) := goodIn_app (goodIn_of _ (by decide +kernel)) ggX3_bestShelf_X3_no
theorem dX3_bestShelf_0 : decode cX3_bestShelf 0 = .ok (.aload_n 0, 1) := by decide +kernel
theorem dX3_bestShelf_1 : decode cX3_bestShelf 1 = .ok (.iconst 0, 1) := by decide +kernel
theorem dX3_bestShelf_2 : decode cX3_bestShelf 2 = .ok (.putfield 31, 3) := by decide +kernel
theorem dX3_bestShelf_5 : decode cX3_bestShelf 5 = .ok (.aload_n 0, 1) := by decide +kernel
theorem dX3_bestShelf_6 : decode cX3_bestShelf 6 = .ok (.iload_n 1, 1) := by decide +kernel
theorem dX3_bestShelf_7 : decode cX3_bestShelf 7 = .ok (.invokevirtual 96, 3) := by decide +kernel
theorem dX3_bestShelf_10 : decode cX3_bestShelf 10 = .ok (.ifCond .eq 11, 3) := by decide +kernel
theorem dX3_bestShelf_13 : decode cX3_bestShelf 13 = .ok (.aload_n 0, 1) := by decide +kernel
theorem dX3_bestShelf_14 : decode cX3_bestShelf 14 = .ok (.iload_n 1, 1) := by decide +kernel
theorem dX3_bestShelf_15 : decode cX3_bestShelf 15 = .ok (.invokevirtual 155, 3) := by decide +kernel
theorem dX3_bestShelf_18 : decode cX3_bestShelf 18 = .ok (.goto 8, 3) := by decide +kernel
theorem dX3_bestShelf_21 : decode cX3_bestShelf 21 = .ok (.aload_n 0, 1) := by decide +kernel
theorem dX3_bestShelf_22 : decode cX3_bestShelf 22 = .ok (.iconst 1, 1) := by decide +kernel
theorem dX3_bestShelf_23 : decode cX3_bestShelf 23 = .ok (.invokevirtual 87, 3) := by decide +kernel
theorem dX3_bestShelf_26 : decode cX3_bestShelf 26 = .ok (.ireturn, 1) := by decide +kernel
set_option maxRecDepth 20000 in
theorem ggX3_meanVacuum_X3_isHere : GoodIn wsX3_meanVacuum wsX3_isHere := goodIn_r _ [8, 3, 13, 14, 15, 16, 17, 18, 19, 20, 21, 22, 23, 24] (by decide +kernel) (by decide +kernel)
set_option maxRecDepth 20000 in
theorem gX3_meanVacuum_X3_isHere : GoodIn wsX3_meanVacuum (wsV RX3 51 RX3 yX3_isHere wsX3_isHere) := goodIn_app (goodIn_of _ (by decide +kernel)) ggX3_meanVacuum_X3_isHere
set_option maxRecDepth 20000 in
theorem ggX3_meanVacuum_X3_count : GoodIn wsX3_meanVacuum wsX3_count := goodIn_r _ [12, 2, 3, 13, 14, 15, 16, 17, 18, 19, 20, 21, 22, 23, 24] (by decide +kernel) (by decide +kernel)
set_option maxRecDepth 20000 in
theorem gX3_meanVacuum_X3_count : GoodIn wsX3_meanVacuum (wsV RX3 102 RX3 yX3_count wsX3_count) := goodIn_app (goodIn_of _ (by decide +kernel)) ggX3_meanVacuum_X3_count
theorem dX3_meanVacuum_0 : decode cX3_meanVacuum 0 = .ok (.aload_n 0, 1) := by decide +kernel
theorem dX3_meanVacuum_1 : decode cX3_meanVacuum 1 = .ok (.iconst 0, 1) := by decide +kernel
theorem dX3_meanVacuum_2 : decode cX3_meanVacuum 2 = .ok (.putfield 31, 3) := by decide +kernel
theorem dX3_meanVacuum_5 : decode cX3_meanVacuum 5 = .ok (.iconst 0, 1) := by decide +kernel
theorem dX3_meanVacuum_6 : decode cX3_meanVacuum 6 = .ok (.istore_n 1, 1) := by decide +kernel
theorem dX3_meanVacuum_7 : decode cX3_meanVacuum 7 = .ok (.iconst 0, 1) := by decide +kernel
theorem dX3_meanVacuum_8 : decode cX3_meanVacuum 8 = .ok (.istore_n 2, 1) := by decide +kernel
theorem dX3_meanVacuum_9 : decode cX3_meanVacuum 9 = .ok (.iload_n 2, 1) := by decide +kernel
theorem dX3_meanVacuum_10 : decode cX3_meanVacuum 10 = .ok (.aload_n 0, 1) := by decide +kernel
theorem dX3_meanVacuum_11 : decode cX3_meanVacuum 11 = .ok (.getfield 42, 3) := by decide +kernel
theorem dX3_meanVacuum_14 : decode cX3_meanVacuum 14 = .ok (.if_icmp .ge 33, 3) := by decide +kernel
theorem dX3_meanVacuum_17 : decode cX3_meanVacuum 17 = .ok (.iload_n 1, 1) := by decide +kernel
theorem dX3_meanVacuum_18 : decode cX3_meanVacuum 18 = .ok (.aload_n 0, 1) := by decide +kernel
theorem dX3_meanVacuum_19 : decode cX3_meanVacuum 19 = .ok (.iload_n 2, 1) := by decide +kernel
theorem dX3_meanVacuum_20 : decode cX3_meanVacuum 20 = .ok (.invokevirtual 51, 3) := by decide +kernel
theorem dX3_meanVacuum_23 : decode cX3_meanVacuum 23 = .ok (.ifCond .eq 15, 3) := by decide +kernel
theorem dX3_meanVacuum_26 : decode cX3_meanVacuum 26 = .ok (.aload_n 0, 1) := by decide +kernel
theorem dX3_meanVacuum_27 : decode cX3_meanVacuum 27 = .ok (.getfield 25, 3) := by decide +kernel
theorem dX3_meanVacuum_30 : decode cX3_meanVacuum 30 = .ok (.bipush 73, 2) := by decide +kernel
theorem dX3_meanVacuum_32 : decode cX3_meanVacuum 32 = .ok (.iload_n 2, 1) := by decide +kernel
theorem dX3_meanVacuum_33 : decode cX3_meanVacuum 33 = .ok (.iadd, 1) := by decide +kernel
theorem dX3_meanVacuum_34 : decode cX3_meanVacuum 34 = .ok (.iaload, 1) := by decide +kernel
theorem dX3_meanVacuum_35 : decode cX3_meanVacuum 35 = .ok (.goto 4, 3) := by decide +kernel
theorem dX3_meanVacuum_38 : decode cX3_meanVacuum 38 = .ok (.iconst 0, 1) := by decide +kernel
theorem dX3_meanVacuum_39 : decode cX3_meanVacuum 39 = .ok (.iadd, 1) := by decide +kernel
theorem dX3_meanVacuum_40 : decode cX3_meanVacuum 40 = .ok (.istore_n 1, 1) := by decide +kernel
theorem dX3_meanVacuum_41 : decode cX3_meanVacuum 41 = .ok (.iinc 2 1, 3) := by decide +kernel
theorem dX3_meanVacuum_44 : decode cX3_meanVacuum 44 = .ok (.goto (-35), 3) := by decide +kernel
theorem dX3_meanVacuum_47 : decode cX3_meanVacuum 47 = .ok (.aload_n 0, 1) := by decide +kernel
theorem dX3_meanVacuum_48 : decode cX3_meanVacuum 48 = .ok (.iconst 0, 1) := by decide +kernel
theorem dX3_meanVacuum_49 : decode cX3_meanVacuum 49 = .ok (.invokevirtual 102, 3) := by decide +kernel
theorem dX3_meanVacuum_52 : decode cX3_meanVacuum 52 = .ok (.ifCond .ne 7, 3) := by decide +kernel
theorem dX3_meanVacuum_55 : decode cX3_meanVacuum 55 = .ok (.dconst 0, 1) := by decide +kernel
theorem dX3_meanVacuum_56 : decode cX3_meanVacuum 56 = .ok (.goto 12, 3) := by decide +kernel
theorem dX3_meanVacuum_59 : decode cX3_meanVacuum 59 = .ok (.iload_n 1, 1) := by decide +kernel
theorem dX3_meanVacuum_60 : decode cX3_meanVacuum 60 = .ok (.i2d, 1) := by decide +kernel
theorem dX3_meanVacuum_61 : decode cX3_meanVacuum 61 = .ok (.aload_n 0, 1) := by decide +kernel
theorem dX3_meanVacuum_62 : decode cX3_meanVacuum 62 = .ok (.iconst 0, 1) := by decide +kernel
theorem dX3_meanVacuum_63 : decode cX3_meanVacuum 63 = .ok (.invokevirtual 102, 3) := by decide +kernel
theorem dX3_meanVacuum_66 : decode cX3_meanVacuum 66 = .ok (.i2d, 1) := by decide +kernel
theorem dX3_meanVacuum_67 : decode cX3_meanVacuum 67 = .ok (.ddiv, 1) := by decide +kernel
theorem dX3_meanVacuum_68 : decode cX3_meanVacuum 68 = .ok (.dreturn, 1) := by decide +kernel
set_option maxRecDepth 20000 in
theorem ggX3_digest_X3_count : GoodIn wsX3_digest wsX3_count := goodIn_r _ [14, 5, 3, 112, 113, 114, 115, 116, 117, 118, 119, 120, 121, 122, 123] (by decide +kernel) (by decide +kernel)
set_option maxRecDepth 20000 in
theorem gX3_digest_X3_count : GoodIn wsX3_digest (wsV RX3 102 RX3 yX3_count wsX3_count) := goodIn_app (goodIn_of _ (by decide +kernel)) ggX3_digest_X3_count
set_option maxRecDepth 20000 in
theorem ggX3_digest_X3_allSwelled : GoodIn wsX3_digest wsX3_allSwelled := goodIn_r _ [18, 4, 3, 112, 113, 114, 115, 116, 117, 118, 119, 120, 121, 122, 123] (by decide +kernel) (by decide +kernel)
set_option maxRecDepth 20000 in
theorem gX3_digest_X3_allSwelled : GoodIn wsX3_digest (wsV RX3 111 RX3 yX3_allSwelled wsX3_allSwelled) := goodIn_app (goodIn_of _ (by decide +kernel)) ggX3_digest_X3_allSwelled
set_option maxRecDepth 20000 in
theorem ggX3_digest_X3_firstBy : GoodIn wsX3_digest wsX3_firstBy := goodIn_r _ [22, 5, 23, 24, 25, 13, 26, 3, 27, 28, 29, 30, 8, 9, 112, 113, 114, 115, 116, 117, 118, 119, 120, 121, 122, 123] (by decide +kernel) (by decide +kernel)
set_option maxRecDepth 20000 in
theorem gX3_digest_X3_firstBy : GoodIn wsX3_digest (wsV RX3 81 RX3 yX3_firstBy wsX3_firstBy) := goodIn_app (goodIn_of _ (by decide +kernel)) ggX3_digest_X3_firstBy
set_option maxRecDepth 20000 in
theorem ggX3_digest_X3_best : GoodIn wsX3_digest wsX3_best := goodIn_r _ [34, 35, 36, 37, 38, 13, 39, 40, 10, 11, 12, 14, 5, 3, 41, 42, 43, 44, 45, 46, 47, 48, 49, 50, 51, 52, 53, 54, 55, 56, 57, 4, 23, 24, 25, 26, 58, 59, 60, 61, 9, 62, 63, 64, 65, 66, 67, 68, 69, 70, 71, 8, 72, 73, 74, 75, 19, 20, 21, 22, 27, 28, 29, 30, 76, 77, 78, 79, 112, 113, 114, 115, 116, 117, 118, 119, 120, 121, 122, 123] (by decide +kernel) (by decide +kernel)
set_option maxRecDepth 20000 in
theorem gX3_digest_X3_best : GoodIn wsX3_digest (wsV RX3 149 RX3 yX3_best wsX3_best) := goodIn_app (goodIn_of _ (by decide +kernel)) ggX3_digest_X3_best
set_option maxRecDepth 20000 in
theorem ggX3_digest_X3_wanted : GoodIn wsX3_digest wsX3_wanted := goodIn_r _ [83, 40, 36, 37, 38, 13, 39, 35, 10, 11, 12, 14, 5, 3, 41, 42, 43, 44, 45, 46, 47, 48, 49, 50, 51, 52, 53, 54, 55, 56, 57, 4, 23, 24, 25, 26, 58, 59, 60, 61, 9, 62, 63, 64, 65, 66, 67, 68, 69, 70, 71, 8, 72, 73, 74, 75, 19, 20, 21, 22, 27, 28, 29, 30, 76, 77, 78, 79, 112, 113, 114, 115, 116, 117, 118, 119, 120, 121, 122, 123] (by decide +kernel) (by decide +kernel)
set_option maxRecDepth 20000 in
theorem gX3_digest_X3_wanted : GoodIn wsX3_digest (wsV RX3 152 RX3 yX3_wanted wsX3_wanted) := goodIn_app (goodIn_of _ (by decide +kernel)) ggX3_digest_X3_wanted
set_option maxRecDepth 20000 in
theorem ggX3_digest_X3_on : GoodIn wsX3_digest wsX3_on := goodIn_r _ [87, 5, 9, 23, 24, 25, 13, 26, 3, 112, 113, 114, 115, 116, 117, 118, 119, 120, 121, 122, 123] (by decide +kernel) (by decide +kernel)
set_option maxRecDepth 20000 in
theorem gX3_digest_X3_on : GoodIn wsX3_digest (wsV RX3 115 RX3 yX3_on wsX3_on) := goodIn_app (goodIn_of _ (by decide +kernel)) ggX3_digest_X3_on
set_option maxRecDepth 20000 in
theorem ggX3_digest_X3_left : GoodIn wsX3_digest wsX3_left := goodIn_r _ [91, 5, 66, 23, 24, 25, 13, 26, 3, 112, 113, 114, 115, 116, 117, 118, 119, 120, 121, 122, 123] (by decide +kernel) (by decide +kernel)
set_option maxRecDepth 20000 in
theorem gX3_digest_X3_left : GoodIn wsX3_digest (wsV RX3 128 RX3 yX3_left wsX3_left) := goodIn_app (goodIn_of _ (by decide +kernel)) ggX3_digest_X3_left
set_option maxRecDepth 20000 in
theorem ggX3_digest_X3_untilRecalled : GoodIn wsX3_digest wsX3_untilRecalled := goodIn_r _ [95, 3, 41, 42, 43, 13, 44, 45, 46, 47, 48, 49, 54, 55, 56, 57, 5, 4, 35, 40, 23, 24, 25, 26, 58, 59, 60, 61, 9, 62, 63, 64, 65, 66, 67, 68, 69, 70, 71, 8, 72, 73, 74, 75, 19, 20, 21, 22, 27, 28, 29, 30, 76, 77, 78, 79, 112, 113, 114, 115, 116, 117, 118, 119, 120, 121, 122, 123] (by decide +kernel) (by decide +kernel)
set_option maxRecDepth 20000 in
theorem gX3_digest_X3_untilRecalled : GoodIn wsX3_digest (wsV RX3 143 RX3 yX3_untilRecalled wsX3_untilRecalled) := goodIn_app (goodIn_of _ (by decide +kernel)) ggX3_digest_X3_untilRecalled
set_option maxRecDepth 20000 in
theorem ggX3_digest_X3_place : GoodIn wsX3_digest wsX3_place := goodIn_r _ [99, 9, 23, 24, 25, 13, 26, 3, 112, 113, 114, 115, 116, 117, 118, 119, 120, 121, 122, 123] (by decide +kernel) (by decide +kernel)
set_option maxRecDepth 20000 in
theorem gX3_digest_X3_place : GoodIn wsX3_digest (wsV RX3 118 RX3 yX3_place wsX3_place) := goodIn_app (goodIn_of _ (by decide +kernel)) ggX3_digest_X3_place
set_option maxRecDepth 20000 in
theorem ggX3_digest_X3_ahead : GoodIn wsX3_digest wsX3_ahead := goodIn_r _ [103, 5, 23, 24, 25, 13, 26, 3, 27, 28, 29, 30, 8, 9, 112, 113, 114, 115, 116, 117, 118, 119, 120, 121, 122, 123] (by decide +kernel) (by decide +kernel)
set_option maxRecDepth 20000 in
theorem gX3_digest_X3_ahead : GoodIn wsX3_digest (wsV RX3 131 RX3 yX3_ahead wsX3_ahead) := goodIn_app (goodIn_of _ (by decide +kernel)) ggX3_digest_X3_ahead
set_option maxRecDepth 20000 in
theorem ggX3_digest_X3_isHere : GoodIn wsX3_digest wsX3_isHere := goodIn_r _ [26, 3, 112, 113, 114, 115, 116, 117, 118, 119, 120, 121, 122, 123] (by decide +kernel) (by decide +kernel)
set_option maxRecDepth 20000 in
theorem gX3_digest_X3_isHere : GoodIn wsX3_digest (wsV RX3 51 RX3 yX3_isHere wsX3_isHere) := goodIn_app (goodIn_of _ (by decide +kernel)) ggX3_digest_X3_isHere
set_option maxRecDepth 20000 in
theorem ggX3_digest_X3_until : GoodIn wsX3_digest wsX3_until := goodIn_r _ [107, 3, 67, 68, 69, 13, 70, 71, 66, 8, 112, 113, 114, 115, 116, 117, 118, 119, 120, 121, 122, 123] (by decide +kernel) (by decide +kernel)
set_option maxRecDepth 20000 in
theorem gX3_digest_X3_until : GoodIn wsX3_digest (wsV RX3 134 RX3 yX3_until wsX3_until) := goodIn_app (goodIn_of _ (by decide +kernel)) ggX3_digest_X3_until
set_option maxRecDepth 20000 in
theorem ggX3_digest_X3_shelfFor : GoodIn wsX3_digest wsX3_shelfFor := goodIn_r _ [111, 23, 24, 25, 13, 26, 3, 104, 105, 106, 107, 67, 68, 69, 70, 71, 66, 8, 112, 113, 114, 115, 116, 117, 118, 119, 120, 121, 122, 123] (by decide +kernel) (by decide +kernel)
set_option maxRecDepth 20000 in
theorem gX3_digest_X3_shelfFor : GoodIn wsX3_digest (wsV RX3 155 RX3 yX3_shelfFor wsX3_shelfFor) := goodIn_app (goodIn_of _ (by decide +kernel)) ggX3_digest_X3_shelfFor
theorem dX3_digest_0 : decode cX3_digest 0 = .ok (.aload_n 0, 1) := by decide +kernel
theorem dX3_digest_1 : decode cX3_digest 1 = .ok (.iconst 0, 1) := by decide +kernel
theorem dX3_digest_2 : decode cX3_digest 2 = .ok (.putfield 31, 3) := by decide +kernel
theorem dX3_digest_5 : decode cX3_digest 5 = .ok (.bipush 12, 2) := by decide +kernel
theorem dX3_digest_7 : decode cX3_digest 7 = .ok (.newarray .int, 2) := by decide +kernel
theorem dX3_digest_9 : decode cX3_digest 9 = .ok (.dup, 1) := by decide +kernel
theorem dX3_digest_10 : decode cX3_digest 10 = .ok (.iconst 0, 1) := by decide +kernel
theorem dX3_digest_11 : decode cX3_digest 11 = .ok (.aload_n 0, 1) := by decide +kernel
theorem dX3_digest_12 : decode cX3_digest 12 = .ok (.getfield 25, 3) := by decide +kernel
theorem dX3_digest_15 : decode cX3_digest 15 = .ok (.iconst 0, 1) := by decide +kernel
theorem dX3_digest_16 : decode cX3_digest 16 = .ok (.iaload, 1) := by decide +kernel
theorem dX3_digest_17 : decode cX3_digest 17 = .ok (.iastore, 1) := by decide +kernel
theorem dX3_digest_18 : decode cX3_digest 18 = .ok (.dup, 1) := by decide +kernel
theorem dX3_digest_19 : decode cX3_digest 19 = .ok (.iconst 1, 1) := by decide +kernel
theorem dX3_digest_20 : decode cX3_digest 20 = .ok (.aload_n 0, 1) := by decide +kernel
theorem dX3_digest_21 : decode cX3_digest 21 = .ok (.getfield 39, 3) := by decide +kernel
theorem dX3_digest_24 : decode cX3_digest 24 = .ok (.iastore, 1) := by decide +kernel
theorem dX3_digest_25 : decode cX3_digest 25 = .ok (.dup, 1) := by decide +kernel
theorem dX3_digest_26 : decode cX3_digest 26 = .ok (.iconst 2, 1) := by decide +kernel
theorem dX3_digest_27 : decode cX3_digest 27 = .ok (.aload_n 0, 1) := by decide +kernel
theorem dX3_digest_28 : decode cX3_digest 28 = .ok (.getfield 42, 3) := by decide +kernel
theorem dX3_digest_31 : decode cX3_digest 31 = .ok (.iastore, 1) := by decide +kernel
theorem dX3_digest_32 : decode cX3_digest 32 = .ok (.dup, 1) := by decide +kernel
theorem dX3_digest_33 : decode cX3_digest 33 = .ok (.iconst 3, 1) := by decide +kernel
theorem dX3_digest_34 : decode cX3_digest 34 = .ok (.aload_n 0, 1) := by decide +kernel
theorem dX3_digest_35 : decode cX3_digest 35 = .ok (.iconst 0, 1) := by decide +kernel
theorem dX3_digest_36 : decode cX3_digest 36 = .ok (.invokevirtual 102, 3) := by decide +kernel
theorem dX3_digest_39 : decode cX3_digest 39 = .ok (.iastore, 1) := by decide +kernel
theorem dX3_digest_40 : decode cX3_digest 40 = .ok (.dup, 1) := by decide +kernel
theorem dX3_digest_41 : decode cX3_digest 41 = .ok (.iconst 4, 1) := by decide +kernel
theorem dX3_digest_42 : decode cX3_digest 42 = .ok (.aload_n 0, 1) := by decide +kernel
theorem dX3_digest_43 : decode cX3_digest 43 = .ok (.iconst 1, 1) := by decide +kernel
theorem dX3_digest_44 : decode cX3_digest 44 = .ok (.invokevirtual 102, 3) := by decide +kernel
theorem dX3_digest_47 : decode cX3_digest 47 = .ok (.iastore, 1) := by decide +kernel
theorem dX3_digest_48 : decode cX3_digest 48 = .ok (.dup, 1) := by decide +kernel
theorem dX3_digest_49 : decode cX3_digest 49 = .ok (.iconst 5, 1) := by decide +kernel
theorem dX3_digest_50 : decode cX3_digest 50 = .ok (.aload_n 0, 1) := by decide +kernel
theorem dX3_digest_51 : decode cX3_digest 51 = .ok (.iconst 2, 1) := by decide +kernel
theorem dX3_digest_52 : decode cX3_digest 52 = .ok (.invokevirtual 102, 3) := by decide +kernel
theorem dX3_digest_55 : decode cX3_digest 55 = .ok (.iastore, 1) := by decide +kernel
theorem dX3_digest_56 : decode cX3_digest 56 = .ok (.dup, 1) := by decide +kernel
theorem dX3_digest_57 : decode cX3_digest 57 = .ok (.bipush 6, 2) := by decide +kernel
theorem dX3_digest_59 : decode cX3_digest 59 = .ok (.aload_n 0, 1) := by decide +kernel
theorem dX3_digest_60 : decode cX3_digest 60 = .ok (.invokevirtual 111, 3) := by decide +kernel
theorem dX3_digest_63 : decode cX3_digest 63 = .ok (.iastore, 1) := by decide +kernel
theorem dX3_digest_64 : decode cX3_digest 64 = .ok (.dup, 1) := by decide +kernel
theorem dX3_digest_65 : decode cX3_digest 65 = .ok (.bipush 7, 2) := by decide +kernel
theorem dX3_digest_67 : decode cX3_digest 67 = .ok (.aload_n 0, 1) := by decide +kernel
theorem dX3_digest_68 : decode cX3_digest 68 = .ok (.iconst 0, 1) := by decide +kernel
theorem dX3_digest_69 : decode cX3_digest 69 = .ok (.invokevirtual 81, 3) := by decide +kernel
theorem dX3_digest_72 : decode cX3_digest 72 = .ok (.iastore, 1) := by decide +kernel
theorem dX3_digest_73 : decode cX3_digest 73 = .ok (.dup, 1) := by decide +kernel
theorem dX3_digest_74 : decode cX3_digest 74 = .ok (.bipush 8, 2) := by decide +kernel
theorem dX3_digest_76 : decode cX3_digest 76 = .ok (.aload_n 0, 1) := by decide +kernel
theorem dX3_digest_77 : decode cX3_digest 77 = .ok (.iconst 1, 1) := by decide +kernel
theorem dX3_digest_78 : decode cX3_digest 78 = .ok (.invokevirtual 81, 3) := by decide +kernel
theorem dX3_digest_81 : decode cX3_digest 81 = .ok (.iastore, 1) := by decide +kernel
theorem dX3_digest_82 : decode cX3_digest 82 = .ok (.dup, 1) := by decide +kernel
theorem dX3_digest_83 : decode cX3_digest 83 = .ok (.bipush 9, 2) := by decide +kernel
theorem dX3_digest_85 : decode cX3_digest 85 = .ok (.aload_n 0, 1) := by decide +kernel
theorem dX3_digest_86 : decode cX3_digest 86 = .ok (.iconst 2, 1) := by decide +kernel
theorem dX3_digest_87 : decode cX3_digest 87 = .ok (.invokevirtual 81, 3) := by decide +kernel
theorem dX3_digest_90 : decode cX3_digest 90 = .ok (.iastore, 1) := by decide +kernel
theorem dX3_digest_91 : decode cX3_digest 91 = .ok (.dup, 1) := by decide +kernel
theorem dX3_digest_92 : decode cX3_digest 92 = .ok (.bipush 10, 2) := by decide +kernel
theorem dX3_digest_94 : decode cX3_digest 94 = .ok (.aload_n 0, 1) := by decide +kernel
theorem dX3_digest_95 : decode cX3_digest 95 = .ok (.invokevirtual 149, 3) := by decide +kernel
theorem dX3_digest_98 : decode cX3_digest 98 = .ok (.iastore, 1) := by decide +kernel
theorem dX3_digest_99 : decode cX3_digest 99 = .ok (.dup, 1) := by decide +kernel
theorem dX3_digest_100 : decode cX3_digest 100 = .ok (.bipush 11, 2) := by decide +kernel
theorem dX3_digest_102 : decode cX3_digest 102 = .ok (.aload_n 0, 1) := by decide +kernel
theorem dX3_digest_103 : decode cX3_digest 103 = .ok (.invokevirtual 152, 3) := by decide +kernel
theorem dX3_digest_106 : decode cX3_digest 106 = .ok (.iastore, 1) := by decide +kernel
theorem dX3_digest_107 : decode cX3_digest 107 = .ok (.astore_n 1, 1) := by decide +kernel
theorem dX3_digest_108 : decode cX3_digest 108 = .ok (.ldc2_w 158, 3) := by decide +kernel
theorem dX3_digest_111 : decode cX3_digest 111 = .ok (.lstore_n 2, 1) := by decide +kernel
theorem dX3_digest_112 : decode cX3_digest 112 = .ok (.aload_n 1, 1) := by decide +kernel
theorem dX3_digest_113 : decode cX3_digest 113 = .ok (.astore 4, 2) := by decide +kernel
theorem dX3_digest_115 : decode cX3_digest 115 = .ok (.aload 4, 2) := by decide +kernel
theorem dX3_digest_117 : decode cX3_digest 117 = .ok (.arraylength, 1) := by decide +kernel
theorem dX3_digest_118 : decode cX3_digest 118 = .ok (.istore 5, 2) := by decide +kernel
theorem dX3_digest_120 : decode cX3_digest 120 = .ok (.iconst 0, 1) := by decide +kernel
theorem dX3_digest_121 : decode cX3_digest 121 = .ok (.istore 6, 2) := by decide +kernel
theorem dX3_digest_123 : decode cX3_digest 123 = .ok (.iload 6, 2) := by decide +kernel
theorem dX3_digest_125 : decode cX3_digest 125 = .ok (.iload 5, 2) := by decide +kernel
theorem dX3_digest_127 : decode cX3_digest 127 = .ok (.if_icmp .ge 26, 3) := by decide +kernel
theorem dX3_digest_130 : decode cX3_digest 130 = .ok (.aload 4, 2) := by decide +kernel
theorem dX3_digest_132 : decode cX3_digest 132 = .ok (.iload 6, 2) := by decide +kernel
theorem dX3_digest_134 : decode cX3_digest 134 = .ok (.iaload, 1) := by decide +kernel
theorem dX3_digest_135 : decode cX3_digest 135 = .ok (.istore 7, 2) := by decide +kernel
theorem dX3_digest_137 : decode cX3_digest 137 = .ok (.lload_n 2, 1) := by decide +kernel
theorem dX3_digest_138 : decode cX3_digest 138 = .ok (.ldc2_w 160, 3) := by decide +kernel
theorem dX3_digest_141 : decode cX3_digest 141 = .ok (.lmul, 1) := by decide +kernel
theorem dX3_digest_142 : decode cX3_digest 142 = .ok (.iload 7, 2) := by decide +kernel
theorem dX3_digest_144 : decode cX3_digest 144 = .ok (.i2l, 1) := by decide +kernel
theorem dX3_digest_145 : decode cX3_digest 145 = .ok (.ladd, 1) := by decide +kernel
theorem dX3_digest_146 : decode cX3_digest 146 = .ok (.lstore_n 2, 1) := by decide +kernel
theorem dX3_digest_147 : decode cX3_digest 147 = .ok (.iinc 6 1, 3) := by decide +kernel
theorem dX3_digest_150 : decode cX3_digest 150 = .ok (.goto (-27), 3) := by decide +kernel
theorem dX3_digest_153 : decode cX3_digest 153 = .ok (.iconst 0, 1) := by decide +kernel
theorem dX3_digest_154 : decode cX3_digest 154 = .ok (.istore 4, 2) := by decide +kernel
theorem dX3_digest_156 : decode cX3_digest 156 = .ok (.iload 4, 2) := by decide +kernel
theorem dX3_digest_158 : decode cX3_digest 158 = .ok (.iconst 4, 1) := by decide +kernel
theorem dX3_digest_159 : decode cX3_digest 159 = .ok (.if_icmp .ge 36, 3) := by decide +kernel
theorem dX3_digest_162 : decode cX3_digest 162 = .ok (.lload_n 2, 1) := by decide +kernel
theorem dX3_digest_163 : decode cX3_digest 163 = .ok (.ldc2_w 160, 3) := by decide +kernel
theorem dX3_digest_166 : decode cX3_digest 166 = .ok (.lmul, 1) := by decide +kernel
theorem dX3_digest_167 : decode cX3_digest 167 = .ok (.aload_n 0, 1) := by decide +kernel
theorem dX3_digest_168 : decode cX3_digest 168 = .ok (.iload 4, 2) := by decide +kernel
theorem dX3_digest_170 : decode cX3_digest 170 = .ok (.invokevirtual 115, 3) := by decide +kernel
theorem dX3_digest_173 : decode cX3_digest 173 = .ok (.i2l, 1) := by decide +kernel
theorem dX3_digest_174 : decode cX3_digest 174 = .ok (.ladd, 1) := by decide +kernel
theorem dX3_digest_175 : decode cX3_digest 175 = .ok (.ldc2_w 160, 3) := by decide +kernel
theorem dX3_digest_178 : decode cX3_digest 178 = .ok (.lmul, 1) := by decide +kernel
theorem dX3_digest_179 : decode cX3_digest 179 = .ok (.aload_n 0, 1) := by decide +kernel
theorem dX3_digest_180 : decode cX3_digest 180 = .ok (.getfield 16, 3) := by decide +kernel
theorem dX3_digest_183 : decode cX3_digest 183 = .ok (.iload 4, 2) := by decide +kernel
theorem dX3_digest_185 : decode cX3_digest 185 = .ok (.iaload, 1) := by decide +kernel
theorem dX3_digest_186 : decode cX3_digest 186 = .ok (.i2l, 1) := by decide +kernel
theorem dX3_digest_187 : decode cX3_digest 187 = .ok (.ladd, 1) := by decide +kernel
theorem dX3_digest_188 : decode cX3_digest 188 = .ok (.lstore_n 2, 1) := by decide +kernel
theorem dX3_digest_189 : decode cX3_digest 189 = .ok (.iinc 4 1, 3) := by decide +kernel
theorem dX3_digest_192 : decode cX3_digest 192 = .ok (.goto (-36), 3) := by decide +kernel
theorem dX3_digest_195 : decode cX3_digest 195 = .ok (.iconst 0, 1) := by decide +kernel
theorem dX3_digest_196 : decode cX3_digest 196 = .ok (.istore 4, 2) := by decide +kernel
theorem dX3_digest_198 : decode cX3_digest 198 = .ok (.iload 4, 2) := by decide +kernel
theorem dX3_digest_200 : decode cX3_digest 200 = .ok (.aload_n 0, 1) := by decide +kernel
theorem dX3_digest_201 : decode cX3_digest 201 = .ok (.getfield 39, 3) := by decide +kernel
theorem dX3_digest_204 : decode cX3_digest 204 = .ok (.if_icmp .ge 66, 3) := by decide +kernel
theorem dX3_digest_207 : decode cX3_digest 207 = .ok (.lload_n 2, 1) := by decide +kernel
theorem dX3_digest_208 : decode cX3_digest 208 = .ok (.ldc2_w 160, 3) := by decide +kernel
theorem dX3_digest_211 : decode cX3_digest 211 = .ok (.lmul, 1) := by decide +kernel
theorem dX3_digest_212 : decode cX3_digest 212 = .ok (.aload_n 0, 1) := by decide +kernel
theorem dX3_digest_213 : decode cX3_digest 213 = .ok (.getfield 25, 3) := by decide +kernel
theorem dX3_digest_216 : decode cX3_digest 216 = .ok (.iconst 1, 1) := by decide +kernel
theorem dX3_digest_217 : decode cX3_digest 217 = .ok (.iload 4, 2) := by decide +kernel
theorem dX3_digest_219 : decode cX3_digest 219 = .ok (.iadd, 1) := by decide +kernel
theorem dX3_digest_220 : decode cX3_digest 220 = .ok (.iaload, 1) := by decide +kernel
theorem dX3_digest_221 : decode cX3_digest 221 = .ok (.i2l, 1) := by decide +kernel
theorem dX3_digest_222 : decode cX3_digest 222 = .ok (.ladd, 1) := by decide +kernel
theorem dX3_digest_223 : decode cX3_digest 223 = .ok (.ldc2_w 160, 3) := by decide +kernel
theorem dX3_digest_226 : decode cX3_digest 226 = .ok (.lmul, 1) := by decide +kernel
theorem dX3_digest_227 : decode cX3_digest 227 = .ok (.aload_n 0, 1) := by decide +kernel
theorem dX3_digest_228 : decode cX3_digest 228 = .ok (.iload 4, 2) := by decide +kernel
theorem dX3_digest_230 : decode cX3_digest 230 = .ok (.invokevirtual 128, 3) := by decide +kernel
theorem dX3_digest_233 : decode cX3_digest 233 = .ok (.i2l, 1) := by decide +kernel
theorem dX3_digest_234 : decode cX3_digest 234 = .ok (.ladd, 1) := by decide +kernel
theorem dX3_digest_235 : decode cX3_digest 235 = .ok (.ldc2_w 160, 3) := by decide +kernel
theorem dX3_digest_238 : decode cX3_digest 238 = .ok (.lmul, 1) := by decide +kernel
theorem dX3_digest_239 : decode cX3_digest 239 = .ok (.aload_n 0, 1) := by decide +kernel
theorem dX3_digest_240 : decode cX3_digest 240 = .ok (.getfield 25, 3) := by decide +kernel
theorem dX3_digest_243 : decode cX3_digest 243 = .ok (.bipush 7, 2) := by decide +kernel
theorem dX3_digest_245 : decode cX3_digest 245 = .ok (.iload 4, 2) := by decide +kernel
theorem dX3_digest_247 : decode cX3_digest 247 = .ok (.iadd, 1) := by decide +kernel
theorem dX3_digest_248 : decode cX3_digest 248 = .ok (.iaload, 1) := by decide +kernel
theorem dX3_digest_249 : decode cX3_digest 249 = .ok (.i2l, 1) := by decide +kernel
theorem dX3_digest_250 : decode cX3_digest 250 = .ok (.ladd, 1) := by decide +kernel
theorem dX3_digest_251 : decode cX3_digest 251 = .ok (.ldc2_w 160, 3) := by decide +kernel
theorem dX3_digest_254 : decode cX3_digest 254 = .ok (.lmul, 1) := by decide +kernel
theorem dX3_digest_255 : decode cX3_digest 255 = .ok (.aload_n 0, 1) := by decide +kernel
theorem dX3_digest_256 : decode cX3_digest 256 = .ok (.iload 4, 2) := by decide +kernel
theorem dX3_digest_258 : decode cX3_digest 258 = .ok (.invokevirtual 143, 3) := by decide +kernel
theorem dX3_digest_261 : decode cX3_digest 261 = .ok (.i2l, 1) := by decide +kernel
theorem dX3_digest_262 : decode cX3_digest 262 = .ok (.ladd, 1) := by decide +kernel
theorem dX3_digest_263 : decode cX3_digest 263 = .ok (.lstore_n 2, 1) := by decide +kernel
theorem dX3_digest_264 : decode cX3_digest 264 = .ok (.iinc 4 1, 3) := by decide +kernel
theorem dX3_digest_267 : decode cX3_digest 267 = .ok (.goto (-69), 3) := by decide +kernel
theorem dX3_digest_270 : decode cX3_digest 270 = .ok (.iconst 0, 1) := by decide +kernel
theorem dX3_digest_271 : decode cX3_digest 271 = .ok (.istore 4, 2) := by decide +kernel
theorem dX3_digest_273 : decode cX3_digest 273 = .ok (.iload 4, 2) := by decide +kernel
theorem dX3_digest_275 : decode cX3_digest 275 = .ok (.aload_n 0, 1) := by decide +kernel
theorem dX3_digest_276 : decode cX3_digest 276 = .ok (.getfield 42, 3) := by decide +kernel
theorem dX3_digest_279 : decode cX3_digest 279 = .ok (.if_icmp .ge 123, 3) := by decide +kernel
theorem dX3_digest_282 : decode cX3_digest 282 = .ok (.lload_n 2, 1) := by decide +kernel
theorem dX3_digest_283 : decode cX3_digest 283 = .ok (.ldc2_w 160, 3) := by decide +kernel
theorem dX3_digest_286 : decode cX3_digest 286 = .ok (.lmul, 1) := by decide +kernel
theorem dX3_digest_287 : decode cX3_digest 287 = .ok (.aload_n 0, 1) := by decide +kernel
theorem dX3_digest_288 : decode cX3_digest 288 = .ok (.iload 4, 2) := by decide +kernel
theorem dX3_digest_290 : decode cX3_digest 290 = .ok (.invokevirtual 118, 3) := by decide +kernel
theorem dX3_digest_293 : decode cX3_digest 293 = .ok (.i2l, 1) := by decide +kernel
theorem dX3_digest_294 : decode cX3_digest 294 = .ok (.ladd, 1) := by decide +kernel
theorem dX3_digest_295 : decode cX3_digest 295 = .ok (.ldc2_w 160, 3) := by decide +kernel
theorem dX3_digest_298 : decode cX3_digest 298 = .ok (.lmul, 1) := by decide +kernel
theorem dX3_digest_299 : decode cX3_digest 299 = .ok (.aload_n 0, 1) := by decide +kernel
theorem dX3_digest_300 : decode cX3_digest 300 = .ok (.getfield 25, 3) := by decide +kernel
theorem dX3_digest_303 : decode cX3_digest 303 = .ok (.bipush 73, 2) := by decide +kernel
theorem dX3_digest_305 : decode cX3_digest 305 = .ok (.iload 4, 2) := by decide +kernel
theorem dX3_digest_307 : decode cX3_digest 307 = .ok (.iadd, 1) := by decide +kernel
theorem dX3_digest_308 : decode cX3_digest 308 = .ok (.iaload, 1) := by decide +kernel
theorem dX3_digest_309 : decode cX3_digest 309 = .ok (.i2l, 1) := by decide +kernel
theorem dX3_digest_310 : decode cX3_digest 310 = .ok (.ladd, 1) := by decide +kernel
theorem dX3_digest_311 : decode cX3_digest 311 = .ok (.ldc2_w 160, 3) := by decide +kernel
theorem dX3_digest_314 : decode cX3_digest 314 = .ok (.lmul, 1) := by decide +kernel
theorem dX3_digest_315 : decode cX3_digest 315 = .ok (.aload_n 0, 1) := by decide +kernel
theorem dX3_digest_316 : decode cX3_digest 316 = .ok (.getfield 25, 3) := by decide +kernel
theorem dX3_digest_319 : decode cX3_digest 319 = .ok (.bipush 13, 2) := by decide +kernel
theorem dX3_digest_321 : decode cX3_digest 321 = .ok (.iload 4, 2) := by decide +kernel
theorem dX3_digest_323 : decode cX3_digest 323 = .ok (.iadd, 1) := by decide +kernel
theorem dX3_digest_324 : decode cX3_digest 324 = .ok (.iaload, 1) := by decide +kernel
theorem dX3_digest_325 : decode cX3_digest 325 = .ok (.iconst 1, 1) := by decide +kernel
theorem dX3_digest_326 : decode cX3_digest 326 = .ok (.if_icmp .ne 7, 3) := by decide +kernel
theorem dX3_digest_329 : decode cX3_digest 329 = .ok (.iconst 1, 1) := by decide +kernel
theorem dX3_digest_330 : decode cX3_digest 330 = .ok (.goto 4, 3) := by decide +kernel
theorem dX3_digest_333 : decode cX3_digest 333 = .ok (.iconst 0, 1) := by decide +kernel
theorem dX3_digest_334 : decode cX3_digest 334 = .ok (.i2l, 1) := by decide +kernel
theorem dX3_digest_335 : decode cX3_digest 335 = .ok (.ladd, 1) := by decide +kernel
theorem dX3_digest_336 : decode cX3_digest 336 = .ok (.lstore_n 2, 1) := by decide +kernel
theorem dX3_digest_337 : decode cX3_digest 337 = .ok (.lload_n 2, 1) := by decide +kernel
theorem dX3_digest_338 : decode cX3_digest 338 = .ok (.ldc2_w 160, 3) := by decide +kernel
theorem dX3_digest_341 : decode cX3_digest 341 = .ok (.lmul, 1) := by decide +kernel
theorem dX3_digest_342 : decode cX3_digest 342 = .ok (.aload_n 0, 1) := by decide +kernel
theorem dX3_digest_343 : decode cX3_digest 343 = .ok (.iload 4, 2) := by decide +kernel
theorem dX3_digest_345 : decode cX3_digest 345 = .ok (.iconst 1, 1) := by decide +kernel
theorem dX3_digest_346 : decode cX3_digest 346 = .ok (.invokevirtual 131, 3) := by decide +kernel
theorem dX3_digest_349 : decode cX3_digest 349 = .ok (.i2l, 1) := by decide +kernel
theorem dX3_digest_350 : decode cX3_digest 350 = .ok (.ladd, 1) := by decide +kernel
theorem dX3_digest_351 : decode cX3_digest 351 = .ok (.ldc2_w 160, 3) := by decide +kernel
theorem dX3_digest_354 : decode cX3_digest 354 = .ok (.lmul, 1) := by decide +kernel
theorem dX3_digest_355 : decode cX3_digest 355 = .ok (.aload_n 0, 1) := by decide +kernel
theorem dX3_digest_356 : decode cX3_digest 356 = .ok (.iload 4, 2) := by decide +kernel
theorem dX3_digest_358 : decode cX3_digest 358 = .ok (.invokevirtual 51, 3) := by decide +kernel
theorem dX3_digest_361 : decode cX3_digest 361 = .ok (.ifCond .eq 19, 3) := by decide +kernel
theorem dX3_digest_364 : decode cX3_digest 364 = .ok (.aload_n 0, 1) := by decide +kernel
theorem dX3_digest_365 : decode cX3_digest 365 = .ok (.iload 4, 2) := by decide +kernel
theorem dX3_digest_367 : decode cX3_digest 367 = .ok (.aload_n 0, 1) := by decide +kernel
theorem dX3_digest_368 : decode cX3_digest 368 = .ok (.getfield 22, 3) := by decide +kernel
theorem dX3_digest_371 : decode cX3_digest 371 = .ok (.iload 4, 2) := by decide +kernel
theorem dX3_digest_373 : decode cX3_digest 373 = .ok (.iaload, 1) := by decide +kernel
theorem dX3_digest_374 : decode cX3_digest 374 = .ok (.invokevirtual 134, 3) := by decide +kernel
theorem dX3_digest_377 : decode cX3_digest 377 = .ok (.goto 4, 3) := by decide +kernel
theorem dX3_digest_380 : decode cX3_digest 380 = .ok (.iconst (-1), 1) := by decide +kernel
theorem dX3_digest_381 : decode cX3_digest 381 = .ok (.i2l, 1) := by decide +kernel
theorem dX3_digest_382 : decode cX3_digest 382 = .ok (.ladd, 1) := by decide +kernel
theorem dX3_digest_383 : decode cX3_digest 383 = .ok (.ldc2_w 160, 3) := by decide +kernel
theorem dX3_digest_386 : decode cX3_digest 386 = .ok (.lmul, 1) := by decide +kernel
theorem dX3_digest_387 : decode cX3_digest 387 = .ok (.aload_n 0, 1) := by decide +kernel
theorem dX3_digest_388 : decode cX3_digest 388 = .ok (.iload 4, 2) := by decide +kernel
theorem dX3_digest_390 : decode cX3_digest 390 = .ok (.invokevirtual 155, 3) := by decide +kernel
theorem dX3_digest_393 : decode cX3_digest 393 = .ok (.i2l, 1) := by decide +kernel
theorem dX3_digest_394 : decode cX3_digest 394 = .ok (.ladd, 1) := by decide +kernel
theorem dX3_digest_395 : decode cX3_digest 395 = .ok (.lstore_n 2, 1) := by decide +kernel
theorem dX3_digest_396 : decode cX3_digest 396 = .ok (.iinc 4 1, 3) := by decide +kernel
theorem dX3_digest_399 : decode cX3_digest 399 = .ok (.goto (-126), 3) := by decide +kernel
theorem dX3_digest_402 : decode cX3_digest 402 = .ok (.lload_n 2, 1) := by decide +kernel
theorem dX3_digest_403 : decode cX3_digest 403 = .ok (.lreturn, 1) := by decide +kernel
theorem dJ9_max_7cf53_0 : decode cJ9_max_7cf53 0 = .ok (.iload_n 0, 1) := by decide +kernel
theorem dJ9_max_7cf53_1 : decode cJ9_max_7cf53 1 = .ok (.iload_n 1, 1) := by decide +kernel
theorem dJ9_max_7cf53_2 : decode cJ9_max_7cf53 2 = .ok (.if_icmp .lt 7, 3) := by decide +kernel
theorem dJ9_max_7cf53_5 : decode cJ9_max_7cf53 5 = .ok (.iload_n 0, 1) := by decide +kernel
theorem dJ9_max_7cf53_6 : decode cJ9_max_7cf53 6 = .ok (.goto 4, 3) := by decide +kernel
theorem dJ9_max_7cf53_9 : decode cJ9_max_7cf53 9 = .ok (.iload_n 1, 1) := by decide +kernel
theorem dJ9_max_7cf53_10 : decode cJ9_max_7cf53 10 = .ok (.ireturn, 1) := by decide +kernel
end
section
set_option maxRecDepth 20000 in
theorem ggL_addBatch_X2_addBatch : GoodIn wsL_addBatch wsX2_addBatch := goodIn_ca (goodIn_ca (goodIn_r _ [7, 8, 9, 10, 11, 12, 13, 14, 6, 15, 16, 17, 18, 19, 20, 21, 22, 23, 24, 25, 26, 27, 28, 29, 30, 31, 32, 33, 34, 35, 36, 37, 38, 39, 40, 41, 42, 43, 44, 45, 46] (by decide +kernel) (by decide +kernel)) (goodIn_sub (fun _ h => List.mem_cons_of_mem _ (List.mem_append_left _ (List.mem_append_right _ h))) (by decide +kernel))) (goodIn_sub (fun _ h => List.mem_cons_of_mem _ (List.mem_append_right _ h)) (by decide +kernel))
set_option maxRecDepth 20000 in
theorem gL_addBatch_X2_addBatch : GoodIn wsL_addBatch (wsV RL 7 RX2 yX2_addBatch wsX2_addBatch) := goodIn_app (goodIn_of _ (by decide +kernel)) ggL_addBatch_X2_addBatch
theorem dL_addBatch_0 : decode cL_addBatch 0 = .ok (.aload_n 3, 1) := by decide +kernel
theorem dL_addBatch_1 : decode cL_addBatch 1 = .ok (.iconst 0, 1) := by decide +kernel
theorem dL_addBatch_2 : decode cL_addBatch 2 = .ok (.aload_n 0, 1) := by decide +kernel
theorem dL_addBatch_3 : decode cL_addBatch 3 = .ok (.iload_n 1, 1) := by decide +kernel
theorem dL_addBatch_4 : decode cL_addBatch 4 = .ok (.iload_n 2, 1) := by decide +kernel
theorem dL_addBatch_5 : decode cL_addBatch 5 = .ok (.invokevirtual 7, 3) := by decide +kernel
theorem dL_addBatch_8 : decode cL_addBatch 8 = .ok (.i2l, 1) := by decide +kernel
theorem dL_addBatch_9 : decode cL_addBatch 9 = .ok (.lastore, 1) := by decide +kernel
theorem dL_addBatch_10 : decode cL_addBatch 10 = .ok (.goto 11, 3) := by decide +kernel
theorem dL_addBatch_13 : decode cL_addBatch 13 = .ok (.astore 4, 2) := by decide +kernel
theorem dL_addBatch_15 : decode cL_addBatch 15 = .ok (.iconst 1, 1) := by decide +kernel
theorem dL_addBatch_16 : decode cL_addBatch 16 = .ok (.ireturn, 1) := by decide +kernel
theorem dL_addBatch_17 : decode cL_addBatch 17 = .ok (.astore 4, 2) := by decide +kernel
theorem dL_addBatch_19 : decode cL_addBatch 19 = .ok (.iconst 2, 1) := by decide +kernel
theorem dL_addBatch_20 : decode cL_addBatch 20 = .ok (.ireturn, 1) := by decide +kernel
theorem dL_addBatch_21 : decode cL_addBatch 21 = .ok (.iconst 0, 1) := by decide +kernel
theorem dL_addBatch_22 : decode cL_addBatch 22 = .ok (.ireturn, 1) := by decide +kernel
set_option maxRecDepth 20000 in
theorem ggL_seal_X2_seal : GoodIn wsL_seal wsX2_seal := goodIn_ca (goodIn_ca (goodIn_ca (goodIn_r _ [8, 9, 10, 11, 12, 13, 14, 15, 16, 7, 17, 18, 19, 20, 21, 22, 23, 24, 25, 26, 27, 28, 29, 30, 31, 32, 33, 34, 35, 36, 37, 38, 39, 40, 41, 42, 43, 44, 45, 46, 47, 48, 49, 50, 51, 52, 53, 54, 55, 56, 57, 58, 59, 60, 61, 62, 63, 64, 65, 66, 67, 68] (by decide +kernel) (by decide +kernel)) (goodIn_sub (fun _ h => List.mem_cons_of_mem _ (List.mem_append_left _ (List.mem_append_left _ (List.mem_append_right _ h)))) (by decide +kernel))) (goodIn_sub (fun _ h => List.mem_cons_of_mem _ (List.mem_append_left _ (List.mem_append_right _ h))) (by decide +kernel))) (goodIn_sub (fun _ h => List.mem_cons_of_mem _ (List.mem_append_right _ h)) (by decide +kernel))
set_option maxRecDepth 20000 in
theorem gL_seal_X2_seal : GoodIn wsL_seal (wsV RL 17 RX2 yX2_seal wsX2_seal) := goodIn_app (goodIn_of _ (by decide +kernel)) ggL_seal_X2_seal
theorem dL_seal_0 : decode cL_seal 0 = .ok (.aload 4, 2) := by decide +kernel
theorem dL_seal_2 : decode cL_seal 2 = .ok (.iconst 0, 1) := by decide +kernel
theorem dL_seal_3 : decode cL_seal 3 = .ok (.aload_n 0, 1) := by decide +kernel
theorem dL_seal_4 : decode cL_seal 4 = .ok (.iload_n 1, 1) := by decide +kernel
theorem dL_seal_5 : decode cL_seal 5 = .ok (.iload_n 2, 1) := by decide +kernel
theorem dL_seal_6 : decode cL_seal 6 = .ok (.iload_n 3, 1) := by decide +kernel
theorem dL_seal_7 : decode cL_seal 7 = .ok (.invokevirtual 17, 3) := by decide +kernel
theorem dL_seal_10 : decode cL_seal 10 = .ok (.i2l, 1) := by decide +kernel
theorem dL_seal_11 : decode cL_seal 11 = .ok (.lastore, 1) := by decide +kernel
theorem dL_seal_12 : decode cL_seal 12 = .ok (.goto 15, 3) := by decide +kernel
theorem dL_seal_15 : decode cL_seal 15 = .ok (.astore 5, 2) := by decide +kernel
theorem dL_seal_17 : decode cL_seal 17 = .ok (.iconst 1, 1) := by decide +kernel
theorem dL_seal_18 : decode cL_seal 18 = .ok (.ireturn, 1) := by decide +kernel
theorem dL_seal_19 : decode cL_seal 19 = .ok (.astore 5, 2) := by decide +kernel
theorem dL_seal_21 : decode cL_seal 21 = .ok (.iconst 2, 1) := by decide +kernel
theorem dL_seal_22 : decode cL_seal 22 = .ok (.ireturn, 1) := by decide +kernel
theorem dL_seal_23 : decode cL_seal 23 = .ok (.astore 5, 2) := by decide +kernel
theorem dL_seal_25 : decode cL_seal 25 = .ok (.iconst 3, 1) := by decide +kernel
theorem dL_seal_26 : decode cL_seal 26 = .ok (.ireturn, 1) := by decide +kernel
theorem dL_seal_27 : decode cL_seal 27 = .ok (.iconst 0, 1) := by decide +kernel
theorem dL_seal_28 : decode cL_seal 28 = .ok (.ireturn, 1) := by decide +kernel
set_option maxRecDepth 20000 in
theorem ggL_move_X2_move : GoodIn wsL_move wsX2_move := goodIn_ca (goodIn_ca (goodIn_r _ [7, 8, 9, 10, 11, 12, 13, 6, 14, 15, 16, 17, 18, 19, 20, 21, 22, 23, 24, 25, 26, 27, 28, 29, 30, 31, 32, 33, 34, 35, 36, 37, 38, 39, 40, 41, 42, 43, 44, 45, 46, 47, 48, 49, 50, 51, 52, 53, 54, 55, 56] (by decide +kernel) (by decide +kernel)) (goodIn_sub (fun _ h => List.mem_cons_of_mem _ (List.mem_append_left _ (List.mem_append_right _ h))) (by decide +kernel))) (goodIn_sub (fun _ h => List.mem_cons_of_mem _ (List.mem_append_right _ h)) (by decide +kernel))
set_option maxRecDepth 20000 in
theorem gL_move_X2_move : GoodIn wsL_move (wsV RL 23 RX2 yX2_move wsX2_move) := goodIn_app (goodIn_of _ (by decide +kernel)) ggL_move_X2_move
theorem dL_move_0 : decode cL_move 0 = .ok (.aload_n 3, 1) := by decide +kernel
theorem dL_move_1 : decode cL_move 1 = .ok (.iconst 0, 1) := by decide +kernel
theorem dL_move_2 : decode cL_move 2 = .ok (.aload_n 0, 1) := by decide +kernel
theorem dL_move_3 : decode cL_move 3 = .ok (.iload_n 1, 1) := by decide +kernel
theorem dL_move_4 : decode cL_move 4 = .ok (.iload_n 2, 1) := by decide +kernel
theorem dL_move_5 : decode cL_move 5 = .ok (.invokevirtual 23, 3) := by decide +kernel
theorem dL_move_8 : decode cL_move 8 = .ok (.i2l, 1) := by decide +kernel
theorem dL_move_9 : decode cL_move 9 = .ok (.lastore, 1) := by decide +kernel
theorem dL_move_10 : decode cL_move 10 = .ok (.goto 11, 3) := by decide +kernel
theorem dL_move_13 : decode cL_move 13 = .ok (.astore 4, 2) := by decide +kernel
theorem dL_move_15 : decode cL_move 15 = .ok (.iconst 1, 1) := by decide +kernel
theorem dL_move_16 : decode cL_move 16 = .ok (.ireturn, 1) := by decide +kernel
theorem dL_move_17 : decode cL_move 17 = .ok (.astore 4, 2) := by decide +kernel
theorem dL_move_19 : decode cL_move 19 = .ok (.iconst 2, 1) := by decide +kernel
theorem dL_move_20 : decode cL_move 20 = .ok (.ireturn, 1) := by decide +kernel
theorem dL_move_21 : decode cL_move 21 = .ok (.iconst 0, 1) := by decide +kernel
theorem dL_move_22 : decode cL_move 22 = .ok (.ireturn, 1) := by decide +kernel
set_option maxRecDepth 20000 in
theorem ggL_setWarm_X2_setWarm : GoodIn wsL_setWarm wsX2_setWarm := goodIn_ca (goodIn_ca (goodIn_r _ [7, 8, 9, 10, 11, 12, 6, 13, 14, 15, 16, 17, 18, 19, 20, 21, 22, 23, 24, 25, 26, 27, 28, 29, 30, 31, 32, 33, 34, 35, 36, 37, 38, 39, 40, 41, 42, 43, 44, 45] (by decide +kernel) (by decide +kernel)) (goodIn_sub (fun _ h => List.mem_cons_of_mem _ (List.mem_append_left _ (List.mem_append_right _ h))) (by decide +kernel))) (goodIn_sub (fun _ h => List.mem_cons_of_mem _ (List.mem_append_right _ h)) (by decide +kernel))
set_option maxRecDepth 20000 in
theorem gL_setWarm_X2_setWarm : GoodIn wsL_setWarm (wsV RL 26 RX2 yX2_setWarm wsX2_setWarm) := goodIn_app (goodIn_of _ (by decide +kernel)) ggL_setWarm_X2_setWarm
theorem dL_setWarm_0 : decode cL_setWarm 0 = .ok (.aload_n 3, 1) := by decide +kernel
theorem dL_setWarm_1 : decode cL_setWarm 1 = .ok (.iconst 0, 1) := by decide +kernel
theorem dL_setWarm_2 : decode cL_setWarm 2 = .ok (.aload_n 0, 1) := by decide +kernel
theorem dL_setWarm_3 : decode cL_setWarm 3 = .ok (.iload_n 1, 1) := by decide +kernel
theorem dL_setWarm_4 : decode cL_setWarm 4 = .ok (.iload_n 2, 1) := by decide +kernel
theorem dL_setWarm_5 : decode cL_setWarm 5 = .ok (.invokevirtual 26, 3) := by decide +kernel
theorem dL_setWarm_8 : decode cL_setWarm 8 = .ok (.i2l, 1) := by decide +kernel
theorem dL_setWarm_9 : decode cL_setWarm 9 = .ok (.lastore, 1) := by decide +kernel
theorem dL_setWarm_10 : decode cL_setWarm 10 = .ok (.goto 11, 3) := by decide +kernel
theorem dL_setWarm_13 : decode cL_setWarm 13 = .ok (.astore 4, 2) := by decide +kernel
theorem dL_setWarm_15 : decode cL_setWarm 15 = .ok (.iconst 1, 1) := by decide +kernel
theorem dL_setWarm_16 : decode cL_setWarm 16 = .ok (.ireturn, 1) := by decide +kernel
theorem dL_setWarm_17 : decode cL_setWarm 17 = .ok (.astore 4, 2) := by decide +kernel
theorem dL_setWarm_19 : decode cL_setWarm 19 = .ok (.iconst 2, 1) := by decide +kernel
theorem dL_setWarm_20 : decode cL_setWarm 20 = .ok (.ireturn, 1) := by decide +kernel
theorem dL_setWarm_21 : decode cL_setWarm 21 = .ok (.iconst 0, 1) := by decide +kernel
theorem dL_setWarm_22 : decode cL_setWarm 22 = .ok (.ireturn, 1) := by decide +kernel
set_option maxRecDepth 20000 in
theorem ggL_setShipping_X2_setShipping : GoodIn wsL_setShipping wsX2_setShipping := goodIn_ca (goodIn_r _ [6, 7, 8, 9, 5, 10, 11, 12, 13, 14, 15, 16, 17, 18, 19, 20, 21, 22, 23, 24, 25, 26, 27, 28, 29, 30, 31, 32, 33, 34] (by decide +kernel) (by decide +kernel)) (goodIn_sub (fun _ h => List.mem_cons_of_mem _ (List.mem_append_right _ h)) (by decide +kernel))
set_option maxRecDepth 20000 in
theorem gL_setShipping_X2_setShipping : GoodIn wsL_setShipping (wsV RL 29 RX2 yX2_setShipping wsX2_setShipping) := goodIn_app (goodIn_of _ (by decide +kernel)) ggL_setShipping_X2_setShipping
theorem dL_setShipping_0 : decode cL_setShipping 0 = .ok (.aload_n 3, 1) := by decide +kernel
theorem dL_setShipping_1 : decode cL_setShipping 1 = .ok (.iconst 0, 1) := by decide +kernel
theorem dL_setShipping_2 : decode cL_setShipping 2 = .ok (.aload_n 0, 1) := by decide +kernel
theorem dL_setShipping_3 : decode cL_setShipping 3 = .ok (.iload_n 1, 1) := by decide +kernel
theorem dL_setShipping_4 : decode cL_setShipping 4 = .ok (.iload_n 2, 1) := by decide +kernel
theorem dL_setShipping_5 : decode cL_setShipping 5 = .ok (.invokevirtual 29, 3) := by decide +kernel
theorem dL_setShipping_8 : decode cL_setShipping 8 = .ok (.i2l, 1) := by decide +kernel
theorem dL_setShipping_9 : decode cL_setShipping 9 = .ok (.lastore, 1) := by decide +kernel
theorem dL_setShipping_10 : decode cL_setShipping 10 = .ok (.goto 7, 3) := by decide +kernel
theorem dL_setShipping_13 : decode cL_setShipping 13 = .ok (.astore 4, 2) := by decide +kernel
theorem dL_setShipping_15 : decode cL_setShipping 15 = .ok (.iconst 1, 1) := by decide +kernel
theorem dL_setShipping_16 : decode cL_setShipping 16 = .ok (.ireturn, 1) := by decide +kernel
theorem dL_setShipping_17 : decode cL_setShipping 17 = .ok (.iconst 0, 1) := by decide +kernel
theorem dL_setShipping_18 : decode cL_setShipping 18 = .ok (.ireturn, 1) := by decide +kernel
set_option maxRecDepth 20000 in
theorem ggL_recall_X2_recall : GoodIn wsL_recall wsX2_recall := goodIn_ca (goodIn_ca (goodIn_r _ [7, 8, 9, 10, 11, 12, 13, 6, 14, 15, 16, 17, 18, 19, 20, 21, 22, 23, 24, 25, 26, 27, 28, 29, 30, 31, 32, 33, 34, 35, 36, 37, 38, 39, 40, 41, 42, 43, 44, 45, 46, 47, 48, 49, 50, 51, 52, 53, 54, 55, 56, 57, 58, 59] (by decide +kernel) (by decide +kernel)) (goodIn_sub (fun _ h => List.mem_cons_of_mem _ (List.mem_append_left _ (List.mem_append_right _ h))) (by decide +kernel))) (goodIn_sub (fun _ h => List.mem_cons_of_mem _ (List.mem_append_right _ h)) (by decide +kernel))
set_option maxRecDepth 20000 in
theorem gL_recall_X2_recall : GoodIn wsL_recall (wsV RL 32 RX2 yX2_recall wsX2_recall) := goodIn_app (goodIn_of _ (by decide +kernel)) ggL_recall_X2_recall
theorem dL_recall_0 : decode cL_recall 0 = .ok (.aload_n 2, 1) := by decide +kernel
theorem dL_recall_1 : decode cL_recall 1 = .ok (.iconst 0, 1) := by decide +kernel
theorem dL_recall_2 : decode cL_recall 2 = .ok (.aload_n 0, 1) := by decide +kernel
theorem dL_recall_3 : decode cL_recall 3 = .ok (.iload_n 1, 1) := by decide +kernel
theorem dL_recall_4 : decode cL_recall 4 = .ok (.invokevirtual 32, 3) := by decide +kernel
theorem dL_recall_7 : decode cL_recall 7 = .ok (.i2l, 1) := by decide +kernel
theorem dL_recall_8 : decode cL_recall 8 = .ok (.lastore, 1) := by decide +kernel
theorem dL_recall_9 : decode cL_recall 9 = .ok (.goto 9, 3) := by decide +kernel
theorem dL_recall_12 : decode cL_recall 12 = .ok (.astore_n 3, 1) := by decide +kernel
theorem dL_recall_13 : decode cL_recall 13 = .ok (.iconst 1, 1) := by decide +kernel
theorem dL_recall_14 : decode cL_recall 14 = .ok (.ireturn, 1) := by decide +kernel
theorem dL_recall_15 : decode cL_recall 15 = .ok (.astore_n 3, 1) := by decide +kernel
theorem dL_recall_16 : decode cL_recall 16 = .ok (.iconst 2, 1) := by decide +kernel
theorem dL_recall_17 : decode cL_recall 17 = .ok (.ireturn, 1) := by decide +kernel
theorem dL_recall_18 : decode cL_recall 18 = .ok (.iconst 0, 1) := by decide +kernel
theorem dL_recall_19 : decode cL_recall 19 = .ok (.ireturn, 1) := by decide +kernel
set_option maxRecDepth 20000 in
theorem ggL_pass_X2_pass : GoodIn wsL_pass wsX2_pass := goodIn_ca (goodIn_r _ [6, 7, 8, 9, 10, 11, 5, 12, 13, 14, 15, 16, 17, 18, 19, 20, 21, 22, 23, 24, 25, 26, 27, 28, 29, 30, 31, 32, 33, 34, 35, 36, 37, 38, 39, 40, 41, 42, 43, 44, 45, 46, 47, 48, 49, 50, 51, 52, 53, 54, 55, 56, 57, 58, 59, 60, 61, 62, 63, 64, 65, 66, 67, 68, 69, 70, 71, 72, 73, 74, 75, 76, 77, 78, 79, 80, 81, 82, 83, 84, 85, 86, 87, 88, 89, 90, 91, 92, 93, 94, 95, 96, 97, 98, 99, 100, 101, 102, 103, 104, 105] (by decide +kernel) (by decide +kernel)) (goodIn_sub (fun _ h => List.mem_cons_of_mem _ (List.mem_append_right _ h)) (by decide +kernel))
set_option maxRecDepth 20000 in
theorem gL_pass_X2_pass : GoodIn wsL_pass (wsV RL 36 RX2 yX2_pass wsX2_pass) := goodIn_app (goodIn_of _ (by decide +kernel)) ggL_pass_X2_pass
theorem dL_pass_0 : decode cL_pass 0 = .ok (.aload_n 2, 1) := by decide +kernel
theorem dL_pass_1 : decode cL_pass 1 = .ok (.iconst 0, 1) := by decide +kernel
theorem dL_pass_2 : decode cL_pass 2 = .ok (.aload_n 0, 1) := by decide +kernel
theorem dL_pass_3 : decode cL_pass 3 = .ok (.iload_n 1, 1) := by decide +kernel
theorem dL_pass_4 : decode cL_pass 4 = .ok (.invokevirtual 36, 3) := by decide +kernel
theorem dL_pass_7 : decode cL_pass 7 = .ok (.i2l, 1) := by decide +kernel
theorem dL_pass_8 : decode cL_pass 8 = .ok (.lastore, 1) := by decide +kernel
theorem dL_pass_9 : decode cL_pass 9 = .ok (.goto 6, 3) := by decide +kernel
theorem dL_pass_12 : decode cL_pass 12 = .ok (.astore_n 3, 1) := by decide +kernel
theorem dL_pass_13 : decode cL_pass 13 = .ok (.iconst 1, 1) := by decide +kernel
theorem dL_pass_14 : decode cL_pass 14 = .ok (.ireturn, 1) := by decide +kernel
theorem dL_pass_15 : decode cL_pass 15 = .ok (.iconst 0, 1) := by decide +kernel
theorem dL_pass_16 : decode cL_pass 16 = .ok (.ireturn, 1) := by decide +kernel
set_option maxRecDepth 20000 in
theorem ggL_standOn_X2_standOn : GoodIn wsL_standOn wsX2_standOn := goodIn_ca (goodIn_r _ [6, 7, 8, 9, 5, 10, 11, 12, 13, 14, 15, 16, 17, 18, 19, 20, 21, 22, 23, 24, 25, 26, 27, 28, 29, 30, 31, 32, 33, 34, 35, 36, 37, 38, 39, 40, 41, 42, 43, 44, 45, 46, 47, 48, 49] (by decide +kernel) (by decide +kernel)) (goodIn_sub (fun _ h => List.mem_cons_of_mem _ (List.mem_append_right _ h)) (by decide +kernel))
set_option maxRecDepth 20000 in
theorem gL_standOn_X2_standOn : GoodIn wsL_standOn (wsV RL 39 RX2 yX2_standOn wsX2_standOn) := goodIn_app (goodIn_of _ (by decide +kernel)) ggL_standOn_X2_standOn
theorem dL_standOn_0 : decode cL_standOn 0 = .ok (.aload_n 2, 1) := by decide +kernel
theorem dL_standOn_1 : decode cL_standOn 1 = .ok (.iconst 0, 1) := by decide +kernel
theorem dL_standOn_2 : decode cL_standOn 2 = .ok (.aload_n 0, 1) := by decide +kernel
theorem dL_standOn_3 : decode cL_standOn 3 = .ok (.iload_n 1, 1) := by decide +kernel
theorem dL_standOn_4 : decode cL_standOn 4 = .ok (.invokevirtual 39, 3) := by decide +kernel
theorem dL_standOn_7 : decode cL_standOn 7 = .ok (.i2l, 1) := by decide +kernel
theorem dL_standOn_8 : decode cL_standOn 8 = .ok (.lastore, 1) := by decide +kernel
theorem dL_standOn_9 : decode cL_standOn 9 = .ok (.goto 6, 3) := by decide +kernel
theorem dL_standOn_12 : decode cL_standOn 12 = .ok (.astore_n 3, 1) := by decide +kernel
theorem dL_standOn_13 : decode cL_standOn 13 = .ok (.iconst 1, 1) := by decide +kernel
theorem dL_standOn_14 : decode cL_standOn 14 = .ok (.ireturn, 1) := by decide +kernel
theorem dL_standOn_15 : decode cL_standOn 15 = .ok (.iconst 0, 1) := by decide +kernel
theorem dL_standOn_16 : decode cL_standOn 16 = .ok (.ireturn, 1) := by decide +kernel
set_option maxRecDepth 20000 in
theorem ggL_warmOf_X2_warmOf : GoodIn wsL_warmOf wsX2_warmOf := goodIn_ca (goodIn_r _ [6, 7, 8, 9, 5, 10, 11, 12, 13, 14, 15, 16, 17, 18, 19, 20, 21, 22, 23, 24, 25, 26, 27, 28, 29, 30, 31, 32, 33, 34, 35, 36, 37, 38] (by decide +kernel) (by decide +kernel)) (goodIn_sub (fun _ h => List.mem_cons_of_mem _ (List.mem_append_right _ h)) (by decide +kernel))
set_option maxRecDepth 20000 in
theorem gL_warmOf_X2_warmOf : GoodIn wsL_warmOf (wsV RL 42 RX2 yX2_warmOf wsX2_warmOf) := goodIn_app (goodIn_of _ (by decide +kernel)) ggL_warmOf_X2_warmOf
theorem dL_warmOf_0 : decode cL_warmOf 0 = .ok (.aload_n 2, 1) := by decide +kernel
theorem dL_warmOf_1 : decode cL_warmOf 1 = .ok (.iconst 0, 1) := by decide +kernel
theorem dL_warmOf_2 : decode cL_warmOf 2 = .ok (.aload_n 0, 1) := by decide +kernel
theorem dL_warmOf_3 : decode cL_warmOf 3 = .ok (.iload_n 1, 1) := by decide +kernel
theorem dL_warmOf_4 : decode cL_warmOf 4 = .ok (.invokevirtual 42, 3) := by decide +kernel
theorem dL_warmOf_7 : decode cL_warmOf 7 = .ok (.i2l, 1) := by decide +kernel
theorem dL_warmOf_8 : decode cL_warmOf 8 = .ok (.lastore, 1) := by decide +kernel
theorem dL_warmOf_9 : decode cL_warmOf 9 = .ok (.goto 6, 3) := by decide +kernel
theorem dL_warmOf_12 : decode cL_warmOf 12 = .ok (.astore_n 3, 1) := by decide +kernel
theorem dL_warmOf_13 : decode cL_warmOf 13 = .ok (.iconst 1, 1) := by decide +kernel
theorem dL_warmOf_14 : decode cL_warmOf 14 = .ok (.ireturn, 1) := by decide +kernel
theorem dL_warmOf_15 : decode cL_warmOf 15 = .ok (.iconst 0, 1) := by decide +kernel
theorem dL_warmOf_16 : decode cL_warmOf 16 = .ok (.ireturn, 1) := by decide +kernel
set_option maxRecDepth 20000 in
theorem ggL_batchOf_X2_batchOf : GoodIn wsL_batchOf wsX2_batchOf := goodIn_ca (goodIn_r _ [6, 7, 8, 9, 10, 5, 11, 12, 13, 14, 15, 16, 17, 18, 19, 20, 21, 22, 23, 24, 25, 26, 27, 28, 29, 30, 31, 32, 33, 34, 35, 36, 37, 38, 39] (by decide +kernel) (by decide +kernel)) (goodIn_sub (fun _ h => List.mem_cons_of_mem _ (List.mem_append_right _ h)) (by decide +kernel))
set_option maxRecDepth 20000 in
theorem gL_batchOf_X2_batchOf : GoodIn wsL_batchOf (wsV RL 45 RX2 yX2_batchOf wsX2_batchOf) := goodIn_app (goodIn_of _ (by decide +kernel)) ggL_batchOf_X2_batchOf
theorem dL_batchOf_0 : decode cL_batchOf 0 = .ok (.aload_n 2, 1) := by decide +kernel
theorem dL_batchOf_1 : decode cL_batchOf 1 = .ok (.iconst 0, 1) := by decide +kernel
theorem dL_batchOf_2 : decode cL_batchOf 2 = .ok (.aload_n 0, 1) := by decide +kernel
theorem dL_batchOf_3 : decode cL_batchOf 3 = .ok (.iload_n 1, 1) := by decide +kernel
theorem dL_batchOf_4 : decode cL_batchOf 4 = .ok (.invokevirtual 45, 3) := by decide +kernel
theorem dL_batchOf_7 : decode cL_batchOf 7 = .ok (.i2l, 1) := by decide +kernel
theorem dL_batchOf_8 : decode cL_batchOf 8 = .ok (.lastore, 1) := by decide +kernel
theorem dL_batchOf_9 : decode cL_batchOf 9 = .ok (.goto 6, 3) := by decide +kernel
theorem dL_batchOf_12 : decode cL_batchOf 12 = .ok (.astore_n 3, 1) := by decide +kernel
theorem dL_batchOf_13 : decode cL_batchOf 13 = .ok (.iconst 1, 1) := by decide +kernel
theorem dL_batchOf_14 : decode cL_batchOf 14 = .ok (.ireturn, 1) := by decide +kernel
theorem dL_batchOf_15 : decode cL_batchOf 15 = .ok (.iconst 0, 1) := by decide +kernel
theorem dL_batchOf_16 : decode cL_batchOf 16 = .ok (.ireturn, 1) := by decide +kernel
set_option maxRecDepth 20000 in
theorem ggL_shelfOf_X2_shelfOf : GoodIn wsL_shelfOf wsX2_shelfOf := goodIn_ca (goodIn_r _ [6, 7, 8, 9, 10, 5, 11, 12, 13, 14, 15, 16, 17, 18, 19, 20, 21, 22, 23, 24, 25, 26, 27, 28, 29, 30, 31, 32, 33, 34, 35, 36, 37, 38, 39, 40, 41, 42, 43, 44, 45, 46] (by decide +kernel) (by decide +kernel)) (goodIn_sub (fun _ h => List.mem_cons_of_mem _ (List.mem_append_right _ h)) (by decide +kernel))
set_option maxRecDepth 20000 in
theorem gL_shelfOf_X2_shelfOf : GoodIn wsL_shelfOf (wsV RL 48 RX2 yX2_shelfOf wsX2_shelfOf) := goodIn_app (goodIn_of _ (by decide +kernel)) ggL_shelfOf_X2_shelfOf
theorem dL_shelfOf_0 : decode cL_shelfOf 0 = .ok (.aload_n 2, 1) := by decide +kernel
theorem dL_shelfOf_1 : decode cL_shelfOf 1 = .ok (.iconst 0, 1) := by decide +kernel
theorem dL_shelfOf_2 : decode cL_shelfOf 2 = .ok (.aload_n 0, 1) := by decide +kernel
theorem dL_shelfOf_3 : decode cL_shelfOf 3 = .ok (.iload_n 1, 1) := by decide +kernel
theorem dL_shelfOf_4 : decode cL_shelfOf 4 = .ok (.invokevirtual 48, 3) := by decide +kernel
theorem dL_shelfOf_7 : decode cL_shelfOf 7 = .ok (.i2l, 1) := by decide +kernel
theorem dL_shelfOf_8 : decode cL_shelfOf 8 = .ok (.lastore, 1) := by decide +kernel
theorem dL_shelfOf_9 : decode cL_shelfOf 9 = .ok (.goto 6, 3) := by decide +kernel
theorem dL_shelfOf_12 : decode cL_shelfOf 12 = .ok (.astore_n 3, 1) := by decide +kernel
theorem dL_shelfOf_13 : decode cL_shelfOf 13 = .ok (.iconst 1, 1) := by decide +kernel
theorem dL_shelfOf_14 : decode cL_shelfOf 14 = .ok (.ireturn, 1) := by decide +kernel
theorem dL_shelfOf_15 : decode cL_shelfOf 15 = .ok (.iconst 0, 1) := by decide +kernel
theorem dL_shelfOf_16 : decode cL_shelfOf 16 = .ok (.ireturn, 1) := by decide +kernel
set_option maxRecDepth 20000 in
theorem ggL_vacuumOf_X2_vacuumOf : GoodIn wsL_vacuumOf wsX2_vacuumOf := goodIn_ca (goodIn_r _ [6, 7, 8, 9, 10, 5, 11, 12, 13, 14, 15, 16, 17, 18, 19, 20, 21, 22, 23, 24, 25, 26, 27, 28, 29, 30, 31, 32, 33, 34, 35, 36, 37, 38, 39] (by decide +kernel) (by decide +kernel)) (goodIn_sub (fun _ h => List.mem_cons_of_mem _ (List.mem_append_right _ h)) (by decide +kernel))
set_option maxRecDepth 20000 in
theorem gL_vacuumOf_X2_vacuumOf : GoodIn wsL_vacuumOf (wsV RL 51 RX2 yX2_vacuumOf wsX2_vacuumOf) := goodIn_app (goodIn_of _ (by decide +kernel)) ggL_vacuumOf_X2_vacuumOf
theorem dL_vacuumOf_0 : decode cL_vacuumOf 0 = .ok (.aload_n 2, 1) := by decide +kernel
theorem dL_vacuumOf_1 : decode cL_vacuumOf 1 = .ok (.iconst 0, 1) := by decide +kernel
theorem dL_vacuumOf_2 : decode cL_vacuumOf 2 = .ok (.aload_n 0, 1) := by decide +kernel
theorem dL_vacuumOf_3 : decode cL_vacuumOf 3 = .ok (.iload_n 1, 1) := by decide +kernel
theorem dL_vacuumOf_4 : decode cL_vacuumOf 4 = .ok (.invokevirtual 51, 3) := by decide +kernel
theorem dL_vacuumOf_7 : decode cL_vacuumOf 7 = .ok (.i2l, 1) := by decide +kernel
theorem dL_vacuumOf_8 : decode cL_vacuumOf 8 = .ok (.lastore, 1) := by decide +kernel
theorem dL_vacuumOf_9 : decode cL_vacuumOf 9 = .ok (.goto 6, 3) := by decide +kernel
theorem dL_vacuumOf_12 : decode cL_vacuumOf 12 = .ok (.astore_n 3, 1) := by decide +kernel
theorem dL_vacuumOf_13 : decode cL_vacuumOf 13 = .ok (.iconst 1, 1) := by decide +kernel
theorem dL_vacuumOf_14 : decode cL_vacuumOf 14 = .ok (.ireturn, 1) := by decide +kernel
theorem dL_vacuumOf_15 : decode cL_vacuumOf 15 = .ok (.iconst 0, 1) := by decide +kernel
theorem dL_vacuumOf_16 : decode cL_vacuumOf 16 = .ok (.ireturn, 1) := by decide +kernel
set_option maxRecDepth 20000 in
theorem ggL_isShipped_X2_isShipped : GoodIn wsL_isShipped wsX2_isShipped := goodIn_ca (goodIn_r _ [6, 7, 8, 9, 10, 5, 11, 12, 13, 14, 15, 16, 17, 18, 19, 20, 21, 22, 23, 24, 25, 26, 27, 28, 29, 30, 31, 32, 33, 34, 35, 36, 37, 38, 39] (by decide +kernel) (by decide +kernel)) (goodIn_sub (fun _ h => List.mem_cons_of_mem _ (List.mem_append_right _ h)) (by decide +kernel))
set_option maxRecDepth 20000 in
theorem gL_isShipped_X2_isShipped : GoodIn wsL_isShipped (wsV RL 54 RX2 yX2_isShipped wsX2_isShipped) := goodIn_app (goodIn_of _ (by decide +kernel)) ggL_isShipped_X2_isShipped
theorem dL_isShipped_0 : decode cL_isShipped 0 = .ok (.aload_n 2, 1) := by decide +kernel
theorem dL_isShipped_1 : decode cL_isShipped 1 = .ok (.iconst 0, 1) := by decide +kernel
theorem dL_isShipped_2 : decode cL_isShipped 2 = .ok (.aload_n 0, 1) := by decide +kernel
theorem dL_isShipped_3 : decode cL_isShipped 3 = .ok (.iload_n 1, 1) := by decide +kernel
theorem dL_isShipped_4 : decode cL_isShipped 4 = .ok (.invokevirtual 54, 3) := by decide +kernel
theorem dL_isShipped_7 : decode cL_isShipped 7 = .ok (.ifCond .eq 7, 3) := by decide +kernel
theorem dL_isShipped_10 : decode cL_isShipped 10 = .ok (.lconst 1, 1) := by decide +kernel
theorem dL_isShipped_11 : decode cL_isShipped 11 = .ok (.goto 4, 3) := by decide +kernel
theorem dL_isShipped_14 : decode cL_isShipped 14 = .ok (.lconst 0, 1) := by decide +kernel
theorem dL_isShipped_15 : decode cL_isShipped 15 = .ok (.lastore, 1) := by decide +kernel
theorem dL_isShipped_16 : decode cL_isShipped 16 = .ok (.goto 6, 3) := by decide +kernel
theorem dL_isShipped_19 : decode cL_isShipped 19 = .ok (.astore_n 3, 1) := by decide +kernel
theorem dL_isShipped_20 : decode cL_isShipped 20 = .ok (.iconst 1, 1) := by decide +kernel
theorem dL_isShipped_21 : decode cL_isShipped 21 = .ok (.ireturn, 1) := by decide +kernel
theorem dL_isShipped_22 : decode cL_isShipped 22 = .ok (.iconst 0, 1) := by decide +kernel
theorem dL_isShipped_23 : decode cL_isShipped 23 = .ok (.ireturn, 1) := by decide +kernel
set_option maxRecDepth 20000 in
theorem ggL_isLost_X2_isLost : GoodIn wsL_isLost wsX2_isLost := goodIn_ca (goodIn_r _ [6, 7, 8, 9, 10, 5, 11, 12, 13, 14, 15, 16, 17, 18, 19, 20, 21, 22, 23, 24, 25, 26, 27, 28, 29, 30, 31, 32, 33, 34, 35, 36, 37, 38, 39] (by decide +kernel) (by decide +kernel)) (goodIn_sub (fun _ h => List.mem_cons_of_mem _ (List.mem_append_right _ h)) (by decide +kernel))
set_option maxRecDepth 20000 in
theorem gL_isLost_X2_isLost : GoodIn wsL_isLost (wsV RL 58 RX2 yX2_isLost wsX2_isLost) := goodIn_app (goodIn_of _ (by decide +kernel)) ggL_isLost_X2_isLost
theorem dL_isLost_0 : decode cL_isLost 0 = .ok (.aload_n 2, 1) := by decide +kernel
theorem dL_isLost_1 : decode cL_isLost 1 = .ok (.iconst 0, 1) := by decide +kernel
theorem dL_isLost_2 : decode cL_isLost 2 = .ok (.aload_n 0, 1) := by decide +kernel
theorem dL_isLost_3 : decode cL_isLost 3 = .ok (.iload_n 1, 1) := by decide +kernel
theorem dL_isLost_4 : decode cL_isLost 4 = .ok (.invokevirtual 58, 3) := by decide +kernel
theorem dL_isLost_7 : decode cL_isLost 7 = .ok (.ifCond .eq 7, 3) := by decide +kernel
theorem dL_isLost_10 : decode cL_isLost 10 = .ok (.lconst 1, 1) := by decide +kernel
theorem dL_isLost_11 : decode cL_isLost 11 = .ok (.goto 4, 3) := by decide +kernel
theorem dL_isLost_14 : decode cL_isLost 14 = .ok (.lconst 0, 1) := by decide +kernel
theorem dL_isLost_15 : decode cL_isLost 15 = .ok (.lastore, 1) := by decide +kernel
theorem dL_isLost_16 : decode cL_isLost 16 = .ok (.goto 6, 3) := by decide +kernel
theorem dL_isLost_19 : decode cL_isLost 19 = .ok (.astore_n 3, 1) := by decide +kernel
theorem dL_isLost_20 : decode cL_isLost 20 = .ok (.iconst 1, 1) := by decide +kernel
theorem dL_isLost_21 : decode cL_isLost 21 = .ok (.ireturn, 1) := by decide +kernel
theorem dL_isLost_22 : decode cL_isLost 22 = .ok (.iconst 0, 1) := by decide +kernel
theorem dL_isLost_23 : decode cL_isLost 23 = .ok (.ireturn, 1) := by decide +kernel
set_option maxRecDepth 20000 in
theorem ggL_swelledOf_X2_swelledOf : GoodIn wsL_swelledOf wsX2_swelledOf := goodIn_ca (goodIn_r _ [6, 7, 8, 9, 10, 5, 11, 12, 13, 14, 15, 16, 17, 18, 19, 20, 21, 22, 23, 24, 25, 26, 27, 28, 29, 30, 31, 32, 33, 34, 35, 36, 37, 38, 39] (by decide +kernel) (by decide +kernel)) (goodIn_sub (fun _ h => List.mem_cons_of_mem _ (List.mem_append_right _ h)) (by decide +kernel))
set_option maxRecDepth 20000 in
theorem gL_swelledOf_X2_swelledOf : GoodIn wsL_swelledOf (wsV RL 61 RX2 yX2_swelledOf wsX2_swelledOf) := goodIn_app (goodIn_of _ (by decide +kernel)) ggL_swelledOf_X2_swelledOf
theorem dL_swelledOf_0 : decode cL_swelledOf 0 = .ok (.aload_n 2, 1) := by decide +kernel
theorem dL_swelledOf_1 : decode cL_swelledOf 1 = .ok (.iconst 0, 1) := by decide +kernel
theorem dL_swelledOf_2 : decode cL_swelledOf 2 = .ok (.aload_n 0, 1) := by decide +kernel
theorem dL_swelledOf_3 : decode cL_swelledOf 3 = .ok (.iload_n 1, 1) := by decide +kernel
theorem dL_swelledOf_4 : decode cL_swelledOf 4 = .ok (.invokevirtual 61, 3) := by decide +kernel
theorem dL_swelledOf_7 : decode cL_swelledOf 7 = .ok (.i2l, 1) := by decide +kernel
theorem dL_swelledOf_8 : decode cL_swelledOf 8 = .ok (.lastore, 1) := by decide +kernel
theorem dL_swelledOf_9 : decode cL_swelledOf 9 = .ok (.goto 6, 3) := by decide +kernel
theorem dL_swelledOf_12 : decode cL_swelledOf 12 = .ok (.astore_n 3, 1) := by decide +kernel
theorem dL_swelledOf_13 : decode cL_swelledOf 13 = .ok (.iconst 1, 1) := by decide +kernel
theorem dL_swelledOf_14 : decode cL_swelledOf 14 = .ok (.ireturn, 1) := by decide +kernel
theorem dL_swelledOf_15 : decode cL_swelledOf 15 = .ok (.iconst 0, 1) := by decide +kernel
theorem dL_swelledOf_16 : decode cL_swelledOf 16 = .ok (.ireturn, 1) := by decide +kernel
set_option maxRecDepth 20000 in
theorem ggL_leftOf_X2_leftOf : GoodIn wsL_leftOf wsX2_leftOf := goodIn_ca (goodIn_r _ [6, 7, 8, 9, 10, 5, 11, 12, 13, 14, 15, 16, 17, 18, 19, 20, 21, 22, 23, 24, 25, 26, 27, 28, 29, 30, 31, 32, 33, 34, 35, 36, 37, 38, 39, 40, 41, 42, 43, 44, 45, 46, 47, 48, 49, 50] (by decide +kernel) (by decide +kernel)) (goodIn_sub (fun _ h => List.mem_cons_of_mem _ (List.mem_append_right _ h)) (by decide +kernel))
set_option maxRecDepth 20000 in
theorem gL_leftOf_X2_leftOf : GoodIn wsL_leftOf (wsV RL 64 RX2 yX2_leftOf wsX2_leftOf) := goodIn_app (goodIn_of _ (by decide +kernel)) ggL_leftOf_X2_leftOf
theorem dL_leftOf_0 : decode cL_leftOf 0 = .ok (.aload_n 2, 1) := by decide +kernel
theorem dL_leftOf_1 : decode cL_leftOf 1 = .ok (.iconst 0, 1) := by decide +kernel
theorem dL_leftOf_2 : decode cL_leftOf 2 = .ok (.aload_n 0, 1) := by decide +kernel
theorem dL_leftOf_3 : decode cL_leftOf 3 = .ok (.iload_n 1, 1) := by decide +kernel
theorem dL_leftOf_4 : decode cL_leftOf 4 = .ok (.invokevirtual 64, 3) := by decide +kernel
theorem dL_leftOf_7 : decode cL_leftOf 7 = .ok (.i2l, 1) := by decide +kernel
theorem dL_leftOf_8 : decode cL_leftOf 8 = .ok (.lastore, 1) := by decide +kernel
theorem dL_leftOf_9 : decode cL_leftOf 9 = .ok (.goto 6, 3) := by decide +kernel
theorem dL_leftOf_12 : decode cL_leftOf 12 = .ok (.astore_n 3, 1) := by decide +kernel
theorem dL_leftOf_13 : decode cL_leftOf 13 = .ok (.iconst 1, 1) := by decide +kernel
theorem dL_leftOf_14 : decode cL_leftOf 14 = .ok (.ireturn, 1) := by decide +kernel
theorem dL_leftOf_15 : decode cL_leftOf 15 = .ok (.iconst 0, 1) := by decide +kernel
theorem dL_leftOf_16 : decode cL_leftOf 16 = .ok (.ireturn, 1) := by decide +kernel
set_option maxRecDepth 20000 in
theorem ggL_isRecalled_X2_isRecalled : GoodIn wsL_isRecalled wsX2_isRecalled := goodIn_ca (goodIn_r _ [6, 7, 8, 9, 10, 5, 11, 12, 13, 14, 15, 16, 17, 18, 19, 20, 21, 22, 23, 24, 25, 26, 27, 28, 29, 30, 31, 32, 33, 34, 35, 36, 37, 38, 39, 40, 41, 42, 43, 44, 45] (by decide +kernel) (by decide +kernel)) (goodIn_sub (fun _ h => List.mem_cons_of_mem _ (List.mem_append_right _ h)) (by decide +kernel))
set_option maxRecDepth 20000 in
theorem gL_isRecalled_X2_isRecalled : GoodIn wsL_isRecalled (wsV RL 67 RX2 yX2_isRecalled wsX2_isRecalled) := goodIn_app (goodIn_of _ (by decide +kernel)) ggL_isRecalled_X2_isRecalled
theorem dL_isRecalled_0 : decode cL_isRecalled 0 = .ok (.aload_n 2, 1) := by decide +kernel
theorem dL_isRecalled_1 : decode cL_isRecalled 1 = .ok (.iconst 0, 1) := by decide +kernel
theorem dL_isRecalled_2 : decode cL_isRecalled 2 = .ok (.aload_n 0, 1) := by decide +kernel
theorem dL_isRecalled_3 : decode cL_isRecalled 3 = .ok (.iload_n 1, 1) := by decide +kernel
theorem dL_isRecalled_4 : decode cL_isRecalled 4 = .ok (.invokevirtual 67, 3) := by decide +kernel
theorem dL_isRecalled_7 : decode cL_isRecalled 7 = .ok (.ifCond .eq 7, 3) := by decide +kernel
theorem dL_isRecalled_10 : decode cL_isRecalled 10 = .ok (.lconst 1, 1) := by decide +kernel
theorem dL_isRecalled_11 : decode cL_isRecalled 11 = .ok (.goto 4, 3) := by decide +kernel
theorem dL_isRecalled_14 : decode cL_isRecalled 14 = .ok (.lconst 0, 1) := by decide +kernel
theorem dL_isRecalled_15 : decode cL_isRecalled 15 = .ok (.lastore, 1) := by decide +kernel
theorem dL_isRecalled_16 : decode cL_isRecalled 16 = .ok (.goto 6, 3) := by decide +kernel
theorem dL_isRecalled_19 : decode cL_isRecalled 19 = .ok (.astore_n 3, 1) := by decide +kernel
theorem dL_isRecalled_20 : decode cL_isRecalled 20 = .ok (.iconst 1, 1) := by decide +kernel
theorem dL_isRecalled_21 : decode cL_isRecalled 21 = .ok (.ireturn, 1) := by decide +kernel
theorem dL_isRecalled_22 : decode cL_isRecalled 22 = .ok (.iconst 0, 1) := by decide +kernel
theorem dL_isRecalled_23 : decode cL_isRecalled 23 = .ok (.ireturn, 1) := by decide +kernel
set_option maxRecDepth 20000 in
theorem ggL_first_X2_first : GoodIn wsL_first wsX2_first := goodIn_ca (goodIn_r _ [6, 7, 8, 9, 5, 10, 11, 12, 13, 14, 15, 16, 17, 18, 19, 20, 21, 22, 23, 24, 25, 26, 27, 28, 29, 30, 31, 32, 33, 34, 35, 36, 37, 38, 39, 40, 41, 42, 43, 44, 45, 46, 47, 48, 49, 50, 51, 52, 53, 54, 55, 56] (by decide +kernel) (by decide +kernel)) (goodIn_sub (fun _ h => List.mem_cons_of_mem _ (List.mem_append_right _ h)) (by decide +kernel))
set_option maxRecDepth 20000 in
theorem gL_first_X2_first : GoodIn wsL_first (wsV RL 70 RX2 yX2_first wsX2_first) := goodIn_app (goodIn_of _ (by decide +kernel)) ggL_first_X2_first
theorem dL_first_0 : decode cL_first 0 = .ok (.aload_n 2, 1) := by decide +kernel
theorem dL_first_1 : decode cL_first 1 = .ok (.iconst 0, 1) := by decide +kernel
theorem dL_first_2 : decode cL_first 2 = .ok (.aload_n 0, 1) := by decide +kernel
theorem dL_first_3 : decode cL_first 3 = .ok (.iload_n 1, 1) := by decide +kernel
theorem dL_first_4 : decode cL_first 4 = .ok (.invokevirtual 70, 3) := by decide +kernel
theorem dL_first_7 : decode cL_first 7 = .ok (.i2l, 1) := by decide +kernel
theorem dL_first_8 : decode cL_first 8 = .ok (.lastore, 1) := by decide +kernel
theorem dL_first_9 : decode cL_first 9 = .ok (.goto 6, 3) := by decide +kernel
theorem dL_first_12 : decode cL_first 12 = .ok (.astore_n 3, 1) := by decide +kernel
theorem dL_first_13 : decode cL_first 13 = .ok (.iconst 1, 1) := by decide +kernel
theorem dL_first_14 : decode cL_first 14 = .ok (.ireturn, 1) := by decide +kernel
theorem dL_first_15 : decode cL_first 15 = .ok (.iconst 0, 1) := by decide +kernel
theorem dL_first_16 : decode cL_first 16 = .ok (.ireturn, 1) := by decide +kernel
set_option maxRecDepth 20000 in
theorem ggL_placeBy_X2_placeBy : GoodIn wsL_placeBy wsX2_placeBy := goodIn_ca (goodIn_ca (goodIn_r _ [7, 8, 9, 10, 11, 6, 12, 13, 14, 15, 16, 17, 18, 19, 20, 21, 22, 23, 24, 25, 26, 27, 28, 29, 30, 31, 32, 33, 34, 35, 36, 37, 38, 39, 40, 41, 42, 43, 44, 45, 46, 47, 48, 49, 50, 51, 52, 53, 54, 55, 56, 57, 58, 59, 60, 61, 62, 63, 64] (by decide +kernel) (by decide +kernel)) (goodIn_sub (fun _ h => List.mem_cons_of_mem _ (List.mem_append_left _ (List.mem_append_right _ h))) (by decide +kernel))) (goodIn_sub (fun _ h => List.mem_cons_of_mem _ (List.mem_append_right _ h)) (by decide +kernel))
set_option maxRecDepth 20000 in
theorem gL_placeBy_X2_placeBy : GoodIn wsL_placeBy (wsV RL 73 RX2 yX2_placeBy wsX2_placeBy) := goodIn_app (goodIn_of _ (by decide +kernel)) ggL_placeBy_X2_placeBy
theorem dL_placeBy_0 : decode cL_placeBy 0 = .ok (.aload_n 3, 1) := by decide +kernel
theorem dL_placeBy_1 : decode cL_placeBy 1 = .ok (.iconst 0, 1) := by decide +kernel
theorem dL_placeBy_2 : decode cL_placeBy 2 = .ok (.aload_n 0, 1) := by decide +kernel
theorem dL_placeBy_3 : decode cL_placeBy 3 = .ok (.iload_n 1, 1) := by decide +kernel
theorem dL_placeBy_4 : decode cL_placeBy 4 = .ok (.iload_n 2, 1) := by decide +kernel
theorem dL_placeBy_5 : decode cL_placeBy 5 = .ok (.invokevirtual 73, 3) := by decide +kernel
theorem dL_placeBy_8 : decode cL_placeBy 8 = .ok (.i2l, 1) := by decide +kernel
theorem dL_placeBy_9 : decode cL_placeBy 9 = .ok (.lastore, 1) := by decide +kernel
theorem dL_placeBy_10 : decode cL_placeBy 10 = .ok (.goto 11, 3) := by decide +kernel
theorem dL_placeBy_13 : decode cL_placeBy 13 = .ok (.astore 4, 2) := by decide +kernel
theorem dL_placeBy_15 : decode cL_placeBy 15 = .ok (.iconst 1, 1) := by decide +kernel
theorem dL_placeBy_16 : decode cL_placeBy 16 = .ok (.ireturn, 1) := by decide +kernel
theorem dL_placeBy_17 : decode cL_placeBy 17 = .ok (.astore 4, 2) := by decide +kernel
theorem dL_placeBy_19 : decode cL_placeBy 19 = .ok (.iconst 2, 1) := by decide +kernel
theorem dL_placeBy_20 : decode cL_placeBy 20 = .ok (.ireturn, 1) := by decide +kernel
theorem dL_placeBy_21 : decode cL_placeBy 21 = .ok (.iconst 0, 1) := by decide +kernel
theorem dL_placeBy_22 : decode cL_placeBy 22 = .ok (.ireturn, 1) := by decide +kernel
set_option maxRecDepth 20000 in
theorem ggL_daysOf_X2_daysOf : GoodIn wsL_daysOf wsX2_daysOf := goodIn_ca (goodIn_r _ [6, 7, 8, 9, 10, 5, 11, 12, 13, 14, 15, 16, 17, 18, 19, 20, 21, 22, 23, 24, 25, 26, 27, 28, 29, 30, 31, 32, 33, 34, 35, 36, 37, 38, 39, 40, 41, 42, 43, 44, 45, 46, 47, 48, 49, 50, 51, 52, 53, 54, 55, 56, 57, 58] (by decide +kernel) (by decide +kernel)) (goodIn_sub (fun _ h => List.mem_cons_of_mem _ (List.mem_append_right _ h)) (by decide +kernel))
set_option maxRecDepth 20000 in
theorem gL_daysOf_X2_daysOf : GoodIn wsL_daysOf (wsV RL 76 RX2 yX2_daysOf wsX2_daysOf) := goodIn_app (goodIn_of _ (by decide +kernel)) ggL_daysOf_X2_daysOf
theorem dL_daysOf_0 : decode cL_daysOf 0 = .ok (.aload_n 2, 1) := by decide +kernel
theorem dL_daysOf_1 : decode cL_daysOf 1 = .ok (.iconst 0, 1) := by decide +kernel
theorem dL_daysOf_2 : decode cL_daysOf 2 = .ok (.aload_n 0, 1) := by decide +kernel
theorem dL_daysOf_3 : decode cL_daysOf 3 = .ok (.iload_n 1, 1) := by decide +kernel
theorem dL_daysOf_4 : decode cL_daysOf 4 = .ok (.invokevirtual 76, 3) := by decide +kernel
theorem dL_daysOf_7 : decode cL_daysOf 7 = .ok (.i2l, 1) := by decide +kernel
theorem dL_daysOf_8 : decode cL_daysOf 8 = .ok (.lastore, 1) := by decide +kernel
theorem dL_daysOf_9 : decode cL_daysOf 9 = .ok (.goto 6, 3) := by decide +kernel
theorem dL_daysOf_12 : decode cL_daysOf 12 = .ok (.astore_n 3, 1) := by decide +kernel
theorem dL_daysOf_13 : decode cL_daysOf 13 = .ok (.iconst 1, 1) := by decide +kernel
theorem dL_daysOf_14 : decode cL_daysOf 14 = .ok (.ireturn, 1) := by decide +kernel
theorem dL_daysOf_15 : decode cL_daysOf 15 = .ok (.iconst 0, 1) := by decide +kernel
theorem dL_daysOf_16 : decode cL_daysOf 16 = .ok (.ireturn, 1) := by decide +kernel
set_option maxRecDepth 20000 in
theorem ggL_daysUntilRecalled_X2_daysUntilRecalled : GoodIn wsL_daysUntilRecalled wsX2_daysUntilRecalled := goodIn_ca (goodIn_r _ [6, 7, 8, 9, 10, 11, 5, 12, 13, 14, 15, 16, 17, 18, 19, 20, 21, 22, 23, 24, 25, 26, 27, 28, 29, 30, 31, 32, 33, 34, 35, 36, 37, 38, 39, 40, 41, 42, 43, 44, 45, 46, 47, 48, 49, 50, 51, 52, 53, 54, 55, 56, 57, 58, 59, 60, 61, 62, 63, 64, 65, 66, 67, 68, 69, 70, 71, 72, 73, 74, 75, 76, 77, 78, 79, 80, 81, 82, 83, 84, 85, 86, 87, 88, 89, 90, 91, 92, 93, 94, 95, 96, 97, 98, 99, 100, 101, 102, 103, 104, 105, 106, 107, 108, 109, 110, 111, 112, 113, 114, 115, 116, 117] (by decide +kernel) (by decide +kernel)) (goodIn_sub (fun _ h => List.mem_cons_of_mem _ (List.mem_append_right _ h)) (by decide +kernel))
set_option maxRecDepth 20000 in
theorem gL_daysUntilRecalled_X2_daysUntilRecalled : GoodIn wsL_daysUntilRecalled (wsV RL 79 RX2 yX2_daysUntilRecalled wsX2_daysUntilRecalled) := goodIn_app (goodIn_of _ (by decide +kernel)) ggL_daysUntilRecalled_X2_daysUntilRecalled
theorem dL_daysUntilRecalled_0 : decode cL_daysUntilRecalled 0 = .ok (.aload_n 2, 1) := by decide +kernel
theorem dL_daysUntilRecalled_1 : decode cL_daysUntilRecalled 1 = .ok (.iconst 0, 1) := by decide +kernel
theorem dL_daysUntilRecalled_2 : decode cL_daysUntilRecalled 2 = .ok (.aload_n 0, 1) := by decide +kernel
theorem dL_daysUntilRecalled_3 : decode cL_daysUntilRecalled 3 = .ok (.iload_n 1, 1) := by decide +kernel
theorem dL_daysUntilRecalled_4 : decode cL_daysUntilRecalled 4 = .ok (.invokevirtual 79, 3) := by decide +kernel
theorem dL_daysUntilRecalled_7 : decode cL_daysUntilRecalled 7 = .ok (.i2l, 1) := by decide +kernel
theorem dL_daysUntilRecalled_8 : decode cL_daysUntilRecalled 8 = .ok (.lastore, 1) := by decide +kernel
theorem dL_daysUntilRecalled_9 : decode cL_daysUntilRecalled 9 = .ok (.goto 6, 3) := by decide +kernel
theorem dL_daysUntilRecalled_12 : decode cL_daysUntilRecalled 12 = .ok (.astore_n 3, 1) := by decide +kernel
theorem dL_daysUntilRecalled_13 : decode cL_daysUntilRecalled 13 = .ok (.iconst 1, 1) := by decide +kernel
theorem dL_daysUntilRecalled_14 : decode cL_daysUntilRecalled 14 = .ok (.ireturn, 1) := by decide +kernel
theorem dL_daysUntilRecalled_15 : decode cL_daysUntilRecalled 15 = .ok (.iconst 0, 1) := by decide +kernel
theorem dL_daysUntilRecalled_16 : decode cL_daysUntilRecalled 16 = .ok (.ireturn, 1) := by decide +kernel
set_option maxRecDepth 20000 in
theorem ggL_lostWith_X2_lostWith : GoodIn wsL_lostWith wsX2_lostWith := goodIn_ca (goodIn_r _ [6, 7, 8, 5, 9, 10, 11, 12, 13, 14, 15, 16, 17, 18, 19, 20, 21, 22, 23, 24, 25, 26, 27, 28, 29, 30, 31, 32, 33, 34, 35, 36, 37, 38, 39, 40, 41, 42, 43, 44, 45, 46, 47, 48, 49, 50, 51, 52, 53, 54, 55, 56, 57, 58, 59, 60, 61, 62, 63, 64, 65, 66, 67, 68, 69, 70, 71, 72, 73, 74, 75, 76, 77, 78, 79, 80, 81, 82, 83, 84, 85, 86, 87, 88, 89, 90, 91, 92, 93, 94, 95, 96, 97, 98, 99, 100, 101, 102, 103, 104, 105, 106, 107, 108, 109, 110, 111, 112, 113, 114, 115, 116, 117, 118, 119, 120, 121, 122, 123, 124, 125, 126] (by decide +kernel) (by decide +kernel)) (goodIn_sub (fun _ h => List.mem_cons_of_mem _ (List.mem_append_right _ h)) (by decide +kernel))
set_option maxRecDepth 20000 in
theorem gL_lostWith_X2_lostWith : GoodIn wsL_lostWith (wsV RL 82 RX2 yX2_lostWith wsX2_lostWith) := goodIn_app (goodIn_of _ (by decide +kernel)) ggL_lostWith_X2_lostWith
theorem dL_lostWith_0 : decode cL_lostWith 0 = .ok (.aload_n 3, 1) := by decide +kernel
theorem dL_lostWith_1 : decode cL_lostWith 1 = .ok (.iconst 0, 1) := by decide +kernel
theorem dL_lostWith_2 : decode cL_lostWith 2 = .ok (.aload_n 0, 1) := by decide +kernel
theorem dL_lostWith_3 : decode cL_lostWith 3 = .ok (.iload_n 1, 1) := by decide +kernel
theorem dL_lostWith_4 : decode cL_lostWith 4 = .ok (.iload_n 2, 1) := by decide +kernel
theorem dL_lostWith_5 : decode cL_lostWith 5 = .ok (.invokevirtual 82, 3) := by decide +kernel
theorem dL_lostWith_8 : decode cL_lostWith 8 = .ok (.i2l, 1) := by decide +kernel
theorem dL_lostWith_9 : decode cL_lostWith 9 = .ok (.lastore, 1) := by decide +kernel
theorem dL_lostWith_10 : decode cL_lostWith 10 = .ok (.goto 7, 3) := by decide +kernel
theorem dL_lostWith_13 : decode cL_lostWith 13 = .ok (.astore 4, 2) := by decide +kernel
theorem dL_lostWith_15 : decode cL_lostWith 15 = .ok (.iconst 1, 1) := by decide +kernel
theorem dL_lostWith_16 : decode cL_lostWith 16 = .ok (.ireturn, 1) := by decide +kernel
theorem dL_lostWith_17 : decode cL_lostWith 17 = .ok (.iconst 0, 1) := by decide +kernel
theorem dL_lostWith_18 : decode cL_lostWith 18 = .ok (.ireturn, 1) := by decide +kernel
set_option maxRecDepth 20000 in
theorem ggL_bestShelf_X2_bestShelf : GoodIn wsL_bestShelf wsX2_bestShelf := goodIn_ca (goodIn_r _ [6, 7, 8, 9, 10, 5, 11, 12, 13, 14, 15, 16, 17, 18, 19, 20, 21, 22, 23, 24, 25, 26, 27, 28, 29, 30, 31, 32, 33, 34, 35, 36, 37, 38, 39, 40, 41, 42, 43, 44, 45, 46, 47, 48, 49, 50, 51, 52, 53, 54, 55, 56, 57, 58, 59, 60] (by decide +kernel) (by decide +kernel)) (goodIn_sub (fun _ h => List.mem_cons_of_mem _ (List.mem_append_right _ h)) (by decide +kernel))
set_option maxRecDepth 20000 in
theorem gL_bestShelf_X2_bestShelf : GoodIn wsL_bestShelf (wsV RL 85 RX2 yX2_bestShelf wsX2_bestShelf) := goodIn_app (goodIn_of _ (by decide +kernel)) ggL_bestShelf_X2_bestShelf
theorem dL_bestShelf_0 : decode cL_bestShelf 0 = .ok (.aload_n 2, 1) := by decide +kernel
theorem dL_bestShelf_1 : decode cL_bestShelf 1 = .ok (.iconst 0, 1) := by decide +kernel
theorem dL_bestShelf_2 : decode cL_bestShelf 2 = .ok (.aload_n 0, 1) := by decide +kernel
theorem dL_bestShelf_3 : decode cL_bestShelf 3 = .ok (.iload_n 1, 1) := by decide +kernel
theorem dL_bestShelf_4 : decode cL_bestShelf 4 = .ok (.invokevirtual 85, 3) := by decide +kernel
theorem dL_bestShelf_7 : decode cL_bestShelf 7 = .ok (.i2l, 1) := by decide +kernel
theorem dL_bestShelf_8 : decode cL_bestShelf 8 = .ok (.lastore, 1) := by decide +kernel
theorem dL_bestShelf_9 : decode cL_bestShelf 9 = .ok (.goto 6, 3) := by decide +kernel
theorem dL_bestShelf_12 : decode cL_bestShelf 12 = .ok (.astore_n 3, 1) := by decide +kernel
theorem dL_bestShelf_13 : decode cL_bestShelf 13 = .ok (.iconst 1, 1) := by decide +kernel
theorem dL_bestShelf_14 : decode cL_bestShelf 14 = .ok (.ireturn, 1) := by decide +kernel
theorem dL_bestShelf_15 : decode cL_bestShelf 15 = .ok (.iconst 0, 1) := by decide +kernel
theorem dL_bestShelf_16 : decode cL_bestShelf 16 = .ok (.ireturn, 1) := by decide +kernel
set_option maxRecDepth 20000 in
theorem ggL_law_X2_init : GoodIn wsL_law wsX2_init := goodIn_r _ [9, 10, 11, 12, 13, 14, 15, 16, 17, 18, 19, 20, 21, 22, 23, 24, 25, 26, 27, 28, 29, 30, 31, 32, 33, 34, 35, 36, 37, 38, 39, 40, 41, 42, 43, 723, 724, 725, 726, 727, 728, 729, 730, 731, 732, 733, 734, 735, 736, 709, 710, 737] (by decide +kernel) (by decide +kernel)
set_option maxRecDepth 20000 in
theorem gL_law_X2_init : GoodIn wsL_law (wsX2_init) := ggL_law_X2_init
set_option maxRecDepth 20000 in
theorem ggL_law_X3_init : GoodIn wsL_law wsX3_init := goodIn_r _ [46, 47, 11, 12, 42, 48, 49, 50, 51, 52, 53, 54, 711, 712, 713, 714, 715, 716, 717, 718, 719, 720, 721, 722] (by decide +kernel) (by decide +kernel)
set_option maxRecDepth 20000 in
theorem gL_law_X3_init : GoodIn wsL_law (wsX3_init) := ggL_law_X3_init
set_option maxRecDepth 20000 in
theorem ggL_law_L_addBatch : GoodIn wsL_law wsL_addBatch := goodIn_ca (goodIn_ca (goodIn_r _ [58, 59, 60, 61, 62, 63, 2, 64, 65, 66, 67, 68, 16, 69, 70, 71, 72, 73, 74, 15, 75, 76, 25, 26, 77, 78, 79, 23, 80, 43, 709, 710, 723, 724, 725, 726, 727, 728, 729, 730, 731, 732, 733, 734, 735, 736, 737] (by decide +kernel) (by decide +kernel)) (goodIn_sub (fun _ h => List.mem_append_left _ (List.mem_append_left _ (List.mem_append_right _ h))) (by decide +kernel))) (goodIn_sub (fun _ h => List.mem_append_left _ (List.mem_append_right _ h)) (by decide +kernel))
set_option maxRecDepth 20000 in
theorem gL_law_L_addBatch : GoodIn wsL_law (va_wsS RL 92 yL_addBatch wsL_addBatch) := goodIn_app (goodIn_of _ (by decide +kernel)) ggL_law_L_addBatch
set_option maxRecDepth 20000 in
theorem ggL_law_X3_addBatch : GoodIn wsL_law wsX3_addBatch := goodIn_r _ [84, 85, 86, 48, 49, 87, 88, 5, 89, 90, 91, 92, 93, 711, 712, 713, 714, 715, 716, 717, 718, 719, 720, 721, 722] (by decide +kernel) (by decide +kernel)
set_option maxRecDepth 20000 in
theorem gL_law_X3_addBatch : GoodIn wsL_law (wsV RL 97 RX3 yX3_addBatch wsX3_addBatch) := goodIn_app (goodIn_of _ (by decide +kernel)) ggL_law_X3_addBatch
set_option maxRecDepth 20000 in
theorem ggL_law_X3_thrown : GoodIn wsL_law wsX3_thrown := goodIn_r _ [97, 85, 711, 712, 713, 714, 715, 716, 717, 718, 719, 720, 721, 722] (by decide +kernel) (by decide +kernel)
set_option maxRecDepth 20000 in
theorem gL_law_X3_thrown : GoodIn wsL_law (wsV RL 98 RX3 yX3_thrown wsX3_thrown) := goodIn_app (goodIn_of _ (by decide +kernel)) ggL_law_X3_thrown
set_option maxRecDepth 20000 in
theorem ggL_law_L_seal : GoodIn wsL_law wsL_seal := goodIn_ca (goodIn_ca (goodIn_ca (goodIn_r _ [100, 101, 59, 60, 102, 103, 104, 2, 105, 65, 66, 67, 68, 16, 106, 107, 108, 109, 110, 111, 69, 70, 71, 112, 113, 114, 115, 116, 117, 15, 118, 28, 119, 120, 121, 23, 122, 43, 123, 124, 125, 126, 127, 29, 30, 31, 25, 32, 77, 78, 79, 80, 709, 710, 723, 724, 725, 726, 727, 728, 729, 730, 731, 732, 733, 734, 735, 736, 737] (by decide +kernel) (by decide +kernel)) (goodIn_sub (fun _ h => List.mem_append_left _ (List.mem_append_left _ (List.mem_append_right _ h))) (by decide +kernel))) (goodIn_sub (fun _ h => List.mem_append_left _ (List.mem_append_right _ h)) (by decide +kernel))) (goodIn_sub (fun _ h => List.mem_append_right _ h) (by decide +kernel))
set_option maxRecDepth 20000 in
theorem gL_law_L_seal : GoodIn wsL_law (va_wsS RL 102 yL_seal wsL_seal) := goodIn_app (goodIn_of _ (by decide +kernel)) ggL_law_L_seal
set_option maxRecDepth 20000 in
theorem ggL_law_X3_seal : GoodIn wsL_law wsX3_seal := goodIn_r _ [131, 85, 132, 53, 51, 52, 48, 133, 134, 135, 5, 136, 86, 87, 88, 89, 137, 138, 139, 90, 91, 92, 93, 711, 712, 713, 714, 715, 716, 717, 718, 719, 720, 721, 722] (by decide +kernel) (by decide +kernel)
set_option maxRecDepth 20000 in
theorem gL_law_X3_seal : GoodIn wsL_law (wsV RL 105 RX3 yX3_seal wsX3_seal) := goodIn_app (goodIn_of _ (by decide +kernel)) ggL_law_X3_seal
set_option maxRecDepth 20000 in
theorem ggL_law_L_move : GoodIn wsL_law wsL_move := goodIn_ca (goodIn_ca (goodIn_r _ [142, 101, 60, 143, 144, 145, 2, 146, 67, 68, 16, 147, 148, 149, 150, 110, 111, 69, 70, 71, 112, 113, 114, 151, 152, 153, 15, 154, 32, 119, 120, 121, 23, 122, 43, 155, 156, 78, 79, 80, 709, 710, 723, 724, 725, 726, 727, 728, 729, 730, 731, 732, 733, 734, 735, 736, 737] (by decide +kernel) (by decide +kernel)) (goodIn_sub (fun _ h => List.mem_append_left _ (List.mem_append_right _ h)) (by decide +kernel))) (goodIn_sub (fun _ h => List.mem_append_right _ h) (by decide +kernel))
set_option maxRecDepth 20000 in
theorem gL_law_L_move : GoodIn wsL_law (va_wsS RL 106 yL_move wsL_move) := goodIn_app (goodIn_of _ (by decide +kernel)) ggL_law_L_move
set_option maxRecDepth 20000 in
theorem ggL_law_X3_move : GoodIn wsL_law wsX3_move := goodIn_r _ [160, 85, 52, 161, 162, 163, 5, 164, 132, 87, 88, 89, 137, 138, 139, 90, 91, 92, 93, 165, 166, 167, 168, 53, 711, 712, 713, 714, 715, 716, 717, 718, 719, 720, 721, 722] (by decide +kernel) (by decide +kernel)
set_option maxRecDepth 20000 in
theorem gL_law_X3_move : GoodIn wsL_law (wsV RL 108 RX3 yX3_move wsX3_move) := goodIn_app (goodIn_of _ (by decide +kernel)) ggL_law_X3_move
set_option maxRecDepth 20000 in
theorem ggL_law_L_setWarm : GoodIn wsL_law wsL_setWarm := goodIn_ca (goodIn_ca (goodIn_r _ [171, 101, 59, 172, 173, 174, 2, 175, 65, 66, 16, 112, 113, 114, 110, 111, 69, 70, 71, 155, 120, 121, 23, 122, 43, 156, 78, 79, 80, 709, 710, 723, 724, 725, 726, 727, 728, 729, 730, 731, 732, 733, 734, 735, 736, 737] (by decide +kernel) (by decide +kernel)) (goodIn_sub (fun _ h => List.mem_append_left _ (List.mem_append_left _ (List.mem_append_right _ h))) (by decide +kernel))) (goodIn_sub (fun _ h => List.mem_append_right _ h) (by decide +kernel))
set_option maxRecDepth 20000 in
theorem gL_law_L_setWarm : GoodIn wsL_law (va_wsS RL 109 yL_setWarm wsL_setWarm) := goodIn_app (goodIn_of _ (by decide +kernel)) ggL_law_L_setWarm
set_option maxRecDepth 20000 in
theorem ggL_law_X3_setWarm : GoodIn wsL_law wsX3_setWarm := goodIn_r _ [179, 85, 50, 137, 138, 5, 139, 87, 88, 89, 90, 91, 92, 93, 711, 712, 713, 714, 715, 716, 717, 718, 719, 720, 721, 722] (by decide +kernel) (by decide +kernel)
set_option maxRecDepth 20000 in
theorem gL_law_X3_setWarm : GoodIn wsL_law (wsV RL 111 RX3 yX3_setWarm wsX3_setWarm) := goodIn_app (goodIn_of _ (by decide +kernel)) ggL_law_X3_setWarm
set_option maxRecDepth 20000 in
theorem ggL_law_L_setShipping : GoodIn wsL_law wsL_setShipping := goodIn_ca (goodIn_r _ [182, 59, 183, 184, 185, 2, 186, 16, 187, 188, 189, 65, 66, 69, 70, 71, 190, 191, 192, 709, 710, 723, 724, 725, 726, 727, 728, 729, 730, 731, 732, 733, 734, 735, 736] (by decide +kernel) (by decide +kernel)) (goodIn_sub (fun _ h => List.mem_append_left _ (List.mem_append_left _ (List.mem_append_right _ h))) (by decide +kernel))
set_option maxRecDepth 20000 in
theorem gL_law_L_setShipping : GoodIn wsL_law (va_wsS RL 112 yL_setShipping wsL_setShipping) := goodIn_app (goodIn_of _ (by decide +kernel)) ggL_law_L_setShipping
set_option maxRecDepth 20000 in
theorem ggL_law_X3_setShipping : GoodIn wsL_law wsX3_setShipping := goodIn_r _ [196, 85, 197, 198, 87, 88, 5, 89, 199, 200, 201, 90, 91, 92, 93, 711, 712, 713, 714, 715, 716, 717, 718, 719, 720, 721, 722] (by decide +kernel) (by decide +kernel)
set_option maxRecDepth 20000 in
theorem gL_law_X3_setShipping : GoodIn wsL_law (wsV RL 114 RX3 yX3_setShipping wsX3_setShipping) := goodIn_app (goodIn_of _ (by decide +kernel)) ggL_law_X3_setShipping
set_option maxRecDepth 20000 in
theorem ggL_law_L_recall : GoodIn wsL_law wsL_recall := goodIn_ca (goodIn_ca (goodIn_r _ [204, 101, 60, 205, 206, 207, 2, 208, 67, 68, 16, 106, 107, 108, 109, 110, 111, 69, 70, 71, 115, 116, 117, 15, 118, 28, 119, 120, 121, 23, 122, 43, 209, 210, 211, 212, 127, 32, 29, 77, 78, 79, 80, 709, 710, 723, 724, 725, 726, 727, 728, 729, 730, 731, 732, 733, 734, 735, 736, 737] (by decide +kernel) (by decide +kernel)) (goodIn_sub (fun _ h => List.mem_append_left _ (List.mem_append_right _ h)) (by decide +kernel))) (goodIn_sub (fun _ h => List.mem_append_right _ h) (by decide +kernel))
set_option maxRecDepth 20000 in
theorem gL_law_L_recall : GoodIn wsL_law (va_wsS RL 115 yL_recall wsL_recall) := goodIn_app (goodIn_of _ (by decide +kernel)) ggL_law_L_recall
set_option maxRecDepth 20000 in
theorem ggL_law_X3_recall : GoodIn wsL_law wsX3_recall := goodIn_r _ [216, 85, 53, 133, 134, 135, 5, 136, 86, 87, 88, 89, 90, 91, 92, 93, 217, 218, 219, 220, 132, 51, 165, 166, 167, 168, 711, 712, 713, 714, 715, 716, 717, 718, 719, 720, 721, 722] (by decide +kernel) (by decide +kernel)
set_option maxRecDepth 20000 in
theorem gL_law_X3_recall : GoodIn wsL_law (wsV RL 118 RX3 yX3_recall wsX3_recall) := goodIn_app (goodIn_of _ (by decide +kernel)) ggL_law_X3_recall
set_option maxRecDepth 20000 in
theorem ggL_law_L_pass : GoodIn wsL_law wsL_pass := goodIn_ca (goodIn_r _ [223, 59, 224, 225, 226, 2, 227, 65, 66, 16, 69, 70, 71, 228, 229, 230, 15, 231, 127, 32, 119, 120, 121, 23, 122, 43, 232, 233, 234, 235, 236, 33, 237, 238, 239, 240, 241, 31, 30, 242, 39, 40, 41, 243, 152, 153, 154, 244, 245, 246, 247, 26, 29, 24, 77, 78, 79, 80, 248, 249, 250, 251, 27, 252, 253, 254, 255, 76, 256, 116, 117, 118, 28, 257, 210, 211, 212, 258, 259, 260, 261, 262, 263, 264, 265, 266, 267, 268, 269, 709, 710, 723, 724, 725, 726, 727, 728, 729, 730, 731, 732, 733, 734, 735, 736, 737] (by decide +kernel) (by decide +kernel)) (goodIn_sub (fun _ h => List.mem_append_left _ (List.mem_append_left _ (List.mem_append_right _ h))) (by decide +kernel))
set_option maxRecDepth 20000 in
theorem gL_law_L_pass : GoodIn wsL_law (va_wsS RL 119 yL_pass wsL_pass) := goodIn_app (goodIn_of _ (by decide +kernel)) ggL_law_L_pass
set_option maxRecDepth 20000 in
theorem ggL_law_X3_pass : GoodIn wsL_law wsX3_pass := goodIn_r _ [273, 85, 87, 88, 5, 89, 90, 91, 92, 93, 274, 275, 276, 277, 132, 53, 278, 279, 280, 281, 282, 283, 284, 285, 86, 197, 198, 165, 166, 167, 168, 286, 287, 288, 289, 52, 290, 39, 40, 41, 51, 291, 292, 293, 294, 49, 50, 217, 218, 219, 220, 295, 296, 297, 298, 299, 300, 301, 302, 711, 712, 713, 714, 715, 716, 717, 718, 719, 720, 721, 722] (by decide +kernel) (by decide +kernel)
set_option maxRecDepth 20000 in
theorem gL_law_X3_pass : GoodIn wsL_law (wsV RL 121 RX3 yX3_pass wsX3_pass) := goodIn_app (goodIn_of _ (by decide +kernel)) ggL_law_X3_pass
set_option maxRecDepth 20000 in
theorem ggL_law_X2_day : GoodIn wsL_law wsX2_day := goodIn_r _ [306, 16, 709, 710, 723, 724, 725, 726, 727, 728, 729, 730, 731, 732, 733, 734, 735, 736] (by decide +kernel) (by decide +kernel)
set_option maxRecDepth 20000 in
theorem gL_law_X2_day : GoodIn wsL_law (wsV RL 122 RX2 yX2_day wsX2_day) := goodIn_app (goodIn_of _ (by decide +kernel)) ggL_law_X2_day
set_option maxRecDepth 20000 in
theorem ggL_law_X3_day : GoodIn wsL_law wsX3_day := goodIn_r _ [310, 53, 311, 312, 313, 5, 314, 85, 711, 712, 713, 714, 715, 716, 717, 718, 719, 720, 721, 722] (by decide +kernel) (by decide +kernel)
set_option maxRecDepth 20000 in
theorem gL_law_X3_day : GoodIn wsL_law (wsV RL 125 RX3 yX3_day wsX3_day) := goodIn_app (goodIn_of _ (by decide +kernel)) ggL_law_X3_day
set_option maxRecDepth 20000 in
theorem ggL_law_X2_batches : GoodIn wsL_law wsX2_batches := goodIn_r _ [318, 16, 709, 710, 723, 724, 725, 726, 727, 728, 729, 730, 731, 732, 733, 734, 735, 736] (by decide +kernel) (by decide +kernel)
set_option maxRecDepth 20000 in
theorem gL_law_X2_batches : GoodIn wsL_law (wsV RL 126 RX2 yX2_batches wsX2_batches) := goodIn_app (goodIn_of _ (by decide +kernel)) ggL_law_X2_batches
set_option maxRecDepth 20000 in
theorem ggL_law_X3_batches : GoodIn wsL_law wsX3_batches := goodIn_r _ [322, 86, 311, 312, 313, 5, 314, 85, 711, 712, 713, 714, 715, 716, 717, 718, 719, 720, 721, 722] (by decide +kernel) (by decide +kernel)
set_option maxRecDepth 20000 in
theorem gL_law_X3_batches : GoodIn wsL_law (wsV RL 129 RX3 yX3_batches wsX3_batches) := goodIn_app (goodIn_of _ (by decide +kernel)) ggL_law_X3_batches
set_option maxRecDepth 20000 in
theorem ggL_law_X2_tins : GoodIn wsL_law wsX2_tins := goodIn_r _ [326, 16, 709, 710, 723, 724, 725, 726, 727, 728, 729, 730, 731, 732, 733, 734, 735, 736] (by decide +kernel) (by decide +kernel)
set_option maxRecDepth 20000 in
theorem gL_law_X2_tins : GoodIn wsL_law (wsV RL 130 RX2 yX2_tins wsX2_tins) := goodIn_app (goodIn_of _ (by decide +kernel)) ggL_law_X2_tins
set_option maxRecDepth 20000 in
theorem ggL_law_X3_tins : GoodIn wsL_law wsX3_tins := goodIn_r _ [330, 132, 311, 312, 313, 5, 314, 85, 711, 712, 713, 714, 715, 716, 717, 718, 719, 720, 721, 722] (by decide +kernel) (by decide +kernel)
set_option maxRecDepth 20000 in
theorem gL_law_X3_tins : GoodIn wsL_law (wsV RL 133 RX3 yX3_tins wsX3_tins) := goodIn_app (goodIn_of _ (by decide +kernel)) ggL_law_X3_tins
set_option maxRecDepth 20000 in
theorem ggL_law_X2_inCellar : GoodIn wsL_law wsX2_inCellar := goodIn_r _ [334, 16, 228, 229, 230, 15, 231, 127, 32, 119, 120, 121, 23, 122, 43, 709, 710, 723, 724, 725, 726, 727, 728, 729, 730, 731, 732, 733, 734, 735, 736, 737] (by decide +kernel) (by decide +kernel)
set_option maxRecDepth 20000 in
theorem gL_law_X2_inCellar : GoodIn wsL_law (wsV RL 134 RX2 yX2_inCellar wsX2_inCellar) := goodIn_app (goodIn_of _ (by decide +kernel)) ggL_law_X2_inCellar
set_option maxRecDepth 20000 in
theorem ggL_law_X3_inCellar : GoodIn wsL_law wsX3_inCellar := goodIn_r _ [338, 274, 275, 276, 5, 277, 132, 53, 311, 312, 313, 314, 85, 711, 712, 713, 714, 715, 716, 717, 718, 719, 720, 721, 722] (by decide +kernel) (by decide +kernel)
set_option maxRecDepth 20000 in
theorem gL_law_X3_inCellar : GoodIn wsL_law (wsV RL 137 RX3 yX3_inCellar wsX3_inCellar) := goodIn_app (goodIn_of _ (by decide +kernel)) ggL_law_X3_inCellar
set_option maxRecDepth 20000 in
theorem ggL_law_X2_shipped : GoodIn wsL_law wsX2_shipped := goodIn_r _ [342, 16, 228, 229, 230, 15, 231, 127, 32, 119, 120, 121, 23, 122, 43, 709, 710, 723, 724, 725, 726, 727, 728, 729, 730, 731, 732, 733, 734, 735, 736, 737] (by decide +kernel) (by decide +kernel)
set_option maxRecDepth 20000 in
theorem gL_law_X2_shipped : GoodIn wsL_law (wsV RL 138 RX2 yX2_shipped wsX2_shipped) := goodIn_app (goodIn_of _ (by decide +kernel)) ggL_law_X2_shipped
set_option maxRecDepth 20000 in
theorem ggL_law_X3_shipped : GoodIn wsL_law wsX3_shipped := goodIn_r _ [346, 274, 275, 276, 5, 277, 132, 53, 311, 312, 313, 314, 85, 711, 712, 713, 714, 715, 716, 717, 718, 719, 720, 721, 722] (by decide +kernel) (by decide +kernel)
set_option maxRecDepth 20000 in
theorem gL_law_X3_shipped : GoodIn wsL_law (wsV RL 141 RX3 yX3_shipped wsX3_shipped) := goodIn_app (goodIn_of _ (by decide +kernel)) ggL_law_X3_shipped
set_option maxRecDepth 20000 in
theorem ggL_law_X2_lost : GoodIn wsL_law wsX2_lost := goodIn_r _ [350, 16, 228, 229, 230, 15, 231, 127, 32, 119, 120, 121, 23, 122, 43, 709, 710, 723, 724, 725, 726, 727, 728, 729, 730, 731, 732, 733, 734, 735, 736, 737] (by decide +kernel) (by decide +kernel)
set_option maxRecDepth 20000 in
theorem gL_law_X2_lost : GoodIn wsL_law (wsV RL 142 RX2 yX2_lost wsX2_lost) := goodIn_app (goodIn_of _ (by decide +kernel)) ggL_law_X2_lost
set_option maxRecDepth 20000 in
theorem ggL_law_X3_lost : GoodIn wsL_law wsX3_lost := goodIn_r _ [354, 274, 275, 276, 5, 277, 132, 53, 311, 312, 313, 314, 85, 711, 712, 713, 714, 715, 716, 717, 718, 719, 720, 721, 722] (by decide +kernel) (by decide +kernel)
set_option maxRecDepth 20000 in
theorem gL_law_X3_lost : GoodIn wsL_law (wsV RL 145 RX3 yX3_lost wsX3_lost) := goodIn_app (goodIn_of _ (by decide +kernel)) ggL_law_X3_lost
set_option maxRecDepth 20000 in
theorem ggL_law_X2_swelled : GoodIn wsL_law wsX2_swelled := goodIn_r _ [358, 16, 155, 120, 121, 23, 122, 43, 709, 710, 723, 724, 725, 726, 727, 728, 729, 730, 731, 732, 733, 734, 735, 736, 737] (by decide +kernel) (by decide +kernel)
set_option maxRecDepth 20000 in
theorem gL_law_X2_swelled : GoodIn wsL_law (wsV RL 146 RX2 yX2_swelled wsX2_swelled) := goodIn_app (goodIn_of _ (by decide +kernel)) ggL_law_X2_swelled
set_option maxRecDepth 20000 in
theorem ggL_law_X3_swelled : GoodIn wsL_law wsX3_swelled := goodIn_r _ [362, 363, 364, 365, 5, 366, 86, 53, 311, 312, 313, 314, 85, 711, 712, 713, 714, 715, 716, 717, 718, 719, 720, 721, 722] (by decide +kernel) (by decide +kernel)
set_option maxRecDepth 20000 in
theorem gL_law_X3_swelled : GoodIn wsL_law (wsV RL 149 RX3 yX3_swelled wsX3_swelled) := goodIn_app (goodIn_of _ (by decide +kernel)) ggL_law_X3_swelled
set_option maxRecDepth 20000 in
theorem ggL_law_L_standOn : GoodIn wsL_law wsL_standOn := goodIn_ca (goodIn_r _ [369, 101, 370, 371, 372, 2, 373, 16, 112, 113, 114, 110, 111, 69, 70, 71, 374, 375, 376, 15, 377, 127, 243, 152, 153, 154, 32, 119, 120, 121, 23, 122, 43, 709, 710, 723, 724, 725, 726, 727, 728, 729, 730, 731, 732, 733, 734, 735, 736, 737] (by decide +kernel) (by decide +kernel)) (goodIn_sub (fun _ h => List.mem_append_right _ h) (by decide +kernel))
set_option maxRecDepth 20000 in
theorem gL_law_L_standOn : GoodIn wsL_law (va_wsS RL 150 yL_standOn wsL_standOn) := goodIn_app (goodIn_of _ (by decide +kernel)) ggL_law_L_standOn
set_option maxRecDepth 20000 in
theorem ggL_law_X3_standOn : GoodIn wsL_law wsX3_standOn := goodIn_r _ [381, 85, 137, 138, 5, 139, 87, 88, 89, 382, 383, 384, 385, 132, 52, 165, 166, 167, 168, 53, 90, 91, 92, 93, 711, 712, 713, 714, 715, 716, 717, 718, 719, 720, 721, 722] (by decide +kernel) (by decide +kernel)
set_option maxRecDepth 20000 in
theorem gL_law_X3_standOn : GoodIn wsL_law (wsV RL 152 RX3 yX3_standOn wsX3_standOn) := goodIn_app (goodIn_of _ (by decide +kernel)) ggL_law_X3_standOn
set_option maxRecDepth 20000 in
theorem ggL_law_L_warmOf : GoodIn wsL_law wsL_warmOf := goodIn_ca (goodIn_r _ [388, 101, 389, 390, 391, 2, 392, 16, 112, 113, 114, 110, 111, 69, 70, 71, 155, 120, 121, 23, 122, 43, 709, 710, 723, 724, 725, 726, 727, 728, 729, 730, 731, 732, 733, 734, 735, 736, 737] (by decide +kernel) (by decide +kernel)) (goodIn_sub (fun _ h => List.mem_append_right _ h) (by decide +kernel))
set_option maxRecDepth 20000 in
theorem gL_law_L_warmOf : GoodIn wsL_law (va_wsS RL 153 yL_warmOf wsL_warmOf) := goodIn_app (goodIn_of _ (by decide +kernel)) ggL_law_L_warmOf
set_option maxRecDepth 20000 in
theorem ggL_law_X3_warmOf : GoodIn wsL_law wsX3_warmOf := goodIn_r _ [396, 85, 50, 137, 138, 5, 139, 87, 88, 89, 90, 91, 92, 93, 711, 712, 713, 714, 715, 716, 717, 718, 719, 720, 721, 722] (by decide +kernel) (by decide +kernel)
set_option maxRecDepth 20000 in
theorem gL_law_X3_warmOf : GoodIn wsL_law (wsV RL 155 RX3 yX3_warmOf wsX3_warmOf) := goodIn_app (goodIn_of _ (by decide +kernel)) ggL_law_X3_warmOf
set_option maxRecDepth 20000 in
theorem ggL_law_L_batchOf : GoodIn wsL_law wsL_batchOf := goodIn_ca (goodIn_r _ [399, 101, 400, 401, 402, 2, 403, 16, 147, 148, 149, 150, 110, 111, 69, 70, 71, 155, 120, 121, 23, 122, 43, 709, 710, 723, 724, 725, 726, 727, 728, 729, 730, 731, 732, 733, 734, 735, 736, 737] (by decide +kernel) (by decide +kernel)) (goodIn_sub (fun _ h => List.mem_append_right _ h) (by decide +kernel))
set_option maxRecDepth 20000 in
theorem gL_law_L_batchOf : GoodIn wsL_law (va_wsS RL 156 yL_batchOf wsL_batchOf) := goodIn_app (goodIn_of _ (by decide +kernel)) ggL_law_L_batchOf
set_option maxRecDepth 20000 in
theorem ggL_law_X3_batchOf : GoodIn wsL_law wsX3_batchOf := goodIn_r _ [407, 85, 51, 161, 162, 163, 5, 164, 132, 87, 88, 89, 90, 91, 92, 93, 711, 712, 713, 714, 715, 716, 717, 718, 719, 720, 721, 722] (by decide +kernel) (by decide +kernel)
set_option maxRecDepth 20000 in
theorem gL_law_X3_batchOf : GoodIn wsL_law (wsV RL 158 RX3 yX3_batchOf wsX3_batchOf) := goodIn_app (goodIn_of _ (by decide +kernel)) ggL_law_X3_batchOf
set_option maxRecDepth 20000 in
theorem ggL_law_L_shelfOf : GoodIn wsL_law wsL_shelfOf := goodIn_ca (goodIn_r _ [410, 101, 411, 412, 413, 2, 414, 16, 147, 148, 149, 150, 110, 111, 69, 70, 71, 151, 152, 153, 15, 154, 32, 119, 120, 121, 23, 122, 43, 155, 709, 710, 723, 724, 725, 726, 727, 728, 729, 730, 731, 732, 733, 734, 735, 736, 737] (by decide +kernel) (by decide +kernel)) (goodIn_sub (fun _ h => List.mem_append_right _ h) (by decide +kernel))
set_option maxRecDepth 20000 in
theorem gL_law_L_shelfOf : GoodIn wsL_law (va_wsS RL 159 yL_shelfOf wsL_shelfOf) := goodIn_app (goodIn_of _ (by decide +kernel)) ggL_law_L_shelfOf
set_option maxRecDepth 20000 in
theorem ggL_law_X3_shelfOf : GoodIn wsL_law wsX3_shelfOf := goodIn_r _ [418, 85, 161, 162, 163, 5, 164, 132, 87, 88, 89, 419, 420, 421, 422, 52, 165, 166, 167, 168, 53, 90, 91, 92, 93, 711, 712, 713, 714, 715, 716, 717, 718, 719, 720, 721, 722] (by decide +kernel) (by decide +kernel)
set_option maxRecDepth 20000 in
theorem gL_law_X3_shelfOf : GoodIn wsL_law (wsV RL 161 RX3 yX3_shelfOf wsX3_shelfOf) := goodIn_app (goodIn_of _ (by decide +kernel)) ggL_law_X3_shelfOf
set_option maxRecDepth 20000 in
theorem ggL_law_L_vacuumOf : GoodIn wsL_law wsL_vacuumOf := goodIn_ca (goodIn_r _ [425, 101, 426, 427, 428, 2, 429, 16, 147, 148, 149, 150, 110, 111, 69, 70, 71, 155, 120, 121, 23, 122, 43, 709, 710, 723, 724, 725, 726, 727, 728, 729, 730, 731, 732, 733, 734, 735, 736, 737] (by decide +kernel) (by decide +kernel)) (goodIn_sub (fun _ h => List.mem_append_right _ h) (by decide +kernel))
set_option maxRecDepth 20000 in
theorem gL_law_L_vacuumOf : GoodIn wsL_law (va_wsS RL 162 yL_vacuumOf wsL_vacuumOf) := goodIn_app (goodIn_of _ (by decide +kernel)) ggL_law_L_vacuumOf
set_option maxRecDepth 20000 in
theorem ggL_law_X3_vacuumOf : GoodIn wsL_law wsX3_vacuumOf := goodIn_r _ [433, 85, 53, 161, 162, 163, 5, 164, 132, 87, 88, 89, 90, 91, 92, 93, 711, 712, 713, 714, 715, 716, 717, 718, 719, 720, 721, 722] (by decide +kernel) (by decide +kernel)
set_option maxRecDepth 20000 in
theorem gL_law_X3_vacuumOf : GoodIn wsL_law (wsV RL 164 RX3 yX3_vacuumOf wsX3_vacuumOf) := goodIn_app (goodIn_of _ (by decide +kernel)) ggL_law_X3_vacuumOf
set_option maxRecDepth 20000 in
theorem ggL_law_L_isShipped : GoodIn wsL_law wsL_isShipped := goodIn_ca (goodIn_r _ [436, 101, 437, 438, 439, 2, 440, 16, 147, 148, 149, 150, 110, 111, 69, 70, 71, 155, 120, 121, 23, 122, 43, 709, 710, 723, 724, 725, 726, 727, 728, 729, 730, 731, 732, 733, 734, 735, 736, 737] (by decide +kernel) (by decide +kernel)) (goodIn_sub (fun _ h => List.mem_append_right _ h) (by decide +kernel))
set_option maxRecDepth 20000 in
theorem gL_law_L_isShipped : GoodIn wsL_law (va_wsS RL 165 yL_isShipped wsL_isShipped) := goodIn_app (goodIn_of _ (by decide +kernel)) ggL_law_L_isShipped
set_option maxRecDepth 20000 in
theorem ggL_law_X3_isShipped : GoodIn wsL_law wsX3_isShipped := goodIn_r _ [444, 445, 446, 447, 5, 448, 85, 53, 161, 162, 163, 164, 132, 87, 88, 89, 449, 450, 451, 452, 711, 712, 713, 714, 715, 716, 717, 718, 719, 720, 721, 722] (by decide +kernel) (by decide +kernel)
set_option maxRecDepth 20000 in
theorem gL_law_X3_isShipped : GoodIn wsL_law (wsV RL 167 RX3 yX3_isShipped wsX3_isShipped) := goodIn_app (goodIn_of _ (by decide +kernel)) ggL_law_X3_isShipped
set_option maxRecDepth 20000 in
theorem ggL_law_L_isLost : GoodIn wsL_law wsL_isLost := goodIn_ca (goodIn_r _ [455, 101, 456, 457, 458, 2, 459, 16, 147, 148, 149, 150, 110, 111, 69, 70, 71, 155, 120, 121, 23, 122, 43, 709, 710, 723, 724, 725, 726, 727, 728, 729, 730, 731, 732, 733, 734, 735, 736, 737] (by decide +kernel) (by decide +kernel)) (goodIn_sub (fun _ h => List.mem_append_right _ h) (by decide +kernel))
set_option maxRecDepth 20000 in
theorem gL_law_L_isLost : GoodIn wsL_law (va_wsS RL 168 yL_isLost wsL_isLost) := goodIn_app (goodIn_of _ (by decide +kernel)) ggL_law_L_isLost
set_option maxRecDepth 20000 in
theorem ggL_law_X3_isLost : GoodIn wsL_law wsX3_isLost := goodIn_r _ [463, 445, 446, 447, 5, 448, 85, 53, 161, 162, 163, 164, 132, 87, 88, 89, 449, 450, 451, 452, 711, 712, 713, 714, 715, 716, 717, 718, 719, 720, 721, 722] (by decide +kernel) (by decide +kernel)
set_option maxRecDepth 20000 in
theorem gL_law_X3_isLost : GoodIn wsL_law (wsV RL 170 RX3 yX3_isLost wsX3_isLost) := goodIn_app (goodIn_of _ (by decide +kernel)) ggL_law_X3_isLost
set_option maxRecDepth 20000 in
theorem ggL_law_L_swelledOf : GoodIn wsL_law wsL_swelledOf := goodIn_ca (goodIn_r _ [466, 101, 467, 468, 469, 2, 470, 16, 106, 107, 108, 109, 110, 111, 69, 70, 71, 155, 120, 121, 23, 122, 43, 709, 710, 723, 724, 725, 726, 727, 728, 729, 730, 731, 732, 733, 734, 735, 736, 737] (by decide +kernel) (by decide +kernel)) (goodIn_sub (fun _ h => List.mem_append_right _ h) (by decide +kernel))
set_option maxRecDepth 20000 in
theorem gL_law_L_swelledOf : GoodIn wsL_law (va_wsS RL 171 yL_swelledOf wsL_swelledOf) := goodIn_app (goodIn_of _ (by decide +kernel)) ggL_law_L_swelledOf
set_option maxRecDepth 20000 in
theorem ggL_law_X3_swelledOf : GoodIn wsL_law wsX3_swelledOf := goodIn_r _ [474, 85, 53, 133, 134, 135, 5, 136, 86, 87, 88, 89, 90, 91, 92, 93, 711, 712, 713, 714, 715, 716, 717, 718, 719, 720, 721, 722] (by decide +kernel) (by decide +kernel)
set_option maxRecDepth 20000 in
theorem gL_law_X3_swelledOf : GoodIn wsL_law (wsV RL 173 RX3 yX3_swelledOf wsX3_swelledOf) := goodIn_app (goodIn_of _ (by decide +kernel)) ggL_law_X3_swelledOf
set_option maxRecDepth 20000 in
theorem ggL_law_L_leftOf : GoodIn wsL_law wsL_leftOf := goodIn_ca (goodIn_r _ [477, 101, 478, 479, 480, 2, 481, 16, 106, 107, 108, 109, 110, 111, 69, 70, 71, 374, 375, 376, 15, 377, 127, 243, 152, 153, 154, 32, 119, 120, 121, 23, 122, 43, 709, 710, 723, 724, 725, 726, 727, 728, 729, 730, 731, 732, 733, 734, 735, 736, 737] (by decide +kernel) (by decide +kernel)) (goodIn_sub (fun _ h => List.mem_append_right _ h) (by decide +kernel))
set_option maxRecDepth 20000 in
theorem gL_law_L_leftOf : GoodIn wsL_law (va_wsS RL 174 yL_leftOf wsL_leftOf) := goodIn_app (goodIn_of _ (by decide +kernel)) ggL_law_L_leftOf
set_option maxRecDepth 20000 in
theorem ggL_law_X3_leftOf : GoodIn wsL_law wsX3_leftOf := goodIn_r _ [485, 85, 133, 134, 135, 5, 136, 86, 87, 88, 89, 486, 487, 488, 489, 132, 51, 165, 166, 167, 168, 53, 90, 91, 92, 93, 711, 712, 713, 714, 715, 716, 717, 718, 719, 720, 721, 722] (by decide +kernel) (by decide +kernel)
set_option maxRecDepth 20000 in
theorem gL_law_X3_leftOf : GoodIn wsL_law (wsV RL 176 RX3 yX3_leftOf wsX3_leftOf) := goodIn_app (goodIn_of _ (by decide +kernel)) ggL_law_X3_leftOf
set_option maxRecDepth 20000 in
theorem ggL_law_L_isRecalled : GoodIn wsL_law wsL_isRecalled := goodIn_ca (goodIn_r _ [492, 101, 493, 494, 495, 2, 496, 16, 106, 107, 108, 109, 110, 111, 69, 70, 71, 115, 116, 117, 15, 118, 28, 119, 120, 121, 23, 122, 43, 709, 710, 723, 724, 725, 726, 727, 728, 729, 730, 731, 732, 733, 734, 735, 736, 737] (by decide +kernel) (by decide +kernel)) (goodIn_sub (fun _ h => List.mem_append_right _ h) (by decide +kernel))
set_option maxRecDepth 20000 in
theorem gL_law_L_isRecalled : GoodIn wsL_law (va_wsS RL 177 yL_isRecalled wsL_isRecalled) := goodIn_app (goodIn_of _ (by decide +kernel)) ggL_law_L_isRecalled
set_option maxRecDepth 20000 in
theorem ggL_law_X3_isRecalled : GoodIn wsL_law wsX3_isRecalled := goodIn_r _ [500, 85, 53, 133, 134, 135, 5, 136, 86, 87, 88, 89, 449, 450, 451, 452, 711, 712, 713, 714, 715, 716, 717, 718, 719, 720, 721, 722] (by decide +kernel) (by decide +kernel)
set_option maxRecDepth 20000 in
theorem gL_law_X3_isRecalled : GoodIn wsL_law (wsV RL 179 RX3 yX3_isRecalled wsX3_isRecalled) := goodIn_app (goodIn_of _ (by decide +kernel)) ggL_law_X3_isRecalled
set_option maxRecDepth 20000 in
theorem ggL_law_L_first : GoodIn wsL_law wsL_first := goodIn_ca (goodIn_r _ [503, 59, 504, 505, 506, 2, 507, 16, 190, 191, 192, 65, 66, 69, 70, 71, 508, 259, 260, 15, 261, 127, 243, 152, 153, 154, 32, 119, 120, 121, 23, 122, 43, 262, 263, 264, 265, 31, 24, 30, 709, 710, 723, 724, 725, 726, 727, 728, 729, 730, 731, 732, 733, 734, 735, 736, 737] (by decide +kernel) (by decide +kernel)) (goodIn_sub (fun _ h => List.mem_append_left _ (List.mem_append_left _ (List.mem_append_right _ h))) (by decide +kernel))
set_option maxRecDepth 20000 in
theorem gL_law_L_first : GoodIn wsL_law (va_wsS RL 180 yL_first wsL_first) := goodIn_app (goodIn_of _ (by decide +kernel)) ggL_law_L_first
set_option maxRecDepth 20000 in
theorem ggL_law_X3_first : GoodIn wsL_law wsX3_first := goodIn_r _ [512, 85, 199, 200, 5, 201, 87, 88, 89, 295, 296, 297, 298, 132, 165, 166, 167, 168, 53, 299, 300, 301, 302, 50, 52, 90, 91, 92, 93, 711, 712, 713, 714, 715, 716, 717, 718, 719, 720, 721, 722] (by decide +kernel) (by decide +kernel)
set_option maxRecDepth 20000 in
theorem gL_law_X3_first : GoodIn wsL_law (wsV RL 182 RX3 yX3_first wsX3_first) := goodIn_app (goodIn_of _ (by decide +kernel)) ggL_law_X3_first
set_option maxRecDepth 20000 in
theorem ggL_law_L_placeBy : GoodIn wsL_law wsL_placeBy := goodIn_ca (goodIn_ca (goodIn_r _ [515, 101, 59, 516, 517, 518, 2, 519, 16, 147, 148, 149, 150, 110, 111, 69, 70, 71, 190, 191, 192, 65, 66, 151, 152, 153, 15, 154, 32, 119, 120, 121, 23, 122, 43, 520, 521, 522, 523, 127, 262, 263, 264, 265, 31, 24, 30, 243, 709, 710, 723, 724, 725, 726, 727, 728, 729, 730, 731, 732, 733, 734, 735, 736, 737] (by decide +kernel) (by decide +kernel)) (goodIn_sub (fun _ h => List.mem_append_right _ h) (by decide +kernel))) (goodIn_sub (fun _ h => List.mem_append_left _ (List.mem_append_left _ (List.mem_append_right _ h))) (by decide +kernel))
set_option maxRecDepth 20000 in
theorem gL_law_L_placeBy : GoodIn wsL_law (va_wsS RL 183 yL_placeBy wsL_placeBy) := goodIn_app (goodIn_of _ (by decide +kernel)) ggL_law_L_placeBy
set_option maxRecDepth 20000 in
theorem ggL_law_X3_placeBy : GoodIn wsL_law wsX3_placeBy := goodIn_r _ [527, 85, 161, 162, 163, 5, 164, 132, 87, 88, 89, 90, 91, 92, 93, 199, 200, 201, 528, 529, 530, 531, 165, 166, 167, 168, 53, 299, 300, 301, 302, 50, 52, 711, 712, 713, 714, 715, 716, 717, 718, 719, 720, 721, 722] (by decide +kernel) (by decide +kernel)
set_option maxRecDepth 20000 in
theorem gL_law_X3_placeBy : GoodIn wsL_law (wsV RL 185 RX3 yX3_placeBy wsX3_placeBy) := goodIn_app (goodIn_of _ (by decide +kernel)) ggL_law_X3_placeBy
set_option maxRecDepth 20000 in
theorem ggL_law_L_daysOf : GoodIn wsL_law wsL_daysOf := goodIn_ca (goodIn_r _ [534, 101, 535, 536, 537, 2, 538, 16, 147, 148, 149, 150, 110, 111, 69, 70, 71, 151, 152, 153, 15, 154, 32, 119, 120, 121, 23, 122, 43, 155, 539, 540, 541, 542, 31, 244, 245, 246, 247, 26, 29, 24, 709, 710, 723, 724, 725, 726, 727, 728, 729, 730, 731, 732, 733, 734, 735, 736, 737] (by decide +kernel) (by decide +kernel)) (goodIn_sub (fun _ h => List.mem_append_right _ h) (by decide +kernel))
set_option maxRecDepth 20000 in
theorem gL_law_L_daysOf : GoodIn wsL_law (va_wsS RL 186 yL_daysOf wsL_daysOf) := goodIn_app (goodIn_of _ (by decide +kernel)) ggL_law_L_daysOf
set_option maxRecDepth 20000 in
theorem ggL_law_X3_daysOf : GoodIn wsL_law wsX3_daysOf := goodIn_r _ [546, 85, 52, 161, 162, 163, 5, 164, 132, 87, 88, 89, 90, 91, 92, 93, 165, 166, 167, 168, 53, 547, 548, 549, 550, 291, 292, 293, 294, 49, 51, 50, 711, 712, 713, 714, 715, 716, 717, 718, 719, 720, 721, 722] (by decide +kernel) (by decide +kernel)
set_option maxRecDepth 20000 in
theorem gL_law_X3_daysOf : GoodIn wsL_law (wsV RL 188 RX3 yX3_daysOf wsX3_daysOf) := goodIn_app (goodIn_of _ (by decide +kernel)) ggL_law_X3_daysOf
set_option maxRecDepth 20000 in
theorem ggL_law_L_daysUntilRecalled : GoodIn wsL_law wsL_daysUntilRecalled := goodIn_ca (goodIn_r _ [553, 101, 554, 555, 556, 2, 557, 16, 17, 106, 107, 108, 109, 110, 111, 69, 70, 71, 115, 116, 117, 15, 118, 28, 119, 120, 121, 23, 122, 43, 558, 559, 560, 561, 24, 25, 26, 27, 76, 29, 30, 31, 32, 127, 236, 33, 237, 562, 563, 564, 565, 566, 232, 233, 234, 235, 238, 239, 240, 241, 242, 39, 40, 41, 243, 152, 153, 154, 244, 245, 246, 247, 77, 78, 79, 80, 248, 249, 250, 251, 252, 253, 254, 255, 256, 257, 210, 211, 212, 258, 259, 260, 261, 262, 263, 264, 265, 266, 267, 268, 269, 709, 710, 723, 724, 725, 726, 727, 728, 729, 730, 731, 732, 733, 734, 735, 736, 737] (by decide +kernel) (by decide +kernel)) (goodIn_sub (fun _ h => List.mem_append_right _ h) (by decide +kernel))
set_option maxRecDepth 20000 in
theorem gL_law_L_daysUntilRecalled : GoodIn wsL_law (va_wsS RL 189 yL_daysUntilRecalled wsL_daysUntilRecalled) := goodIn_app (goodIn_of _ (by decide +kernel)) ggL_law_L_daysUntilRecalled
set_option maxRecDepth 20000 in
theorem ggL_law_X3_daysUntilRecalled : GoodIn wsL_law wsX3_daysUntilRecalled := goodIn_r _ [570, 85, 133, 134, 135, 5, 136, 86, 87, 88, 89, 571, 572, 573, 574, 53, 575, 576, 577, 578, 54, 579, 580, 581, 582, 282, 283, 284, 285, 132, 197, 198, 165, 166, 167, 168, 286, 287, 288, 289, 52, 290, 39, 40, 41, 51, 291, 292, 293, 294, 49, 50, 217, 218, 219, 220, 295, 296, 297, 298, 299, 300, 301, 302, 583, 584, 585, 586, 90, 91, 92, 93, 711, 712, 713, 714, 715, 716, 717, 718, 719, 720, 721, 722] (by decide +kernel) (by decide +kernel)
set_option maxRecDepth 20000 in
theorem gL_law_X3_daysUntilRecalled : GoodIn wsL_law (wsV RL 191 RX3 yX3_daysUntilRecalled wsX3_daysUntilRecalled) := goodIn_app (goodIn_of _ (by decide +kernel)) ggL_law_X3_daysUntilRecalled
set_option maxRecDepth 20000 in
theorem ggL_law_L_lostWith : GoodIn wsL_law wsL_lostWith := goodIn_ca (goodIn_r _ [589, 59, 590, 591, 592, 2, 593, 187, 188, 189, 65, 66, 69, 70, 71, 190, 191, 192, 594, 595, 596, 597, 17, 16, 558, 559, 560, 15, 561, 24, 25, 26, 27, 28, 76, 29, 30, 31, 32, 127, 236, 33, 237, 562, 563, 564, 23, 565, 43, 566, 120, 121, 122, 232, 233, 234, 235, 238, 239, 240, 241, 242, 39, 40, 41, 243, 152, 153, 154, 119, 244, 245, 246, 247, 77, 78, 79, 80, 248, 249, 250, 251, 252, 253, 254, 255, 256, 116, 117, 118, 257, 210, 211, 212, 258, 259, 260, 261, 262, 263, 264, 265, 266, 267, 268, 269, 228, 229, 230, 231, 709, 710, 723, 724, 725, 726, 727, 728, 729, 730, 731, 732, 733, 734, 735, 736, 737] (by decide +kernel) (by decide +kernel)) (goodIn_sub (fun _ h => List.mem_append_left _ (List.mem_append_left _ (List.mem_append_right _ h))) (by decide +kernel))
set_option maxRecDepth 20000 in
theorem gL_law_L_lostWith : GoodIn wsL_law (va_wsS RL 192 yL_lostWith wsL_lostWith) := goodIn_app (goodIn_of _ (by decide +kernel)) ggL_law_L_lostWith
set_option maxRecDepth 20000 in
theorem ggL_law_X3_lostWith : GoodIn wsL_law wsX3_lostWith := goodIn_r _ [601, 85, 87, 88, 5, 89, 199, 200, 201, 602, 603, 604, 605, 197, 198, 274, 275, 276, 277, 132, 53, 575, 576, 577, 578, 54, 579, 580, 581, 582, 278, 279, 280, 281, 282, 283, 284, 285, 86, 165, 166, 167, 168, 286, 287, 288, 289, 52, 290, 39, 40, 41, 51, 291, 292, 293, 294, 49, 50, 217, 218, 219, 220, 295, 296, 297, 298, 299, 300, 301, 302, 583, 584, 585, 586, 90, 91, 92, 93, 711, 712, 713, 714, 715, 716, 717, 718, 719, 720, 721, 722] (by decide +kernel) (by decide +kernel)
set_option maxRecDepth 20000 in
theorem gL_law_X3_lostWith : GoodIn wsL_law (wsV RL 194 RX3 yX3_lostWith wsX3_lostWith) := goodIn_app (goodIn_of _ (by decide +kernel)) ggL_law_X3_lostWith
set_option maxRecDepth 20000 in
theorem ggL_law_X2_bestOrder : GoodIn wsL_law wsX2_bestOrder := goodIn_r _ [609, 16, 594, 595, 596, 2, 597, 17, 558, 559, 560, 15, 561, 24, 25, 26, 27, 28, 76, 29, 30, 31, 32, 127, 236, 33, 237, 562, 563, 564, 23, 565, 43, 566, 120, 121, 122, 232, 233, 234, 235, 238, 239, 240, 241, 242, 39, 40, 41, 243, 152, 153, 154, 119, 244, 245, 246, 247, 77, 78, 79, 80, 248, 249, 250, 251, 252, 253, 254, 255, 256, 116, 117, 118, 257, 210, 211, 212, 258, 259, 260, 261, 262, 263, 264, 265, 266, 267, 268, 269, 228, 229, 230, 231, 709, 710, 723, 724, 725, 726, 727, 728, 729, 730, 731, 732, 733, 734, 735, 736, 737] (by decide +kernel) (by decide +kernel)
set_option maxRecDepth 20000 in
theorem gL_law_X2_bestOrder : GoodIn wsL_law (wsV RL 195 RX2 yX2_bestOrder wsX2_bestOrder) := goodIn_app (goodIn_of _ (by decide +kernel)) ggL_law_X2_bestOrder
set_option maxRecDepth 20000 in
theorem ggL_law_X3_bestOrder : GoodIn wsL_law wsX3_bestOrder := goodIn_r _ [613, 614, 615, 616, 5, 617, 197, 602, 603, 604, 605, 198, 274, 275, 276, 277, 132, 53, 575, 576, 577, 578, 54, 579, 580, 581, 582, 278, 279, 280, 281, 282, 283, 284, 285, 86, 165, 166, 167, 168, 286, 287, 288, 289, 52, 290, 39, 40, 41, 51, 291, 292, 293, 294, 49, 50, 217, 218, 219, 220, 295, 296, 297, 298, 299, 300, 301, 302, 583, 584, 585, 586, 311, 312, 313, 314, 85, 711, 712, 713, 714, 715, 716, 717, 718, 719, 720, 721, 722] (by decide +kernel) (by decide +kernel)
set_option maxRecDepth 20000 in
theorem gL_law_X3_bestOrder : GoodIn wsL_law (wsV RL 198 RX3 yX3_bestOrder wsX3_bestOrder) := goodIn_app (goodIn_of _ (by decide +kernel)) ggL_law_X3_bestOrder
set_option maxRecDepth 20000 in
theorem ggL_law_X2_shippingWanted : GoodIn wsL_law wsX2_shippingWanted := goodIn_r _ [621, 16, 594, 595, 596, 2, 597, 17, 558, 559, 560, 15, 561, 24, 25, 26, 27, 28, 76, 29, 30, 31, 32, 127, 236, 33, 237, 562, 563, 564, 23, 565, 43, 566, 120, 121, 122, 232, 233, 234, 235, 238, 239, 240, 241, 242, 39, 40, 41, 243, 152, 153, 154, 119, 244, 245, 246, 247, 77, 78, 79, 80, 248, 249, 250, 251, 252, 253, 254, 255, 256, 116, 117, 118, 257, 210, 211, 212, 258, 259, 260, 261, 262, 263, 264, 265, 266, 267, 268, 269, 228, 229, 230, 231, 709, 710, 723, 724, 725, 726, 727, 728, 729, 730, 731, 732, 733, 734, 735, 736, 737] (by decide +kernel) (by decide +kernel)
set_option maxRecDepth 20000 in
theorem gL_law_X2_shippingWanted : GoodIn wsL_law (wsV RL 199 RX2 yX2_shippingWanted wsX2_shippingWanted) := goodIn_app (goodIn_of _ (by decide +kernel)) ggL_law_X2_shippingWanted
set_option maxRecDepth 20000 in
theorem ggL_law_X3_shippingWanted : GoodIn wsL_law wsX3_shippingWanted := goodIn_r _ [625, 626, 627, 628, 5, 629, 198, 602, 603, 604, 605, 197, 274, 275, 276, 277, 132, 53, 575, 576, 577, 578, 54, 579, 580, 581, 582, 278, 279, 280, 281, 282, 283, 284, 285, 86, 165, 166, 167, 168, 286, 287, 288, 289, 52, 290, 39, 40, 41, 51, 291, 292, 293, 294, 49, 50, 217, 218, 219, 220, 295, 296, 297, 298, 299, 300, 301, 302, 583, 584, 585, 586, 311, 312, 313, 314, 85, 711, 712, 713, 714, 715, 716, 717, 718, 719, 720, 721, 722] (by decide +kernel) (by decide +kernel)
set_option maxRecDepth 20000 in
theorem gL_law_X3_shippingWanted : GoodIn wsL_law (wsV RL 202 RX3 yX3_shippingWanted wsX3_shippingWanted) := goodIn_app (goodIn_of _ (by decide +kernel)) ggL_law_X3_shippingWanted
set_option maxRecDepth 20000 in
theorem ggL_law_L_bestShelf : GoodIn wsL_law wsL_bestShelf := goodIn_ca (goodIn_r _ [632, 101, 633, 634, 635, 2, 636, 16, 147, 148, 149, 150, 110, 111, 69, 70, 71, 151, 152, 153, 15, 154, 32, 119, 120, 121, 23, 122, 43, 539, 540, 541, 542, 31, 244, 245, 246, 247, 26, 29, 24, 637, 638, 639, 709, 710, 723, 724, 725, 726, 727, 728, 729, 730, 731, 732, 733, 734, 735, 736, 737] (by decide +kernel) (by decide +kernel)) (goodIn_sub (fun _ h => List.mem_append_right _ h) (by decide +kernel))
set_option maxRecDepth 20000 in
theorem gL_law_L_bestShelf : GoodIn wsL_law (va_wsS RL 203 yL_bestShelf wsL_bestShelf) := goodIn_app (goodIn_of _ (by decide +kernel)) ggL_law_L_bestShelf
set_option maxRecDepth 20000 in
theorem ggL_law_X3_bestShelf : GoodIn wsL_law wsX3_bestShelf := goodIn_r _ [643, 85, 161, 162, 163, 5, 164, 132, 87, 88, 89, 644, 645, 646, 647, 165, 166, 167, 168, 53, 547, 548, 549, 550, 291, 292, 293, 294, 49, 51, 50, 90, 91, 92, 93, 711, 712, 713, 714, 715, 716, 717, 718, 719, 720, 721, 722] (by decide +kernel) (by decide +kernel)
set_option maxRecDepth 20000 in
theorem gL_law_X3_bestShelf : GoodIn wsL_law (wsV RL 205 RX3 yX3_bestShelf wsX3_bestShelf) := goodIn_app (goodIn_of _ (by decide +kernel)) ggL_law_X3_bestShelf
set_option maxRecDepth 20000 in
theorem ggL_law_X2_meanVacuum : GoodIn wsL_law wsX2_meanVacuum := goodIn_r _ [651, 16, 228, 229, 230, 15, 231, 127, 32, 119, 120, 121, 23, 122, 43, 652, 653, 654, 655, 31, 243, 152, 153, 154, 709, 710, 723, 724, 725, 726, 727, 728, 729, 730, 731, 732, 733, 734, 735, 736, 737] (by decide +kernel) (by decide +kernel)
set_option maxRecDepth 20000 in
theorem gL_law_X2_meanVacuum : GoodIn wsL_law (wsV RL 206 RX2 yX2_meanVacuum wsX2_meanVacuum) := goodIn_app (goodIn_of _ (by decide +kernel)) ggL_law_X2_meanVacuum
set_option maxRecDepth 20000 in
theorem ggL_law_X3_meanVacuum : GoodIn wsL_law wsX3_meanVacuum := goodIn_r _ [659, 85, 132, 53, 165, 166, 167, 5, 168, 274, 275, 276, 277, 711, 712, 713, 714, 715, 716, 717, 718, 719, 720, 721, 722] (by decide +kernel) (by decide +kernel)
set_option maxRecDepth 20000 in
theorem gL_law_X3_meanVacuum : GoodIn wsL_law (wsV RL 210 RX3 yX3_meanVacuum wsX3_meanVacuum) := goodIn_app (goodIn_of _ (by decide +kernel)) ggL_law_X3_meanVacuum
set_option maxRecDepth 20000 in
theorem ggL_law_X2_digest : GoodIn wsL_law wsX2_digest := goodIn_ca (goodIn_ca (goodIn_r _ [663, 664, 665, 304, 305, 2, 306, 16, 666, 667, 668, 669, 670, 316, 317, 318, 671, 324, 325, 326, 672, 332, 333, 334, 228, 229, 230, 15, 231, 127, 32, 119, 120, 121, 23, 122, 43, 673, 340, 341, 342, 674, 348, 349, 350, 675, 356, 357, 358, 155, 676, 505, 506, 507, 190, 191, 192, 65, 66, 69, 70, 71, 508, 259, 260, 261, 243, 152, 153, 154, 262, 263, 264, 265, 31, 24, 30, 677, 607, 608, 609, 594, 595, 596, 597, 17, 558, 559, 560, 561, 25, 26, 27, 28, 76, 29, 236, 33, 237, 562, 563, 564, 565, 566, 232, 233, 234, 235, 238, 239, 240, 241, 242, 39, 40, 41, 244, 245, 246, 247, 77, 78, 79, 80, 248, 249, 250, 251, 252, 253, 254, 255, 256, 116, 117, 118, 257, 210, 211, 212, 258, 266, 267, 268, 269, 678, 619, 620, 621, 679, 680, 681, 682, 683, 371, 372, 373, 112, 113, 114, 110, 111, 374, 375, 376, 377, 684, 390, 391, 392, 685, 686, 687, 688, 689, 468, 469, 470, 106, 107, 108, 109, 690, 479, 480, 481, 691, 494, 495, 496, 115, 692, 555, 556, 557, 693, 694, 695, 696, 697, 412, 413, 414, 147, 148, 149, 150, 151, 698, 427, 428, 429, 699, 438, 439, 440, 700, 517, 518, 519, 520, 521, 522, 523, 701, 536, 537, 538, 539, 540, 541, 542, 702, 634, 635, 636, 637, 638, 639, 709, 710, 723, 724, 725, 726, 727, 728, 729, 730, 731, 732, 733, 734, 735, 736, 737] (by decide +kernel) (by decide +kernel)) (goodIn_sub (fun _ h => List.mem_append_left _ (List.mem_append_left _ (List.mem_append_right _ h))) (by decide +kernel))) (goodIn_sub (fun _ h => List.mem_append_right _ h) (by decide +kernel))
set_option maxRecDepth 20000 in
theorem gL_law_X2_digest : GoodIn wsL_law (wsV RL 211 RX2 yX2_digest wsX2_digest) := goodIn_app (goodIn_of _ (by decide +kernel)) ggL_law_X2_digest
set_option maxRecDepth 20000 in
theorem ggL_law_X3_digest : GoodIn wsL_law wsX3_digest := goodIn_r _ [706, 85, 42, 53, 86, 132, 707, 708, 50, 52, 274, 275, 276, 5, 277, 363, 364, 365, 366, 295, 296, 297, 298, 165, 166, 167, 168, 299, 300, 301, 302, 614, 615, 616, 617, 197, 602, 603, 604, 605, 198, 575, 576, 577, 578, 54, 579, 580, 581, 582, 278, 279, 280, 281, 282, 283, 284, 285, 286, 287, 288, 289, 290, 39, 40, 41, 51, 291, 292, 293, 294, 49, 217, 218, 219, 220, 583, 584, 585, 586, 626, 627, 628, 629, 382, 383, 384, 385, 486, 487, 488, 489, 571, 572, 573, 574, 419, 420, 421, 422, 528, 529, 530, 531, 547, 548, 549, 550, 644, 645, 646, 647, 711, 712, 713, 714, 715, 716, 717, 718, 719, 720, 721, 722] (by decide +kernel) (by decide +kernel)
set_option maxRecDepth 20000 in
theorem gL_law_X3_digest : GoodIn wsL_law (wsV RL 215 RX3 yX3_digest wsX3_digest) := goodIn_app (goodIn_of _ (by decide +kernel)) ggL_law_X3_digest
theorem dL_law_0 : decode cL_law 0 = .ok (.new 8, 3) := by decide +kernel
theorem dL_law_3 : decode cL_law 3 = .ok (.dup, 1) := by decide +kernel
theorem dL_law_4 : decode cL_law 4 = .ok (.invokespecial 88, 3) := by decide +kernel
theorem dL_law_7 : decode cL_law 7 = .ok (.astore_n 1, 1) := by decide +kernel
theorem dL_law_8 : decode cL_law 8 = .ok (.new 89, 3) := by decide +kernel
theorem dL_law_11 : decode cL_law 11 = .ok (.dup, 1) := by decide +kernel
theorem dL_law_12 : decode cL_law 12 = .ok (.invokespecial 91, 3) := by decide +kernel
theorem dL_law_15 : decode cL_law 15 = .ok (.astore_n 2, 1) := by decide +kernel
theorem dL_law_16 : decode cL_law 16 = .ok (.iconst 1, 1) := by decide +kernel
theorem dL_law_17 : decode cL_law 17 = .ok (.newarray .long, 2) := by decide +kernel
theorem dL_law_19 : decode cL_law 19 = .ok (.astore_n 3, 1) := by decide +kernel
theorem dL_law_20 : decode cL_law 20 = .ok (.iconst 0, 1) := by decide +kernel
theorem dL_law_21 : decode cL_law 21 = .ok (.istore 4, 2) := by decide +kernel
theorem dL_law_23 : decode cL_law 23 = .ok (.iload 4, 2) := by decide +kernel
theorem dL_law_25 : decode cL_law 25 = .ok (.aload_n 0, 1) := by decide +kernel
theorem dL_law_26 : decode cL_law 26 = .ok (.arraylength, 1) := by decide +kernel
theorem dL_law_27 : decode cL_law 27 = .ok (.iconst 4, 1) := by decide +kernel
theorem dL_law_28 : decode cL_law 28 = .ok (.isub, 1) := by decide +kernel
theorem dL_law_29 : decode cL_law 29 = .ok (.if_icmp .gt 1742, 3) := by decide +kernel
theorem dL_law_32 : decode cL_law 32 = .ok (.aload_n 0, 1) := by decide +kernel
theorem dL_law_33 : decode cL_law 33 = .ok (.iload 4, 2) := by decide +kernel
theorem dL_law_35 : decode cL_law 35 = .ok (.iaload, 1) := by decide +kernel
theorem dL_law_36 : decode cL_law 36 = .ok (.bipush 63, 2) := by decide +kernel
theorem dL_law_38 : decode cL_law 38 = .ok (.iand, 1) := by decide +kernel
theorem dL_law_39 : decode cL_law 39 = .ok (.tableswitch 1726 0 33 #[149, 217, 297, 365, 433, 501, 557, 613, 626, 639, 652, 665, 678, 691, 704, 760, 816, 872, 928, 984, 1047, 1110, 1166, 1222, 1285, 1341, 1409, 1465, 1521, 1589, 1602, 1615, 1671, 1712], 149) := by decide +kernel
theorem dL_law_188 : decode cL_law 188 = .ok (.aload_n 1, 1) := by decide +kernel
theorem dL_law_189 : decode cL_law 189 = .ok (.aload_n 0, 1) := by decide +kernel
theorem dL_law_190 : decode cL_law 190 = .ok (.iload 4, 2) := by decide +kernel
theorem dL_law_192 : decode cL_law 192 = .ok (.iconst 1, 1) := by decide +kernel
theorem dL_law_193 : decode cL_law 193 = .ok (.iadd, 1) := by decide +kernel
theorem dL_law_194 : decode cL_law 194 = .ok (.iaload, 1) := by decide +kernel
theorem dL_law_195 : decode cL_law 195 = .ok (.aload_n 0, 1) := by decide +kernel
theorem dL_law_196 : decode cL_law 196 = .ok (.iload 4, 2) := by decide +kernel
theorem dL_law_198 : decode cL_law 198 = .ok (.iconst 2, 1) := by decide +kernel
theorem dL_law_199 : decode cL_law 199 = .ok (.iadd, 1) := by decide +kernel
theorem dL_law_200 : decode cL_law 200 = .ok (.iaload, 1) := by decide +kernel
theorem dL_law_201 : decode cL_law 201 = .ok (.aload_n 3, 1) := by decide +kernel
theorem dL_law_202 : decode cL_law 202 = .ok (.invokestatic 92, 3) := by decide +kernel
theorem dL_law_205 : decode cL_law 205 = .ok (.istore 5, 2) := by decide +kernel
theorem dL_law_207 : decode cL_law 207 = .ok (.aload_n 2, 1) := by decide +kernel
theorem dL_law_208 : decode cL_law 208 = .ok (.aload_n 0, 1) := by decide +kernel
theorem dL_law_209 : decode cL_law 209 = .ok (.iload 4, 2) := by decide +kernel
theorem dL_law_211 : decode cL_law 211 = .ok (.iconst 1, 1) := by decide +kernel
theorem dL_law_212 : decode cL_law 212 = .ok (.iadd, 1) := by decide +kernel
theorem dL_law_213 : decode cL_law 213 = .ok (.iaload, 1) := by decide +kernel
theorem dL_law_214 : decode cL_law 214 = .ok (.aload_n 0, 1) := by decide +kernel
theorem dL_law_215 : decode cL_law 215 = .ok (.iload 4, 2) := by decide +kernel
theorem dL_law_217 : decode cL_law 217 = .ok (.iconst 2, 1) := by decide +kernel
theorem dL_law_218 : decode cL_law 218 = .ok (.iadd, 1) := by decide +kernel
theorem dL_law_219 : decode cL_law 219 = .ok (.iaload, 1) := by decide +kernel
theorem dL_law_220 : decode cL_law 220 = .ok (.invokevirtual 97, 3) := by decide +kernel
theorem dL_law_223 : decode cL_law 223 = .ok (.istore 6, 2) := by decide +kernel
theorem dL_law_225 : decode cL_law 225 = .ok (.aload_n 2, 1) := by decide +kernel
theorem dL_law_226 : decode cL_law 226 = .ok (.invokevirtual 98, 3) := by decide +kernel
theorem dL_law_229 : decode cL_law 229 = .ok (.iload 5, 2) := by decide +kernel
theorem dL_law_231 : decode cL_law 231 = .ok (.if_icmp .eq 5, 3) := by decide +kernel
theorem dL_law_234 : decode cL_law 234 = .ok (.iconst 0, 1) := by decide +kernel
theorem dL_law_235 : decode cL_law 235 = .ok (.ireturn, 1) := by decide +kernel
theorem dL_law_236 : decode cL_law 236 = .ok (.iload 5, 2) := by decide +kernel
theorem dL_law_238 : decode cL_law 238 = .ok (.ifCond .ne 15, 3) := by decide +kernel
theorem dL_law_241 : decode cL_law 241 = .ok (.aload_n 3, 1) := by decide +kernel
theorem dL_law_242 : decode cL_law 242 = .ok (.iconst 0, 1) := by decide +kernel
theorem dL_law_243 : decode cL_law 243 = .ok (.laload, 1) := by decide +kernel
theorem dL_law_244 : decode cL_law 244 = .ok (.iload 6, 2) := by decide +kernel
theorem dL_law_246 : decode cL_law 246 = .ok (.i2l, 1) := by decide +kernel
theorem dL_law_247 : decode cL_law 247 = .ok (.lcmp, 1) := by decide +kernel
theorem dL_law_248 : decode cL_law 248 = .ok (.ifCond .eq 5, 3) := by decide +kernel
theorem dL_law_251 : decode cL_law 251 = .ok (.iconst 0, 1) := by decide +kernel
theorem dL_law_252 : decode cL_law 252 = .ok (.ireturn, 1) := by decide +kernel
theorem dL_law_253 : decode cL_law 253 = .ok (.goto 1512, 3) := by decide +kernel
theorem dL_law_256 : decode cL_law 256 = .ok (.aload_n 1, 1) := by decide +kernel
theorem dL_law_257 : decode cL_law 257 = .ok (.aload_n 0, 1) := by decide +kernel
theorem dL_law_258 : decode cL_law 258 = .ok (.iload 4, 2) := by decide +kernel
theorem dL_law_260 : decode cL_law 260 = .ok (.iconst 1, 1) := by decide +kernel
theorem dL_law_261 : decode cL_law 261 = .ok (.iadd, 1) := by decide +kernel
theorem dL_law_262 : decode cL_law 262 = .ok (.iaload, 1) := by decide +kernel
theorem dL_law_263 : decode cL_law 263 = .ok (.aload_n 0, 1) := by decide +kernel
theorem dL_law_264 : decode cL_law 264 = .ok (.iload 4, 2) := by decide +kernel
theorem dL_law_266 : decode cL_law 266 = .ok (.iconst 2, 1) := by decide +kernel
theorem dL_law_267 : decode cL_law 267 = .ok (.iadd, 1) := by decide +kernel
theorem dL_law_268 : decode cL_law 268 = .ok (.iaload, 1) := by decide +kernel
theorem dL_law_269 : decode cL_law 269 = .ok (.aload_n 0, 1) := by decide +kernel
theorem dL_law_270 : decode cL_law 270 = .ok (.iload 4, 2) := by decide +kernel
theorem dL_law_272 : decode cL_law 272 = .ok (.iconst 3, 1) := by decide +kernel
theorem dL_law_273 : decode cL_law 273 = .ok (.iadd, 1) := by decide +kernel
theorem dL_law_274 : decode cL_law 274 = .ok (.iaload, 1) := by decide +kernel
theorem dL_law_275 : decode cL_law 275 = .ok (.aload_n 3, 1) := by decide +kernel
theorem dL_law_276 : decode cL_law 276 = .ok (.invokestatic 102, 3) := by decide +kernel
theorem dL_law_279 : decode cL_law 279 = .ok (.istore 5, 2) := by decide +kernel
theorem dL_law_281 : decode cL_law 281 = .ok (.aload_n 2, 1) := by decide +kernel
theorem dL_law_282 : decode cL_law 282 = .ok (.aload_n 0, 1) := by decide +kernel
theorem dL_law_283 : decode cL_law 283 = .ok (.iload 4, 2) := by decide +kernel
theorem dL_law_285 : decode cL_law 285 = .ok (.iconst 1, 1) := by decide +kernel
theorem dL_law_286 : decode cL_law 286 = .ok (.iadd, 1) := by decide +kernel
theorem dL_law_287 : decode cL_law 287 = .ok (.iaload, 1) := by decide +kernel
theorem dL_law_288 : decode cL_law 288 = .ok (.aload_n 0, 1) := by decide +kernel
theorem dL_law_289 : decode cL_law 289 = .ok (.iload 4, 2) := by decide +kernel
theorem dL_law_291 : decode cL_law 291 = .ok (.iconst 2, 1) := by decide +kernel
theorem dL_law_292 : decode cL_law 292 = .ok (.iadd, 1) := by decide +kernel
theorem dL_law_293 : decode cL_law 293 = .ok (.iaload, 1) := by decide +kernel
theorem dL_law_294 : decode cL_law 294 = .ok (.aload_n 0, 1) := by decide +kernel
theorem dL_law_295 : decode cL_law 295 = .ok (.iload 4, 2) := by decide +kernel
theorem dL_law_297 : decode cL_law 297 = .ok (.iconst 3, 1) := by decide +kernel
theorem dL_law_298 : decode cL_law 298 = .ok (.iadd, 1) := by decide +kernel
theorem dL_law_299 : decode cL_law 299 = .ok (.iaload, 1) := by decide +kernel
theorem dL_law_300 : decode cL_law 300 = .ok (.invokevirtual 105, 3) := by decide +kernel
theorem dL_law_303 : decode cL_law 303 = .ok (.istore 6, 2) := by decide +kernel
theorem dL_law_305 : decode cL_law 305 = .ok (.aload_n 2, 1) := by decide +kernel
theorem dL_law_306 : decode cL_law 306 = .ok (.invokevirtual 98, 3) := by decide +kernel
theorem dL_law_309 : decode cL_law 309 = .ok (.iload 5, 2) := by decide +kernel
theorem dL_law_311 : decode cL_law 311 = .ok (.if_icmp .eq 5, 3) := by decide +kernel
theorem dL_law_314 : decode cL_law 314 = .ok (.iconst 0, 1) := by decide +kernel
theorem dL_law_315 : decode cL_law 315 = .ok (.ireturn, 1) := by decide +kernel
theorem dL_law_316 : decode cL_law 316 = .ok (.iload 5, 2) := by decide +kernel
theorem dL_law_318 : decode cL_law 318 = .ok (.ifCond .ne 15, 3) := by decide +kernel
theorem dL_law_321 : decode cL_law 321 = .ok (.aload_n 3, 1) := by decide +kernel
theorem dL_law_322 : decode cL_law 322 = .ok (.iconst 0, 1) := by decide +kernel
theorem dL_law_323 : decode cL_law 323 = .ok (.laload, 1) := by decide +kernel
theorem dL_law_324 : decode cL_law 324 = .ok (.iload 6, 2) := by decide +kernel
theorem dL_law_326 : decode cL_law 326 = .ok (.i2l, 1) := by decide +kernel
theorem dL_law_327 : decode cL_law 327 = .ok (.lcmp, 1) := by decide +kernel
theorem dL_law_328 : decode cL_law 328 = .ok (.ifCond .eq 5, 3) := by decide +kernel
theorem dL_law_331 : decode cL_law 331 = .ok (.iconst 0, 1) := by decide +kernel
theorem dL_law_332 : decode cL_law 332 = .ok (.ireturn, 1) := by decide +kernel
theorem dL_law_333 : decode cL_law 333 = .ok (.goto 1432, 3) := by decide +kernel
theorem dL_law_336 : decode cL_law 336 = .ok (.aload_n 1, 1) := by decide +kernel
theorem dL_law_337 : decode cL_law 337 = .ok (.aload_n 0, 1) := by decide +kernel
theorem dL_law_338 : decode cL_law 338 = .ok (.iload 4, 2) := by decide +kernel
theorem dL_law_340 : decode cL_law 340 = .ok (.iconst 1, 1) := by decide +kernel
theorem dL_law_341 : decode cL_law 341 = .ok (.iadd, 1) := by decide +kernel
theorem dL_law_342 : decode cL_law 342 = .ok (.iaload, 1) := by decide +kernel
theorem dL_law_343 : decode cL_law 343 = .ok (.aload_n 0, 1) := by decide +kernel
theorem dL_law_344 : decode cL_law 344 = .ok (.iload 4, 2) := by decide +kernel
theorem dL_law_346 : decode cL_law 346 = .ok (.iconst 2, 1) := by decide +kernel
theorem dL_law_347 : decode cL_law 347 = .ok (.iadd, 1) := by decide +kernel
theorem dL_law_348 : decode cL_law 348 = .ok (.iaload, 1) := by decide +kernel
theorem dL_law_349 : decode cL_law 349 = .ok (.aload_n 3, 1) := by decide +kernel
theorem dL_law_350 : decode cL_law 350 = .ok (.invokestatic 106, 3) := by decide +kernel
theorem dL_law_353 : decode cL_law 353 = .ok (.istore 5, 2) := by decide +kernel
theorem dL_law_355 : decode cL_law 355 = .ok (.aload_n 2, 1) := by decide +kernel
theorem dL_law_356 : decode cL_law 356 = .ok (.aload_n 0, 1) := by decide +kernel
theorem dL_law_357 : decode cL_law 357 = .ok (.iload 4, 2) := by decide +kernel
theorem dL_law_359 : decode cL_law 359 = .ok (.iconst 1, 1) := by decide +kernel
theorem dL_law_360 : decode cL_law 360 = .ok (.iadd, 1) := by decide +kernel
theorem dL_law_361 : decode cL_law 361 = .ok (.iaload, 1) := by decide +kernel
theorem dL_law_362 : decode cL_law 362 = .ok (.aload_n 0, 1) := by decide +kernel
theorem dL_law_363 : decode cL_law 363 = .ok (.iload 4, 2) := by decide +kernel
theorem dL_law_365 : decode cL_law 365 = .ok (.iconst 2, 1) := by decide +kernel
theorem dL_law_366 : decode cL_law 366 = .ok (.iadd, 1) := by decide +kernel
theorem dL_law_367 : decode cL_law 367 = .ok (.iaload, 1) := by decide +kernel
theorem dL_law_368 : decode cL_law 368 = .ok (.invokevirtual 108, 3) := by decide +kernel
theorem dL_law_371 : decode cL_law 371 = .ok (.istore 6, 2) := by decide +kernel
theorem dL_law_373 : decode cL_law 373 = .ok (.aload_n 2, 1) := by decide +kernel
theorem dL_law_374 : decode cL_law 374 = .ok (.invokevirtual 98, 3) := by decide +kernel
theorem dL_law_377 : decode cL_law 377 = .ok (.iload 5, 2) := by decide +kernel
theorem dL_law_379 : decode cL_law 379 = .ok (.if_icmp .eq 5, 3) := by decide +kernel
theorem dL_law_382 : decode cL_law 382 = .ok (.iconst 0, 1) := by decide +kernel
theorem dL_law_383 : decode cL_law 383 = .ok (.ireturn, 1) := by decide +kernel
theorem dL_law_384 : decode cL_law 384 = .ok (.iload 5, 2) := by decide +kernel
theorem dL_law_386 : decode cL_law 386 = .ok (.ifCond .ne 15, 3) := by decide +kernel
theorem dL_law_389 : decode cL_law 389 = .ok (.aload_n 3, 1) := by decide +kernel
theorem dL_law_390 : decode cL_law 390 = .ok (.iconst 0, 1) := by decide +kernel
theorem dL_law_391 : decode cL_law 391 = .ok (.laload, 1) := by decide +kernel
theorem dL_law_392 : decode cL_law 392 = .ok (.iload 6, 2) := by decide +kernel
theorem dL_law_394 : decode cL_law 394 = .ok (.i2l, 1) := by decide +kernel
theorem dL_law_395 : decode cL_law 395 = .ok (.lcmp, 1) := by decide +kernel
theorem dL_law_396 : decode cL_law 396 = .ok (.ifCond .eq 5, 3) := by decide +kernel
theorem dL_law_399 : decode cL_law 399 = .ok (.iconst 0, 1) := by decide +kernel
theorem dL_law_400 : decode cL_law 400 = .ok (.ireturn, 1) := by decide +kernel
theorem dL_law_401 : decode cL_law 401 = .ok (.goto 1364, 3) := by decide +kernel
theorem dL_law_404 : decode cL_law 404 = .ok (.aload_n 1, 1) := by decide +kernel
theorem dL_law_405 : decode cL_law 405 = .ok (.aload_n 0, 1) := by decide +kernel
theorem dL_law_406 : decode cL_law 406 = .ok (.iload 4, 2) := by decide +kernel
theorem dL_law_408 : decode cL_law 408 = .ok (.iconst 1, 1) := by decide +kernel
theorem dL_law_409 : decode cL_law 409 = .ok (.iadd, 1) := by decide +kernel
theorem dL_law_410 : decode cL_law 410 = .ok (.iaload, 1) := by decide +kernel
theorem dL_law_411 : decode cL_law 411 = .ok (.aload_n 0, 1) := by decide +kernel
theorem dL_law_412 : decode cL_law 412 = .ok (.iload 4, 2) := by decide +kernel
theorem dL_law_414 : decode cL_law 414 = .ok (.iconst 2, 1) := by decide +kernel
theorem dL_law_415 : decode cL_law 415 = .ok (.iadd, 1) := by decide +kernel
theorem dL_law_416 : decode cL_law 416 = .ok (.iaload, 1) := by decide +kernel
theorem dL_law_417 : decode cL_law 417 = .ok (.aload_n 3, 1) := by decide +kernel
theorem dL_law_418 : decode cL_law 418 = .ok (.invokestatic 109, 3) := by decide +kernel
theorem dL_law_421 : decode cL_law 421 = .ok (.istore 5, 2) := by decide +kernel
theorem dL_law_423 : decode cL_law 423 = .ok (.aload_n 2, 1) := by decide +kernel
theorem dL_law_424 : decode cL_law 424 = .ok (.aload_n 0, 1) := by decide +kernel
theorem dL_law_425 : decode cL_law 425 = .ok (.iload 4, 2) := by decide +kernel
theorem dL_law_427 : decode cL_law 427 = .ok (.iconst 1, 1) := by decide +kernel
theorem dL_law_428 : decode cL_law 428 = .ok (.iadd, 1) := by decide +kernel
theorem dL_law_429 : decode cL_law 429 = .ok (.iaload, 1) := by decide +kernel
theorem dL_law_430 : decode cL_law 430 = .ok (.aload_n 0, 1) := by decide +kernel
theorem dL_law_431 : decode cL_law 431 = .ok (.iload 4, 2) := by decide +kernel
theorem dL_law_433 : decode cL_law 433 = .ok (.iconst 2, 1) := by decide +kernel
theorem dL_law_434 : decode cL_law 434 = .ok (.iadd, 1) := by decide +kernel
theorem dL_law_435 : decode cL_law 435 = .ok (.iaload, 1) := by decide +kernel
theorem dL_law_436 : decode cL_law 436 = .ok (.invokevirtual 111, 3) := by decide +kernel
theorem dL_law_439 : decode cL_law 439 = .ok (.istore 6, 2) := by decide +kernel
theorem dL_law_441 : decode cL_law 441 = .ok (.aload_n 2, 1) := by decide +kernel
theorem dL_law_442 : decode cL_law 442 = .ok (.invokevirtual 98, 3) := by decide +kernel
theorem dL_law_445 : decode cL_law 445 = .ok (.iload 5, 2) := by decide +kernel
theorem dL_law_447 : decode cL_law 447 = .ok (.if_icmp .eq 5, 3) := by decide +kernel
theorem dL_law_450 : decode cL_law 450 = .ok (.iconst 0, 1) := by decide +kernel
theorem dL_law_451 : decode cL_law 451 = .ok (.ireturn, 1) := by decide +kernel
theorem dL_law_452 : decode cL_law 452 = .ok (.iload 5, 2) := by decide +kernel
theorem dL_law_454 : decode cL_law 454 = .ok (.ifCond .ne 15, 3) := by decide +kernel
theorem dL_law_457 : decode cL_law 457 = .ok (.aload_n 3, 1) := by decide +kernel
theorem dL_law_458 : decode cL_law 458 = .ok (.iconst 0, 1) := by decide +kernel
theorem dL_law_459 : decode cL_law 459 = .ok (.laload, 1) := by decide +kernel
theorem dL_law_460 : decode cL_law 460 = .ok (.iload 6, 2) := by decide +kernel
theorem dL_law_462 : decode cL_law 462 = .ok (.i2l, 1) := by decide +kernel
theorem dL_law_463 : decode cL_law 463 = .ok (.lcmp, 1) := by decide +kernel
theorem dL_law_464 : decode cL_law 464 = .ok (.ifCond .eq 5, 3) := by decide +kernel
theorem dL_law_467 : decode cL_law 467 = .ok (.iconst 0, 1) := by decide +kernel
theorem dL_law_468 : decode cL_law 468 = .ok (.ireturn, 1) := by decide +kernel
theorem dL_law_469 : decode cL_law 469 = .ok (.goto 1296, 3) := by decide +kernel
theorem dL_law_472 : decode cL_law 472 = .ok (.aload_n 1, 1) := by decide +kernel
theorem dL_law_473 : decode cL_law 473 = .ok (.aload_n 0, 1) := by decide +kernel
theorem dL_law_474 : decode cL_law 474 = .ok (.iload 4, 2) := by decide +kernel
theorem dL_law_476 : decode cL_law 476 = .ok (.iconst 1, 1) := by decide +kernel
theorem dL_law_477 : decode cL_law 477 = .ok (.iadd, 1) := by decide +kernel
theorem dL_law_478 : decode cL_law 478 = .ok (.iaload, 1) := by decide +kernel
theorem dL_law_479 : decode cL_law 479 = .ok (.aload_n 0, 1) := by decide +kernel
theorem dL_law_480 : decode cL_law 480 = .ok (.iload 4, 2) := by decide +kernel
theorem dL_law_482 : decode cL_law 482 = .ok (.iconst 2, 1) := by decide +kernel
theorem dL_law_483 : decode cL_law 483 = .ok (.iadd, 1) := by decide +kernel
theorem dL_law_484 : decode cL_law 484 = .ok (.iaload, 1) := by decide +kernel
theorem dL_law_485 : decode cL_law 485 = .ok (.aload_n 3, 1) := by decide +kernel
theorem dL_law_486 : decode cL_law 486 = .ok (.invokestatic 112, 3) := by decide +kernel
theorem dL_law_489 : decode cL_law 489 = .ok (.istore 5, 2) := by decide +kernel
theorem dL_law_491 : decode cL_law 491 = .ok (.aload_n 2, 1) := by decide +kernel
theorem dL_law_492 : decode cL_law 492 = .ok (.aload_n 0, 1) := by decide +kernel
theorem dL_law_493 : decode cL_law 493 = .ok (.iload 4, 2) := by decide +kernel
theorem dL_law_495 : decode cL_law 495 = .ok (.iconst 1, 1) := by decide +kernel
theorem dL_law_496 : decode cL_law 496 = .ok (.iadd, 1) := by decide +kernel
theorem dL_law_497 : decode cL_law 497 = .ok (.iaload, 1) := by decide +kernel
theorem dL_law_498 : decode cL_law 498 = .ok (.aload_n 0, 1) := by decide +kernel
theorem dL_law_499 : decode cL_law 499 = .ok (.iload 4, 2) := by decide +kernel
theorem dL_law_501 : decode cL_law 501 = .ok (.iconst 2, 1) := by decide +kernel
theorem dL_law_502 : decode cL_law 502 = .ok (.iadd, 1) := by decide +kernel
theorem dL_law_503 : decode cL_law 503 = .ok (.iaload, 1) := by decide +kernel
theorem dL_law_504 : decode cL_law 504 = .ok (.invokevirtual 114, 3) := by decide +kernel
theorem dL_law_507 : decode cL_law 507 = .ok (.istore 6, 2) := by decide +kernel
theorem dL_law_509 : decode cL_law 509 = .ok (.aload_n 2, 1) := by decide +kernel
theorem dL_law_510 : decode cL_law 510 = .ok (.invokevirtual 98, 3) := by decide +kernel
theorem dL_law_513 : decode cL_law 513 = .ok (.iload 5, 2) := by decide +kernel
theorem dL_law_515 : decode cL_law 515 = .ok (.if_icmp .eq 5, 3) := by decide +kernel
theorem dL_law_518 : decode cL_law 518 = .ok (.iconst 0, 1) := by decide +kernel
theorem dL_law_519 : decode cL_law 519 = .ok (.ireturn, 1) := by decide +kernel
theorem dL_law_520 : decode cL_law 520 = .ok (.iload 5, 2) := by decide +kernel
theorem dL_law_522 : decode cL_law 522 = .ok (.ifCond .ne 15, 3) := by decide +kernel
theorem dL_law_525 : decode cL_law 525 = .ok (.aload_n 3, 1) := by decide +kernel
theorem dL_law_526 : decode cL_law 526 = .ok (.iconst 0, 1) := by decide +kernel
theorem dL_law_527 : decode cL_law 527 = .ok (.laload, 1) := by decide +kernel
theorem dL_law_528 : decode cL_law 528 = .ok (.iload 6, 2) := by decide +kernel
theorem dL_law_530 : decode cL_law 530 = .ok (.i2l, 1) := by decide +kernel
theorem dL_law_531 : decode cL_law 531 = .ok (.lcmp, 1) := by decide +kernel
theorem dL_law_532 : decode cL_law 532 = .ok (.ifCond .eq 5, 3) := by decide +kernel
theorem dL_law_535 : decode cL_law 535 = .ok (.iconst 0, 1) := by decide +kernel
theorem dL_law_536 : decode cL_law 536 = .ok (.ireturn, 1) := by decide +kernel
theorem dL_law_537 : decode cL_law 537 = .ok (.goto 1228, 3) := by decide +kernel
theorem dL_law_540 : decode cL_law 540 = .ok (.aload_n 1, 1) := by decide +kernel
theorem dL_law_541 : decode cL_law 541 = .ok (.aload_n 0, 1) := by decide +kernel
theorem dL_law_542 : decode cL_law 542 = .ok (.iload 4, 2) := by decide +kernel
theorem dL_law_544 : decode cL_law 544 = .ok (.iconst 1, 1) := by decide +kernel
theorem dL_law_545 : decode cL_law 545 = .ok (.iadd, 1) := by decide +kernel
theorem dL_law_546 : decode cL_law 546 = .ok (.iaload, 1) := by decide +kernel
theorem dL_law_547 : decode cL_law 547 = .ok (.aload_n 3, 1) := by decide +kernel
theorem dL_law_548 : decode cL_law 548 = .ok (.invokestatic 115, 3) := by decide +kernel
theorem dL_law_551 : decode cL_law 551 = .ok (.istore 5, 2) := by decide +kernel
theorem dL_law_553 : decode cL_law 553 = .ok (.aload_n 2, 1) := by decide +kernel
theorem dL_law_554 : decode cL_law 554 = .ok (.aload_n 0, 1) := by decide +kernel
theorem dL_law_555 : decode cL_law 555 = .ok (.iload 4, 2) := by decide +kernel
theorem dL_law_557 : decode cL_law 557 = .ok (.iconst 1, 1) := by decide +kernel
theorem dL_law_558 : decode cL_law 558 = .ok (.iadd, 1) := by decide +kernel
theorem dL_law_559 : decode cL_law 559 = .ok (.iaload, 1) := by decide +kernel
theorem dL_law_560 : decode cL_law 560 = .ok (.invokevirtual 118, 3) := by decide +kernel
theorem dL_law_563 : decode cL_law 563 = .ok (.istore 6, 2) := by decide +kernel
theorem dL_law_565 : decode cL_law 565 = .ok (.aload_n 2, 1) := by decide +kernel
theorem dL_law_566 : decode cL_law 566 = .ok (.invokevirtual 98, 3) := by decide +kernel
theorem dL_law_569 : decode cL_law 569 = .ok (.iload 5, 2) := by decide +kernel
theorem dL_law_571 : decode cL_law 571 = .ok (.if_icmp .eq 5, 3) := by decide +kernel
theorem dL_law_574 : decode cL_law 574 = .ok (.iconst 0, 1) := by decide +kernel
theorem dL_law_575 : decode cL_law 575 = .ok (.ireturn, 1) := by decide +kernel
theorem dL_law_576 : decode cL_law 576 = .ok (.iload 5, 2) := by decide +kernel
theorem dL_law_578 : decode cL_law 578 = .ok (.ifCond .ne 15, 3) := by decide +kernel
theorem dL_law_581 : decode cL_law 581 = .ok (.aload_n 3, 1) := by decide +kernel
theorem dL_law_582 : decode cL_law 582 = .ok (.iconst 0, 1) := by decide +kernel
theorem dL_law_583 : decode cL_law 583 = .ok (.laload, 1) := by decide +kernel
theorem dL_law_584 : decode cL_law 584 = .ok (.iload 6, 2) := by decide +kernel
theorem dL_law_586 : decode cL_law 586 = .ok (.i2l, 1) := by decide +kernel
theorem dL_law_587 : decode cL_law 587 = .ok (.lcmp, 1) := by decide +kernel
theorem dL_law_588 : decode cL_law 588 = .ok (.ifCond .eq 5, 3) := by decide +kernel
theorem dL_law_591 : decode cL_law 591 = .ok (.iconst 0, 1) := by decide +kernel
theorem dL_law_592 : decode cL_law 592 = .ok (.ireturn, 1) := by decide +kernel
theorem dL_law_593 : decode cL_law 593 = .ok (.goto 1172, 3) := by decide +kernel
theorem dL_law_596 : decode cL_law 596 = .ok (.aload_n 1, 1) := by decide +kernel
theorem dL_law_597 : decode cL_law 597 = .ok (.aload_n 0, 1) := by decide +kernel
theorem dL_law_598 : decode cL_law 598 = .ok (.iload 4, 2) := by decide +kernel
theorem dL_law_600 : decode cL_law 600 = .ok (.iconst 1, 1) := by decide +kernel
theorem dL_law_601 : decode cL_law 601 = .ok (.iadd, 1) := by decide +kernel
theorem dL_law_602 : decode cL_law 602 = .ok (.iaload, 1) := by decide +kernel
theorem dL_law_603 : decode cL_law 603 = .ok (.aload_n 3, 1) := by decide +kernel
theorem dL_law_604 : decode cL_law 604 = .ok (.invokestatic 119, 3) := by decide +kernel
theorem dL_law_607 : decode cL_law 607 = .ok (.istore 5, 2) := by decide +kernel
theorem dL_law_609 : decode cL_law 609 = .ok (.aload_n 2, 1) := by decide +kernel
theorem dL_law_610 : decode cL_law 610 = .ok (.aload_n 0, 1) := by decide +kernel
theorem dL_law_611 : decode cL_law 611 = .ok (.iload 4, 2) := by decide +kernel
theorem dL_law_613 : decode cL_law 613 = .ok (.iconst 1, 1) := by decide +kernel
theorem dL_law_614 : decode cL_law 614 = .ok (.iadd, 1) := by decide +kernel
theorem dL_law_615 : decode cL_law 615 = .ok (.iaload, 1) := by decide +kernel
theorem dL_law_616 : decode cL_law 616 = .ok (.invokevirtual 121, 3) := by decide +kernel
theorem dL_law_619 : decode cL_law 619 = .ok (.istore 6, 2) := by decide +kernel
theorem dL_law_621 : decode cL_law 621 = .ok (.aload_n 2, 1) := by decide +kernel
theorem dL_law_622 : decode cL_law 622 = .ok (.invokevirtual 98, 3) := by decide +kernel
theorem dL_law_625 : decode cL_law 625 = .ok (.iload 5, 2) := by decide +kernel
theorem dL_law_627 : decode cL_law 627 = .ok (.if_icmp .eq 5, 3) := by decide +kernel
theorem dL_law_630 : decode cL_law 630 = .ok (.iconst 0, 1) := by decide +kernel
theorem dL_law_631 : decode cL_law 631 = .ok (.ireturn, 1) := by decide +kernel
theorem dL_law_632 : decode cL_law 632 = .ok (.iload 5, 2) := by decide +kernel
theorem dL_law_634 : decode cL_law 634 = .ok (.ifCond .ne 15, 3) := by decide +kernel
theorem dL_law_637 : decode cL_law 637 = .ok (.aload_n 3, 1) := by decide +kernel
theorem dL_law_638 : decode cL_law 638 = .ok (.iconst 0, 1) := by decide +kernel
theorem dL_law_639 : decode cL_law 639 = .ok (.laload, 1) := by decide +kernel
theorem dL_law_640 : decode cL_law 640 = .ok (.iload 6, 2) := by decide +kernel
theorem dL_law_642 : decode cL_law 642 = .ok (.i2l, 1) := by decide +kernel
theorem dL_law_643 : decode cL_law 643 = .ok (.lcmp, 1) := by decide +kernel
theorem dL_law_644 : decode cL_law 644 = .ok (.ifCond .eq 5, 3) := by decide +kernel
theorem dL_law_647 : decode cL_law 647 = .ok (.iconst 0, 1) := by decide +kernel
theorem dL_law_648 : decode cL_law 648 = .ok (.ireturn, 1) := by decide +kernel
theorem dL_law_649 : decode cL_law 649 = .ok (.goto 1116, 3) := by decide +kernel
theorem dL_law_652 : decode cL_law 652 = .ok (.aload_n 1, 1) := by decide +kernel
theorem dL_law_653 : decode cL_law 653 = .ok (.invokevirtual 122, 3) := by decide +kernel
theorem dL_law_656 : decode cL_law 656 = .ok (.aload_n 2, 1) := by decide +kernel
theorem dL_law_657 : decode cL_law 657 = .ok (.invokevirtual 125, 3) := by decide +kernel
theorem dL_law_660 : decode cL_law 660 = .ok (.if_icmp .eq 1105, 3) := by decide +kernel
theorem dL_law_663 : decode cL_law 663 = .ok (.iconst 0, 1) := by decide +kernel
theorem dL_law_664 : decode cL_law 664 = .ok (.ireturn, 1) := by decide +kernel
theorem dL_law_665 : decode cL_law 665 = .ok (.aload_n 1, 1) := by decide +kernel
theorem dL_law_666 : decode cL_law 666 = .ok (.invokevirtual 126, 3) := by decide +kernel
theorem dL_law_669 : decode cL_law 669 = .ok (.aload_n 2, 1) := by decide +kernel
theorem dL_law_670 : decode cL_law 670 = .ok (.invokevirtual 129, 3) := by decide +kernel
theorem dL_law_673 : decode cL_law 673 = .ok (.if_icmp .eq 1092, 3) := by decide +kernel
theorem dL_law_676 : decode cL_law 676 = .ok (.iconst 0, 1) := by decide +kernel
theorem dL_law_677 : decode cL_law 677 = .ok (.ireturn, 1) := by decide +kernel
theorem dL_law_678 : decode cL_law 678 = .ok (.aload_n 1, 1) := by decide +kernel
theorem dL_law_679 : decode cL_law 679 = .ok (.invokevirtual 130, 3) := by decide +kernel
theorem dL_law_682 : decode cL_law 682 = .ok (.aload_n 2, 1) := by decide +kernel
theorem dL_law_683 : decode cL_law 683 = .ok (.invokevirtual 133, 3) := by decide +kernel
theorem dL_law_686 : decode cL_law 686 = .ok (.if_icmp .eq 1079, 3) := by decide +kernel
theorem dL_law_689 : decode cL_law 689 = .ok (.iconst 0, 1) := by decide +kernel
theorem dL_law_690 : decode cL_law 690 = .ok (.ireturn, 1) := by decide +kernel
theorem dL_law_691 : decode cL_law 691 = .ok (.aload_n 1, 1) := by decide +kernel
theorem dL_law_692 : decode cL_law 692 = .ok (.invokevirtual 134, 3) := by decide +kernel
theorem dL_law_695 : decode cL_law 695 = .ok (.aload_n 2, 1) := by decide +kernel
theorem dL_law_696 : decode cL_law 696 = .ok (.invokevirtual 137, 3) := by decide +kernel
theorem dL_law_699 : decode cL_law 699 = .ok (.if_icmp .eq 1066, 3) := by decide +kernel
theorem dL_law_702 : decode cL_law 702 = .ok (.iconst 0, 1) := by decide +kernel
theorem dL_law_703 : decode cL_law 703 = .ok (.ireturn, 1) := by decide +kernel
theorem dL_law_704 : decode cL_law 704 = .ok (.aload_n 1, 1) := by decide +kernel
theorem dL_law_705 : decode cL_law 705 = .ok (.invokevirtual 138, 3) := by decide +kernel
theorem dL_law_708 : decode cL_law 708 = .ok (.aload_n 2, 1) := by decide +kernel
theorem dL_law_709 : decode cL_law 709 = .ok (.invokevirtual 141, 3) := by decide +kernel
theorem dL_law_712 : decode cL_law 712 = .ok (.if_icmp .eq 1053, 3) := by decide +kernel
theorem dL_law_715 : decode cL_law 715 = .ok (.iconst 0, 1) := by decide +kernel
theorem dL_law_716 : decode cL_law 716 = .ok (.ireturn, 1) := by decide +kernel
theorem dL_law_717 : decode cL_law 717 = .ok (.aload_n 1, 1) := by decide +kernel
theorem dL_law_718 : decode cL_law 718 = .ok (.invokevirtual 142, 3) := by decide +kernel
theorem dL_law_721 : decode cL_law 721 = .ok (.aload_n 2, 1) := by decide +kernel
theorem dL_law_722 : decode cL_law 722 = .ok (.invokevirtual 145, 3) := by decide +kernel
theorem dL_law_725 : decode cL_law 725 = .ok (.if_icmp .eq 1040, 3) := by decide +kernel
theorem dL_law_728 : decode cL_law 728 = .ok (.iconst 0, 1) := by decide +kernel
theorem dL_law_729 : decode cL_law 729 = .ok (.ireturn, 1) := by decide +kernel
theorem dL_law_730 : decode cL_law 730 = .ok (.aload_n 1, 1) := by decide +kernel
theorem dL_law_731 : decode cL_law 731 = .ok (.invokevirtual 146, 3) := by decide +kernel
theorem dL_law_734 : decode cL_law 734 = .ok (.aload_n 2, 1) := by decide +kernel
theorem dL_law_735 : decode cL_law 735 = .ok (.invokevirtual 149, 3) := by decide +kernel
theorem dL_law_738 : decode cL_law 738 = .ok (.if_icmp .eq 1027, 3) := by decide +kernel
theorem dL_law_741 : decode cL_law 741 = .ok (.iconst 0, 1) := by decide +kernel
theorem dL_law_742 : decode cL_law 742 = .ok (.ireturn, 1) := by decide +kernel
theorem dL_law_743 : decode cL_law 743 = .ok (.aload_n 1, 1) := by decide +kernel
theorem dL_law_744 : decode cL_law 744 = .ok (.aload_n 0, 1) := by decide +kernel
theorem dL_law_745 : decode cL_law 745 = .ok (.iload 4, 2) := by decide +kernel
theorem dL_law_747 : decode cL_law 747 = .ok (.iconst 1, 1) := by decide +kernel
theorem dL_law_748 : decode cL_law 748 = .ok (.iadd, 1) := by decide +kernel
theorem dL_law_749 : decode cL_law 749 = .ok (.iaload, 1) := by decide +kernel
theorem dL_law_750 : decode cL_law 750 = .ok (.aload_n 3, 1) := by decide +kernel
theorem dL_law_751 : decode cL_law 751 = .ok (.invokestatic 150, 3) := by decide +kernel
theorem dL_law_754 : decode cL_law 754 = .ok (.istore 5, 2) := by decide +kernel
theorem dL_law_756 : decode cL_law 756 = .ok (.aload_n 2, 1) := by decide +kernel
theorem dL_law_757 : decode cL_law 757 = .ok (.aload_n 0, 1) := by decide +kernel
theorem dL_law_758 : decode cL_law 758 = .ok (.iload 4, 2) := by decide +kernel
theorem dL_law_760 : decode cL_law 760 = .ok (.iconst 1, 1) := by decide +kernel
theorem dL_law_761 : decode cL_law 761 = .ok (.iadd, 1) := by decide +kernel
theorem dL_law_762 : decode cL_law 762 = .ok (.iaload, 1) := by decide +kernel
theorem dL_law_763 : decode cL_law 763 = .ok (.invokevirtual 152, 3) := by decide +kernel
theorem dL_law_766 : decode cL_law 766 = .ok (.istore 6, 2) := by decide +kernel
theorem dL_law_768 : decode cL_law 768 = .ok (.aload_n 2, 1) := by decide +kernel
theorem dL_law_769 : decode cL_law 769 = .ok (.invokevirtual 98, 3) := by decide +kernel
theorem dL_law_772 : decode cL_law 772 = .ok (.iload 5, 2) := by decide +kernel
theorem dL_law_774 : decode cL_law 774 = .ok (.if_icmp .eq 5, 3) := by decide +kernel
theorem dL_law_777 : decode cL_law 777 = .ok (.iconst 0, 1) := by decide +kernel
theorem dL_law_778 : decode cL_law 778 = .ok (.ireturn, 1) := by decide +kernel
theorem dL_law_779 : decode cL_law 779 = .ok (.iload 5, 2) := by decide +kernel
theorem dL_law_781 : decode cL_law 781 = .ok (.ifCond .ne 15, 3) := by decide +kernel
theorem dL_law_784 : decode cL_law 784 = .ok (.aload_n 3, 1) := by decide +kernel
theorem dL_law_785 : decode cL_law 785 = .ok (.iconst 0, 1) := by decide +kernel
theorem dL_law_786 : decode cL_law 786 = .ok (.laload, 1) := by decide +kernel
theorem dL_law_787 : decode cL_law 787 = .ok (.iload 6, 2) := by decide +kernel
theorem dL_law_789 : decode cL_law 789 = .ok (.i2l, 1) := by decide +kernel
theorem dL_law_790 : decode cL_law 790 = .ok (.lcmp, 1) := by decide +kernel
theorem dL_law_791 : decode cL_law 791 = .ok (.ifCond .eq 5, 3) := by decide +kernel
theorem dL_law_794 : decode cL_law 794 = .ok (.iconst 0, 1) := by decide +kernel
theorem dL_law_795 : decode cL_law 795 = .ok (.ireturn, 1) := by decide +kernel
theorem dL_law_796 : decode cL_law 796 = .ok (.goto 969, 3) := by decide +kernel
theorem dL_law_799 : decode cL_law 799 = .ok (.aload_n 1, 1) := by decide +kernel
theorem dL_law_800 : decode cL_law 800 = .ok (.aload_n 0, 1) := by decide +kernel
theorem dL_law_801 : decode cL_law 801 = .ok (.iload 4, 2) := by decide +kernel
theorem dL_law_803 : decode cL_law 803 = .ok (.iconst 1, 1) := by decide +kernel
theorem dL_law_804 : decode cL_law 804 = .ok (.iadd, 1) := by decide +kernel
theorem dL_law_805 : decode cL_law 805 = .ok (.iaload, 1) := by decide +kernel
theorem dL_law_806 : decode cL_law 806 = .ok (.aload_n 3, 1) := by decide +kernel
theorem dL_law_807 : decode cL_law 807 = .ok (.invokestatic 153, 3) := by decide +kernel
theorem dL_law_810 : decode cL_law 810 = .ok (.istore 5, 2) := by decide +kernel
theorem dL_law_812 : decode cL_law 812 = .ok (.aload_n 2, 1) := by decide +kernel
theorem dL_law_813 : decode cL_law 813 = .ok (.aload_n 0, 1) := by decide +kernel
theorem dL_law_814 : decode cL_law 814 = .ok (.iload 4, 2) := by decide +kernel
theorem dL_law_816 : decode cL_law 816 = .ok (.iconst 1, 1) := by decide +kernel
theorem dL_law_817 : decode cL_law 817 = .ok (.iadd, 1) := by decide +kernel
theorem dL_law_818 : decode cL_law 818 = .ok (.iaload, 1) := by decide +kernel
theorem dL_law_819 : decode cL_law 819 = .ok (.invokevirtual 155, 3) := by decide +kernel
theorem dL_law_822 : decode cL_law 822 = .ok (.istore 6, 2) := by decide +kernel
theorem dL_law_824 : decode cL_law 824 = .ok (.aload_n 2, 1) := by decide +kernel
theorem dL_law_825 : decode cL_law 825 = .ok (.invokevirtual 98, 3) := by decide +kernel
theorem dL_law_828 : decode cL_law 828 = .ok (.iload 5, 2) := by decide +kernel
theorem dL_law_830 : decode cL_law 830 = .ok (.if_icmp .eq 5, 3) := by decide +kernel
theorem dL_law_833 : decode cL_law 833 = .ok (.iconst 0, 1) := by decide +kernel
theorem dL_law_834 : decode cL_law 834 = .ok (.ireturn, 1) := by decide +kernel
theorem dL_law_835 : decode cL_law 835 = .ok (.iload 5, 2) := by decide +kernel
theorem dL_law_837 : decode cL_law 837 = .ok (.ifCond .ne 15, 3) := by decide +kernel
theorem dL_law_840 : decode cL_law 840 = .ok (.aload_n 3, 1) := by decide +kernel
theorem dL_law_841 : decode cL_law 841 = .ok (.iconst 0, 1) := by decide +kernel
theorem dL_law_842 : decode cL_law 842 = .ok (.laload, 1) := by decide +kernel
theorem dL_law_843 : decode cL_law 843 = .ok (.iload 6, 2) := by decide +kernel
theorem dL_law_845 : decode cL_law 845 = .ok (.i2l, 1) := by decide +kernel
theorem dL_law_846 : decode cL_law 846 = .ok (.lcmp, 1) := by decide +kernel
theorem dL_law_847 : decode cL_law 847 = .ok (.ifCond .eq 5, 3) := by decide +kernel
theorem dL_law_850 : decode cL_law 850 = .ok (.iconst 0, 1) := by decide +kernel
theorem dL_law_851 : decode cL_law 851 = .ok (.ireturn, 1) := by decide +kernel
theorem dL_law_852 : decode cL_law 852 = .ok (.goto 913, 3) := by decide +kernel
theorem dL_law_855 : decode cL_law 855 = .ok (.aload_n 1, 1) := by decide +kernel
theorem dL_law_856 : decode cL_law 856 = .ok (.aload_n 0, 1) := by decide +kernel
theorem dL_law_857 : decode cL_law 857 = .ok (.iload 4, 2) := by decide +kernel
theorem dL_law_859 : decode cL_law 859 = .ok (.iconst 1, 1) := by decide +kernel
theorem dL_law_860 : decode cL_law 860 = .ok (.iadd, 1) := by decide +kernel
theorem dL_law_861 : decode cL_law 861 = .ok (.iaload, 1) := by decide +kernel
theorem dL_law_862 : decode cL_law 862 = .ok (.aload_n 3, 1) := by decide +kernel
theorem dL_law_863 : decode cL_law 863 = .ok (.invokestatic 156, 3) := by decide +kernel
theorem dL_law_866 : decode cL_law 866 = .ok (.istore 5, 2) := by decide +kernel
theorem dL_law_868 : decode cL_law 868 = .ok (.aload_n 2, 1) := by decide +kernel
theorem dL_law_869 : decode cL_law 869 = .ok (.aload_n 0, 1) := by decide +kernel
theorem dL_law_870 : decode cL_law 870 = .ok (.iload 4, 2) := by decide +kernel
theorem dL_law_872 : decode cL_law 872 = .ok (.iconst 1, 1) := by decide +kernel
theorem dL_law_873 : decode cL_law 873 = .ok (.iadd, 1) := by decide +kernel
theorem dL_law_874 : decode cL_law 874 = .ok (.iaload, 1) := by decide +kernel
theorem dL_law_875 : decode cL_law 875 = .ok (.invokevirtual 158, 3) := by decide +kernel
theorem dL_law_878 : decode cL_law 878 = .ok (.istore 6, 2) := by decide +kernel
theorem dL_law_880 : decode cL_law 880 = .ok (.aload_n 2, 1) := by decide +kernel
theorem dL_law_881 : decode cL_law 881 = .ok (.invokevirtual 98, 3) := by decide +kernel
theorem dL_law_884 : decode cL_law 884 = .ok (.iload 5, 2) := by decide +kernel
theorem dL_law_886 : decode cL_law 886 = .ok (.if_icmp .eq 5, 3) := by decide +kernel
theorem dL_law_889 : decode cL_law 889 = .ok (.iconst 0, 1) := by decide +kernel
theorem dL_law_890 : decode cL_law 890 = .ok (.ireturn, 1) := by decide +kernel
theorem dL_law_891 : decode cL_law 891 = .ok (.iload 5, 2) := by decide +kernel
theorem dL_law_893 : decode cL_law 893 = .ok (.ifCond .ne 15, 3) := by decide +kernel
theorem dL_law_896 : decode cL_law 896 = .ok (.aload_n 3, 1) := by decide +kernel
theorem dL_law_897 : decode cL_law 897 = .ok (.iconst 0, 1) := by decide +kernel
theorem dL_law_898 : decode cL_law 898 = .ok (.laload, 1) := by decide +kernel
theorem dL_law_899 : decode cL_law 899 = .ok (.iload 6, 2) := by decide +kernel
theorem dL_law_901 : decode cL_law 901 = .ok (.i2l, 1) := by decide +kernel
theorem dL_law_902 : decode cL_law 902 = .ok (.lcmp, 1) := by decide +kernel
theorem dL_law_903 : decode cL_law 903 = .ok (.ifCond .eq 5, 3) := by decide +kernel
theorem dL_law_906 : decode cL_law 906 = .ok (.iconst 0, 1) := by decide +kernel
theorem dL_law_907 : decode cL_law 907 = .ok (.ireturn, 1) := by decide +kernel
theorem dL_law_908 : decode cL_law 908 = .ok (.goto 857, 3) := by decide +kernel
theorem dL_law_911 : decode cL_law 911 = .ok (.aload_n 1, 1) := by decide +kernel
theorem dL_law_912 : decode cL_law 912 = .ok (.aload_n 0, 1) := by decide +kernel
theorem dL_law_913 : decode cL_law 913 = .ok (.iload 4, 2) := by decide +kernel
theorem dL_law_915 : decode cL_law 915 = .ok (.iconst 1, 1) := by decide +kernel
theorem dL_law_916 : decode cL_law 916 = .ok (.iadd, 1) := by decide +kernel
theorem dL_law_917 : decode cL_law 917 = .ok (.iaload, 1) := by decide +kernel
theorem dL_law_918 : decode cL_law 918 = .ok (.aload_n 3, 1) := by decide +kernel
theorem dL_law_919 : decode cL_law 919 = .ok (.invokestatic 159, 3) := by decide +kernel
theorem dL_law_922 : decode cL_law 922 = .ok (.istore 5, 2) := by decide +kernel
theorem dL_law_924 : decode cL_law 924 = .ok (.aload_n 2, 1) := by decide +kernel
theorem dL_law_925 : decode cL_law 925 = .ok (.aload_n 0, 1) := by decide +kernel
theorem dL_law_926 : decode cL_law 926 = .ok (.iload 4, 2) := by decide +kernel
theorem dL_law_928 : decode cL_law 928 = .ok (.iconst 1, 1) := by decide +kernel
theorem dL_law_929 : decode cL_law 929 = .ok (.iadd, 1) := by decide +kernel
theorem dL_law_930 : decode cL_law 930 = .ok (.iaload, 1) := by decide +kernel
theorem dL_law_931 : decode cL_law 931 = .ok (.invokevirtual 161, 3) := by decide +kernel
theorem dL_law_934 : decode cL_law 934 = .ok (.istore 6, 2) := by decide +kernel
theorem dL_law_936 : decode cL_law 936 = .ok (.aload_n 2, 1) := by decide +kernel
theorem dL_law_937 : decode cL_law 937 = .ok (.invokevirtual 98, 3) := by decide +kernel
theorem dL_law_940 : decode cL_law 940 = .ok (.iload 5, 2) := by decide +kernel
theorem dL_law_942 : decode cL_law 942 = .ok (.if_icmp .eq 5, 3) := by decide +kernel
theorem dL_law_945 : decode cL_law 945 = .ok (.iconst 0, 1) := by decide +kernel
theorem dL_law_946 : decode cL_law 946 = .ok (.ireturn, 1) := by decide +kernel
theorem dL_law_947 : decode cL_law 947 = .ok (.iload 5, 2) := by decide +kernel
theorem dL_law_949 : decode cL_law 949 = .ok (.ifCond .ne 15, 3) := by decide +kernel
theorem dL_law_952 : decode cL_law 952 = .ok (.aload_n 3, 1) := by decide +kernel
theorem dL_law_953 : decode cL_law 953 = .ok (.iconst 0, 1) := by decide +kernel
theorem dL_law_954 : decode cL_law 954 = .ok (.laload, 1) := by decide +kernel
theorem dL_law_955 : decode cL_law 955 = .ok (.iload 6, 2) := by decide +kernel
theorem dL_law_957 : decode cL_law 957 = .ok (.i2l, 1) := by decide +kernel
theorem dL_law_958 : decode cL_law 958 = .ok (.lcmp, 1) := by decide +kernel
theorem dL_law_959 : decode cL_law 959 = .ok (.ifCond .eq 5, 3) := by decide +kernel
theorem dL_law_962 : decode cL_law 962 = .ok (.iconst 0, 1) := by decide +kernel
theorem dL_law_963 : decode cL_law 963 = .ok (.ireturn, 1) := by decide +kernel
theorem dL_law_964 : decode cL_law 964 = .ok (.goto 801, 3) := by decide +kernel
theorem dL_law_967 : decode cL_law 967 = .ok (.aload_n 1, 1) := by decide +kernel
theorem dL_law_968 : decode cL_law 968 = .ok (.aload_n 0, 1) := by decide +kernel
theorem dL_law_969 : decode cL_law 969 = .ok (.iload 4, 2) := by decide +kernel
theorem dL_law_971 : decode cL_law 971 = .ok (.iconst 1, 1) := by decide +kernel
theorem dL_law_972 : decode cL_law 972 = .ok (.iadd, 1) := by decide +kernel
theorem dL_law_973 : decode cL_law 973 = .ok (.iaload, 1) := by decide +kernel
theorem dL_law_974 : decode cL_law 974 = .ok (.aload_n 3, 1) := by decide +kernel
theorem dL_law_975 : decode cL_law 975 = .ok (.invokestatic 162, 3) := by decide +kernel
theorem dL_law_978 : decode cL_law 978 = .ok (.istore 5, 2) := by decide +kernel
theorem dL_law_980 : decode cL_law 980 = .ok (.aload_n 2, 1) := by decide +kernel
theorem dL_law_981 : decode cL_law 981 = .ok (.aload_n 0, 1) := by decide +kernel
theorem dL_law_982 : decode cL_law 982 = .ok (.iload 4, 2) := by decide +kernel
theorem dL_law_984 : decode cL_law 984 = .ok (.iconst 1, 1) := by decide +kernel
theorem dL_law_985 : decode cL_law 985 = .ok (.iadd, 1) := by decide +kernel
theorem dL_law_986 : decode cL_law 986 = .ok (.iaload, 1) := by decide +kernel
theorem dL_law_987 : decode cL_law 987 = .ok (.invokevirtual 164, 3) := by decide +kernel
theorem dL_law_990 : decode cL_law 990 = .ok (.istore 6, 2) := by decide +kernel
theorem dL_law_992 : decode cL_law 992 = .ok (.aload_n 2, 1) := by decide +kernel
theorem dL_law_993 : decode cL_law 993 = .ok (.invokevirtual 98, 3) := by decide +kernel
theorem dL_law_996 : decode cL_law 996 = .ok (.iload 5, 2) := by decide +kernel
theorem dL_law_998 : decode cL_law 998 = .ok (.if_icmp .eq 5, 3) := by decide +kernel
theorem dL_law_1001 : decode cL_law 1001 = .ok (.iconst 0, 1) := by decide +kernel
theorem dL_law_1002 : decode cL_law 1002 = .ok (.ireturn, 1) := by decide +kernel
theorem dL_law_1003 : decode cL_law 1003 = .ok (.iload 5, 2) := by decide +kernel
theorem dL_law_1005 : decode cL_law 1005 = .ok (.ifCond .ne 15, 3) := by decide +kernel
theorem dL_law_1008 : decode cL_law 1008 = .ok (.aload_n 3, 1) := by decide +kernel
theorem dL_law_1009 : decode cL_law 1009 = .ok (.iconst 0, 1) := by decide +kernel
theorem dL_law_1010 : decode cL_law 1010 = .ok (.laload, 1) := by decide +kernel
theorem dL_law_1011 : decode cL_law 1011 = .ok (.iload 6, 2) := by decide +kernel
theorem dL_law_1013 : decode cL_law 1013 = .ok (.i2l, 1) := by decide +kernel
theorem dL_law_1014 : decode cL_law 1014 = .ok (.lcmp, 1) := by decide +kernel
theorem dL_law_1015 : decode cL_law 1015 = .ok (.ifCond .eq 5, 3) := by decide +kernel
theorem dL_law_1018 : decode cL_law 1018 = .ok (.iconst 0, 1) := by decide +kernel
theorem dL_law_1019 : decode cL_law 1019 = .ok (.ireturn, 1) := by decide +kernel
theorem dL_law_1020 : decode cL_law 1020 = .ok (.goto 745, 3) := by decide +kernel
theorem dL_law_1023 : decode cL_law 1023 = .ok (.aload_n 1, 1) := by decide +kernel
theorem dL_law_1024 : decode cL_law 1024 = .ok (.aload_n 0, 1) := by decide +kernel
theorem dL_law_1025 : decode cL_law 1025 = .ok (.iload 4, 2) := by decide +kernel
theorem dL_law_1027 : decode cL_law 1027 = .ok (.iconst 1, 1) := by decide +kernel
theorem dL_law_1028 : decode cL_law 1028 = .ok (.iadd, 1) := by decide +kernel
theorem dL_law_1029 : decode cL_law 1029 = .ok (.iaload, 1) := by decide +kernel
theorem dL_law_1030 : decode cL_law 1030 = .ok (.aload_n 3, 1) := by decide +kernel
theorem dL_law_1031 : decode cL_law 1031 = .ok (.invokestatic 165, 3) := by decide +kernel
theorem dL_law_1034 : decode cL_law 1034 = .ok (.istore 5, 2) := by decide +kernel
theorem dL_law_1036 : decode cL_law 1036 = .ok (.aload_n 2, 1) := by decide +kernel
theorem dL_law_1037 : decode cL_law 1037 = .ok (.aload_n 0, 1) := by decide +kernel
theorem dL_law_1038 : decode cL_law 1038 = .ok (.iload 4, 2) := by decide +kernel
theorem dL_law_1040 : decode cL_law 1040 = .ok (.iconst 1, 1) := by decide +kernel
theorem dL_law_1041 : decode cL_law 1041 = .ok (.iadd, 1) := by decide +kernel
theorem dL_law_1042 : decode cL_law 1042 = .ok (.iaload, 1) := by decide +kernel
theorem dL_law_1043 : decode cL_law 1043 = .ok (.invokevirtual 167, 3) := by decide +kernel
theorem dL_law_1046 : decode cL_law 1046 = .ok (.istore 6, 2) := by decide +kernel
theorem dL_law_1048 : decode cL_law 1048 = .ok (.aload_n 2, 1) := by decide +kernel
theorem dL_law_1049 : decode cL_law 1049 = .ok (.invokevirtual 98, 3) := by decide +kernel
theorem dL_law_1052 : decode cL_law 1052 = .ok (.iload 5, 2) := by decide +kernel
theorem dL_law_1054 : decode cL_law 1054 = .ok (.if_icmp .eq 5, 3) := by decide +kernel
theorem dL_law_1057 : decode cL_law 1057 = .ok (.iconst 0, 1) := by decide +kernel
theorem dL_law_1058 : decode cL_law 1058 = .ok (.ireturn, 1) := by decide +kernel
theorem dL_law_1059 : decode cL_law 1059 = .ok (.iload 5, 2) := by decide +kernel
theorem dL_law_1061 : decode cL_law 1061 = .ok (.ifCond .ne 22, 3) := by decide +kernel
theorem dL_law_1064 : decode cL_law 1064 = .ok (.aload_n 3, 1) := by decide +kernel
theorem dL_law_1065 : decode cL_law 1065 = .ok (.iconst 0, 1) := by decide +kernel
theorem dL_law_1066 : decode cL_law 1066 = .ok (.laload, 1) := by decide +kernel
theorem dL_law_1067 : decode cL_law 1067 = .ok (.iload 6, 2) := by decide +kernel
theorem dL_law_1069 : decode cL_law 1069 = .ok (.ifCond .eq 7, 3) := by decide +kernel
theorem dL_law_1072 : decode cL_law 1072 = .ok (.lconst 1, 1) := by decide +kernel
theorem dL_law_1073 : decode cL_law 1073 = .ok (.goto 4, 3) := by decide +kernel
theorem dL_law_1076 : decode cL_law 1076 = .ok (.lconst 0, 1) := by decide +kernel
theorem dL_law_1077 : decode cL_law 1077 = .ok (.lcmp, 1) := by decide +kernel
theorem dL_law_1078 : decode cL_law 1078 = .ok (.ifCond .eq 5, 3) := by decide +kernel
theorem dL_law_1081 : decode cL_law 1081 = .ok (.iconst 0, 1) := by decide +kernel
theorem dL_law_1082 : decode cL_law 1082 = .ok (.ireturn, 1) := by decide +kernel
theorem dL_law_1083 : decode cL_law 1083 = .ok (.goto 682, 3) := by decide +kernel
theorem dL_law_1086 : decode cL_law 1086 = .ok (.aload_n 1, 1) := by decide +kernel
theorem dL_law_1087 : decode cL_law 1087 = .ok (.aload_n 0, 1) := by decide +kernel
theorem dL_law_1088 : decode cL_law 1088 = .ok (.iload 4, 2) := by decide +kernel
theorem dL_law_1090 : decode cL_law 1090 = .ok (.iconst 1, 1) := by decide +kernel
theorem dL_law_1091 : decode cL_law 1091 = .ok (.iadd, 1) := by decide +kernel
theorem dL_law_1092 : decode cL_law 1092 = .ok (.iaload, 1) := by decide +kernel
theorem dL_law_1093 : decode cL_law 1093 = .ok (.aload_n 3, 1) := by decide +kernel
theorem dL_law_1094 : decode cL_law 1094 = .ok (.invokestatic 168, 3) := by decide +kernel
theorem dL_law_1097 : decode cL_law 1097 = .ok (.istore 5, 2) := by decide +kernel
theorem dL_law_1099 : decode cL_law 1099 = .ok (.aload_n 2, 1) := by decide +kernel
theorem dL_law_1100 : decode cL_law 1100 = .ok (.aload_n 0, 1) := by decide +kernel
theorem dL_law_1101 : decode cL_law 1101 = .ok (.iload 4, 2) := by decide +kernel
theorem dL_law_1103 : decode cL_law 1103 = .ok (.iconst 1, 1) := by decide +kernel
theorem dL_law_1104 : decode cL_law 1104 = .ok (.iadd, 1) := by decide +kernel
theorem dL_law_1105 : decode cL_law 1105 = .ok (.iaload, 1) := by decide +kernel
theorem dL_law_1106 : decode cL_law 1106 = .ok (.invokevirtual 170, 3) := by decide +kernel
theorem dL_law_1109 : decode cL_law 1109 = .ok (.istore 6, 2) := by decide +kernel
theorem dL_law_1111 : decode cL_law 1111 = .ok (.aload_n 2, 1) := by decide +kernel
theorem dL_law_1112 : decode cL_law 1112 = .ok (.invokevirtual 98, 3) := by decide +kernel
theorem dL_law_1115 : decode cL_law 1115 = .ok (.iload 5, 2) := by decide +kernel
theorem dL_law_1117 : decode cL_law 1117 = .ok (.if_icmp .eq 5, 3) := by decide +kernel
theorem dL_law_1120 : decode cL_law 1120 = .ok (.iconst 0, 1) := by decide +kernel
theorem dL_law_1121 : decode cL_law 1121 = .ok (.ireturn, 1) := by decide +kernel
theorem dL_law_1122 : decode cL_law 1122 = .ok (.iload 5, 2) := by decide +kernel
theorem dL_law_1124 : decode cL_law 1124 = .ok (.ifCond .ne 22, 3) := by decide +kernel
theorem dL_law_1127 : decode cL_law 1127 = .ok (.aload_n 3, 1) := by decide +kernel
theorem dL_law_1128 : decode cL_law 1128 = .ok (.iconst 0, 1) := by decide +kernel
theorem dL_law_1129 : decode cL_law 1129 = .ok (.laload, 1) := by decide +kernel
theorem dL_law_1130 : decode cL_law 1130 = .ok (.iload 6, 2) := by decide +kernel
theorem dL_law_1132 : decode cL_law 1132 = .ok (.ifCond .eq 7, 3) := by decide +kernel
theorem dL_law_1135 : decode cL_law 1135 = .ok (.lconst 1, 1) := by decide +kernel
theorem dL_law_1136 : decode cL_law 1136 = .ok (.goto 4, 3) := by decide +kernel
theorem dL_law_1139 : decode cL_law 1139 = .ok (.lconst 0, 1) := by decide +kernel
theorem dL_law_1140 : decode cL_law 1140 = .ok (.lcmp, 1) := by decide +kernel
theorem dL_law_1141 : decode cL_law 1141 = .ok (.ifCond .eq 5, 3) := by decide +kernel
theorem dL_law_1144 : decode cL_law 1144 = .ok (.iconst 0, 1) := by decide +kernel
theorem dL_law_1145 : decode cL_law 1145 = .ok (.ireturn, 1) := by decide +kernel
theorem dL_law_1146 : decode cL_law 1146 = .ok (.goto 619, 3) := by decide +kernel
theorem dL_law_1149 : decode cL_law 1149 = .ok (.aload_n 1, 1) := by decide +kernel
theorem dL_law_1150 : decode cL_law 1150 = .ok (.aload_n 0, 1) := by decide +kernel
theorem dL_law_1151 : decode cL_law 1151 = .ok (.iload 4, 2) := by decide +kernel
theorem dL_law_1153 : decode cL_law 1153 = .ok (.iconst 1, 1) := by decide +kernel
theorem dL_law_1154 : decode cL_law 1154 = .ok (.iadd, 1) := by decide +kernel
theorem dL_law_1155 : decode cL_law 1155 = .ok (.iaload, 1) := by decide +kernel
theorem dL_law_1156 : decode cL_law 1156 = .ok (.aload_n 3, 1) := by decide +kernel
theorem dL_law_1157 : decode cL_law 1157 = .ok (.invokestatic 171, 3) := by decide +kernel
theorem dL_law_1160 : decode cL_law 1160 = .ok (.istore 5, 2) := by decide +kernel
theorem dL_law_1162 : decode cL_law 1162 = .ok (.aload_n 2, 1) := by decide +kernel
theorem dL_law_1163 : decode cL_law 1163 = .ok (.aload_n 0, 1) := by decide +kernel
theorem dL_law_1164 : decode cL_law 1164 = .ok (.iload 4, 2) := by decide +kernel
theorem dL_law_1166 : decode cL_law 1166 = .ok (.iconst 1, 1) := by decide +kernel
theorem dL_law_1167 : decode cL_law 1167 = .ok (.iadd, 1) := by decide +kernel
theorem dL_law_1168 : decode cL_law 1168 = .ok (.iaload, 1) := by decide +kernel
theorem dL_law_1169 : decode cL_law 1169 = .ok (.invokevirtual 173, 3) := by decide +kernel
theorem dL_law_1172 : decode cL_law 1172 = .ok (.istore 6, 2) := by decide +kernel
theorem dL_law_1174 : decode cL_law 1174 = .ok (.aload_n 2, 1) := by decide +kernel
theorem dL_law_1175 : decode cL_law 1175 = .ok (.invokevirtual 98, 3) := by decide +kernel
theorem dL_law_1178 : decode cL_law 1178 = .ok (.iload 5, 2) := by decide +kernel
theorem dL_law_1180 : decode cL_law 1180 = .ok (.if_icmp .eq 5, 3) := by decide +kernel
theorem dL_law_1183 : decode cL_law 1183 = .ok (.iconst 0, 1) := by decide +kernel
theorem dL_law_1184 : decode cL_law 1184 = .ok (.ireturn, 1) := by decide +kernel
theorem dL_law_1185 : decode cL_law 1185 = .ok (.iload 5, 2) := by decide +kernel
theorem dL_law_1187 : decode cL_law 1187 = .ok (.ifCond .ne 15, 3) := by decide +kernel
theorem dL_law_1190 : decode cL_law 1190 = .ok (.aload_n 3, 1) := by decide +kernel
theorem dL_law_1191 : decode cL_law 1191 = .ok (.iconst 0, 1) := by decide +kernel
theorem dL_law_1192 : decode cL_law 1192 = .ok (.laload, 1) := by decide +kernel
theorem dL_law_1193 : decode cL_law 1193 = .ok (.iload 6, 2) := by decide +kernel
theorem dL_law_1195 : decode cL_law 1195 = .ok (.i2l, 1) := by decide +kernel
theorem dL_law_1196 : decode cL_law 1196 = .ok (.lcmp, 1) := by decide +kernel
theorem dL_law_1197 : decode cL_law 1197 = .ok (.ifCond .eq 5, 3) := by decide +kernel
theorem dL_law_1200 : decode cL_law 1200 = .ok (.iconst 0, 1) := by decide +kernel
theorem dL_law_1201 : decode cL_law 1201 = .ok (.ireturn, 1) := by decide +kernel
theorem dL_law_1202 : decode cL_law 1202 = .ok (.goto 563, 3) := by decide +kernel
theorem dL_law_1205 : decode cL_law 1205 = .ok (.aload_n 1, 1) := by decide +kernel
theorem dL_law_1206 : decode cL_law 1206 = .ok (.aload_n 0, 1) := by decide +kernel
theorem dL_law_1207 : decode cL_law 1207 = .ok (.iload 4, 2) := by decide +kernel
theorem dL_law_1209 : decode cL_law 1209 = .ok (.iconst 1, 1) := by decide +kernel
theorem dL_law_1210 : decode cL_law 1210 = .ok (.iadd, 1) := by decide +kernel
theorem dL_law_1211 : decode cL_law 1211 = .ok (.iaload, 1) := by decide +kernel
theorem dL_law_1212 : decode cL_law 1212 = .ok (.aload_n 3, 1) := by decide +kernel
theorem dL_law_1213 : decode cL_law 1213 = .ok (.invokestatic 174, 3) := by decide +kernel
theorem dL_law_1216 : decode cL_law 1216 = .ok (.istore 5, 2) := by decide +kernel
theorem dL_law_1218 : decode cL_law 1218 = .ok (.aload_n 2, 1) := by decide +kernel
theorem dL_law_1219 : decode cL_law 1219 = .ok (.aload_n 0, 1) := by decide +kernel
theorem dL_law_1220 : decode cL_law 1220 = .ok (.iload 4, 2) := by decide +kernel
theorem dL_law_1222 : decode cL_law 1222 = .ok (.iconst 1, 1) := by decide +kernel
theorem dL_law_1223 : decode cL_law 1223 = .ok (.iadd, 1) := by decide +kernel
theorem dL_law_1224 : decode cL_law 1224 = .ok (.iaload, 1) := by decide +kernel
theorem dL_law_1225 : decode cL_law 1225 = .ok (.invokevirtual 176, 3) := by decide +kernel
theorem dL_law_1228 : decode cL_law 1228 = .ok (.istore 6, 2) := by decide +kernel
theorem dL_law_1230 : decode cL_law 1230 = .ok (.aload_n 2, 1) := by decide +kernel
theorem dL_law_1231 : decode cL_law 1231 = .ok (.invokevirtual 98, 3) := by decide +kernel
theorem dL_law_1234 : decode cL_law 1234 = .ok (.iload 5, 2) := by decide +kernel
theorem dL_law_1236 : decode cL_law 1236 = .ok (.if_icmp .eq 5, 3) := by decide +kernel
theorem dL_law_1239 : decode cL_law 1239 = .ok (.iconst 0, 1) := by decide +kernel
theorem dL_law_1240 : decode cL_law 1240 = .ok (.ireturn, 1) := by decide +kernel
theorem dL_law_1241 : decode cL_law 1241 = .ok (.iload 5, 2) := by decide +kernel
theorem dL_law_1243 : decode cL_law 1243 = .ok (.ifCond .ne 15, 3) := by decide +kernel
theorem dL_law_1246 : decode cL_law 1246 = .ok (.aload_n 3, 1) := by decide +kernel
theorem dL_law_1247 : decode cL_law 1247 = .ok (.iconst 0, 1) := by decide +kernel
theorem dL_law_1248 : decode cL_law 1248 = .ok (.laload, 1) := by decide +kernel
theorem dL_law_1249 : decode cL_law 1249 = .ok (.iload 6, 2) := by decide +kernel
theorem dL_law_1251 : decode cL_law 1251 = .ok (.i2l, 1) := by decide +kernel
theorem dL_law_1252 : decode cL_law 1252 = .ok (.lcmp, 1) := by decide +kernel
theorem dL_law_1253 : decode cL_law 1253 = .ok (.ifCond .eq 5, 3) := by decide +kernel
theorem dL_law_1256 : decode cL_law 1256 = .ok (.iconst 0, 1) := by decide +kernel
theorem dL_law_1257 : decode cL_law 1257 = .ok (.ireturn, 1) := by decide +kernel
theorem dL_law_1258 : decode cL_law 1258 = .ok (.goto 507, 3) := by decide +kernel
theorem dL_law_1261 : decode cL_law 1261 = .ok (.aload_n 1, 1) := by decide +kernel
theorem dL_law_1262 : decode cL_law 1262 = .ok (.aload_n 0, 1) := by decide +kernel
theorem dL_law_1263 : decode cL_law 1263 = .ok (.iload 4, 2) := by decide +kernel
theorem dL_law_1265 : decode cL_law 1265 = .ok (.iconst 1, 1) := by decide +kernel
theorem dL_law_1266 : decode cL_law 1266 = .ok (.iadd, 1) := by decide +kernel
theorem dL_law_1267 : decode cL_law 1267 = .ok (.iaload, 1) := by decide +kernel
theorem dL_law_1268 : decode cL_law 1268 = .ok (.aload_n 3, 1) := by decide +kernel
theorem dL_law_1269 : decode cL_law 1269 = .ok (.invokestatic 177, 3) := by decide +kernel
theorem dL_law_1272 : decode cL_law 1272 = .ok (.istore 5, 2) := by decide +kernel
theorem dL_law_1274 : decode cL_law 1274 = .ok (.aload_n 2, 1) := by decide +kernel
theorem dL_law_1275 : decode cL_law 1275 = .ok (.aload_n 0, 1) := by decide +kernel
theorem dL_law_1276 : decode cL_law 1276 = .ok (.iload 4, 2) := by decide +kernel
theorem dL_law_1278 : decode cL_law 1278 = .ok (.iconst 1, 1) := by decide +kernel
theorem dL_law_1279 : decode cL_law 1279 = .ok (.iadd, 1) := by decide +kernel
theorem dL_law_1280 : decode cL_law 1280 = .ok (.iaload, 1) := by decide +kernel
theorem dL_law_1281 : decode cL_law 1281 = .ok (.invokevirtual 179, 3) := by decide +kernel
theorem dL_law_1284 : decode cL_law 1284 = .ok (.istore 6, 2) := by decide +kernel
theorem dL_law_1286 : decode cL_law 1286 = .ok (.aload_n 2, 1) := by decide +kernel
theorem dL_law_1287 : decode cL_law 1287 = .ok (.invokevirtual 98, 3) := by decide +kernel
theorem dL_law_1290 : decode cL_law 1290 = .ok (.iload 5, 2) := by decide +kernel
theorem dL_law_1292 : decode cL_law 1292 = .ok (.if_icmp .eq 5, 3) := by decide +kernel
theorem dL_law_1295 : decode cL_law 1295 = .ok (.iconst 0, 1) := by decide +kernel
theorem dL_law_1296 : decode cL_law 1296 = .ok (.ireturn, 1) := by decide +kernel
theorem dL_law_1297 : decode cL_law 1297 = .ok (.iload 5, 2) := by decide +kernel
theorem dL_law_1299 : decode cL_law 1299 = .ok (.ifCond .ne 22, 3) := by decide +kernel
theorem dL_law_1302 : decode cL_law 1302 = .ok (.aload_n 3, 1) := by decide +kernel
theorem dL_law_1303 : decode cL_law 1303 = .ok (.iconst 0, 1) := by decide +kernel
theorem dL_law_1304 : decode cL_law 1304 = .ok (.laload, 1) := by decide +kernel
theorem dL_law_1305 : decode cL_law 1305 = .ok (.iload 6, 2) := by decide +kernel
theorem dL_law_1307 : decode cL_law 1307 = .ok (.ifCond .eq 7, 3) := by decide +kernel
theorem dL_law_1310 : decode cL_law 1310 = .ok (.lconst 1, 1) := by decide +kernel
theorem dL_law_1311 : decode cL_law 1311 = .ok (.goto 4, 3) := by decide +kernel
theorem dL_law_1314 : decode cL_law 1314 = .ok (.lconst 0, 1) := by decide +kernel
theorem dL_law_1315 : decode cL_law 1315 = .ok (.lcmp, 1) := by decide +kernel
theorem dL_law_1316 : decode cL_law 1316 = .ok (.ifCond .eq 5, 3) := by decide +kernel
theorem dL_law_1319 : decode cL_law 1319 = .ok (.iconst 0, 1) := by decide +kernel
theorem dL_law_1320 : decode cL_law 1320 = .ok (.ireturn, 1) := by decide +kernel
theorem dL_law_1321 : decode cL_law 1321 = .ok (.goto 444, 3) := by decide +kernel
theorem dL_law_1324 : decode cL_law 1324 = .ok (.aload_n 1, 1) := by decide +kernel
theorem dL_law_1325 : decode cL_law 1325 = .ok (.aload_n 0, 1) := by decide +kernel
theorem dL_law_1326 : decode cL_law 1326 = .ok (.iload 4, 2) := by decide +kernel
theorem dL_law_1328 : decode cL_law 1328 = .ok (.iconst 1, 1) := by decide +kernel
theorem dL_law_1329 : decode cL_law 1329 = .ok (.iadd, 1) := by decide +kernel
theorem dL_law_1330 : decode cL_law 1330 = .ok (.iaload, 1) := by decide +kernel
theorem dL_law_1331 : decode cL_law 1331 = .ok (.aload_n 3, 1) := by decide +kernel
theorem dL_law_1332 : decode cL_law 1332 = .ok (.invokestatic 180, 3) := by decide +kernel
theorem dL_law_1335 : decode cL_law 1335 = .ok (.istore 5, 2) := by decide +kernel
theorem dL_law_1337 : decode cL_law 1337 = .ok (.aload_n 2, 1) := by decide +kernel
theorem dL_law_1338 : decode cL_law 1338 = .ok (.aload_n 0, 1) := by decide +kernel
theorem dL_law_1339 : decode cL_law 1339 = .ok (.iload 4, 2) := by decide +kernel
theorem dL_law_1341 : decode cL_law 1341 = .ok (.iconst 1, 1) := by decide +kernel
theorem dL_law_1342 : decode cL_law 1342 = .ok (.iadd, 1) := by decide +kernel
theorem dL_law_1343 : decode cL_law 1343 = .ok (.iaload, 1) := by decide +kernel
theorem dL_law_1344 : decode cL_law 1344 = .ok (.invokevirtual 182, 3) := by decide +kernel
theorem dL_law_1347 : decode cL_law 1347 = .ok (.istore 6, 2) := by decide +kernel
theorem dL_law_1349 : decode cL_law 1349 = .ok (.aload_n 2, 1) := by decide +kernel
theorem dL_law_1350 : decode cL_law 1350 = .ok (.invokevirtual 98, 3) := by decide +kernel
theorem dL_law_1353 : decode cL_law 1353 = .ok (.iload 5, 2) := by decide +kernel
theorem dL_law_1355 : decode cL_law 1355 = .ok (.if_icmp .eq 5, 3) := by decide +kernel
theorem dL_law_1358 : decode cL_law 1358 = .ok (.iconst 0, 1) := by decide +kernel
theorem dL_law_1359 : decode cL_law 1359 = .ok (.ireturn, 1) := by decide +kernel
theorem dL_law_1360 : decode cL_law 1360 = .ok (.iload 5, 2) := by decide +kernel
theorem dL_law_1362 : decode cL_law 1362 = .ok (.ifCond .ne 15, 3) := by decide +kernel
theorem dL_law_1365 : decode cL_law 1365 = .ok (.aload_n 3, 1) := by decide +kernel
theorem dL_law_1366 : decode cL_law 1366 = .ok (.iconst 0, 1) := by decide +kernel
theorem dL_law_1367 : decode cL_law 1367 = .ok (.laload, 1) := by decide +kernel
theorem dL_law_1368 : decode cL_law 1368 = .ok (.iload 6, 2) := by decide +kernel
theorem dL_law_1370 : decode cL_law 1370 = .ok (.i2l, 1) := by decide +kernel
theorem dL_law_1371 : decode cL_law 1371 = .ok (.lcmp, 1) := by decide +kernel
theorem dL_law_1372 : decode cL_law 1372 = .ok (.ifCond .eq 5, 3) := by decide +kernel
theorem dL_law_1375 : decode cL_law 1375 = .ok (.iconst 0, 1) := by decide +kernel
theorem dL_law_1376 : decode cL_law 1376 = .ok (.ireturn, 1) := by decide +kernel
theorem dL_law_1377 : decode cL_law 1377 = .ok (.goto 388, 3) := by decide +kernel
theorem dL_law_1380 : decode cL_law 1380 = .ok (.aload_n 1, 1) := by decide +kernel
theorem dL_law_1381 : decode cL_law 1381 = .ok (.aload_n 0, 1) := by decide +kernel
theorem dL_law_1382 : decode cL_law 1382 = .ok (.iload 4, 2) := by decide +kernel
theorem dL_law_1384 : decode cL_law 1384 = .ok (.iconst 1, 1) := by decide +kernel
theorem dL_law_1385 : decode cL_law 1385 = .ok (.iadd, 1) := by decide +kernel
theorem dL_law_1386 : decode cL_law 1386 = .ok (.iaload, 1) := by decide +kernel
theorem dL_law_1387 : decode cL_law 1387 = .ok (.aload_n 0, 1) := by decide +kernel
theorem dL_law_1388 : decode cL_law 1388 = .ok (.iload 4, 2) := by decide +kernel
theorem dL_law_1390 : decode cL_law 1390 = .ok (.iconst 2, 1) := by decide +kernel
theorem dL_law_1391 : decode cL_law 1391 = .ok (.iadd, 1) := by decide +kernel
theorem dL_law_1392 : decode cL_law 1392 = .ok (.iaload, 1) := by decide +kernel
theorem dL_law_1393 : decode cL_law 1393 = .ok (.aload_n 3, 1) := by decide +kernel
theorem dL_law_1394 : decode cL_law 1394 = .ok (.invokestatic 183, 3) := by decide +kernel
theorem dL_law_1397 : decode cL_law 1397 = .ok (.istore 5, 2) := by decide +kernel
theorem dL_law_1399 : decode cL_law 1399 = .ok (.aload_n 2, 1) := by decide +kernel
theorem dL_law_1400 : decode cL_law 1400 = .ok (.aload_n 0, 1) := by decide +kernel
theorem dL_law_1401 : decode cL_law 1401 = .ok (.iload 4, 2) := by decide +kernel
theorem dL_law_1403 : decode cL_law 1403 = .ok (.iconst 1, 1) := by decide +kernel
theorem dL_law_1404 : decode cL_law 1404 = .ok (.iadd, 1) := by decide +kernel
theorem dL_law_1405 : decode cL_law 1405 = .ok (.iaload, 1) := by decide +kernel
theorem dL_law_1406 : decode cL_law 1406 = .ok (.aload_n 0, 1) := by decide +kernel
theorem dL_law_1407 : decode cL_law 1407 = .ok (.iload 4, 2) := by decide +kernel
theorem dL_law_1409 : decode cL_law 1409 = .ok (.iconst 2, 1) := by decide +kernel
theorem dL_law_1410 : decode cL_law 1410 = .ok (.iadd, 1) := by decide +kernel
theorem dL_law_1411 : decode cL_law 1411 = .ok (.iaload, 1) := by decide +kernel
theorem dL_law_1412 : decode cL_law 1412 = .ok (.invokevirtual 185, 3) := by decide +kernel
theorem dL_law_1415 : decode cL_law 1415 = .ok (.istore 6, 2) := by decide +kernel
theorem dL_law_1417 : decode cL_law 1417 = .ok (.aload_n 2, 1) := by decide +kernel
theorem dL_law_1418 : decode cL_law 1418 = .ok (.invokevirtual 98, 3) := by decide +kernel
theorem dL_law_1421 : decode cL_law 1421 = .ok (.iload 5, 2) := by decide +kernel
theorem dL_law_1423 : decode cL_law 1423 = .ok (.if_icmp .eq 5, 3) := by decide +kernel
theorem dL_law_1426 : decode cL_law 1426 = .ok (.iconst 0, 1) := by decide +kernel
theorem dL_law_1427 : decode cL_law 1427 = .ok (.ireturn, 1) := by decide +kernel
theorem dL_law_1428 : decode cL_law 1428 = .ok (.iload 5, 2) := by decide +kernel
theorem dL_law_1430 : decode cL_law 1430 = .ok (.ifCond .ne 15, 3) := by decide +kernel
theorem dL_law_1433 : decode cL_law 1433 = .ok (.aload_n 3, 1) := by decide +kernel
theorem dL_law_1434 : decode cL_law 1434 = .ok (.iconst 0, 1) := by decide +kernel
theorem dL_law_1435 : decode cL_law 1435 = .ok (.laload, 1) := by decide +kernel
theorem dL_law_1436 : decode cL_law 1436 = .ok (.iload 6, 2) := by decide +kernel
theorem dL_law_1438 : decode cL_law 1438 = .ok (.i2l, 1) := by decide +kernel
theorem dL_law_1439 : decode cL_law 1439 = .ok (.lcmp, 1) := by decide +kernel
theorem dL_law_1440 : decode cL_law 1440 = .ok (.ifCond .eq 5, 3) := by decide +kernel
theorem dL_law_1443 : decode cL_law 1443 = .ok (.iconst 0, 1) := by decide +kernel
theorem dL_law_1444 : decode cL_law 1444 = .ok (.ireturn, 1) := by decide +kernel
theorem dL_law_1445 : decode cL_law 1445 = .ok (.goto 320, 3) := by decide +kernel
theorem dL_law_1448 : decode cL_law 1448 = .ok (.aload_n 1, 1) := by decide +kernel
theorem dL_law_1449 : decode cL_law 1449 = .ok (.aload_n 0, 1) := by decide +kernel
theorem dL_law_1450 : decode cL_law 1450 = .ok (.iload 4, 2) := by decide +kernel
theorem dL_law_1452 : decode cL_law 1452 = .ok (.iconst 1, 1) := by decide +kernel
theorem dL_law_1453 : decode cL_law 1453 = .ok (.iadd, 1) := by decide +kernel
theorem dL_law_1454 : decode cL_law 1454 = .ok (.iaload, 1) := by decide +kernel
theorem dL_law_1455 : decode cL_law 1455 = .ok (.aload_n 3, 1) := by decide +kernel
theorem dL_law_1456 : decode cL_law 1456 = .ok (.invokestatic 186, 3) := by decide +kernel
theorem dL_law_1459 : decode cL_law 1459 = .ok (.istore 5, 2) := by decide +kernel
theorem dL_law_1461 : decode cL_law 1461 = .ok (.aload_n 2, 1) := by decide +kernel
theorem dL_law_1462 : decode cL_law 1462 = .ok (.aload_n 0, 1) := by decide +kernel
theorem dL_law_1463 : decode cL_law 1463 = .ok (.iload 4, 2) := by decide +kernel
theorem dL_law_1465 : decode cL_law 1465 = .ok (.iconst 1, 1) := by decide +kernel
theorem dL_law_1466 : decode cL_law 1466 = .ok (.iadd, 1) := by decide +kernel
theorem dL_law_1467 : decode cL_law 1467 = .ok (.iaload, 1) := by decide +kernel
theorem dL_law_1468 : decode cL_law 1468 = .ok (.invokevirtual 188, 3) := by decide +kernel
theorem dL_law_1471 : decode cL_law 1471 = .ok (.istore 6, 2) := by decide +kernel
theorem dL_law_1473 : decode cL_law 1473 = .ok (.aload_n 2, 1) := by decide +kernel
theorem dL_law_1474 : decode cL_law 1474 = .ok (.invokevirtual 98, 3) := by decide +kernel
theorem dL_law_1477 : decode cL_law 1477 = .ok (.iload 5, 2) := by decide +kernel
theorem dL_law_1479 : decode cL_law 1479 = .ok (.if_icmp .eq 5, 3) := by decide +kernel
theorem dL_law_1482 : decode cL_law 1482 = .ok (.iconst 0, 1) := by decide +kernel
theorem dL_law_1483 : decode cL_law 1483 = .ok (.ireturn, 1) := by decide +kernel
theorem dL_law_1484 : decode cL_law 1484 = .ok (.iload 5, 2) := by decide +kernel
theorem dL_law_1486 : decode cL_law 1486 = .ok (.ifCond .ne 15, 3) := by decide +kernel
theorem dL_law_1489 : decode cL_law 1489 = .ok (.aload_n 3, 1) := by decide +kernel
theorem dL_law_1490 : decode cL_law 1490 = .ok (.iconst 0, 1) := by decide +kernel
theorem dL_law_1491 : decode cL_law 1491 = .ok (.laload, 1) := by decide +kernel
theorem dL_law_1492 : decode cL_law 1492 = .ok (.iload 6, 2) := by decide +kernel
theorem dL_law_1494 : decode cL_law 1494 = .ok (.i2l, 1) := by decide +kernel
theorem dL_law_1495 : decode cL_law 1495 = .ok (.lcmp, 1) := by decide +kernel
theorem dL_law_1496 : decode cL_law 1496 = .ok (.ifCond .eq 5, 3) := by decide +kernel
theorem dL_law_1499 : decode cL_law 1499 = .ok (.iconst 0, 1) := by decide +kernel
theorem dL_law_1500 : decode cL_law 1500 = .ok (.ireturn, 1) := by decide +kernel
theorem dL_law_1501 : decode cL_law 1501 = .ok (.goto 264, 3) := by decide +kernel
theorem dL_law_1504 : decode cL_law 1504 = .ok (.aload_n 1, 1) := by decide +kernel
theorem dL_law_1505 : decode cL_law 1505 = .ok (.aload_n 0, 1) := by decide +kernel
theorem dL_law_1506 : decode cL_law 1506 = .ok (.iload 4, 2) := by decide +kernel
theorem dL_law_1508 : decode cL_law 1508 = .ok (.iconst 1, 1) := by decide +kernel
theorem dL_law_1509 : decode cL_law 1509 = .ok (.iadd, 1) := by decide +kernel
theorem dL_law_1510 : decode cL_law 1510 = .ok (.iaload, 1) := by decide +kernel
theorem dL_law_1511 : decode cL_law 1511 = .ok (.aload_n 3, 1) := by decide +kernel
theorem dL_law_1512 : decode cL_law 1512 = .ok (.invokestatic 189, 3) := by decide +kernel
theorem dL_law_1515 : decode cL_law 1515 = .ok (.istore 5, 2) := by decide +kernel
theorem dL_law_1517 : decode cL_law 1517 = .ok (.aload_n 2, 1) := by decide +kernel
theorem dL_law_1518 : decode cL_law 1518 = .ok (.aload_n 0, 1) := by decide +kernel
theorem dL_law_1519 : decode cL_law 1519 = .ok (.iload 4, 2) := by decide +kernel
theorem dL_law_1521 : decode cL_law 1521 = .ok (.iconst 1, 1) := by decide +kernel
theorem dL_law_1522 : decode cL_law 1522 = .ok (.iadd, 1) := by decide +kernel
theorem dL_law_1523 : decode cL_law 1523 = .ok (.iaload, 1) := by decide +kernel
theorem dL_law_1524 : decode cL_law 1524 = .ok (.invokevirtual 191, 3) := by decide +kernel
theorem dL_law_1527 : decode cL_law 1527 = .ok (.istore 6, 2) := by decide +kernel
theorem dL_law_1529 : decode cL_law 1529 = .ok (.aload_n 2, 1) := by decide +kernel
theorem dL_law_1530 : decode cL_law 1530 = .ok (.invokevirtual 98, 3) := by decide +kernel
theorem dL_law_1533 : decode cL_law 1533 = .ok (.iload 5, 2) := by decide +kernel
theorem dL_law_1535 : decode cL_law 1535 = .ok (.if_icmp .eq 5, 3) := by decide +kernel
theorem dL_law_1538 : decode cL_law 1538 = .ok (.iconst 0, 1) := by decide +kernel
theorem dL_law_1539 : decode cL_law 1539 = .ok (.ireturn, 1) := by decide +kernel
theorem dL_law_1540 : decode cL_law 1540 = .ok (.iload 5, 2) := by decide +kernel
theorem dL_law_1542 : decode cL_law 1542 = .ok (.ifCond .ne 15, 3) := by decide +kernel
theorem dL_law_1545 : decode cL_law 1545 = .ok (.aload_n 3, 1) := by decide +kernel
theorem dL_law_1546 : decode cL_law 1546 = .ok (.iconst 0, 1) := by decide +kernel
theorem dL_law_1547 : decode cL_law 1547 = .ok (.laload, 1) := by decide +kernel
theorem dL_law_1548 : decode cL_law 1548 = .ok (.iload 6, 2) := by decide +kernel
theorem dL_law_1550 : decode cL_law 1550 = .ok (.i2l, 1) := by decide +kernel
theorem dL_law_1551 : decode cL_law 1551 = .ok (.lcmp, 1) := by decide +kernel
theorem dL_law_1552 : decode cL_law 1552 = .ok (.ifCond .eq 5, 3) := by decide +kernel
theorem dL_law_1555 : decode cL_law 1555 = .ok (.iconst 0, 1) := by decide +kernel
theorem dL_law_1556 : decode cL_law 1556 = .ok (.ireturn, 1) := by decide +kernel
theorem dL_law_1557 : decode cL_law 1557 = .ok (.goto 208, 3) := by decide +kernel
theorem dL_law_1560 : decode cL_law 1560 = .ok (.aload_n 1, 1) := by decide +kernel
theorem dL_law_1561 : decode cL_law 1561 = .ok (.aload_n 0, 1) := by decide +kernel
theorem dL_law_1562 : decode cL_law 1562 = .ok (.iload 4, 2) := by decide +kernel
theorem dL_law_1564 : decode cL_law 1564 = .ok (.iconst 1, 1) := by decide +kernel
theorem dL_law_1565 : decode cL_law 1565 = .ok (.iadd, 1) := by decide +kernel
theorem dL_law_1566 : decode cL_law 1566 = .ok (.iaload, 1) := by decide +kernel
theorem dL_law_1567 : decode cL_law 1567 = .ok (.aload_n 0, 1) := by decide +kernel
theorem dL_law_1568 : decode cL_law 1568 = .ok (.iload 4, 2) := by decide +kernel
theorem dL_law_1570 : decode cL_law 1570 = .ok (.iconst 2, 1) := by decide +kernel
theorem dL_law_1571 : decode cL_law 1571 = .ok (.iadd, 1) := by decide +kernel
theorem dL_law_1572 : decode cL_law 1572 = .ok (.iaload, 1) := by decide +kernel
theorem dL_law_1573 : decode cL_law 1573 = .ok (.aload_n 3, 1) := by decide +kernel
theorem dL_law_1574 : decode cL_law 1574 = .ok (.invokestatic 192, 3) := by decide +kernel
theorem dL_law_1577 : decode cL_law 1577 = .ok (.istore 5, 2) := by decide +kernel
theorem dL_law_1579 : decode cL_law 1579 = .ok (.aload_n 2, 1) := by decide +kernel
theorem dL_law_1580 : decode cL_law 1580 = .ok (.aload_n 0, 1) := by decide +kernel
theorem dL_law_1581 : decode cL_law 1581 = .ok (.iload 4, 2) := by decide +kernel
theorem dL_law_1583 : decode cL_law 1583 = .ok (.iconst 1, 1) := by decide +kernel
theorem dL_law_1584 : decode cL_law 1584 = .ok (.iadd, 1) := by decide +kernel
theorem dL_law_1585 : decode cL_law 1585 = .ok (.iaload, 1) := by decide +kernel
theorem dL_law_1586 : decode cL_law 1586 = .ok (.aload_n 0, 1) := by decide +kernel
theorem dL_law_1587 : decode cL_law 1587 = .ok (.iload 4, 2) := by decide +kernel
theorem dL_law_1589 : decode cL_law 1589 = .ok (.iconst 2, 1) := by decide +kernel
theorem dL_law_1590 : decode cL_law 1590 = .ok (.iadd, 1) := by decide +kernel
theorem dL_law_1591 : decode cL_law 1591 = .ok (.iaload, 1) := by decide +kernel
theorem dL_law_1592 : decode cL_law 1592 = .ok (.invokevirtual 194, 3) := by decide +kernel
theorem dL_law_1595 : decode cL_law 1595 = .ok (.istore 6, 2) := by decide +kernel
theorem dL_law_1597 : decode cL_law 1597 = .ok (.aload_n 2, 1) := by decide +kernel
theorem dL_law_1598 : decode cL_law 1598 = .ok (.invokevirtual 98, 3) := by decide +kernel
theorem dL_law_1601 : decode cL_law 1601 = .ok (.iload 5, 2) := by decide +kernel
theorem dL_law_1603 : decode cL_law 1603 = .ok (.if_icmp .eq 5, 3) := by decide +kernel
theorem dL_law_1606 : decode cL_law 1606 = .ok (.iconst 0, 1) := by decide +kernel
theorem dL_law_1607 : decode cL_law 1607 = .ok (.ireturn, 1) := by decide +kernel
theorem dL_law_1608 : decode cL_law 1608 = .ok (.iload 5, 2) := by decide +kernel
theorem dL_law_1610 : decode cL_law 1610 = .ok (.ifCond .ne 15, 3) := by decide +kernel
theorem dL_law_1613 : decode cL_law 1613 = .ok (.aload_n 3, 1) := by decide +kernel
theorem dL_law_1614 : decode cL_law 1614 = .ok (.iconst 0, 1) := by decide +kernel
theorem dL_law_1615 : decode cL_law 1615 = .ok (.laload, 1) := by decide +kernel
theorem dL_law_1616 : decode cL_law 1616 = .ok (.iload 6, 2) := by decide +kernel
theorem dL_law_1618 : decode cL_law 1618 = .ok (.i2l, 1) := by decide +kernel
theorem dL_law_1619 : decode cL_law 1619 = .ok (.lcmp, 1) := by decide +kernel
theorem dL_law_1620 : decode cL_law 1620 = .ok (.ifCond .eq 5, 3) := by decide +kernel
theorem dL_law_1623 : decode cL_law 1623 = .ok (.iconst 0, 1) := by decide +kernel
theorem dL_law_1624 : decode cL_law 1624 = .ok (.ireturn, 1) := by decide +kernel
theorem dL_law_1625 : decode cL_law 1625 = .ok (.goto 140, 3) := by decide +kernel
theorem dL_law_1628 : decode cL_law 1628 = .ok (.aload_n 1, 1) := by decide +kernel
theorem dL_law_1629 : decode cL_law 1629 = .ok (.invokevirtual 195, 3) := by decide +kernel
theorem dL_law_1632 : decode cL_law 1632 = .ok (.aload_n 2, 1) := by decide +kernel
theorem dL_law_1633 : decode cL_law 1633 = .ok (.invokevirtual 198, 3) := by decide +kernel
theorem dL_law_1636 : decode cL_law 1636 = .ok (.if_icmp .eq 129, 3) := by decide +kernel
theorem dL_law_1639 : decode cL_law 1639 = .ok (.iconst 0, 1) := by decide +kernel
theorem dL_law_1640 : decode cL_law 1640 = .ok (.ireturn, 1) := by decide +kernel
theorem dL_law_1641 : decode cL_law 1641 = .ok (.aload_n 1, 1) := by decide +kernel
theorem dL_law_1642 : decode cL_law 1642 = .ok (.invokevirtual 199, 3) := by decide +kernel
theorem dL_law_1645 : decode cL_law 1645 = .ok (.aload_n 2, 1) := by decide +kernel
theorem dL_law_1646 : decode cL_law 1646 = .ok (.invokevirtual 202, 3) := by decide +kernel
theorem dL_law_1649 : decode cL_law 1649 = .ok (.if_icmp .eq 116, 3) := by decide +kernel
theorem dL_law_1652 : decode cL_law 1652 = .ok (.iconst 0, 1) := by decide +kernel
theorem dL_law_1653 : decode cL_law 1653 = .ok (.ireturn, 1) := by decide +kernel
theorem dL_law_1654 : decode cL_law 1654 = .ok (.aload_n 1, 1) := by decide +kernel
theorem dL_law_1655 : decode cL_law 1655 = .ok (.aload_n 0, 1) := by decide +kernel
theorem dL_law_1656 : decode cL_law 1656 = .ok (.iload 4, 2) := by decide +kernel
theorem dL_law_1658 : decode cL_law 1658 = .ok (.iconst 1, 1) := by decide +kernel
theorem dL_law_1659 : decode cL_law 1659 = .ok (.iadd, 1) := by decide +kernel
theorem dL_law_1660 : decode cL_law 1660 = .ok (.iaload, 1) := by decide +kernel
theorem dL_law_1661 : decode cL_law 1661 = .ok (.aload_n 3, 1) := by decide +kernel
theorem dL_law_1662 : decode cL_law 1662 = .ok (.invokestatic 203, 3) := by decide +kernel
theorem dL_law_1665 : decode cL_law 1665 = .ok (.istore 5, 2) := by decide +kernel
theorem dL_law_1667 : decode cL_law 1667 = .ok (.aload_n 2, 1) := by decide +kernel
theorem dL_law_1668 : decode cL_law 1668 = .ok (.aload_n 0, 1) := by decide +kernel
theorem dL_law_1669 : decode cL_law 1669 = .ok (.iload 4, 2) := by decide +kernel
theorem dL_law_1671 : decode cL_law 1671 = .ok (.iconst 1, 1) := by decide +kernel
theorem dL_law_1672 : decode cL_law 1672 = .ok (.iadd, 1) := by decide +kernel
theorem dL_law_1673 : decode cL_law 1673 = .ok (.iaload, 1) := by decide +kernel
theorem dL_law_1674 : decode cL_law 1674 = .ok (.invokevirtual 205, 3) := by decide +kernel
theorem dL_law_1677 : decode cL_law 1677 = .ok (.istore 6, 2) := by decide +kernel
theorem dL_law_1679 : decode cL_law 1679 = .ok (.aload_n 2, 1) := by decide +kernel
theorem dL_law_1680 : decode cL_law 1680 = .ok (.invokevirtual 98, 3) := by decide +kernel
theorem dL_law_1683 : decode cL_law 1683 = .ok (.iload 5, 2) := by decide +kernel
theorem dL_law_1685 : decode cL_law 1685 = .ok (.if_icmp .eq 5, 3) := by decide +kernel
theorem dL_law_1688 : decode cL_law 1688 = .ok (.iconst 0, 1) := by decide +kernel
theorem dL_law_1689 : decode cL_law 1689 = .ok (.ireturn, 1) := by decide +kernel
theorem dL_law_1690 : decode cL_law 1690 = .ok (.iload 5, 2) := by decide +kernel
theorem dL_law_1692 : decode cL_law 1692 = .ok (.ifCond .ne 15, 3) := by decide +kernel
theorem dL_law_1695 : decode cL_law 1695 = .ok (.aload_n 3, 1) := by decide +kernel
theorem dL_law_1696 : decode cL_law 1696 = .ok (.iconst 0, 1) := by decide +kernel
theorem dL_law_1697 : decode cL_law 1697 = .ok (.laload, 1) := by decide +kernel
theorem dL_law_1698 : decode cL_law 1698 = .ok (.iload 6, 2) := by decide +kernel
theorem dL_law_1700 : decode cL_law 1700 = .ok (.i2l, 1) := by decide +kernel
theorem dL_law_1701 : decode cL_law 1701 = .ok (.lcmp, 1) := by decide +kernel
theorem dL_law_1702 : decode cL_law 1702 = .ok (.ifCond .eq 5, 3) := by decide +kernel
theorem dL_law_1705 : decode cL_law 1705 = .ok (.iconst 0, 1) := by decide +kernel
theorem dL_law_1706 : decode cL_law 1706 = .ok (.ireturn, 1) := by decide +kernel
theorem dL_law_1707 : decode cL_law 1707 = .ok (.goto 58, 3) := by decide +kernel
theorem dL_law_1710 : decode cL_law 1710 = .ok (.aload_n 1, 1) := by decide +kernel
theorem dL_law_1711 : decode cL_law 1711 = .ok (.invokevirtual 206, 3) := by decide +kernel
theorem dL_law_1714 : decode cL_law 1714 = .ok (.dstore 5, 2) := by decide +kernel
theorem dL_law_1716 : decode cL_law 1716 = .ok (.aload_n 2, 1) := by decide +kernel
theorem dL_law_1717 : decode cL_law 1717 = .ok (.invokevirtual 210, 3) := by decide +kernel
theorem dL_law_1720 : decode cL_law 1720 = .ok (.dstore 7, 2) := by decide +kernel
theorem dL_law_1722 : decode cL_law 1722 = .ok (.dload 5, 2) := by decide +kernel
theorem dL_law_1724 : decode cL_law 1724 = .ok (.dload 7, 2) := by decide +kernel
theorem dL_law_1726 : decode cL_law 1726 = .ok (.dcmp .l, 1) := by decide +kernel
theorem dL_law_1727 : decode cL_law 1727 = .ok (.ifCond .eq 21, 3) := by decide +kernel
theorem dL_law_1730 : decode cL_law 1730 = .ok (.dload 5, 2) := by decide +kernel
theorem dL_law_1732 : decode cL_law 1732 = .ok (.dload 5, 2) := by decide +kernel
theorem dL_law_1734 : decode cL_law 1734 = .ok (.dcmp .l, 1) := by decide +kernel
theorem dL_law_1735 : decode cL_law 1735 = .ok (.ifCond .eq 11, 3) := by decide +kernel
theorem dL_law_1738 : decode cL_law 1738 = .ok (.dload 7, 2) := by decide +kernel
theorem dL_law_1740 : decode cL_law 1740 = .ok (.dload 7, 2) := by decide +kernel
theorem dL_law_1742 : decode cL_law 1742 = .ok (.dcmp .l, 1) := by decide +kernel
theorem dL_law_1743 : decode cL_law 1743 = .ok (.ifCond .ne 5, 3) := by decide +kernel
theorem dL_law_1746 : decode cL_law 1746 = .ok (.iconst 0, 1) := by decide +kernel
theorem dL_law_1747 : decode cL_law 1747 = .ok (.ireturn, 1) := by decide +kernel
theorem dL_law_1748 : decode cL_law 1748 = .ok (.goto 17, 3) := by decide +kernel
theorem dL_law_1751 : decode cL_law 1751 = .ok (.aload_n 1, 1) := by decide +kernel
theorem dL_law_1752 : decode cL_law 1752 = .ok (.invokevirtual 211, 3) := by decide +kernel
theorem dL_law_1755 : decode cL_law 1755 = .ok (.aload_n 2, 1) := by decide +kernel
theorem dL_law_1756 : decode cL_law 1756 = .ok (.invokevirtual 215, 3) := by decide +kernel
theorem dL_law_1759 : decode cL_law 1759 = .ok (.lcmp, 1) := by decide +kernel
theorem dL_law_1760 : decode cL_law 1760 = .ok (.ifCond .eq 5, 3) := by decide +kernel
theorem dL_law_1763 : decode cL_law 1763 = .ok (.iconst 0, 1) := by decide +kernel
theorem dL_law_1764 : decode cL_law 1764 = .ok (.ireturn, 1) := by decide +kernel
theorem dL_law_1765 : decode cL_law 1765 = .ok (.iinc 4 4, 3) := by decide +kernel
theorem dL_law_1768 : decode cL_law 1768 = .ok (.goto (-1745), 3) := by decide +kernel
theorem dL_law_1771 : decode cL_law 1771 = .ok (.iconst 1, 1) := by decide +kernel
theorem dL_law_1772 : decode cL_law 1772 = .ok (.ireturn, 1) := by decide +kernel
end
