section
-- ===== PART A: goes FIRST, ahead of the names: the tables' words, and 'selects' of the private methods out of them =====
/-- a private method of a class that the tables say can be made, by its rows of tables_1 -/
def lw_okq (q : MethodName × Nat) : Prop := (q.1.cls ≠ "java/lang/invoke/MethodHandle" ∧ q.1.cls ≠ "java/lang/invoke/VarHandle") ∧ Cond.instantiable q.1.cls q.2 ∈ tables_1 ∧ Cond.privateMethod q.1 ∈ tables_1 ∧ Cond.instanceMethod q.1 ∈ tables_1
theorem lw_p0 : lw_okq (⟨"ThriftLock", "isBasin", "(I)Z"⟩, 13) := ⟨⟨by decide +kernel, by decide +kernel⟩, List.mem_of_getElem? (i := 10) (by decide +kernel), List.mem_of_getElem? (i := 186) (by decide +kernel), List.mem_of_getElem? (i := 187) (by decide +kernel)⟩
theorem lw_p1 : lw_okq (⟨"ThriftLock", "found", "(I)I"⟩, 13) := ⟨⟨by decide +kernel, by decide +kernel⟩, List.mem_of_getElem? (i := 10) (by decide +kernel), List.mem_of_getElem? (i := 201) (by decide +kernel), List.mem_of_getElem? (i := 202) (by decide +kernel)⟩
theorem lw_p2 : lw_okq (⟨"ThriftLock", "wayServedNext", "()I"⟩, 13) := ⟨⟨by decide +kernel, by decide +kernel⟩, List.mem_of_getElem? (i := 10) (by decide +kernel), List.mem_of_getElem? (i := 263) (by decide +kernel), List.mem_of_getElem? (i := 264) (by decide +kernel)⟩
theorem lw_p3 : lw_okq (⟨"ThriftLock", "wayAtChamber", "()I"⟩, 13) := ⟨⟨by decide +kernel, by decide +kernel⟩, List.mem_of_getElem? (i := 10) (by decide +kernel), List.mem_of_getElem? (i := 267) (by decide +kernel), List.mem_of_getElem? (i := 268) (by decide +kernel)⟩
theorem lw_p4 : lw_okq (⟨"ThriftLock", "turnsToServe", "(I)I"⟩, 13) := ⟨⟨by decide +kernel, by decide +kernel⟩, List.mem_of_getElem? (i := 10) (by decide +kernel), List.mem_of_getElem? (i := 271) (by decide +kernel), List.mem_of_getElem? (i := 272) (by decide +kernel)⟩
theorem lw_p5 : lw_okq (⟨"ThriftLock", "makeTurnFor", "(I)V"⟩, 13) := ⟨⟨by decide +kernel, by decide +kernel⟩, List.mem_of_getElem? (i := 10) (by decide +kernel), List.mem_of_getElem? (i := 275) (by decide +kernel), List.mem_of_getElem? (i := 276) (by decide +kernel)⟩
theorem lw_p6 : lw_okq (⟨"ThriftLock$Water", "basinToGive", "(I)I"⟩, 14) := ⟨⟨by decide +kernel, by decide +kernel⟩, List.mem_of_getElem? (i := 18) (by decide +kernel), List.mem_of_getElem? (i := 286) (by decide +kernel), List.mem_of_getElem? (i := 287) (by decide +kernel)⟩
theorem lw_p7 : lw_okq (⟨"ThriftLock$Water", "basinToTake", "(I)I"⟩, 14) := ⟨⟨by decide +kernel, by decide +kernel⟩, List.mem_of_getElem? (i := 18) (by decide +kernel), List.mem_of_getElem? (i := 292) (by decide +kernel), List.mem_of_getElem? (i := 293) (by decide +kernel)⟩
theorem lw_p8 : lw_okq (⟨"ThriftLock$Water", "loseByLeaks", "()V"⟩, 14) := ⟨⟨by decide +kernel, by decide +kernel⟩, List.mem_of_getElem? (i := 18) (by decide +kernel), List.mem_of_getElem? (i := 296) (by decide +kernel), List.mem_of_getElem? (i := 297) (by decide +kernel)⟩
theorem lw_p9 : lw_okq (⟨"ThriftLock", "enterTurn", "(IZ)V"⟩, 13) := ⟨⟨by decide +kernel, by decide +kernel⟩, List.mem_of_getElem? (i := 10) (by decide +kernel), List.mem_of_getElem? (i := 303) (by decide +kernel), List.mem_of_getElem? (i := 304) (by decide +kernel)⟩
theorem lw_p10 : lw_okq (⟨"ThriftLock", "tryTurn", "()V"⟩, 13) := ⟨⟨by decide +kernel, by decide +kernel⟩, List.mem_of_getElem? (i := 10) (by decide +kernel), List.mem_of_getElem? (i := 335) (by decide +kernel), List.mem_of_getElem? (i := 336) (by decide +kernel)⟩
theorem lw_p11 : lw_okq (⟨"ThriftLock", "bestBottom", "(I)I"⟩, 13) := ⟨⟨by decide +kernel, by decide +kernel⟩, List.mem_of_getElem? (i := 10) (by decide +kernel), List.mem_of_getElem? (i := 358) (by decide +kernel), List.mem_of_getElem? (i := 359) (by decide +kernel)⟩
theorem lw_p12 : lw_okq (⟨"ThriftLock", "leastNeeded", "()I"⟩, 13) := ⟨⟨by decide +kernel, by decide +kernel⟩, List.mem_of_getElem? (i := 10) (by decide +kernel), List.mem_of_getElem? (i := 372) (by decide +kernel), List.mem_of_getElem? (i := 373) (by decide +kernel)⟩
theorem lw_p13 : lw_okq (⟨"ThriftLock", "foldBasins", "(J)J"⟩, 13) := ⟨⟨by decide +kernel, by decide +kernel⟩, List.mem_of_getElem? (i := 10) (by decide +kernel), List.mem_of_getElem? (i := 437) (by decide +kernel), List.mem_of_getElem? (i := 438) (by decide +kernel)⟩
theorem lw_p14 : lw_okq (⟨"ThriftLock", "foldBoats", "(J)J"⟩, 13) := ⟨⟨by decide +kernel, by decide +kernel⟩, List.mem_of_getElem? (i := 10) (by decide +kernel), List.mem_of_getElem? (i := 443) (by decide +kernel), List.mem_of_getElem? (i := 444) (by decide +kernel)⟩
theorem lw_p15 : lw_okq (⟨"ThriftLock", "foldTurns", "(J)J"⟩, 13) := ⟨⟨by decide +kernel, by decide +kernel⟩, List.mem_of_getElem? (i := 10) (by decide +kernel), List.mem_of_getElem? (i := 449) (by decide +kernel), List.mem_of_getElem? (i := 450) (by decide +kernel)⟩
def lw_privs_1 : List (MethodName × Nat) := [(⟨"ThriftLock", "isBasin", "(I)Z"⟩, 13), (⟨"ThriftLock", "found", "(I)I"⟩, 13), (⟨"ThriftLock", "wayServedNext", "()I"⟩, 13), (⟨"ThriftLock", "wayAtChamber", "()I"⟩, 13), (⟨"ThriftLock", "turnsToServe", "(I)I"⟩, 13), (⟨"ThriftLock", "makeTurnFor", "(I)V"⟩, 13), (⟨"ThriftLock$Water", "basinToGive", "(I)I"⟩, 14), (⟨"ThriftLock$Water", "basinToTake", "(I)I"⟩, 14), (⟨"ThriftLock$Water", "loseByLeaks", "()V"⟩, 14), (⟨"ThriftLock", "enterTurn", "(IZ)V"⟩, 13), (⟨"ThriftLock", "tryTurn", "()V"⟩, 13), (⟨"ThriftLock", "bestBottom", "(I)I"⟩, 13), (⟨"ThriftLock", "leastNeeded", "()I"⟩, 13), (⟨"ThriftLock", "foldBasins", "(J)J"⟩, 13), (⟨"ThriftLock", "foldBoats", "(J)J"⟩, 13), (⟨"ThriftLock", "foldTurns", "(J)J"⟩, 13)]
theorem lw_r1 : ∀ q ∈ lw_privs_1, lw_okq q := List.forall_mem_cons.mpr ⟨lw_p0, List.forall_mem_cons.mpr ⟨lw_p1, List.forall_mem_cons.mpr ⟨lw_p2, List.forall_mem_cons.mpr ⟨lw_p3, List.forall_mem_cons.mpr ⟨lw_p4, List.forall_mem_cons.mpr ⟨lw_p5, List.forall_mem_cons.mpr ⟨lw_p6, List.forall_mem_cons.mpr ⟨lw_p7, List.forall_mem_cons.mpr ⟨lw_p8, List.forall_mem_cons.mpr ⟨lw_p9, List.forall_mem_cons.mpr ⟨lw_p10, List.forall_mem_cons.mpr ⟨lw_p11, List.forall_mem_cons.mpr ⟨lw_p12, List.forall_mem_cons.mpr ⟨lw_p13, List.forall_mem_cons.mpr ⟨lw_p14, List.forall_mem_cons.mpr ⟨lw_p15, fun _ h => absurd h List.not_mem_nil⟩⟩⟩⟩⟩⟩⟩⟩⟩⟩⟩⟩⟩⟩⟩⟩
theorem lw_p16 : lw_okq (⟨"ThriftLock", "foldWhatWouldBe", "(J)J"⟩, 13) := ⟨⟨by decide +kernel, by decide +kernel⟩, List.mem_of_getElem? (i := 10) (by decide +kernel), List.mem_of_getElem? (i := 455) (by decide +kernel), List.mem_of_getElem? (i := 456) (by decide +kernel)⟩
theorem lw_p17 : lw_okq (⟨"ThriftLockModel", "finds", "(I)I"⟩, 30) := ⟨⟨by decide +kernel, by decide +kernel⟩, List.mem_of_getElem? (i := 460) (by decide +kernel), List.mem_of_getElem? (i := 570) (by decide +kernel), List.mem_of_getElem? (i := 571) (by decide +kernel)⟩
theorem lw_p18 : lw_okq (⟨"ThriftLockModel", "lacks", "(III)I"⟩, 30) := ⟨⟨by decide +kernel, by decide +kernel⟩, List.mem_of_getElem? (i := 460) (by decide +kernel), List.mem_of_getElem? (i := 582) (by decide +kernel), List.mem_of_getElem? (i := 583) (by decide +kernel)⟩
theorem lw_p19 : lw_okq (⟨"ThriftLockModel", "isBasin", "(I)Z"⟩, 30) := ⟨⟨by decide +kernel, by decide +kernel⟩, List.mem_of_getElem? (i := 460) (by decide +kernel), List.mem_of_getElem? (i := 616) (by decide +kernel), List.mem_of_getElem? (i := 617) (by decide +kernel)⟩
theorem lw_p20 : lw_okq (⟨"ThriftLockModel", "infoBy", "(II)I"⟩, 30) := ⟨⟨by decide +kernel, by decide +kernel⟩, List.mem_of_getElem? (i := 460) (by decide +kernel), List.mem_of_getElem? (i := 634) (by decide +kernel), List.mem_of_getElem? (i := 635) (by decide +kernel)⟩
theorem lw_p21 : lw_okq (⟨"ThriftLockModel", "levelOf", "(II)I"⟩, 30) := ⟨⟨by decide +kernel, by decide +kernel⟩, List.mem_of_getElem? (i := 460) (by decide +kernel), List.mem_of_getElem? (i := 638) (by decide +kernel), List.mem_of_getElem? (i := 639) (by decide +kernel)⟩
theorem lw_p22 : lw_okq (⟨"ThriftLockModel", "chamberBy", "(I)I"⟩, 30) := ⟨⟨by decide +kernel, by decide +kernel⟩, List.mem_of_getElem? (i := 460) (by decide +kernel), List.mem_of_getElem? (i := 646) (by decide +kernel), List.mem_of_getElem? (i := 647) (by decide +kernel)⟩
theorem lw_p23 : lw_okq (⟨"ThriftLockModel", "manyWait", "(I)I"⟩, 30) := ⟨⟨by decide +kernel, by decide +kernel⟩, List.mem_of_getElem? (i := 460) (by decide +kernel), List.mem_of_getElem? (i := 657) (by decide +kernel), List.mem_of_getElem? (i := 658) (by decide +kernel)⟩
theorem lw_p24 : lw_okq (⟨"ThriftLockModel", "waitsBy", "(II)I"⟩, 30) := ⟨⟨by decide +kernel, by decide +kernel⟩, List.mem_of_getElem? (i := 460) (by decide +kernel), List.mem_of_getElem? (i := 671) (by decide +kernel), List.mem_of_getElem? (i := 672) (by decide +kernel)⟩
theorem lw_p25 : lw_okq (⟨"ThriftLockModel", "nextBy", "(I)I"⟩, 30) := ⟨⟨by decide +kernel, by decide +kernel⟩, List.mem_of_getElem? (i := 460) (by decide +kernel), List.mem_of_getElem? (i := 683) (by decide +kernel), List.mem_of_getElem? (i := 684) (by decide +kernel)⟩
theorem lw_p26 : lw_okq (⟨"ThriftLockModel", "nextBoat", "()I"⟩, 30) := ⟨⟨by decide +kernel, by decide +kernel⟩, List.mem_of_getElem? (i := 460) (by decide +kernel), List.mem_of_getElem? (i := 687) (by decide +kernel), List.mem_of_getElem? (i := 688) (by decide +kernel)⟩
theorem lw_p27 : lw_okq (⟨"ThriftLockModel", "isSide", "(I)Z"⟩, 30) := ⟨⟨by decide +kernel, by decide +kernel⟩, List.mem_of_getElem? (i := 460) (by decide +kernel), List.mem_of_getElem? (i := 691) (by decide +kernel), List.mem_of_getElem? (i := 692) (by decide +kernel)⟩
theorem lw_p28 : lw_okq (⟨"ThriftLockModel", "does", "(I)V"⟩, 30) := ⟨⟨by decide +kernel, by decide +kernel⟩, List.mem_of_getElem? (i := 460) (by decide +kernel), List.mem_of_getElem? (i := 699) (by decide +kernel), List.mem_of_getElem? (i := 700) (by decide +kernel)⟩
theorem lw_p29 : lw_okq (⟨"ThriftLockModel", "moves", "()V"⟩, 30) := ⟨⟨by decide +kernel, by decide +kernel⟩, List.mem_of_getElem? (i := 460) (by decide +kernel), List.mem_of_getElem? (i := 703) (by decide +kernel), List.mem_of_getElem? (i := 704) (by decide +kernel)⟩
theorem lw_p30 : lw_okq (⟨"ThriftLockModel", "goesTo", "(I)I"⟩, 30) := ⟨⟨by decide +kernel, by decide +kernel⟩, List.mem_of_getElem? (i := 460) (by decide +kernel), List.mem_of_getElem? (i := 707) (by decide +kernel), List.mem_of_getElem? (i := 708) (by decide +kernel)⟩
theorem lw_p31 : lw_okq (⟨"ThriftLockModel", "comesFrom", "(I)I"⟩, 30) := ⟨⟨by decide +kernel, by decide +kernel⟩, List.mem_of_getElem? (i := 460) (by decide +kernel), List.mem_of_getElem? (i := 717) (by decide +kernel), List.mem_of_getElem? (i := 718) (by decide +kernel)⟩
def lw_privs_2 : List (MethodName × Nat) := [(⟨"ThriftLock", "foldWhatWouldBe", "(J)J"⟩, 13), (⟨"ThriftLockModel", "finds", "(I)I"⟩, 30), (⟨"ThriftLockModel", "lacks", "(III)I"⟩, 30), (⟨"ThriftLockModel", "isBasin", "(I)Z"⟩, 30), (⟨"ThriftLockModel", "infoBy", "(II)I"⟩, 30), (⟨"ThriftLockModel", "levelOf", "(II)I"⟩, 30), (⟨"ThriftLockModel", "chamberBy", "(I)I"⟩, 30), (⟨"ThriftLockModel", "manyWait", "(I)I"⟩, 30), (⟨"ThriftLockModel", "waitsBy", "(II)I"⟩, 30), (⟨"ThriftLockModel", "nextBy", "(I)I"⟩, 30), (⟨"ThriftLockModel", "nextBoat", "()I"⟩, 30), (⟨"ThriftLockModel", "isSide", "(I)Z"⟩, 30), (⟨"ThriftLockModel", "does", "(I)V"⟩, 30), (⟨"ThriftLockModel", "moves", "()V"⟩, 30), (⟨"ThriftLockModel", "goesTo", "(I)I"⟩, 30), (⟨"ThriftLockModel", "comesFrom", "(I)I"⟩, 30)]
theorem lw_r2 : ∀ q ∈ lw_privs_2, lw_okq q := List.forall_mem_cons.mpr ⟨lw_p16, List.forall_mem_cons.mpr ⟨lw_p17, List.forall_mem_cons.mpr ⟨lw_p18, List.forall_mem_cons.mpr ⟨lw_p19, List.forall_mem_cons.mpr ⟨lw_p20, List.forall_mem_cons.mpr ⟨lw_p21, List.forall_mem_cons.mpr ⟨lw_p22, List.forall_mem_cons.mpr ⟨lw_p23, List.forall_mem_cons.mpr ⟨lw_p24, List.forall_mem_cons.mpr ⟨lw_p25, List.forall_mem_cons.mpr ⟨lw_p26, List.forall_mem_cons.mpr ⟨lw_p27, List.forall_mem_cons.mpr ⟨lw_p28, List.forall_mem_cons.mpr ⟨lw_p29, List.forall_mem_cons.mpr ⟨lw_p30, List.forall_mem_cons.mpr ⟨lw_p31, fun _ h => absurd h List.not_mem_nil⟩⟩⟩⟩⟩⟩⟩⟩⟩⟩⟩⟩⟩⟩⟩⟩
theorem lw_p32 : lw_okq (⟨"ThriftLockModel", "totalBy", "(I)I"⟩, 30) := ⟨⟨by decide +kernel, by decide +kernel⟩, List.mem_of_getElem? (i := 460) (by decide +kernel), List.mem_of_getElem? (i := 743) (by decide +kernel), List.mem_of_getElem? (i := 744) (by decide +kernel)⟩
theorem lw_p33 : lw_okq (⟨"ThriftLockModel", "inBasins", "()I"⟩, 30) := ⟨⟨by decide +kernel, by decide +kernel⟩, List.mem_of_getElem? (i := 460) (by decide +kernel), List.mem_of_getElem? (i := 747) (by decide +kernel), List.mem_of_getElem? (i := 748) (by decide +kernel)⟩
theorem lw_p34 : lw_okq (⟨"ThriftLockModel", "looks", "()V"⟩, 30) := ⟨⟨by decide +kernel, by decide +kernel⟩, List.mem_of_getElem? (i := 460) (by decide +kernel), List.mem_of_getElem? (i := 755) (by decide +kernel), List.mem_of_getElem? (i := 756) (by decide +kernel)⟩
theorem lw_p35 : lw_okq (⟨"ThriftLockModel", "keeps", "()V"⟩, 30) := ⟨⟨by decide +kernel, by decide +kernel⟩, List.mem_of_getElem? (i := 460) (by decide +kernel), List.mem_of_getElem? (i := 759) (by decide +kernel), List.mem_of_getElem? (i := 760) (by decide +kernel)⟩
theorem lw_p36 : lw_okq (⟨"ThriftLockModel", "takesBack", "()V"⟩, 30) := ⟨⟨by decide +kernel, by decide +kernel⟩, List.mem_of_getElem? (i := 460) (by decide +kernel), List.mem_of_getElem? (i := 763) (by decide +kernel), List.mem_of_getElem? (i := 764) (by decide +kernel)⟩
theorem lw_p37 : lw_okq (⟨"ThriftLockModel", "stepBy", "(I)I"⟩, 30) := ⟨⟨by decide +kernel, by decide +kernel⟩, List.mem_of_getElem? (i := 460) (by decide +kernel), List.mem_of_getElem? (i := 767) (by decide +kernel), List.mem_of_getElem? (i := 768) (by decide +kernel)⟩
theorem lw_p38 : lw_okq (⟨"ThriftLockModel", "aheadOf", "(I)I"⟩, 30) := ⟨⟨by decide +kernel, by decide +kernel⟩, List.mem_of_getElem? (i := 460) (by decide +kernel), List.mem_of_getElem? (i := 776) (by decide +kernel), List.mem_of_getElem? (i := 777) (by decide +kernel)⟩
theorem lw_p39 : lw_okq (⟨"ThriftLockModel", "betterBy", "(II)I"⟩, 30) := ⟨⟨by decide +kernel, by decide +kernel⟩, List.mem_of_getElem? (i := 460) (by decide +kernel), List.mem_of_getElem? (i := 784) (by decide +kernel), List.mem_of_getElem? (i := 785) (by decide +kernel)⟩
theorem lw_p40 : lw_okq (⟨"ThriftLockModel", "needlessBy", "(I)I"⟩, 30) := ⟨⟨by decide +kernel, by decide +kernel⟩, List.mem_of_getElem? (i := 460) (by decide +kernel), List.mem_of_getElem? (i := 792) (by decide +kernel), List.mem_of_getElem? (i := 793) (by decide +kernel)⟩
def lw_privs_3 : List (MethodName × Nat) := [(⟨"ThriftLockModel", "totalBy", "(I)I"⟩, 30), (⟨"ThriftLockModel", "inBasins", "()I"⟩, 30), (⟨"ThriftLockModel", "looks", "()V"⟩, 30), (⟨"ThriftLockModel", "keeps", "()V"⟩, 30), (⟨"ThriftLockModel", "takesBack", "()V"⟩, 30), (⟨"ThriftLockModel", "stepBy", "(I)I"⟩, 30), (⟨"ThriftLockModel", "aheadOf", "(I)I"⟩, 30), (⟨"ThriftLockModel", "betterBy", "(II)I"⟩, 30), (⟨"ThriftLockModel", "needlessBy", "(I)I"⟩, 30)]
theorem lw_r3 : ∀ q ∈ lw_privs_3, lw_okq q := List.forall_mem_cons.mpr ⟨lw_p32, List.forall_mem_cons.mpr ⟨lw_p33, List.forall_mem_cons.mpr ⟨lw_p34, List.forall_mem_cons.mpr ⟨lw_p35, List.forall_mem_cons.mpr ⟨lw_p36, List.forall_mem_cons.mpr ⟨lw_p37, List.forall_mem_cons.mpr ⟨lw_p38, List.forall_mem_cons.mpr ⟨lw_p39, List.forall_mem_cons.mpr ⟨lw_p40, fun _ h => absurd h List.not_mem_nil⟩⟩⟩⟩⟩⟩⟩⟩⟩
def lw_privs : List (MethodName × Nat) := lw_privs_1 ++ (lw_privs_2 ++ (lw_privs_3))
def lw_tbl : List Cond := k2_sels lw_privs ++ tables_1
theorem lw_privs_ok : ∀ q ∈ lw_privs, lw_okq q := by
  show ∀ q ∈ lw_privs_1 ++ (lw_privs_2 ++ (lw_privs_3)), lw_okq q
  exact List.forall_mem_append.mpr ⟨lw_r1, List.forall_mem_append.mpr ⟨lw_r2, lw_r3⟩⟩
/-! ===== BEGIN words of one list among another's, by their places ===== -/
theorem goodIn_r {big : List Cond} (ws : List Cond) (ps : List Nat) (hp : ws = ps.filterMap (fun i => big[i]?)) (h : ws.all goodWord = true) : GoodIn big ws := by
  intro w hw
  have h1 := List.all_eq_true.mp h w hw
  rw [hp] at hw
  obtain ⟨i, -, hi⟩ := List.mem_filterMap.mp hw
  have hm : w ∈ big := by first | exact List.mem_of_getElem? hi | exact List.getElem?_mem hi
  exact ⟨hm, good_of_word h1⟩
theorem goodIn_app {big a b : List Cond} (ha : GoodIn big a) (hb : GoodIn big b) : GoodIn big (a ++ b) := fun w h => (List.mem_append.mp h).elim (ha w) (hb w)
theorem goodIn_ca {big a b : List Cond} {c : Cond} (ha : GoodIn big (c :: a)) (hb : GoodIn big b) : GoodIn big (c :: (a ++ b)) := fun w h => (List.mem_cons.mp h).elim (fun e => ha w (List.mem_cons.mpr (Or.inl e))) (fun h => (List.mem_append.mp h).elim (fun h => ha w (List.mem_cons.mpr (Or.inr h))) (hb w))
theorem goodIn_sub {big ws : List Cond} (hm : ∀ w ∈ ws, w ∈ big) (h : ws.all goodWord = true) : GoodIn big ws := fun w hw => ⟨hm w hw, good_of_word (List.all_eq_true.mp h w hw)⟩
/-! ===== END ===== -/
end
section
/-! ===== BEGIN printed: names, fields, word lists, decode rows ===== -/
def RX0 : String := "ThriftLock$Queue"
def TX0 : u_T := fun k => match k with
  | 0 => ("ThriftLock$Queue", "boats", "[I", true)
  | _ => ("ThriftLock$Queue", "size", "I", false)
def tyX0 : Nat → FieldType := fun k => match k with
  | 0 => .array .int
  | _ => .int
abbrev wsX00 : List Cond := u_ws RX0 TX0 2
theorem nmX0 : ∀ a, a < 2 → ∀ b, b < 2 → a ≠ b → (TX0 a).2.1 ≠ (TX0 b).2.1 := by decide +kernel
theorem tyX0_ok : ∀ k, k < 2 → parseFieldDescriptor (TX0 k).2.2.1 = some (tyX0 k) := by decide +kernel
abbrev cX0_init : ByteArray := prog_2_method_1_code
def yX0_init : MethodName := ⟨RX0, "<init>", "()V"⟩
abbrev cX0_boatAt : ByteArray := prog_2_method_2_code
def yX0_boatAt : MethodName := ⟨RX0, "boatAt", "(I)I"⟩
abbrev cX0_append : ByteArray := prog_2_method_3_code
def yX0_append : MethodName := ⟨RX0, "append", "(I)V"⟩
abbrev cX0_placeOf : ByteArray := prog_2_method_4_code
def yX0_placeOf : MethodName := ⟨RX0, "placeOf", "(I)I"⟩
abbrev cX0_removeAt : ByteArray := prog_2_method_5_code
def yX0_removeAt : MethodName := ⟨RX0, "removeAt", "(I)V"⟩
def RX1 : String := "ThriftLock$Sheet"
def TX1 : u_T := fun k => match k with
  | 0 => ("ThriftLock$Sheet", "lost", "Z", false)
  | 1 => ("ThriftLock$Sheet", "form", "I", false)
  | 2 => ("ThriftLock$Sheet", "size", "I", false)
  | _ => ("ThriftLock$Sheet", "items", "[I", true)
def tyX1 : Nat → FieldType := fun k => match k with
  | 0 => .boolean
  | 1 => .int
  | 2 => .int
  | _ => .array .int
abbrev wsX10 : List Cond := u_ws RX1 TX1 4
theorem nmX1 : ∀ a, a < 4 → ∀ b, b < 4 → a ≠ b → (TX1 a).2.1 ≠ (TX1 b).2.1 := by decide +kernel
theorem tyX1_ok : ∀ k, k < 4 → parseFieldDescriptor (TX1 k).2.2.1 = some (tyX1 k) := by decide +kernel
abbrev cX1_init : ByteArray := prog_3_method_1_code
def yX1_init : MethodName := ⟨RX1, "<init>", "()V"⟩
abbrev cX1_renew : ByteArray := prog_3_method_2_code
def yX1_renew : MethodName := ⟨RX1, "renew", "(II)V"⟩
abbrev cX1_faultAt : ByteArray := prog_3_method_3_code
def yX1_faultAt : MethodName := ⟨RX1, "faultAt", "(II)I"⟩
abbrev cX1_hasSpan : ByteArray := prog_3_method_4_code
def yX1_hasSpan : MethodName := ⟨RX1, "hasSpan", "(II)Z"⟩
abbrev cX1_put : ByteArray := prog_3_method_5_code
def yX1_put : MethodName := ⟨RX1, "put", "(II)V"⟩
def RX2 : String := "ThriftLock$Water"
def TX2 : u_T := fun k => match k with
  | 0 => ("ThriftLock$Water", "fullAt", "I", false)
  | 1 => ("ThriftLock$Water", "inChamber", "I", false)
  | 2 => ("ThriftLock$Water", "basins", "I", false)
  | 3 => ("ThriftLock$Water", "outBits", "I", false)
  | 4 => ("ThriftLock$Water", "bottom", "[I", true)
  | 5 => ("ThriftLock$Water", "room", "[I", true)
  | 6 => ("ThriftLock$Water", "wide", "[I", true)
  | 7 => ("ThriftLock$Water", "rise", "[I", true)
  | 8 => ("ThriftLock$Water", "leaks", "[I", true)
  | 9 => ("ThriftLock$Water", "held", "[I", true)
  | 10 => ("ThriftLock$Water", "steps", "[I", true)
  | 11 => ("ThriftLock$Water", "moved", "[I", true)
  | 12 => ("ThriftLock$Water", "outside", "I", false)
  | _ => ("ThriftLock$Water", "leaked", "I", false)
def tyX2 : Nat → FieldType := fun k => match k with
  | 0 => .int
  | 1 => .int
  | 2 => .int
  | 3 => .int
  | 4 => .array .int
  | 5 => .array .int
  | 6 => .array .int
  | 7 => .array .int
  | 8 => .array .int
  | 9 => .array .int
  | 10 => .array .int
  | 11 => .array .int
  | 12 => .int
  | _ => .int
abbrev wsX20 : List Cond := u_ws RX2 TX2 14
theorem nmX2 : ∀ a, a < 14 → ∀ b, b < 14 → a ≠ b → (TX2 a).2.1 ≠ (TX2 b).2.1 := by decide +kernel
theorem tyX2_ok : ∀ k, k < 14 → parseFieldDescriptor (TX2 k).2.2.1 = some (tyX2 k) := by decide +kernel
abbrev cX2_init : ByteArray := prog_4_method_1_code
def yX2_init : MethodName := ⟨RX2, "<init>", "()V"⟩
abbrev cX2_becomeLike : ByteArray := prog_4_method_2_code
def yX2_becomeLike : MethodName := ⟨RX2, "becomeLike", "(LThriftLock$Water;)V"⟩
abbrev cX2_addBasin : ByteArray := prog_4_method_3_code
def yX2_addBasin : MethodName := ⟨RX2, "addBasin", "(III)V"⟩
abbrev cX2_riseOf : ByteArray := prog_4_method_4_code
def yX2_riseOf : MethodName := ⟨RX2, "riseOf", "(I)I"⟩
abbrev cX2_isOut : ByteArray := prog_4_method_5_code
def yX2_isOut : MethodName := ⟨RX2, "isOut", "(I)Z"⟩
abbrev cX2_levelHolding : ByteArray := prog_4_method_6_code
def yX2_levelHolding : MethodName := ⟨RX2, "levelHolding", "(II)I"⟩
abbrev cX2_heldInAll : ByteArray := prog_4_method_7_code
def yX2_heldInAll : MethodName := ⟨RX2, "heldInAll", "()I"⟩
abbrev cX2_drawnBy : ByteArray := prog_4_method_8_code
def yX2_drawnBy : MethodName := ⟨RX2, "drawnBy", "(II)I"⟩
abbrev cX2_makeTurn : ByteArray := prog_4_method_9_code
def yX2_makeTurn : MethodName := ⟨RX2, "makeTurn", "()V"⟩
abbrev cX2_basinToGive : ByteArray := prog_4_method_10_code
def yX2_basinToGive : MethodName := ⟨RX2, "basinToGive", "(I)I"⟩
abbrev cX2_basinToTake : ByteArray := prog_4_method_11_code
def yX2_basinToTake : MethodName := ⟨RX2, "basinToTake", "(I)I"⟩
abbrev cX2_loseByLeaks : ByteArray := prog_4_method_12_code
def yX2_loseByLeaks : MethodName := ⟨RX2, "loseByLeaks", "()V"⟩
def RX3 : String := "ThriftLock"
def TX3 : u_T := fun k => match k with
  | 0 => ("ThriftLock", "water", "LThriftLock$Water;", true)
  | 1 => ("ThriftLock", "trial", "LThriftLock$Water;", true)
  | 2 => ("ThriftLock", "queues", "[LThriftLock$Queue;", true)
  | 3 => ("ThriftLock", "sheets", "[LThriftLock$Sheet;", true)
  | 4 => ("ThriftLock", "rows", "[I", true)
  | 5 => ("ThriftLock", "turnsKept", "I", false)
  | 6 => ("ThriftLock", "turnsEver", "I", false)
  | 7 => ("ThriftLock", "drawnEver", "I", false)
  | 8 => ("ThriftLock", "lostEver", "I", false)
  | 9 => ("ThriftLock", "leakedEver", "I", false)
  | 10 => ("ThriftLock", "boatsCame", "I", false)
  | 11 => ("ThriftLock", "ruleNow", "I", false)
  | _ => ("ThriftLock", "latestFinding", "I", false)
def tyX3 : Nat → FieldType := fun k => match k with
  | 0 => .object "ThriftLock$Water"
  | 1 => .object "ThriftLock$Water"
  | 2 => .array (.object "ThriftLock$Queue")
  | 3 => .array (.object "ThriftLock$Sheet")
  | 4 => .array .int
  | 5 => .int
  | 6 => .int
  | 7 => .int
  | 8 => .int
  | 9 => .int
  | 10 => .int
  | 11 => .int
  | _ => .int
abbrev wsX30 : List Cond := u_ws RX3 TX3 13
theorem nmX3 : ∀ a, a < 13 → ∀ b, b < 13 → a ≠ b → (TX3 a).2.1 ≠ (TX3 b).2.1 := by decide +kernel
theorem tyX3_ok : ∀ k, k < 13 → parseFieldDescriptor (TX3 k).2.2.1 = some (tyX3 k) := by decide +kernel
abbrev cX3_init : ByteArray := prog_1_method_1_code
def yX3_init : MethodName := ⟨RX3, "<init>", "()V"⟩
abbrev cX3_head : ByteArray := prog_1_method_2_code
def yX3_head : MethodName := ⟨RX3, "head", "(I)I"⟩
abbrev cX3_basin : ByteArray := prog_1_method_3_code
def yX3_basin : MethodName := ⟨RX3, "basin", "(III)I"⟩
abbrev cX3_back : ByteArray := prog_1_method_4_code
def yX3_back : MethodName := ⟨RX3, "back", "()I"⟩
abbrev cX3_out : ByteArray := prog_1_method_5_code
def yX3_out : MethodName := ⟨RX3, "out", "(I)I"⟩
abbrev cX3_leak : ByteArray := prog_1_method_6_code
def yX3_leak : MethodName := ⟨RX3, "leak", "(II)I"⟩
abbrev cX3_read : ByteArray := prog_1_method_7_code
def yX3_read : MethodName := ⟨RX3, "read", "(I)I"⟩
abbrev cX3_info : ByteArray := prog_1_method_8_code
def yX3_info : MethodName := ⟨RX3, "info", "(II)I"⟩
abbrev cX3_chamber : ByteArray := prog_1_method_9_code
def yX3_chamber : MethodName := ⟨RX3, "chamber", "(I)I"⟩
abbrev cX3_isBasin : ByteArray := prog_1_method_10_code
def yX3_isBasin : MethodName := ⟨RX3, "isBasin", "(I)Z"⟩
abbrev cX3_mayBeBasin : ByteArray := prog_1_method_11_code
def yX3_mayBeBasin : MethodName := ⟨RX3, "mayBeBasin", "(III)Z"⟩
abbrev cX3_boat : ByteArray := prog_1_method_12_code
def yX3_boat : MethodName := ⟨RX3, "boat", "(I)I"⟩
abbrev cX3_leave : ByteArray := prog_1_method_13_code
def yX3_leave : MethodName := ⟨RX3, "leave", "(I)I"⟩
abbrev cX3_waits : ByteArray := prog_1_method_14_code
def yX3_waits : MethodName := ⟨RX3, "waits", "(II)I"⟩
abbrev cX3_rule : ByteArray := prog_1_method_15_code
def yX3_rule : MethodName := ⟨RX3, "rule", "(I)I"⟩
abbrev cX3_serve : ByteArray := prog_1_method_16_code
def yX3_serve : MethodName := ⟨RX3, "serve", "()I"⟩
abbrev cX3_next : ByteArray := prog_1_method_17_code
def yX3_next : MethodName := ⟨RX3, "next", "(I)I"⟩
abbrev cX3_isWay : ByteArray := prog_1_method_18_code
def yX3_isWay : MethodName := ⟨RX3, "isWay", "(I)Z"⟩
abbrev cX3_wayAtChamber : ByteArray := prog_1_method_19_code
def yX3_wayAtChamber : MethodName := ⟨RX3, "wayAtChamber", "()I"⟩
abbrev cX3_wayServedNext : ByteArray := prog_1_method_20_code
def yX3_wayServedNext : MethodName := ⟨RX3, "wayServedNext", "()I"⟩
abbrev cX3_turnsToServe : ByteArray := prog_1_method_21_code
def yX3_turnsToServe : MethodName := ⟨RX3, "turnsToServe", "(I)I"⟩
abbrev cX3_turn : ByteArray := prog_1_method_22_code
def yX3_turn : MethodName := ⟨RX3, "turn", "()I"⟩
abbrev cX3_ledger : ByteArray := prog_1_method_23_code
def yX3_ledger : MethodName := ⟨RX3, "ledger", "(II)I"⟩
abbrev cX3_wipe : ByteArray := prog_1_method_24_code
def yX3_wipe : MethodName := ⟨RX3, "wipe", "()I"⟩
abbrev cX3_total : ByteArray := prog_1_method_25_code
def yX3_total : MethodName := ⟨RX3, "total", "(I)I"⟩
abbrev cX3_makeTurnFor : ByteArray := prog_1_method_26_code
def yX3_makeTurnFor : MethodName := ⟨RX3, "makeTurnFor", "(I)V"⟩
abbrev cX3_enterTurn : ByteArray := prog_1_method_27_code
def yX3_enterTurn : MethodName := ⟨RX3, "enterTurn", "(IZ)V"⟩
abbrev cX3_step : ByteArray := prog_1_method_28_code
def yX3_step : MethodName := ⟨RX3, "step", "(I)I"⟩
abbrev cX3_ahead : ByteArray := prog_1_method_29_code
def yX3_ahead : MethodName := ⟨RX3, "ahead", "(I)I"⟩
abbrev cX3_better : ByteArray := prog_1_method_30_code
def yX3_better : MethodName := ⟨RX3, "better", "(II)I"⟩
abbrev cX3_needless : ByteArray := prog_1_method_31_code
def yX3_needless : MethodName := ⟨RX3, "needless", "(I)I"⟩
abbrev cX3_tryTurn : ByteArray := prog_1_method_32_code
def yX3_tryTurn : MethodName := ⟨RX3, "tryTurn", "()V"⟩
abbrev cX3_choiceOf : ByteArray := prog_1_method_33_code
def yX3_choiceOf : MethodName := ⟨RX3, "choiceOf", "(II)I"⟩
abbrev cX3_partOfChoice : ByteArray := prog_1_method_34_code
def yX3_partOfChoice : MethodName := ⟨RX3, "partOfChoice", "(II)I"⟩
abbrev cX3_bestBottom : ByteArray := prog_1_method_35_code
def yX3_bestBottom : MethodName := ⟨RX3, "bestBottom", "(I)I"⟩
abbrev cX3_leastNeeded : ByteArray := prog_1_method_36_code
def yX3_leastNeeded : MethodName := ⟨RX3, "leastNeeded", "()I"⟩
abbrev cX3_sheet : ByteArray := prog_1_method_37_code
def yX3_sheet : MethodName := ⟨RX3, "sheet", "(III)I"⟩
abbrev cX3_lose : ByteArray := prog_1_method_38_code
def yX3_lose : MethodName := ⟨RX3, "lose", "(I)I"⟩
abbrev cX3_lay : ByteArray := prog_1_method_39_code
def yX3_lay : MethodName := ⟨RX3, "lay", "(IIII)I"⟩
abbrev cX3_get : ByteArray := prog_1_method_40_code
def yX3_get : MethodName := ⟨RX3, "get", "(III)I"⟩
abbrev cX3_copy : ByteArray := prog_1_method_41_code
def yX3_copy : MethodName := ⟨RX3, "copy", "(IIIII)I"⟩
abbrev cX3_write : ByteArray := prog_1_method_42_code
def yX3_write : MethodName := ⟨RX3, "write", "(I)I"⟩
abbrev cX3_count : ByteArray := prog_1_method_43_code
def yX3_count : MethodName := ⟨RX3, "count", "(I)I"⟩
abbrev cX3_digest : ByteArray := prog_1_method_44_code
def yX3_digest : MethodName := ⟨RX3, "digest", "()J"⟩
abbrev cX3_fold : ByteArray := prog_1_method_45_code
def yX3_fold : MethodName := ⟨RX3, "fold", "(JI)J"⟩
abbrev cX3_foldBasins : ByteArray := prog_1_method_46_code
def yX3_foldBasins : MethodName := ⟨RX3, "foldBasins", "(J)J"⟩
abbrev cX3_foldBoats : ByteArray := prog_1_method_47_code
def yX3_foldBoats : MethodName := ⟨RX3, "foldBoats", "(J)J"⟩
abbrev cX3_foldTurns : ByteArray := prog_1_method_48_code
def yX3_foldTurns : MethodName := ⟨RX3, "foldTurns", "(J)J"⟩
abbrev cX3_foldWhatWouldBe : ByteArray := prog_1_method_49_code
def yX3_foldWhatWouldBe : MethodName := ⟨RX3, "foldWhatWouldBe", "(J)J"⟩
abbrev cX3_isSheet : ByteArray := prog_1_method_50_code
def yX3_isSheet : MethodName := ⟨RX3, "isSheet", "(I)Z"⟩
abbrev cX3_isForm : ByteArray := prog_1_method_51_code
def yX3_isForm : MethodName := ⟨RX3, "isForm", "(I)Z"⟩
abbrev cX3_found : ByteArray := prog_1_method_52_code
def yX3_found : MethodName := ⟨RX3, "found", "(I)I"⟩
def RX4 : String := "ThriftLockModel"
def TX4 : u_T := fun k => match k with
  | 0 => ("ThriftLockModel", "forms", "[I", true)
  | 1 => ("ThriftLockModel", "sizes", "[I", true)
  | 2 => ("ThriftLockModel", "items", "[I", true)
  | 3 => ("ThriftLockModel", "moved", "[I", true)
  | 4 => ("ThriftLockModel", "latest", "I", false)
  | 5 => ("ThriftLockModel", "head", "I", false)
  | 6 => ("ThriftLockModel", "full", "Z", false)
  | 7 => ("ThriftLockModel", "basins", "I", false)
  | 8 => ("ThriftLockModel", "bottom", "[I", true)
  | 9 => ("ThriftLockModel", "room", "[I", true)
  | 10 => ("ThriftLockModel", "wide", "[I", true)
  | 11 => ("ThriftLockModel", "leak", "[I", true)
  | 12 => ("ThriftLockModel", "held", "[I", true)
  | 13 => ("ThriftLockModel", "out", "I", false)
  | 14 => ("ThriftLockModel", "came", "I", false)
  | 15 => ("ThriftLockModel", "wayOf", "[I", true)
  | 16 => ("ThriftLockModel", "isWaiting", "[Z", true)
  | 17 => ("ThriftLockModel", "rule", "I", false)
  | 18 => ("ThriftLockModel", "steps", "[I", true)
  | 19 => ("ThriftLockModel", "went", "[I", true)
  | 20 => ("ThriftLockModel", "without", "I", false)
  | 21 => ("ThriftLockModel", "leaks", "I", false)
  | 22 => ("ThriftLockModel", "kept", "[I", true)
  | 23 => ("ThriftLockModel", "keptFull", "Z", false)
  | 24 => ("ThriftLockModel", "ledger", "[I", true)
  | 25 => ("ThriftLockModel", "turns", "I", false)
  | 26 => ("ThriftLockModel", "drawnEver", "I", false)
  | 27 => ("ThriftLockModel", "lostEver", "I", false)
  | 28 => ("ThriftLockModel", "leakedEver", "I", false)
  | _ => ("ThriftLockModel", "turnsEver", "I", false)
def tyX4 : Nat → FieldType := fun k => match k with
  | 0 => .array .int
  | 1 => .array .int
  | 2 => .array .int
  | 3 => .array .int
  | 4 => .int
  | 5 => .int
  | 6 => .boolean
  | 7 => .int
  | 8 => .array .int
  | 9 => .array .int
  | 10 => .array .int
  | 11 => .array .int
  | 12 => .array .int
  | 13 => .int
  | 14 => .int
  | 15 => .array .int
  | 16 => .array .boolean
  | 17 => .int
  | 18 => .array .int
  | 19 => .array .int
  | 20 => .int
  | 21 => .int
  | 22 => .array .int
  | 23 => .boolean
  | 24 => .array .int
  | 25 => .int
  | 26 => .int
  | 27 => .int
  | 28 => .int
  | _ => .int
abbrev wsX40 : List Cond := u_ws RX4 TX4 30
theorem nmX4 : ∀ a, a < 30 → ∀ b, b < 30 → a ≠ b → (TX4 a).2.1 ≠ (TX4 b).2.1 := by decide +kernel
theorem tyX4_ok : ∀ k, k < 30 → parseFieldDescriptor (TX4 k).2.2.1 = some (tyX4 k) := by decide +kernel
abbrev cX4_init : ByteArray := prog_6_method_1_code
def yX4_init : MethodName := ⟨RX4, "<init>", "()V"⟩
abbrev cX4_in : ByteArray := prog_6_method_3_code
def yX4_in : MethodName := ⟨RX4, "in", "(JJJ)Z"⟩
abbrev cX4_isTwo : ByteArray := prog_6_method_4_code
def yX4_isTwo : MethodName := ⟨RX4, "isTwo", "(I)Z"⟩
abbrev cX4_isIn : ByteArray := prog_6_method_5_code
def yX4_isIn : MethodName := ⟨RX4, "isIn", "(II)Z"⟩
abbrev cX4_lesser : ByteArray := prog_6_method_6_code
def yX4_lesser : MethodName := ⟨RX4, "lesser", "(II)I"⟩
abbrev cX4_greater : ByteArray := prog_6_method_7_code
def yX4_greater : MethodName := ⟨RX4, "greater", "(II)I"⟩
abbrev cX4_finds : ByteArray := prog_6_method_8_code
def yX4_finds : MethodName := ⟨RX4, "finds", "(I)I"⟩
abbrev cX4_isSheet : ByteArray := prog_6_method_9_code
def yX4_isSheet : MethodName := ⟨RX4, "isSheet", "(I)Z"⟩
abbrev cX4_sheet : ByteArray := prog_6_method_10_code
def yX4_sheet : MethodName := ⟨RX4, "sheet", "(III)I"⟩
abbrev cX4_lose : ByteArray := prog_6_method_11_code
def yX4_lose : MethodName := ⟨RX4, "lose", "(I)I"⟩
abbrev cX4_lacks : ByteArray := prog_6_method_12_code
def yX4_lacks : MethodName := ⟨RX4, "lacks", "(III)I"⟩
abbrev cX4_cut : ByteArray := prog_6_method_13_code
def yX4_cut : MethodName := ⟨RX4, "cut", "(II)I"⟩
abbrev cX4_lay : ByteArray := prog_6_method_14_code
def yX4_lay : MethodName := ⟨RX4, "lay", "(IIII)I"⟩
abbrev cX4_get : ByteArray := prog_6_method_15_code
def yX4_get : MethodName := ⟨RX4, "get", "(III)I"⟩
abbrev cX4_copy : ByteArray := prog_6_method_16_code
def yX4_copy : MethodName := ⟨RX4, "copy", "(IIIII)I"⟩
abbrev cX4_head : ByteArray := prog_6_method_17_code
def yX4_head : MethodName := ⟨RX4, "head", "(I)I"⟩
abbrev cX4_basin : ByteArray := prog_6_method_18_code
def yX4_basin : MethodName := ⟨RX4, "basin", "(III)I"⟩
abbrev cX4_back : ByteArray := prog_6_method_19_code
def yX4_back : MethodName := ⟨RX4, "back", "()I"⟩
abbrev cX4_isBasin : ByteArray := prog_6_method_20_code
def yX4_isBasin : MethodName := ⟨RX4, "isBasin", "(I)Z"⟩
abbrev cX4_out : ByteArray := prog_6_method_21_code
def yX4_out : MethodName := ⟨RX4, "out", "(I)I"⟩
abbrev cX4_leak : ByteArray := prog_6_method_22_code
def yX4_leak : MethodName := ⟨RX4, "leak", "(II)I"⟩
abbrev cX4_read : ByteArray := prog_6_method_23_code
def yX4_read : MethodName := ⟨RX4, "read", "(I)I"⟩
abbrev cX4_levelOf : ByteArray := prog_6_method_24_code
def yX4_levelOf : MethodName := ⟨RX4, "levelOf", "(II)I"⟩
abbrev cX4_infoBy : ByteArray := prog_6_method_25_code
def yX4_infoBy : MethodName := ⟨RX4, "infoBy", "(II)I"⟩
abbrev cX4_info : ByteArray := prog_6_method_26_code
def yX4_info : MethodName := ⟨RX4, "info", "(II)I"⟩
abbrev cX4_chamberBy : ByteArray := prog_6_method_27_code
def yX4_chamberBy : MethodName := ⟨RX4, "chamberBy", "(I)I"⟩
abbrev cX4_chamber : ByteArray := prog_6_method_28_code
def yX4_chamber : MethodName := ⟨RX4, "chamber", "(I)I"⟩
abbrev cX4_manyWait : ByteArray := prog_6_method_29_code
def yX4_manyWait : MethodName := ⟨RX4, "manyWait", "(I)I"⟩
abbrev cX4_boat : ByteArray := prog_6_method_30_code
def yX4_boat : MethodName := ⟨RX4, "boat", "(I)I"⟩
abbrev cX4_leave : ByteArray := prog_6_method_31_code
def yX4_leave : MethodName := ⟨RX4, "leave", "(I)I"⟩
abbrev cX4_waitsBy : ByteArray := prog_6_method_32_code
def yX4_waitsBy : MethodName := ⟨RX4, "waitsBy", "(II)I"⟩
abbrev cX4_waits : ByteArray := prog_6_method_33_code
def yX4_waits : MethodName := ⟨RX4, "waits", "(II)I"⟩
abbrev cX4_rule : ByteArray := prog_6_method_34_code
def yX4_rule : MethodName := ⟨RX4, "rule", "(I)I"⟩
abbrev cX4_isSide : ByteArray := prog_6_method_35_code
def yX4_isSide : MethodName := ⟨RX4, "isSide", "(I)Z"⟩
abbrev cX4_nextBoat : ByteArray := prog_6_method_36_code
def yX4_nextBoat : MethodName := ⟨RX4, "nextBoat", "()I"⟩
abbrev cX4_nextBy : ByteArray := prog_6_method_37_code
def yX4_nextBy : MethodName := ⟨RX4, "nextBy", "(I)I"⟩
abbrev cX4_next : ByteArray := prog_6_method_38_code
def yX4_next : MethodName := ⟨RX4, "next", "(I)I"⟩
abbrev cX4_goesTo : ByteArray := prog_6_method_39_code
def yX4_goesTo : MethodName := ⟨RX4, "goesTo", "(I)I"⟩
abbrev cX4_comesFrom : ByteArray := prog_6_method_40_code
def yX4_comesFrom : MethodName := ⟨RX4, "comesFrom", "(I)I"⟩
abbrev cX4_moves : ByteArray := prog_6_method_41_code
def yX4_moves : MethodName := ⟨RX4, "moves", "()V"⟩
abbrev cX4_keeps : ByteArray := prog_6_method_42_code
def yX4_keeps : MethodName := ⟨RX4, "keeps", "()V"⟩
abbrev cX4_takesBack : ByteArray := prog_6_method_43_code
def yX4_takesBack : MethodName := ⟨RX4, "takesBack", "()V"⟩
abbrev cX4_does : ByteArray := prog_6_method_44_code
def yX4_does : MethodName := ⟨RX4, "does", "(I)V"⟩
abbrev cX4_serve : ByteArray := prog_6_method_45_code
def yX4_serve : MethodName := ⟨RX4, "serve", "()I"⟩
abbrev cX4_turn : ByteArray := prog_6_method_46_code
def yX4_turn : MethodName := ⟨RX4, "turn", "()I"⟩
abbrev cX4_ledger : ByteArray := prog_6_method_47_code
def yX4_ledger : MethodName := ⟨RX4, "ledger", "(II)I"⟩
abbrev cX4_wipe : ByteArray := prog_6_method_48_code
def yX4_wipe : MethodName := ⟨RX4, "wipe", "()I"⟩
abbrev cX4_inBasins : ByteArray := prog_6_method_49_code
def yX4_inBasins : MethodName := ⟨RX4, "inBasins", "()I"⟩
abbrev cX4_totalBy : ByteArray := prog_6_method_50_code
def yX4_totalBy : MethodName := ⟨RX4, "totalBy", "(I)I"⟩
abbrev cX4_total : ByteArray := prog_6_method_51_code
def yX4_total : MethodName := ⟨RX4, "total", "(I)I"⟩
abbrev cX4_looks : ByteArray := prog_6_method_52_code
def yX4_looks : MethodName := ⟨RX4, "looks", "()V"⟩
abbrev cX4_stepBy : ByteArray := prog_6_method_53_code
def yX4_stepBy : MethodName := ⟨RX4, "stepBy", "(I)I"⟩
abbrev cX4_step : ByteArray := prog_6_method_54_code
def yX4_step : MethodName := ⟨RX4, "step", "(I)I"⟩
abbrev cX4_aheadOf : ByteArray := prog_6_method_55_code
def yX4_aheadOf : MethodName := ⟨RX4, "aheadOf", "(I)I"⟩
abbrev cX4_ahead : ByteArray := prog_6_method_56_code
def yX4_ahead : MethodName := ⟨RX4, "ahead", "(I)I"⟩
abbrev cX4_betterBy : ByteArray := prog_6_method_57_code
def yX4_betterBy : MethodName := ⟨RX4, "betterBy", "(II)I"⟩
abbrev cX4_better : ByteArray := prog_6_method_58_code
def yX4_better : MethodName := ⟨RX4, "better", "(II)I"⟩
abbrev cX4_needlessBy : ByteArray := prog_6_method_59_code
def yX4_needlessBy : MethodName := ⟨RX4, "needlessBy", "(I)I"⟩
abbrev cX4_needless : ByteArray := prog_6_method_60_code
def yX4_needless : MethodName := ⟨RX4, "needless", "(I)I"⟩
abbrev cX4_write : ByteArray := prog_6_method_61_code
def yX4_write : MethodName := ⟨RX4, "write", "(I)I"⟩
abbrev cX4_count : ByteArray := prog_6_method_62_code
def yX4_count : MethodName := ⟨RX4, "count", "(I)I"⟩
abbrev cX4_digest : ByteArray := prog_6_method_63_code
def yX4_digest : MethodName := ⟨RX4, "digest", "()J"⟩
def RJ9 : String := "java/lang/Math"
def TJ9 : u_T := fun k => match k with
  | _ => ("", "", "", false)
def tyJ9 : Nat → FieldType := fun k => match k with
  | _ => .int
abbrev wsJ90 : List Cond := u_ws RJ9 TJ9 0
theorem nmJ9 : ∀ a, a < 0 → ∀ b, b < 0 → a ≠ b → (TJ9 a).2.1 ≠ (TJ9 b).2.1 := by decide +kernel
theorem tyJ9_ok : ∀ k, k < 0 → parseFieldDescriptor (TJ9 k).2.2.1 = some (tyJ9 k) := by decide +kernel
abbrev cJ9_min_7cf53 : ByteArray := prog_7_method_69_code
def yJ9_min_7cf53 : MethodName := ⟨RJ9, "min", "(II)I"⟩
def RJ10 : String := "java/lang/System"
def TJ10 : u_T := fun k => match k with
  | _ => ("", "", "", false)
def tyJ10 : Nat → FieldType := fun k => match k with
  | _ => .int
abbrev wsJ100 : List Cond := u_ws RJ10 TJ10 0
theorem nmJ10 : ∀ a, a < 0 → ∀ b, b < 0 → a ≠ b → (TJ10 a).2.1 ≠ (TJ10 b).2.1 := by decide +kernel
theorem tyJ10_ok : ∀ k, k < 0 → parseFieldDescriptor (TJ10 k).2.2.1 = some (tyJ10 k) := by decide +kernel
def RJ7 : String := "java/util/Arrays"
def TJ7 : u_T := fun k => match k with
  | _ => ("", "", "", false)
def tyJ7 : Nat → FieldType := fun k => match k with
  | _ => .int
abbrev wsJ70 : List Cond := u_ws RJ7 TJ7 0
theorem nmJ7 : ∀ a, a < 0 → ∀ b, b < 0 → a ≠ b → (TJ7 a).2.1 ≠ (TJ7 b).2.1 := by decide +kernel
theorem tyJ7_ok : ∀ k, k < 0 → parseFieldDescriptor (TJ7 k).2.2.1 = some (tyJ7 k) := by decide +kernel
abbrev cJ7_fill_53178 : ByteArray := prog_9_method_103_code
def yJ7_fill_53178 : MethodName := ⟨RJ7, "fill", "([II)V"⟩
def RL : String := "ThriftLockLaw"
abbrev cL_law : ByteArray := code
def yL_law : MethodName := ⟨RL, "law", "([I)Z"⟩
def wsX0_init : List Cond := .code yX0_init cX0_init 1 none :: ([.methodLink RX0 3 objectInit, .instanceMethod objectInit, .code objectInit ⟨#[0xb1]⟩ 1 none, .arrayClass .int, .fieldLink RX0 9 "ThriftLock$Queue" "boats" "[I"] ++ wsX00)
def wsX0_boatAt : List Cond := .code yX0_boatAt cX0_boatAt 2 (some .int) :: ([.fieldLink RX0 15 "ThriftLock$Queue" "size" "I", .fieldLink RX0 9 "ThriftLock$Queue" "boats" "[I"] ++ wsX00)
def wsX0_append : List Cond := .code yX0_append cX0_append 2 none :: ([.fieldLink RX0 15 "ThriftLock$Queue" "size" "I", .fieldLink RX0 9 "ThriftLock$Queue" "boats" "[I"] ++ wsX00)
def wsX0_placeOf : List Cond := .code yX0_placeOf cX0_placeOf 3 (some .int) :: ([.fieldLink RX0 15 "ThriftLock$Queue" "size" "I", .fieldLink RX0 9 "ThriftLock$Queue" "boats" "[I"] ++ wsX00)
def wsX0_removeAt : List Cond := .code yX0_removeAt cX0_removeAt 2 none :: ([.fieldLink RX0 15 "ThriftLock$Queue" "size" "I", .fieldLink RX0 9 "ThriftLock$Queue" "boats" "[I", .methodLink RX0 19 arraycopyName, .native arraycopyName, .static arraycopyName, .initialized "java/lang/System"] ++ wsX00)
def wsX1_init : List Cond := .code yX1_init cX1_init 1 none :: ([.methodLink RX1 3 objectInit, .instanceMethod objectInit, .code objectInit ⟨#[0xb1]⟩ 1 none, .fieldLink RX1 9 "ThriftLock$Sheet" "lost" "Z", .arrayClass .int, .fieldLink RX1 15 "ThriftLock$Sheet" "items" "[I"] ++ wsX10)
def wsJ7_fill_53178 : List Cond := .code yJ7_fill_53178 cJ7_fill_53178 4 none :: ([])
def wsX1_renew : List Cond := .code yX1_renew cX1_renew 3 none :: ([.fieldLink RX1 9 "ThriftLock$Sheet" "lost" "Z", .fieldLink RX1 19 "ThriftLock$Sheet" "form" "I", .fieldLink RX1 23 "ThriftLock$Sheet" "size" "I", .fieldLink RX1 15 "ThriftLock$Sheet" "items" "[I", .methodLink RX1 26 yJ7_fill_53178, .static yJ7_fill_53178, .initialized RJ7, .code yJ7_fill_53178 cJ7_fill_53178 4 none] ++ wsX10)
def wsX1_faultAt : List Cond := .code yX1_faultAt cX1_faultAt 3 (some .int) :: ([.fieldLink RX1 9 "ThriftLock$Sheet" "lost" "Z", .fieldLink RX1 19 "ThriftLock$Sheet" "form" "I", .fieldLink RX1 23 "ThriftLock$Sheet" "size" "I"] ++ wsX10)
def wsX1_hasSpan : List Cond := .code yX1_hasSpan cX1_hasSpan 3 (some .boolean) :: ([.fieldLink RX1 23 "ThriftLock$Sheet" "size" "I"] ++ wsX10)
def wsX1_put : List Cond := .code yX1_put cX1_put 3 none :: ([.fieldLink RX1 19 "ThriftLock$Sheet" "form" "I", .fieldLink RX1 15 "ThriftLock$Sheet" "items" "[I"] ++ wsX10)
def wsX2_init : List Cond := .code yX2_init cX2_init 1 none :: ([.methodLink RX2 3 objectInit, .instanceMethod objectInit, .code objectInit ⟨#[0xb1]⟩ 1 none, .fieldLink RX2 9 "ThriftLock$Water" "fullAt" "I", .arrayClass .int, .fieldLink RX2 15 "ThriftLock$Water" "bottom" "[I", .fieldLink RX2 19 "ThriftLock$Water" "room" "[I", .fieldLink RX2 22 "ThriftLock$Water" "wide" "[I", .fieldLink RX2 25 "ThriftLock$Water" "rise" "[I", .fieldLink RX2 28 "ThriftLock$Water" "leaks" "[I", .fieldLink RX2 31 "ThriftLock$Water" "held" "[I", .fieldLink RX2 34 "ThriftLock$Water" "steps" "[I", .fieldLink RX2 37 "ThriftLock$Water" "moved" "[I"] ++ wsX20)
def wsX2_becomeLike : List Cond := .code yX2_becomeLike cX2_becomeLike 2 none :: ([.fieldLink RX2 9 "ThriftLock$Water" "fullAt" "I", .fieldLink RX2 40 "ThriftLock$Water" "inChamber" "I", .fieldLink RX2 43 "ThriftLock$Water" "basins" "I", .fieldLink RX2 46 "ThriftLock$Water" "outBits" "I", .fieldLink RX2 15 "ThriftLock$Water" "bottom" "[I", .methodLink RX2 49 arraycopyName, .native arraycopyName, .static arraycopyName, .initialized "java/lang/System", .fieldLink RX2 19 "ThriftLock$Water" "room" "[I", .fieldLink RX2 22 "ThriftLock$Water" "wide" "[I", .fieldLink RX2 25 "ThriftLock$Water" "rise" "[I", .fieldLink RX2 28 "ThriftLock$Water" "leaks" "[I", .fieldLink RX2 31 "ThriftLock$Water" "held" "[I"] ++ wsX20)
def wsX2_riseOf : List Cond := .code yX2_riseOf cX2_riseOf 1 (some .int) :: ([])
def wsX2_addBasin : List Cond := .code yX2_addBasin cX2_addBasin 5 none :: ([.fieldLink RX2 43 "ThriftLock$Water" "basins" "I", .fieldLink RX2 15 "ThriftLock$Water" "bottom" "[I", .fieldLink RX2 19 "ThriftLock$Water" "room" "[I", .fieldLink RX2 22 "ThriftLock$Water" "wide" "[I", .fieldLink RX2 25 "ThriftLock$Water" "rise" "[I", .fieldLink RX2 28 "ThriftLock$Water" "leaks" "[I", .fieldLink RX2 31 "ThriftLock$Water" "held" "[I", .methodLink RX2 55 yX2_riseOf, .static yX2_riseOf, .initialized RX2, .code yX2_riseOf cX2_riseOf 1 (some .int)] ++ wsX20)
def wsX2_isOut : List Cond := .code yX2_isOut cX2_isOut 2 (some .boolean) :: ([.fieldLink RX2 46 "ThriftLock$Water" "outBits" "I"] ++ wsX20)
def wsX2_levelHolding : List Cond := .code yX2_levelHolding cX2_levelHolding 3 (some .int) :: ([.fieldLink RX2 15 "ThriftLock$Water" "bottom" "[I", .fieldLink RX2 25 "ThriftLock$Water" "rise" "[I"] ++ wsX20)
def wsX2_heldInAll : List Cond := .code yX2_heldInAll cX2_heldInAll 3 (some .int) :: ([.fieldLink RX2 43 "ThriftLock$Water" "basins" "I", .fieldLink RX2 31 "ThriftLock$Water" "held" "[I"] ++ wsX20)
def wsX2_basinToGive : List Cond := .code yX2_basinToGive cX2_basinToGive 6 (some .int) :: ([.fieldLink RX2 43 "ThriftLock$Water" "basins" "I", .fieldLink RX2 31 "ThriftLock$Water" "held" "[I", .methodLink RX2 80 yX2_isOut, .instanceMethod yX2_isOut, .selects RX2 yX2_isOut yX2_isOut, .initialized RX2, .code yX2_isOut cX2_isOut 2 (some .boolean), .fieldLink RX2 46 "ThriftLock$Water" "outBits" "I", .methodLink RX2 84 yX2_levelHolding, .instanceMethod yX2_levelHolding, .selects RX2 yX2_levelHolding yX2_levelHolding, .code yX2_levelHolding cX2_levelHolding 3 (some .int), .fieldLink RX2 15 "ThriftLock$Water" "bottom" "[I", .fieldLink RX2 25 "ThriftLock$Water" "rise" "[I"] ++ wsX20)
def wsX2_basinToTake : List Cond := .code yX2_basinToTake cX2_basinToTake 6 (some .int) :: ([.fieldLink RX2 43 "ThriftLock$Water" "basins" "I", .fieldLink RX2 31 "ThriftLock$Water" "held" "[I", .fieldLink RX2 19 "ThriftLock$Water" "room" "[I", .methodLink RX2 80 yX2_isOut, .instanceMethod yX2_isOut, .selects RX2 yX2_isOut yX2_isOut, .initialized RX2, .code yX2_isOut cX2_isOut 2 (some .boolean), .fieldLink RX2 46 "ThriftLock$Water" "outBits" "I", .methodLink RX2 84 yX2_levelHolding, .instanceMethod yX2_levelHolding, .selects RX2 yX2_levelHolding yX2_levelHolding, .code yX2_levelHolding cX2_levelHolding 3 (some .int), .fieldLink RX2 15 "ThriftLock$Water" "bottom" "[I", .fieldLink RX2 25 "ThriftLock$Water" "rise" "[I"] ++ wsX20)
def wsX2_loseByLeaks : List Cond := .code yX2_loseByLeaks cX2_loseByLeaks 3 none :: ([.fieldLink RX2 88 "ThriftLock$Water" "leaked" "I", .fieldLink RX2 43 "ThriftLock$Water" "basins" "I", .fieldLink RX2 28 "ThriftLock$Water" "leaks" "[I", .fieldLink RX2 31 "ThriftLock$Water" "held" "[I", .methodLink RX2 91 Lib.Math.min.name, .static Lib.Math.min.name, .initialized "java/lang/Math", .code Lib.Math.min.name Lib.Math.min.code 2 (some .int)] ++ wsX20)
def wsX2_makeTurn_r1 : List Cond := [Cond.fieldLink RX2 40 "ThriftLock$Water" "inChamber" "I", Cond.fieldLink RX2 37 "ThriftLock$Water" "moved" "[I", Cond.fieldLink RX2 62 "ThriftLock$Water" "outside" "I", Cond.fieldLink RX2 9 "ThriftLock$Water" "fullAt" "I", Cond.fieldLink RX2 34 "ThriftLock$Water" "steps" "[I", Cond.fieldLink RX2 31 "ThriftLock$Water" "held" "[I", Cond.methodLink RX2 65 yJ7_fill_53178, Cond.static yJ7_fill_53178, Cond.initialized RJ7, Cond.code yJ7_fill_53178 cJ7_fill_53178 4 none, Cond.methodLink RX2 71 yX2_basinToGive, Cond.instanceMethod yX2_basinToGive, Cond.selects RX2 yX2_basinToGive yX2_basinToGive, Cond.initialized RX2, Cond.code yX2_basinToGive cX2_basinToGive 6 (some .int), Cond.fieldLink RX2 43 "ThriftLock$Water" "basins" "I", Cond.methodLink RX2 80 yX2_isOut, Cond.instanceMethod yX2_isOut, Cond.selects RX2 yX2_isOut yX2_isOut, Cond.code yX2_isOut cX2_isOut 2 (some .boolean), Cond.fieldLink RX2 46 "ThriftLock$Water" "outBits" "I", Cond.methodLink RX2 84 yX2_levelHolding, Cond.instanceMethod yX2_levelHolding, Cond.selects RX2 yX2_levelHolding yX2_levelHolding]
def wsX2_makeTurn_r2 : List Cond := [Cond.code yX2_levelHolding cX2_levelHolding 3 (some .int), Cond.fieldLink RX2 15 "ThriftLock$Water" "bottom" "[I", Cond.fieldLink RX2 25 "ThriftLock$Water" "rise" "[I", Cond.methodLink RX2 74 yX2_basinToTake, Cond.instanceMethod yX2_basinToTake, Cond.selects RX2 yX2_basinToTake yX2_basinToTake, Cond.code yX2_basinToTake cX2_basinToTake 6 (some .int), Cond.fieldLink RX2 19 "ThriftLock$Water" "room" "[I", Cond.methodLink RX2 77 yX2_loseByLeaks, Cond.instanceMethod yX2_loseByLeaks, Cond.selects RX2 yX2_loseByLeaks yX2_loseByLeaks, Cond.code yX2_loseByLeaks cX2_loseByLeaks 3 none, Cond.fieldLink RX2 88 "ThriftLock$Water" "leaked" "I", Cond.fieldLink RX2 28 "ThriftLock$Water" "leaks" "[I", Cond.methodLink RX2 91 Lib.Math.min.name, Cond.static Lib.Math.min.name, Cond.initialized "java/lang/Math", Cond.code Lib.Math.min.name Lib.Math.min.code 2 (some .int)]
def wsX2_makeTurn : List Cond := .code yX2_makeTurn cX2_makeTurn 5 none :: ((wsX2_makeTurn_r1 ++ wsX2_makeTurn_r2) ++ wsX20)
def wsX2_drawnBy_r1 : List Cond := [Cond.fieldLink RX2 40 "ThriftLock$Water" "inChamber" "I", Cond.fieldLink RX2 62 "ThriftLock$Water" "outside" "I", Cond.methodLink RX2 59 yX2_makeTurn, Cond.instanceMethod yX2_makeTurn, Cond.selects RX2 yX2_makeTurn yX2_makeTurn, Cond.initialized RX2, Cond.code yX2_makeTurn cX2_makeTurn 5 none, Cond.fieldLink RX2 37 "ThriftLock$Water" "moved" "[I", Cond.fieldLink RX2 9 "ThriftLock$Water" "fullAt" "I", Cond.fieldLink RX2 34 "ThriftLock$Water" "steps" "[I", Cond.fieldLink RX2 31 "ThriftLock$Water" "held" "[I", Cond.methodLink RX2 65 yJ7_fill_53178, Cond.static yJ7_fill_53178, Cond.initialized RJ7, Cond.code yJ7_fill_53178 cJ7_fill_53178 4 none, Cond.methodLink RX2 71 yX2_basinToGive, Cond.instanceMethod yX2_basinToGive, Cond.selects RX2 yX2_basinToGive yX2_basinToGive, Cond.code yX2_basinToGive cX2_basinToGive 6 (some .int), Cond.fieldLink RX2 43 "ThriftLock$Water" "basins" "I", Cond.methodLink RX2 80 yX2_isOut, Cond.instanceMethod yX2_isOut, Cond.selects RX2 yX2_isOut yX2_isOut, Cond.code yX2_isOut cX2_isOut 2 (some .boolean)]
def wsX2_drawnBy_r2 : List Cond := [Cond.fieldLink RX2 46 "ThriftLock$Water" "outBits" "I", Cond.methodLink RX2 84 yX2_levelHolding, Cond.instanceMethod yX2_levelHolding, Cond.selects RX2 yX2_levelHolding yX2_levelHolding, Cond.code yX2_levelHolding cX2_levelHolding 3 (some .int), Cond.fieldLink RX2 15 "ThriftLock$Water" "bottom" "[I", Cond.fieldLink RX2 25 "ThriftLock$Water" "rise" "[I", Cond.methodLink RX2 74 yX2_basinToTake, Cond.instanceMethod yX2_basinToTake, Cond.selects RX2 yX2_basinToTake yX2_basinToTake, Cond.code yX2_basinToTake cX2_basinToTake 6 (some .int), Cond.fieldLink RX2 19 "ThriftLock$Water" "room" "[I", Cond.methodLink RX2 77 yX2_loseByLeaks, Cond.instanceMethod yX2_loseByLeaks, Cond.selects RX2 yX2_loseByLeaks yX2_loseByLeaks, Cond.code yX2_loseByLeaks cX2_loseByLeaks 3 none, Cond.fieldLink RX2 88 "ThriftLock$Water" "leaked" "I", Cond.fieldLink RX2 28 "ThriftLock$Water" "leaks" "[I", Cond.methodLink RX2 91 Lib.Math.min.name, Cond.static Lib.Math.min.name, Cond.initialized "java/lang/Math", Cond.code Lib.Math.min.name Lib.Math.min.code 2 (some .int)]
def wsX2_drawnBy : List Cond := .code yX2_drawnBy cX2_drawnBy 6 (some .int) :: ((wsX2_drawnBy_r1 ++ wsX2_drawnBy_r2) ++ wsX20)
def wsX3_init_r1 : List Cond := [Cond.methodLink RX3 1 objectInit, Cond.instanceMethod objectInit, Cond.code objectInit ⟨#[0xb1]⟩ 1 none, Cond.classLink RX3 7 RX2, Cond.instantiable RX2 14, Cond.initialized RX2, Cond.fieldLink RX3 10 "ThriftLock" "water" "LThriftLock$Water;", Cond.fieldLink RX3 16 "ThriftLock" "trial" "LThriftLock$Water;", Cond.classLink RX3 19 RX0, Cond.fieldLink RX3 21 "ThriftLock" "queues" "[LThriftLock$Queue;", Cond.classLink RX3 25 RX1, Cond.fieldLink RX3 27 "ThriftLock" "sheets" "[LThriftLock$Sheet;", Cond.arrayClass .int, Cond.fieldLink RX3 31 "ThriftLock" "rows" "[I", Cond.instantiable RX0 2, Cond.initialized RX0, Cond.instantiable RX1 4, Cond.initialized RX1, Cond.instanceMethod yX2_init, Cond.code yX2_init cX2_init 1 none, Cond.methodLink RX2 3 objectInit, Cond.fieldLink RX2 9 "ThriftLock$Water" "fullAt" "I", Cond.fieldLink RX2 15 "ThriftLock$Water" "bottom" "[I", Cond.fieldLink RX2 19 "ThriftLock$Water" "room" "[I"]
def wsX3_init_r2 : List Cond := [Cond.fieldLink RX2 22 "ThriftLock$Water" "wide" "[I", Cond.fieldLink RX2 25 "ThriftLock$Water" "rise" "[I", Cond.fieldLink RX2 28 "ThriftLock$Water" "leaks" "[I", Cond.fieldLink RX2 31 "ThriftLock$Water" "held" "[I", Cond.fieldLink RX2 34 "ThriftLock$Water" "steps" "[I", Cond.fieldLink RX2 37 "ThriftLock$Water" "moved" "[I", Cond.instanceMethod yX0_init, Cond.code yX0_init cX0_init 1 none, Cond.methodLink RX0 3 objectInit, Cond.fieldLink RX0 9 "ThriftLock$Queue" "boats" "[I", Cond.instanceMethod yX1_init, Cond.code yX1_init cX1_init 1 none, Cond.methodLink RX1 3 objectInit, Cond.fieldLink RX1 9 "ThriftLock$Sheet" "lost" "Z", Cond.fieldLink RX1 15 "ThriftLock$Sheet" "items" "[I"]
def wsX3_init : List Cond := .code yX3_init cX3_init 2 none :: ((wsX3_init_r1 ++ wsX3_init_r2) ++ wsX20 ++ wsX30 ++ wsX00 ++ wsX10)
def wsX3_head : List Cond := .code yX3_head cX3_head 3 (some .int) :: ([.fieldLink RX3 10 "ThriftLock" "water" "LThriftLock$Water;", .fieldLink RX3 37 "ThriftLock$Water" "inChamber" "I", .fieldLink RX3 41 "ThriftLock$Water" "fullAt" "I"] ++ wsX30 ++ wsX20)
def wsX3_mayBeBasin : List Cond := .code yX3_mayBeBasin cX3_mayBeBasin 3 (some .boolean) :: ([])
def wsX3_basin : List Cond := .code yX3_basin cX3_basin 4 (some .int) :: ([.fieldLink RX3 10 "ThriftLock" "water" "LThriftLock$Water;", .fieldLink RX3 48 "ThriftLock$Water" "basins" "I", .methodLink RX3 44 yX3_mayBeBasin, .static yX3_mayBeBasin, .initialized RX3, .code yX3_mayBeBasin cX3_mayBeBasin 3 (some .boolean), .methodLink RX3 51 yX2_addBasin, .instanceMethod yX2_addBasin, .selects RX2 yX2_addBasin yX2_addBasin, .initialized RX2, .code yX2_addBasin cX2_addBasin 5 none, .fieldLink RX2 43 "ThriftLock$Water" "basins" "I", .fieldLink RX2 15 "ThriftLock$Water" "bottom" "[I", .fieldLink RX2 19 "ThriftLock$Water" "room" "[I", .fieldLink RX2 22 "ThriftLock$Water" "wide" "[I", .fieldLink RX2 25 "ThriftLock$Water" "rise" "[I", .fieldLink RX2 28 "ThriftLock$Water" "leaks" "[I", .fieldLink RX2 31 "ThriftLock$Water" "held" "[I", .methodLink RX2 55 yX2_riseOf, .static yX2_riseOf, .code yX2_riseOf cX2_riseOf 1 (some .int)] ++ wsX30 ++ wsX20)
def wsX3_back : List Cond := .code yX3_back cX3_back 2 (some .int) :: ([.fieldLink RX3 10 "ThriftLock" "water" "LThriftLock$Water;", .fieldLink RX3 48 "ThriftLock$Water" "basins" "I", .fieldLink RX3 55 "ThriftLock$Water" "held" "[I", .fieldLink RX3 58 "ThriftLock$Water" "outBits" "I"] ++ wsX30 ++ wsX20)
def wsX3_isBasin : List Cond := .code yX3_isBasin cX3_isBasin 2 (some .boolean) :: ([.fieldLink RX3 10 "ThriftLock" "water" "LThriftLock$Water;", .fieldLink RX3 48 "ThriftLock$Water" "basins" "I"] ++ wsX30 ++ wsX20)
def wsX3_out : List Cond := .code yX3_out cX3_out 2 (some .int) :: ([.fieldLink RX3 10 "ThriftLock" "water" "LThriftLock$Water;", .fieldLink RX3 58 "ThriftLock$Water" "outBits" "I", .methodLink RX3 61 yX3_isBasin, .instanceMethod yX3_isBasin, .selects RX3 yX3_isBasin yX3_isBasin, .initialized RX3, .code yX3_isBasin cX3_isBasin 2 (some .boolean), .fieldLink RX3 48 "ThriftLock$Water" "basins" "I"] ++ wsX30 ++ wsX20)
def wsX3_leak : List Cond := .code yX3_leak cX3_leak 4 (some .int) :: ([.fieldLink RX3 10 "ThriftLock" "water" "LThriftLock$Water;", .fieldLink RX3 65 "ThriftLock$Water" "leaks" "[I", .methodLink RX3 61 yX3_isBasin, .instanceMethod yX3_isBasin, .selects RX3 yX3_isBasin yX3_isBasin, .initialized RX3, .code yX3_isBasin cX3_isBasin 2 (some .boolean), .fieldLink RX3 48 "ThriftLock$Water" "basins" "I"] ++ wsX30 ++ wsX20)
def wsX3_isSheet : List Cond := .code yX3_isSheet cX3_isSheet 1 (some .boolean) :: ([])
def wsX3_found : List Cond := .code yX3_found cX3_found 2 (some .int) :: ([.fieldLink RX3 229 "ThriftLock" "latestFinding" "I"] ++ wsX30)
def wsX3_read_r1 : List Cond := [Cond.fieldLink RX3 27 "ThriftLock" "sheets" "[LThriftLock$Sheet;", Cond.fieldLink RX3 71 "ThriftLock$Sheet" "lost" "Z", Cond.fieldLink RX3 79 "ThriftLock$Sheet" "size" "I", Cond.fieldLink RX3 10 "ThriftLock" "water" "LThriftLock$Water;", Cond.fieldLink RX3 48 "ThriftLock$Water" "basins" "I", Cond.fieldLink RX3 82 "ThriftLock$Sheet" "items" "[I", Cond.methodLink RX3 68 yX3_isSheet, Cond.static yX3_isSheet, Cond.initialized RX3, Cond.code yX3_isSheet cX3_isSheet 1 (some .boolean), Cond.methodLink RX3 75 yX3_found, Cond.instanceMethod yX3_found, Cond.selects RX3 yX3_found yX3_found, Cond.code yX3_found cX3_found 2 (some .int), Cond.fieldLink RX3 229 "ThriftLock" "latestFinding" "I", Cond.methodLink RX3 44 yX3_mayBeBasin, Cond.static yX3_mayBeBasin, Cond.code yX3_mayBeBasin cX3_mayBeBasin 3 (some .boolean), Cond.methodLink RX3 51 yX2_addBasin, Cond.instanceMethod yX2_addBasin, Cond.selects RX2 yX2_addBasin yX2_addBasin, Cond.initialized RX2, Cond.code yX2_addBasin cX2_addBasin 5 none, Cond.fieldLink RX2 43 "ThriftLock$Water" "basins" "I"]
def wsX3_read_r2 : List Cond := [Cond.fieldLink RX2 15 "ThriftLock$Water" "bottom" "[I", Cond.fieldLink RX2 19 "ThriftLock$Water" "room" "[I", Cond.fieldLink RX2 22 "ThriftLock$Water" "wide" "[I", Cond.fieldLink RX2 25 "ThriftLock$Water" "rise" "[I", Cond.fieldLink RX2 28 "ThriftLock$Water" "leaks" "[I", Cond.fieldLink RX2 31 "ThriftLock$Water" "held" "[I", Cond.methodLink RX2 55 yX2_riseOf, Cond.static yX2_riseOf, Cond.code yX2_riseOf cX2_riseOf 1 (some .int)]
def wsX3_read : List Cond := .code yX3_read cX3_read 5 (some .int) :: ((wsX3_read_r1 ++ wsX3_read_r2) ++ wsX30 ++ wsX10 ++ wsX20)
def wsX3_info : List Cond := .code yX3_info cX3_info 3 (some .int) :: ([.fieldLink RX3 10 "ThriftLock" "water" "LThriftLock$Water;", .fieldLink RX3 85 "ThriftLock$Water" "bottom" "[I", .fieldLink RX3 88 "ThriftLock$Water" "room" "[I", .fieldLink RX3 91 "ThriftLock$Water" "wide" "[I", .fieldLink RX3 65 "ThriftLock$Water" "leaks" "[I", .fieldLink RX3 55 "ThriftLock$Water" "held" "[I", .methodLink RX3 61 yX3_isBasin, .instanceMethod yX3_isBasin, .selects RX3 yX3_isBasin yX3_isBasin, .initialized RX3, .code yX3_isBasin cX3_isBasin 2 (some .boolean), .fieldLink RX3 48 "ThriftLock$Water" "basins" "I", .methodLink RX3 94 yX2_levelHolding, .instanceMethod yX2_levelHolding, .selects RX2 yX2_levelHolding yX2_levelHolding, .initialized RX2, .code yX2_levelHolding cX2_levelHolding 3 (some .int), .fieldLink RX2 15 "ThriftLock$Water" "bottom" "[I", .fieldLink RX2 25 "ThriftLock$Water" "rise" "[I", .methodLink RX3 98 yX2_isOut, .instanceMethod yX2_isOut, .selects RX2 yX2_isOut yX2_isOut, .code yX2_isOut cX2_isOut 2 (some .boolean), .fieldLink RX2 46 "ThriftLock$Water" "outBits" "I"] ++ wsX30 ++ wsX20)
def wsX3_chamber : List Cond := .code yX3_chamber cX3_chamber 2 (some .int) :: ([.fieldLink RX3 10 "ThriftLock" "water" "LThriftLock$Water;", .fieldLink RX3 37 "ThriftLock$Water" "inChamber" "I", .fieldLink RX3 41 "ThriftLock$Water" "fullAt" "I"] ++ wsX30 ++ wsX20)
def wsX3_isWay : List Cond := .code yX3_isWay cX3_isWay 1 (some .boolean) :: ([])
def wsX3_boat : List Cond := .code yX3_boat cX3_boat 3 (some .int) :: ([.fieldLink RX3 21 "ThriftLock" "queues" "[LThriftLock$Queue;", .fieldLink RX3 104 "ThriftLock$Queue" "size" "I", .fieldLink RX3 105 "ThriftLock" "boatsCame" "I", .methodLink RX3 101 yX3_isWay, .static yX3_isWay, .initialized RX3, .code yX3_isWay cX3_isWay 1 (some .boolean), .methodLink RX3 108 yX0_append, .instanceMethod yX0_append, .selects RX0 yX0_append yX0_append, .initialized RX0, .code yX0_append cX0_append 2 none, .fieldLink RX0 15 "ThriftLock$Queue" "size" "I", .fieldLink RX0 9 "ThriftLock$Queue" "boats" "[I"] ++ wsX30 ++ wsX00)
def wsX3_leave : List Cond := .code yX3_leave cX3_leave 4 (some .int) :: ([.fieldLink RX3 21 "ThriftLock" "queues" "[LThriftLock$Queue;", .fieldLink RX3 104 "ThriftLock$Queue" "size" "I", .methodLink RX3 112 yX0_placeOf, .instanceMethod yX0_placeOf, .selects RX0 yX0_placeOf yX0_placeOf, .initialized RX0, .code yX0_placeOf cX0_placeOf 3 (some .int), .fieldLink RX0 15 "ThriftLock$Queue" "size" "I", .fieldLink RX0 9 "ThriftLock$Queue" "boats" "[I", .methodLink RX3 115 yX0_removeAt, .instanceMethod yX0_removeAt, .selects RX0 yX0_removeAt yX0_removeAt, .code yX0_removeAt cX0_removeAt 2 none, .methodLink RX0 19 arraycopyName, .native arraycopyName, .static arraycopyName, .initialized "java/lang/System"] ++ wsX30 ++ wsX00)
def wsX3_waits : List Cond := .code yX3_waits cX3_waits 3 (some .int) :: ([.fieldLink RX3 21 "ThriftLock" "queues" "[LThriftLock$Queue;", .fieldLink RX3 104 "ThriftLock$Queue" "size" "I", .methodLink RX3 101 yX3_isWay, .static yX3_isWay, .initialized RX3, .code yX3_isWay cX3_isWay 1 (some .boolean), .methodLink RX3 118 yX0_boatAt, .instanceMethod yX0_boatAt, .selects RX0 yX0_boatAt yX0_boatAt, .initialized RX0, .code yX0_boatAt cX0_boatAt 2 (some .int), .fieldLink RX0 15 "ThriftLock$Queue" "size" "I", .fieldLink RX0 9 "ThriftLock$Queue" "boats" "[I"] ++ wsX30 ++ wsX00)
def wsX3_rule : List Cond := .code yX3_rule cX3_rule 3 (some .int) :: ([.fieldLink RX3 121 "ThriftLock" "ruleNow" "I"] ++ wsX30)
def wsX3_wayAtChamber : List Cond := .code yX3_wayAtChamber cX3_wayAtChamber 1 (some .int) :: ([.fieldLink RX3 10 "ThriftLock" "water" "LThriftLock$Water;", .fieldLink RX3 37 "ThriftLock$Water" "inChamber" "I"] ++ wsX30 ++ wsX20)
def wsX3_wayServedNext : List Cond := .code yX3_wayServedNext cX3_wayServedNext 3 (some .int) :: ([.fieldLink RX3 21 "ThriftLock" "queues" "[LThriftLock$Queue;", .fieldLink RX3 121 "ThriftLock" "ruleNow" "I", .methodLink RX3 118 yX0_boatAt, .instanceMethod yX0_boatAt, .selects RX0 yX0_boatAt yX0_boatAt, .initialized RX0, .code yX0_boatAt cX0_boatAt 2 (some .int), .fieldLink RX0 15 "ThriftLock$Queue" "size" "I", .fieldLink RX0 9 "ThriftLock$Queue" "boats" "[I", .methodLink RX3 137 yX3_wayAtChamber, .instanceMethod yX3_wayAtChamber, .selects RX3 yX3_wayAtChamber yX3_wayAtChamber, .initialized RX3, .code yX3_wayAtChamber cX3_wayAtChamber 1 (some .int), .fieldLink RX3 10 "ThriftLock" "water" "LThriftLock$Water;", .fieldLink RX3 37 "ThriftLock$Water" "inChamber" "I"] ++ wsX30 ++ wsX00 ++ wsX20)
def wsX3_turnsToServe : List Cond := .code yX3_turnsToServe cX3_turnsToServe 2 (some .int) :: ([.methodLink RX3 137 yX3_wayAtChamber, .instanceMethod yX3_wayAtChamber, .selects RX3 yX3_wayAtChamber yX3_wayAtChamber, .initialized RX3, .code yX3_wayAtChamber cX3_wayAtChamber 1 (some .int), .fieldLink RX3 10 "ThriftLock" "water" "LThriftLock$Water;", .fieldLink RX3 37 "ThriftLock$Water" "inChamber" "I"] ++ wsX30 ++ wsX20)
def wsX3_enterTurn : List Cond := .code yX3_enterTurn cX3_enterTurn 5 none :: ([.fieldLink RX3 131 "ThriftLock" "turnsKept" "I", .fieldLink RX3 31 "ThriftLock" "rows" "[I", .fieldLink RX3 10 "ThriftLock" "water" "LThriftLock$Water;", .fieldLink RX3 41 "ThriftLock$Water" "fullAt" "I", .fieldLink RX3 140 "ThriftLock$Water" "outside" "I", .fieldLink RX3 161 "ThriftLock$Water" "leaked" "I", .fieldLink RX3 168 "ThriftLock$Water" "moved" "[I"] ++ wsX30 ++ wsX20)
def wsX3_makeTurnFor_r1 : List Cond := [Cond.fieldLink RX3 10 "ThriftLock" "water" "LThriftLock$Water;", Cond.fieldLink RX3 37 "ThriftLock$Water" "inChamber" "I", Cond.fieldLink RX3 143 "ThriftLock" "drawnEver" "I", Cond.fieldLink RX3 140 "ThriftLock$Water" "outside" "I", Cond.fieldLink RX3 146 "ThriftLock" "lostEver" "I", Cond.fieldLink RX3 149 "ThriftLock" "leakedEver" "I", Cond.fieldLink RX3 161 "ThriftLock$Water" "leaked" "I", Cond.fieldLink RX3 155 "ThriftLock" "turnsEver" "I", Cond.fieldLink RX3 131 "ThriftLock" "turnsKept" "I", Cond.methodLink RX3 158 yX2_makeTurn, Cond.instanceMethod yX2_makeTurn, Cond.selects RX2 yX2_makeTurn yX2_makeTurn, Cond.initialized RX2, Cond.code yX2_makeTurn cX2_makeTurn 5 none, Cond.fieldLink RX2 40 "ThriftLock$Water" "inChamber" "I", Cond.fieldLink RX2 37 "ThriftLock$Water" "moved" "[I", Cond.fieldLink RX2 62 "ThriftLock$Water" "outside" "I", Cond.fieldLink RX2 9 "ThriftLock$Water" "fullAt" "I", Cond.fieldLink RX2 34 "ThriftLock$Water" "steps" "[I", Cond.fieldLink RX2 31 "ThriftLock$Water" "held" "[I", Cond.methodLink RX2 65 yJ7_fill_53178, Cond.static yJ7_fill_53178, Cond.initialized RJ7, Cond.code yJ7_fill_53178 cJ7_fill_53178 4 none]
def wsX3_makeTurnFor_r2 : List Cond := [Cond.methodLink RX2 71 yX2_basinToGive, Cond.instanceMethod yX2_basinToGive, Cond.selects RX2 yX2_basinToGive yX2_basinToGive, Cond.code yX2_basinToGive cX2_basinToGive 6 (some .int), Cond.fieldLink RX2 43 "ThriftLock$Water" "basins" "I", Cond.methodLink RX2 80 yX2_isOut, Cond.instanceMethod yX2_isOut, Cond.selects RX2 yX2_isOut yX2_isOut, Cond.code yX2_isOut cX2_isOut 2 (some .boolean), Cond.fieldLink RX2 46 "ThriftLock$Water" "outBits" "I", Cond.methodLink RX2 84 yX2_levelHolding, Cond.instanceMethod yX2_levelHolding, Cond.selects RX2 yX2_levelHolding yX2_levelHolding, Cond.code yX2_levelHolding cX2_levelHolding 3 (some .int), Cond.fieldLink RX2 15 "ThriftLock$Water" "bottom" "[I", Cond.fieldLink RX2 25 "ThriftLock$Water" "rise" "[I", Cond.methodLink RX2 74 yX2_basinToTake, Cond.instanceMethod yX2_basinToTake, Cond.selects RX2 yX2_basinToTake yX2_basinToTake, Cond.code yX2_basinToTake cX2_basinToTake 6 (some .int), Cond.fieldLink RX2 19 "ThriftLock$Water" "room" "[I", Cond.methodLink RX2 77 yX2_loseByLeaks, Cond.instanceMethod yX2_loseByLeaks, Cond.selects RX2 yX2_loseByLeaks yX2_loseByLeaks]
def wsX3_makeTurnFor_r3 : List Cond := [Cond.code yX2_loseByLeaks cX2_loseByLeaks 3 none, Cond.fieldLink RX2 88 "ThriftLock$Water" "leaked" "I", Cond.fieldLink RX2 28 "ThriftLock$Water" "leaks" "[I", Cond.methodLink RX2 91 Lib.Math.min.name, Cond.static Lib.Math.min.name, Cond.initialized "java/lang/Math", Cond.code Lib.Math.min.name Lib.Math.min.code 2 (some .int), Cond.methodLink RX3 164 yX3_enterTurn, Cond.instanceMethod yX3_enterTurn, Cond.selects RX3 yX3_enterTurn yX3_enterTurn, Cond.initialized RX3, Cond.code yX3_enterTurn cX3_enterTurn 5 none, Cond.fieldLink RX3 31 "ThriftLock" "rows" "[I", Cond.fieldLink RX3 41 "ThriftLock$Water" "fullAt" "I", Cond.fieldLink RX3 168 "ThriftLock$Water" "moved" "[I"]
def wsX3_makeTurnFor : List Cond := .code yX3_makeTurnFor cX3_makeTurnFor 3 none :: ((wsX3_makeTurnFor_r1 ++ (wsX3_makeTurnFor_r2 ++ wsX3_makeTurnFor_r3)) ++ wsX30 ++ wsX20)
def wsX3_serve_r1 : List Cond := [Cond.fieldLink RX3 131 "ThriftLock" "turnsKept" "I", Cond.fieldLink RX3 21 "ThriftLock" "queues" "[LThriftLock$Queue;", Cond.methodLink RX3 124 yX3_wayServedNext, Cond.instanceMethod yX3_wayServedNext, Cond.selects RX3 yX3_wayServedNext yX3_wayServedNext, Cond.initialized RX3, Cond.code yX3_wayServedNext cX3_wayServedNext 3 (some .int), Cond.fieldLink RX3 121 "ThriftLock" "ruleNow" "I", Cond.methodLink RX3 118 yX0_boatAt, Cond.instanceMethod yX0_boatAt, Cond.selects RX0 yX0_boatAt yX0_boatAt, Cond.initialized RX0, Cond.code yX0_boatAt cX0_boatAt 2 (some .int), Cond.fieldLink RX0 15 "ThriftLock$Queue" "size" "I", Cond.fieldLink RX0 9 "ThriftLock$Queue" "boats" "[I", Cond.methodLink RX3 137 yX3_wayAtChamber, Cond.instanceMethod yX3_wayAtChamber, Cond.selects RX3 yX3_wayAtChamber yX3_wayAtChamber, Cond.code yX3_wayAtChamber cX3_wayAtChamber 1 (some .int), Cond.fieldLink RX3 10 "ThriftLock" "water" "LThriftLock$Water;", Cond.fieldLink RX3 37 "ThriftLock$Water" "inChamber" "I", Cond.methodLink RX3 128 yX3_turnsToServe, Cond.instanceMethod yX3_turnsToServe, Cond.selects RX3 yX3_turnsToServe yX3_turnsToServe]
def wsX3_serve_r2 : List Cond := [Cond.code yX3_turnsToServe cX3_turnsToServe 2 (some .int), Cond.methodLink RX3 134 yX3_makeTurnFor, Cond.instanceMethod yX3_makeTurnFor, Cond.selects RX3 yX3_makeTurnFor yX3_makeTurnFor, Cond.code yX3_makeTurnFor cX3_makeTurnFor 3 none, Cond.fieldLink RX3 143 "ThriftLock" "drawnEver" "I", Cond.fieldLink RX3 140 "ThriftLock$Water" "outside" "I", Cond.fieldLink RX3 146 "ThriftLock" "lostEver" "I", Cond.fieldLink RX3 149 "ThriftLock" "leakedEver" "I", Cond.fieldLink RX3 161 "ThriftLock$Water" "leaked" "I", Cond.fieldLink RX3 155 "ThriftLock" "turnsEver" "I", Cond.methodLink RX3 158 yX2_makeTurn, Cond.instanceMethod yX2_makeTurn, Cond.selects RX2 yX2_makeTurn yX2_makeTurn, Cond.initialized RX2, Cond.code yX2_makeTurn cX2_makeTurn 5 none, Cond.fieldLink RX2 40 "ThriftLock$Water" "inChamber" "I", Cond.fieldLink RX2 37 "ThriftLock$Water" "moved" "[I", Cond.fieldLink RX2 62 "ThriftLock$Water" "outside" "I", Cond.fieldLink RX2 9 "ThriftLock$Water" "fullAt" "I", Cond.fieldLink RX2 34 "ThriftLock$Water" "steps" "[I", Cond.fieldLink RX2 31 "ThriftLock$Water" "held" "[I", Cond.methodLink RX2 65 yJ7_fill_53178, Cond.static yJ7_fill_53178]
def wsX3_serve_r3 : List Cond := [Cond.initialized RJ7, Cond.code yJ7_fill_53178 cJ7_fill_53178 4 none, Cond.methodLink RX2 71 yX2_basinToGive, Cond.instanceMethod yX2_basinToGive, Cond.selects RX2 yX2_basinToGive yX2_basinToGive, Cond.code yX2_basinToGive cX2_basinToGive 6 (some .int), Cond.fieldLink RX2 43 "ThriftLock$Water" "basins" "I", Cond.methodLink RX2 80 yX2_isOut, Cond.instanceMethod yX2_isOut, Cond.selects RX2 yX2_isOut yX2_isOut, Cond.code yX2_isOut cX2_isOut 2 (some .boolean), Cond.fieldLink RX2 46 "ThriftLock$Water" "outBits" "I", Cond.methodLink RX2 84 yX2_levelHolding, Cond.instanceMethod yX2_levelHolding, Cond.selects RX2 yX2_levelHolding yX2_levelHolding, Cond.code yX2_levelHolding cX2_levelHolding 3 (some .int), Cond.fieldLink RX2 15 "ThriftLock$Water" "bottom" "[I", Cond.fieldLink RX2 25 "ThriftLock$Water" "rise" "[I", Cond.methodLink RX2 74 yX2_basinToTake, Cond.instanceMethod yX2_basinToTake, Cond.selects RX2 yX2_basinToTake yX2_basinToTake, Cond.code yX2_basinToTake cX2_basinToTake 6 (some .int), Cond.fieldLink RX2 19 "ThriftLock$Water" "room" "[I", Cond.methodLink RX2 77 yX2_loseByLeaks]
def wsX3_serve_r4 : List Cond := [Cond.instanceMethod yX2_loseByLeaks, Cond.selects RX2 yX2_loseByLeaks yX2_loseByLeaks, Cond.code yX2_loseByLeaks cX2_loseByLeaks 3 none, Cond.fieldLink RX2 88 "ThriftLock$Water" "leaked" "I", Cond.fieldLink RX2 28 "ThriftLock$Water" "leaks" "[I", Cond.methodLink RX2 91 Lib.Math.min.name, Cond.static Lib.Math.min.name, Cond.initialized "java/lang/Math", Cond.code Lib.Math.min.name Lib.Math.min.code 2 (some .int), Cond.methodLink RX3 164 yX3_enterTurn, Cond.instanceMethod yX3_enterTurn, Cond.selects RX3 yX3_enterTurn yX3_enterTurn, Cond.code yX3_enterTurn cX3_enterTurn 5 none, Cond.fieldLink RX3 31 "ThriftLock" "rows" "[I", Cond.fieldLink RX3 41 "ThriftLock$Water" "fullAt" "I", Cond.fieldLink RX3 168 "ThriftLock$Water" "moved" "[I", Cond.methodLink RX3 115 yX0_removeAt, Cond.instanceMethod yX0_removeAt, Cond.selects RX0 yX0_removeAt yX0_removeAt, Cond.code yX0_removeAt cX0_removeAt 2 none, Cond.methodLink RX0 19 arraycopyName, Cond.native arraycopyName, Cond.static arraycopyName, Cond.initialized "java/lang/System"]
def wsX3_serve : List Cond := .code yX3_serve cX3_serve 4 (some .int) :: ((wsX3_serve_r1 ++ (wsX3_serve_r2 ++ (wsX3_serve_r3 ++ wsX3_serve_r4))) ++ wsX30 ++ wsX00 ++ wsX20)
def wsX3_next : List Cond := .code yX3_next cX3_next 3 (some .int) :: ([.fieldLink RX3 21 "ThriftLock" "queues" "[LThriftLock$Queue;", .methodLink RX3 124 yX3_wayServedNext, .instanceMethod yX3_wayServedNext, .selects RX3 yX3_wayServedNext yX3_wayServedNext, .initialized RX3, .code yX3_wayServedNext cX3_wayServedNext 3 (some .int), .fieldLink RX3 121 "ThriftLock" "ruleNow" "I", .methodLink RX3 118 yX0_boatAt, .instanceMethod yX0_boatAt, .selects RX0 yX0_boatAt yX0_boatAt, .initialized RX0, .code yX0_boatAt cX0_boatAt 2 (some .int), .fieldLink RX0 15 "ThriftLock$Queue" "size" "I", .fieldLink RX0 9 "ThriftLock$Queue" "boats" "[I", .methodLink RX3 137 yX3_wayAtChamber, .instanceMethod yX3_wayAtChamber, .selects RX3 yX3_wayAtChamber yX3_wayAtChamber, .code yX3_wayAtChamber cX3_wayAtChamber 1 (some .int), .fieldLink RX3 10 "ThriftLock" "water" "LThriftLock$Water;", .fieldLink RX3 37 "ThriftLock$Water" "inChamber" "I", .methodLink RX3 128 yX3_turnsToServe, .instanceMethod yX3_turnsToServe, .selects RX3 yX3_turnsToServe yX3_turnsToServe, .code yX3_turnsToServe cX3_turnsToServe 2 (some .int)] ++ wsX30 ++ wsX00 ++ wsX20)
def wsX3_turn_r1 : List Cond := [Cond.fieldLink RX3 131 "ThriftLock" "turnsKept" "I", Cond.fieldLink RX3 10 "ThriftLock" "water" "LThriftLock$Water;", Cond.fieldLink RX3 140 "ThriftLock$Water" "outside" "I", Cond.methodLink RX3 134 yX3_makeTurnFor, Cond.instanceMethod yX3_makeTurnFor, Cond.selects RX3 yX3_makeTurnFor yX3_makeTurnFor, Cond.initialized RX3, Cond.code yX3_makeTurnFor cX3_makeTurnFor 3 none, Cond.fieldLink RX3 37 "ThriftLock$Water" "inChamber" "I", Cond.fieldLink RX3 143 "ThriftLock" "drawnEver" "I", Cond.fieldLink RX3 146 "ThriftLock" "lostEver" "I", Cond.fieldLink RX3 149 "ThriftLock" "leakedEver" "I", Cond.fieldLink RX3 161 "ThriftLock$Water" "leaked" "I", Cond.fieldLink RX3 155 "ThriftLock" "turnsEver" "I", Cond.methodLink RX3 158 yX2_makeTurn, Cond.instanceMethod yX2_makeTurn, Cond.selects RX2 yX2_makeTurn yX2_makeTurn, Cond.initialized RX2, Cond.code yX2_makeTurn cX2_makeTurn 5 none, Cond.fieldLink RX2 40 "ThriftLock$Water" "inChamber" "I", Cond.fieldLink RX2 37 "ThriftLock$Water" "moved" "[I", Cond.fieldLink RX2 62 "ThriftLock$Water" "outside" "I", Cond.fieldLink RX2 9 "ThriftLock$Water" "fullAt" "I", Cond.fieldLink RX2 34 "ThriftLock$Water" "steps" "[I"]
def wsX3_turn_r2 : List Cond := [Cond.fieldLink RX2 31 "ThriftLock$Water" "held" "[I", Cond.methodLink RX2 65 yJ7_fill_53178, Cond.static yJ7_fill_53178, Cond.initialized RJ7, Cond.code yJ7_fill_53178 cJ7_fill_53178 4 none, Cond.methodLink RX2 71 yX2_basinToGive, Cond.instanceMethod yX2_basinToGive, Cond.selects RX2 yX2_basinToGive yX2_basinToGive, Cond.code yX2_basinToGive cX2_basinToGive 6 (some .int), Cond.fieldLink RX2 43 "ThriftLock$Water" "basins" "I", Cond.methodLink RX2 80 yX2_isOut, Cond.instanceMethod yX2_isOut, Cond.selects RX2 yX2_isOut yX2_isOut, Cond.code yX2_isOut cX2_isOut 2 (some .boolean), Cond.fieldLink RX2 46 "ThriftLock$Water" "outBits" "I", Cond.methodLink RX2 84 yX2_levelHolding, Cond.instanceMethod yX2_levelHolding, Cond.selects RX2 yX2_levelHolding yX2_levelHolding, Cond.code yX2_levelHolding cX2_levelHolding 3 (some .int), Cond.fieldLink RX2 15 "ThriftLock$Water" "bottom" "[I", Cond.fieldLink RX2 25 "ThriftLock$Water" "rise" "[I", Cond.methodLink RX2 74 yX2_basinToTake, Cond.instanceMethod yX2_basinToTake, Cond.selects RX2 yX2_basinToTake yX2_basinToTake]
def wsX3_turn_r3 : List Cond := [Cond.code yX2_basinToTake cX2_basinToTake 6 (some .int), Cond.fieldLink RX2 19 "ThriftLock$Water" "room" "[I", Cond.methodLink RX2 77 yX2_loseByLeaks, Cond.instanceMethod yX2_loseByLeaks, Cond.selects RX2 yX2_loseByLeaks yX2_loseByLeaks, Cond.code yX2_loseByLeaks cX2_loseByLeaks 3 none, Cond.fieldLink RX2 88 "ThriftLock$Water" "leaked" "I", Cond.fieldLink RX2 28 "ThriftLock$Water" "leaks" "[I", Cond.methodLink RX2 91 Lib.Math.min.name, Cond.static Lib.Math.min.name, Cond.initialized "java/lang/Math", Cond.code Lib.Math.min.name Lib.Math.min.code 2 (some .int), Cond.methodLink RX3 164 yX3_enterTurn, Cond.instanceMethod yX3_enterTurn, Cond.selects RX3 yX3_enterTurn yX3_enterTurn, Cond.code yX3_enterTurn cX3_enterTurn 5 none, Cond.fieldLink RX3 31 "ThriftLock" "rows" "[I", Cond.fieldLink RX3 41 "ThriftLock$Water" "fullAt" "I", Cond.fieldLink RX3 168 "ThriftLock$Water" "moved" "[I"]
def wsX3_turn : List Cond := .code yX3_turn cX3_turn 1 (some .int) :: ((wsX3_turn_r1 ++ (wsX3_turn_r2 ++ wsX3_turn_r3)) ++ wsX30 ++ wsX20)
def wsX3_ledger : List Cond := .code yX3_ledger cX3_ledger 3 (some .int) :: ([.fieldLink RX3 131 "ThriftLock" "turnsKept" "I", .fieldLink RX3 31 "ThriftLock" "rows" "[I"] ++ wsX30)
def wsX3_wipe : List Cond := .code yX3_wipe cX3_wipe 2 (some .int) :: ([.fieldLink RX3 131 "ThriftLock" "turnsKept" "I"] ++ wsX30)
def wsX3_total : List Cond := .code yX3_total cX3_total 2 (some .int) :: ([.fieldLink RX3 143 "ThriftLock" "drawnEver" "I", .fieldLink RX3 146 "ThriftLock" "lostEver" "I", .fieldLink RX3 149 "ThriftLock" "leakedEver" "I", .fieldLink RX3 10 "ThriftLock" "water" "LThriftLock$Water;", .fieldLink RX3 155 "ThriftLock" "turnsEver" "I", .methodLink RX3 152 yX2_heldInAll, .instanceMethod yX2_heldInAll, .selects RX2 yX2_heldInAll yX2_heldInAll, .initialized RX2, .code yX2_heldInAll cX2_heldInAll 3 (some .int), .fieldLink RX2 43 "ThriftLock$Water" "basins" "I", .fieldLink RX2 31 "ThriftLock$Water" "held" "[I"] ++ wsX30 ++ wsX20)
def wsX3_tryTurn_r1 : List Cond := [Cond.fieldLink RX3 16 "ThriftLock" "trial" "LThriftLock$Water;", Cond.fieldLink RX3 10 "ThriftLock" "water" "LThriftLock$Water;", Cond.methodLink RX3 177 yX2_becomeLike, Cond.instanceMethod yX2_becomeLike, Cond.selects RX2 yX2_becomeLike yX2_becomeLike, Cond.initialized RX2, Cond.code yX2_becomeLike cX2_becomeLike 2 none, Cond.fieldLink RX2 9 "ThriftLock$Water" "fullAt" "I", Cond.fieldLink RX2 40 "ThriftLock$Water" "inChamber" "I", Cond.fieldLink RX2 43 "ThriftLock$Water" "basins" "I", Cond.fieldLink RX2 46 "ThriftLock$Water" "outBits" "I", Cond.fieldLink RX2 15 "ThriftLock$Water" "bottom" "[I", Cond.methodLink RX2 49 arraycopyName, Cond.native arraycopyName, Cond.static arraycopyName, Cond.initialized "java/lang/System", Cond.fieldLink RX2 19 "ThriftLock$Water" "room" "[I", Cond.fieldLink RX2 22 "ThriftLock$Water" "wide" "[I", Cond.fieldLink RX2 25 "ThriftLock$Water" "rise" "[I", Cond.fieldLink RX2 28 "ThriftLock$Water" "leaks" "[I", Cond.fieldLink RX2 31 "ThriftLock$Water" "held" "[I", Cond.methodLink RX3 158 yX2_makeTurn, Cond.instanceMethod yX2_makeTurn, Cond.selects RX2 yX2_makeTurn yX2_makeTurn]
def wsX3_tryTurn_r2 : List Cond := [Cond.code yX2_makeTurn cX2_makeTurn 5 none, Cond.fieldLink RX2 37 "ThriftLock$Water" "moved" "[I", Cond.fieldLink RX2 62 "ThriftLock$Water" "outside" "I", Cond.fieldLink RX2 34 "ThriftLock$Water" "steps" "[I", Cond.methodLink RX2 65 yJ7_fill_53178, Cond.static yJ7_fill_53178, Cond.initialized RJ7, Cond.code yJ7_fill_53178 cJ7_fill_53178 4 none, Cond.methodLink RX2 71 yX2_basinToGive, Cond.instanceMethod yX2_basinToGive, Cond.selects RX2 yX2_basinToGive yX2_basinToGive, Cond.code yX2_basinToGive cX2_basinToGive 6 (some .int), Cond.methodLink RX2 80 yX2_isOut, Cond.instanceMethod yX2_isOut, Cond.selects RX2 yX2_isOut yX2_isOut, Cond.code yX2_isOut cX2_isOut 2 (some .boolean), Cond.methodLink RX2 84 yX2_levelHolding, Cond.instanceMethod yX2_levelHolding, Cond.selects RX2 yX2_levelHolding yX2_levelHolding, Cond.code yX2_levelHolding cX2_levelHolding 3 (some .int), Cond.methodLink RX2 74 yX2_basinToTake, Cond.instanceMethod yX2_basinToTake, Cond.selects RX2 yX2_basinToTake yX2_basinToTake, Cond.code yX2_basinToTake cX2_basinToTake 6 (some .int)]
def wsX3_tryTurn_r3 : List Cond := [Cond.methodLink RX2 77 yX2_loseByLeaks, Cond.instanceMethod yX2_loseByLeaks, Cond.selects RX2 yX2_loseByLeaks yX2_loseByLeaks, Cond.code yX2_loseByLeaks cX2_loseByLeaks 3 none, Cond.fieldLink RX2 88 "ThriftLock$Water" "leaked" "I", Cond.methodLink RX2 91 Lib.Math.min.name, Cond.static Lib.Math.min.name, Cond.initialized "java/lang/Math", Cond.code Lib.Math.min.name Lib.Math.min.code 2 (some .int)]
def wsX3_tryTurn : List Cond := .code yX3_tryTurn cX3_tryTurn 1 none :: ((wsX3_tryTurn_r1 ++ (wsX3_tryTurn_r2 ++ wsX3_tryTurn_r3)) ++ wsX30 ++ wsX20)
def wsX3_step_r1 : List Cond := [Cond.fieldLink RX3 10 "ThriftLock" "water" "LThriftLock$Water;", Cond.fieldLink RX3 41 "ThriftLock$Water" "fullAt" "I", Cond.fieldLink RX3 16 "ThriftLock" "trial" "LThriftLock$Water;", Cond.fieldLink RX3 174 "ThriftLock$Water" "steps" "[I", Cond.methodLink RX3 171 yX3_tryTurn, Cond.instanceMethod yX3_tryTurn, Cond.selects RX3 yX3_tryTurn yX3_tryTurn, Cond.initialized RX3, Cond.code yX3_tryTurn cX3_tryTurn 1 none, Cond.methodLink RX3 177 yX2_becomeLike, Cond.instanceMethod yX2_becomeLike, Cond.selects RX2 yX2_becomeLike yX2_becomeLike, Cond.initialized RX2, Cond.code yX2_becomeLike cX2_becomeLike 2 none, Cond.fieldLink RX2 9 "ThriftLock$Water" "fullAt" "I", Cond.fieldLink RX2 40 "ThriftLock$Water" "inChamber" "I", Cond.fieldLink RX2 43 "ThriftLock$Water" "basins" "I", Cond.fieldLink RX2 46 "ThriftLock$Water" "outBits" "I", Cond.fieldLink RX2 15 "ThriftLock$Water" "bottom" "[I", Cond.methodLink RX2 49 arraycopyName, Cond.native arraycopyName, Cond.static arraycopyName, Cond.initialized "java/lang/System", Cond.fieldLink RX2 19 "ThriftLock$Water" "room" "[I"]
def wsX3_step_r2 : List Cond := [Cond.fieldLink RX2 22 "ThriftLock$Water" "wide" "[I", Cond.fieldLink RX2 25 "ThriftLock$Water" "rise" "[I", Cond.fieldLink RX2 28 "ThriftLock$Water" "leaks" "[I", Cond.fieldLink RX2 31 "ThriftLock$Water" "held" "[I", Cond.methodLink RX3 158 yX2_makeTurn, Cond.instanceMethod yX2_makeTurn, Cond.selects RX2 yX2_makeTurn yX2_makeTurn, Cond.code yX2_makeTurn cX2_makeTurn 5 none, Cond.fieldLink RX2 37 "ThriftLock$Water" "moved" "[I", Cond.fieldLink RX2 62 "ThriftLock$Water" "outside" "I", Cond.fieldLink RX2 34 "ThriftLock$Water" "steps" "[I", Cond.methodLink RX2 65 yJ7_fill_53178, Cond.static yJ7_fill_53178, Cond.initialized RJ7, Cond.code yJ7_fill_53178 cJ7_fill_53178 4 none, Cond.methodLink RX2 71 yX2_basinToGive, Cond.instanceMethod yX2_basinToGive, Cond.selects RX2 yX2_basinToGive yX2_basinToGive, Cond.code yX2_basinToGive cX2_basinToGive 6 (some .int), Cond.methodLink RX2 80 yX2_isOut, Cond.instanceMethod yX2_isOut, Cond.selects RX2 yX2_isOut yX2_isOut, Cond.code yX2_isOut cX2_isOut 2 (some .boolean), Cond.methodLink RX2 84 yX2_levelHolding]
def wsX3_step_r3 : List Cond := [Cond.instanceMethod yX2_levelHolding, Cond.selects RX2 yX2_levelHolding yX2_levelHolding, Cond.code yX2_levelHolding cX2_levelHolding 3 (some .int), Cond.methodLink RX2 74 yX2_basinToTake, Cond.instanceMethod yX2_basinToTake, Cond.selects RX2 yX2_basinToTake yX2_basinToTake, Cond.code yX2_basinToTake cX2_basinToTake 6 (some .int), Cond.methodLink RX2 77 yX2_loseByLeaks, Cond.instanceMethod yX2_loseByLeaks, Cond.selects RX2 yX2_loseByLeaks yX2_loseByLeaks, Cond.code yX2_loseByLeaks cX2_loseByLeaks 3 none, Cond.fieldLink RX2 88 "ThriftLock$Water" "leaked" "I", Cond.methodLink RX2 91 Lib.Math.min.name, Cond.static Lib.Math.min.name, Cond.initialized "java/lang/Math", Cond.code Lib.Math.min.name Lib.Math.min.code 2 (some .int)]
def wsX3_step : List Cond := .code yX3_step cX3_step 2 (some .int) :: ((wsX3_step_r1 ++ (wsX3_step_r2 ++ wsX3_step_r3)) ++ wsX30 ++ wsX20)
def wsX3_ahead_r1 : List Cond := [Cond.fieldLink RX3 16 "ThriftLock" "trial" "LThriftLock$Water;", Cond.fieldLink RX3 10 "ThriftLock" "water" "LThriftLock$Water;", Cond.constant RX3 181 (1000000), Cond.methodLink RX3 177 yX2_becomeLike, Cond.instanceMethod yX2_becomeLike, Cond.selects RX2 yX2_becomeLike yX2_becomeLike, Cond.initialized RX2, Cond.code yX2_becomeLike cX2_becomeLike 2 none, Cond.fieldLink RX2 9 "ThriftLock$Water" "fullAt" "I", Cond.fieldLink RX2 40 "ThriftLock$Water" "inChamber" "I", Cond.fieldLink RX2 43 "ThriftLock$Water" "basins" "I", Cond.fieldLink RX2 46 "ThriftLock$Water" "outBits" "I", Cond.fieldLink RX2 15 "ThriftLock$Water" "bottom" "[I", Cond.methodLink RX2 49 arraycopyName, Cond.native arraycopyName, Cond.static arraycopyName, Cond.initialized "java/lang/System", Cond.fieldLink RX2 19 "ThriftLock$Water" "room" "[I", Cond.fieldLink RX2 22 "ThriftLock$Water" "wide" "[I", Cond.fieldLink RX2 25 "ThriftLock$Water" "rise" "[I", Cond.fieldLink RX2 28 "ThriftLock$Water" "leaks" "[I", Cond.fieldLink RX2 31 "ThriftLock$Water" "held" "[I", Cond.methodLink RX3 182 yX2_drawnBy, Cond.instanceMethod yX2_drawnBy]
def wsX3_ahead_r2 : List Cond := [Cond.selects RX2 yX2_drawnBy yX2_drawnBy, Cond.code yX2_drawnBy cX2_drawnBy 6 (some .int), Cond.fieldLink RX2 62 "ThriftLock$Water" "outside" "I", Cond.methodLink RX2 59 yX2_makeTurn, Cond.instanceMethod yX2_makeTurn, Cond.selects RX2 yX2_makeTurn yX2_makeTurn, Cond.code yX2_makeTurn cX2_makeTurn 5 none, Cond.fieldLink RX2 37 "ThriftLock$Water" "moved" "[I", Cond.fieldLink RX2 34 "ThriftLock$Water" "steps" "[I", Cond.methodLink RX2 65 yJ7_fill_53178, Cond.static yJ7_fill_53178, Cond.initialized RJ7, Cond.code yJ7_fill_53178 cJ7_fill_53178 4 none, Cond.methodLink RX2 71 yX2_basinToGive, Cond.instanceMethod yX2_basinToGive, Cond.selects RX2 yX2_basinToGive yX2_basinToGive, Cond.code yX2_basinToGive cX2_basinToGive 6 (some .int), Cond.methodLink RX2 80 yX2_isOut, Cond.instanceMethod yX2_isOut, Cond.selects RX2 yX2_isOut yX2_isOut, Cond.code yX2_isOut cX2_isOut 2 (some .boolean), Cond.methodLink RX2 84 yX2_levelHolding, Cond.instanceMethod yX2_levelHolding, Cond.selects RX2 yX2_levelHolding yX2_levelHolding]
def wsX3_ahead_r3 : List Cond := [Cond.code yX2_levelHolding cX2_levelHolding 3 (some .int), Cond.methodLink RX2 74 yX2_basinToTake, Cond.instanceMethod yX2_basinToTake, Cond.selects RX2 yX2_basinToTake yX2_basinToTake, Cond.code yX2_basinToTake cX2_basinToTake 6 (some .int), Cond.methodLink RX2 77 yX2_loseByLeaks, Cond.instanceMethod yX2_loseByLeaks, Cond.selects RX2 yX2_loseByLeaks yX2_loseByLeaks, Cond.code yX2_loseByLeaks cX2_loseByLeaks 3 none, Cond.fieldLink RX2 88 "ThriftLock$Water" "leaked" "I", Cond.methodLink RX2 91 Lib.Math.min.name, Cond.static Lib.Math.min.name, Cond.initialized "java/lang/Math", Cond.code Lib.Math.min.name Lib.Math.min.code 2 (some .int)]
def wsX3_ahead : List Cond := .code yX3_ahead cX3_ahead 2 (some .int) :: ((wsX3_ahead_r1 ++ (wsX3_ahead_r2 ++ wsX3_ahead_r3)) ++ wsX30 ++ wsX20)
def wsX3_choiceOf : List Cond := .code yX3_choiceOf cX3_choiceOf 2 (some .int) :: ([])
def wsX3_bestBottom_r1 : List Cond := [Cond.constant RX3 181 (1000000), Cond.fieldLink RX3 16 "ThriftLock" "trial" "LThriftLock$Water;", Cond.fieldLink RX3 10 "ThriftLock" "water" "LThriftLock$Water;", Cond.fieldLink RX3 85 "ThriftLock$Water" "bottom" "[I", Cond.methodLink RX3 177 yX2_becomeLike, Cond.instanceMethod yX2_becomeLike, Cond.selects RX2 yX2_becomeLike yX2_becomeLike, Cond.initialized RX2, Cond.code yX2_becomeLike cX2_becomeLike 2 none, Cond.fieldLink RX2 9 "ThriftLock$Water" "fullAt" "I", Cond.fieldLink RX2 40 "ThriftLock$Water" "inChamber" "I", Cond.fieldLink RX2 43 "ThriftLock$Water" "basins" "I", Cond.fieldLink RX2 46 "ThriftLock$Water" "outBits" "I", Cond.fieldLink RX2 15 "ThriftLock$Water" "bottom" "[I", Cond.methodLink RX2 49 arraycopyName, Cond.native arraycopyName, Cond.static arraycopyName, Cond.initialized "java/lang/System", Cond.fieldLink RX2 19 "ThriftLock$Water" "room" "[I", Cond.fieldLink RX2 22 "ThriftLock$Water" "wide" "[I", Cond.fieldLink RX2 25 "ThriftLock$Water" "rise" "[I", Cond.fieldLink RX2 28 "ThriftLock$Water" "leaks" "[I", Cond.fieldLink RX2 31 "ThriftLock$Water" "held" "[I", Cond.methodLink RX3 182 yX2_drawnBy]
def wsX3_bestBottom_r2 : List Cond := [Cond.instanceMethod yX2_drawnBy, Cond.selects RX2 yX2_drawnBy yX2_drawnBy, Cond.code yX2_drawnBy cX2_drawnBy 6 (some .int), Cond.fieldLink RX2 62 "ThriftLock$Water" "outside" "I", Cond.methodLink RX2 59 yX2_makeTurn, Cond.instanceMethod yX2_makeTurn, Cond.selects RX2 yX2_makeTurn yX2_makeTurn, Cond.code yX2_makeTurn cX2_makeTurn 5 none, Cond.fieldLink RX2 37 "ThriftLock$Water" "moved" "[I", Cond.fieldLink RX2 34 "ThriftLock$Water" "steps" "[I", Cond.methodLink RX2 65 yJ7_fill_53178, Cond.static yJ7_fill_53178, Cond.initialized RJ7, Cond.code yJ7_fill_53178 cJ7_fill_53178 4 none, Cond.methodLink RX2 71 yX2_basinToGive, Cond.instanceMethod yX2_basinToGive, Cond.selects RX2 yX2_basinToGive yX2_basinToGive, Cond.code yX2_basinToGive cX2_basinToGive 6 (some .int), Cond.methodLink RX2 80 yX2_isOut, Cond.instanceMethod yX2_isOut, Cond.selects RX2 yX2_isOut yX2_isOut, Cond.code yX2_isOut cX2_isOut 2 (some .boolean), Cond.methodLink RX2 84 yX2_levelHolding, Cond.instanceMethod yX2_levelHolding]
def wsX3_bestBottom_r3 : List Cond := [Cond.selects RX2 yX2_levelHolding yX2_levelHolding, Cond.code yX2_levelHolding cX2_levelHolding 3 (some .int), Cond.methodLink RX2 74 yX2_basinToTake, Cond.instanceMethod yX2_basinToTake, Cond.selects RX2 yX2_basinToTake yX2_basinToTake, Cond.code yX2_basinToTake cX2_basinToTake 6 (some .int), Cond.methodLink RX2 77 yX2_loseByLeaks, Cond.instanceMethod yX2_loseByLeaks, Cond.selects RX2 yX2_loseByLeaks yX2_loseByLeaks, Cond.code yX2_loseByLeaks cX2_loseByLeaks 3 none, Cond.fieldLink RX2 88 "ThriftLock$Water" "leaked" "I", Cond.methodLink RX2 91 Lib.Math.min.name, Cond.static Lib.Math.min.name, Cond.initialized "java/lang/Math", Cond.code Lib.Math.min.name Lib.Math.min.code 2 (some .int), Cond.methodLink RX3 194 yX3_choiceOf, Cond.static yX3_choiceOf, Cond.initialized RX3, Cond.code yX3_choiceOf cX3_choiceOf 2 (some .int)]
def wsX3_bestBottom : List Cond := .code yX3_bestBottom cX3_bestBottom 6 (some .int) :: ((wsX3_bestBottom_r1 ++ (wsX3_bestBottom_r2 ++ wsX3_bestBottom_r3)) ++ wsX30 ++ wsX20)
def wsX3_partOfChoice : List Cond := .code yX3_partOfChoice cX3_partOfChoice 2 (some .int) :: ([])
def wsX3_better_r1 : List Cond := [Cond.methodLink RX3 61 yX3_isBasin, Cond.instanceMethod yX3_isBasin, Cond.selects RX3 yX3_isBasin yX3_isBasin, Cond.initialized RX3, Cond.code yX3_isBasin cX3_isBasin 2 (some .boolean), Cond.fieldLink RX3 10 "ThriftLock" "water" "LThriftLock$Water;", Cond.fieldLink RX3 48 "ThriftLock$Water" "basins" "I", Cond.methodLink RX3 185 yX3_bestBottom, Cond.instanceMethod yX3_bestBottom, Cond.selects RX3 yX3_bestBottom yX3_bestBottom, Cond.code yX3_bestBottom cX3_bestBottom 6 (some .int), Cond.constant RX3 181 (1000000), Cond.fieldLink RX3 16 "ThriftLock" "trial" "LThriftLock$Water;", Cond.fieldLink RX3 85 "ThriftLock$Water" "bottom" "[I", Cond.methodLink RX3 177 yX2_becomeLike, Cond.instanceMethod yX2_becomeLike, Cond.selects RX2 yX2_becomeLike yX2_becomeLike, Cond.initialized RX2, Cond.code yX2_becomeLike cX2_becomeLike 2 none, Cond.fieldLink RX2 9 "ThriftLock$Water" "fullAt" "I", Cond.fieldLink RX2 40 "ThriftLock$Water" "inChamber" "I", Cond.fieldLink RX2 43 "ThriftLock$Water" "basins" "I", Cond.fieldLink RX2 46 "ThriftLock$Water" "outBits" "I", Cond.fieldLink RX2 15 "ThriftLock$Water" "bottom" "[I"]
def wsX3_better_r2 : List Cond := [Cond.methodLink RX2 49 arraycopyName, Cond.native arraycopyName, Cond.static arraycopyName, Cond.initialized "java/lang/System", Cond.fieldLink RX2 19 "ThriftLock$Water" "room" "[I", Cond.fieldLink RX2 22 "ThriftLock$Water" "wide" "[I", Cond.fieldLink RX2 25 "ThriftLock$Water" "rise" "[I", Cond.fieldLink RX2 28 "ThriftLock$Water" "leaks" "[I", Cond.fieldLink RX2 31 "ThriftLock$Water" "held" "[I", Cond.methodLink RX3 182 yX2_drawnBy, Cond.instanceMethod yX2_drawnBy, Cond.selects RX2 yX2_drawnBy yX2_drawnBy, Cond.code yX2_drawnBy cX2_drawnBy 6 (some .int), Cond.fieldLink RX2 62 "ThriftLock$Water" "outside" "I", Cond.methodLink RX2 59 yX2_makeTurn, Cond.instanceMethod yX2_makeTurn, Cond.selects RX2 yX2_makeTurn yX2_makeTurn, Cond.code yX2_makeTurn cX2_makeTurn 5 none, Cond.fieldLink RX2 37 "ThriftLock$Water" "moved" "[I", Cond.fieldLink RX2 34 "ThriftLock$Water" "steps" "[I", Cond.methodLink RX2 65 yJ7_fill_53178, Cond.static yJ7_fill_53178, Cond.initialized RJ7, Cond.code yJ7_fill_53178 cJ7_fill_53178 4 none]
def wsX3_better_r3 : List Cond := [Cond.methodLink RX2 71 yX2_basinToGive, Cond.instanceMethod yX2_basinToGive, Cond.selects RX2 yX2_basinToGive yX2_basinToGive, Cond.code yX2_basinToGive cX2_basinToGive 6 (some .int), Cond.methodLink RX2 80 yX2_isOut, Cond.instanceMethod yX2_isOut, Cond.selects RX2 yX2_isOut yX2_isOut, Cond.code yX2_isOut cX2_isOut 2 (some .boolean), Cond.methodLink RX2 84 yX2_levelHolding, Cond.instanceMethod yX2_levelHolding, Cond.selects RX2 yX2_levelHolding yX2_levelHolding, Cond.code yX2_levelHolding cX2_levelHolding 3 (some .int), Cond.methodLink RX2 74 yX2_basinToTake, Cond.instanceMethod yX2_basinToTake, Cond.selects RX2 yX2_basinToTake yX2_basinToTake, Cond.code yX2_basinToTake cX2_basinToTake 6 (some .int), Cond.methodLink RX2 77 yX2_loseByLeaks, Cond.instanceMethod yX2_loseByLeaks, Cond.selects RX2 yX2_loseByLeaks yX2_loseByLeaks, Cond.code yX2_loseByLeaks cX2_loseByLeaks 3 none, Cond.fieldLink RX2 88 "ThriftLock$Water" "leaked" "I", Cond.methodLink RX2 91 Lib.Math.min.name, Cond.static Lib.Math.min.name, Cond.initialized "java/lang/Math"]
def wsX3_better_r4 : List Cond := [Cond.code Lib.Math.min.name Lib.Math.min.code 2 (some .int), Cond.methodLink RX3 194 yX3_choiceOf, Cond.static yX3_choiceOf, Cond.code yX3_choiceOf cX3_choiceOf 2 (some .int), Cond.methodLink RX3 188 yX3_partOfChoice, Cond.static yX3_partOfChoice, Cond.code yX3_partOfChoice cX3_partOfChoice 2 (some .int)]
def wsX3_better : List Cond := .code yX3_better cX3_better 3 (some .int) :: ((wsX3_better_r1 ++ (wsX3_better_r2 ++ (wsX3_better_r3 ++ wsX3_better_r4))) ++ wsX30 ++ wsX20)
def wsX3_leastNeeded_r1 : List Cond := [Cond.constant RX3 181 (1000000), Cond.fieldLink RX3 10 "ThriftLock" "water" "LThriftLock$Water;", Cond.fieldLink RX3 48 "ThriftLock$Water" "basins" "I", Cond.fieldLink RX3 16 "ThriftLock" "trial" "LThriftLock$Water;", Cond.fieldLink RX3 58 "ThriftLock$Water" "outBits" "I", Cond.methodLink RX3 98 yX2_isOut, Cond.instanceMethod yX2_isOut, Cond.selects RX2 yX2_isOut yX2_isOut, Cond.initialized RX2, Cond.code yX2_isOut cX2_isOut 2 (some .boolean), Cond.fieldLink RX2 46 "ThriftLock$Water" "outBits" "I", Cond.methodLink RX3 177 yX2_becomeLike, Cond.instanceMethod yX2_becomeLike, Cond.selects RX2 yX2_becomeLike yX2_becomeLike, Cond.code yX2_becomeLike cX2_becomeLike 2 none, Cond.fieldLink RX2 9 "ThriftLock$Water" "fullAt" "I", Cond.fieldLink RX2 40 "ThriftLock$Water" "inChamber" "I", Cond.fieldLink RX2 43 "ThriftLock$Water" "basins" "I", Cond.fieldLink RX2 15 "ThriftLock$Water" "bottom" "[I", Cond.methodLink RX2 49 arraycopyName, Cond.native arraycopyName, Cond.static arraycopyName, Cond.initialized "java/lang/System", Cond.fieldLink RX2 19 "ThriftLock$Water" "room" "[I"]
def wsX3_leastNeeded_r2 : List Cond := [Cond.fieldLink RX2 22 "ThriftLock$Water" "wide" "[I", Cond.fieldLink RX2 25 "ThriftLock$Water" "rise" "[I", Cond.fieldLink RX2 28 "ThriftLock$Water" "leaks" "[I", Cond.fieldLink RX2 31 "ThriftLock$Water" "held" "[I", Cond.methodLink RX3 182 yX2_drawnBy, Cond.instanceMethod yX2_drawnBy, Cond.selects RX2 yX2_drawnBy yX2_drawnBy, Cond.code yX2_drawnBy cX2_drawnBy 6 (some .int), Cond.fieldLink RX2 62 "ThriftLock$Water" "outside" "I", Cond.methodLink RX2 59 yX2_makeTurn, Cond.instanceMethod yX2_makeTurn, Cond.selects RX2 yX2_makeTurn yX2_makeTurn, Cond.code yX2_makeTurn cX2_makeTurn 5 none, Cond.fieldLink RX2 37 "ThriftLock$Water" "moved" "[I", Cond.fieldLink RX2 34 "ThriftLock$Water" "steps" "[I", Cond.methodLink RX2 65 yJ7_fill_53178, Cond.static yJ7_fill_53178, Cond.initialized RJ7, Cond.code yJ7_fill_53178 cJ7_fill_53178 4 none, Cond.methodLink RX2 71 yX2_basinToGive, Cond.instanceMethod yX2_basinToGive, Cond.selects RX2 yX2_basinToGive yX2_basinToGive, Cond.code yX2_basinToGive cX2_basinToGive 6 (some .int), Cond.methodLink RX2 80 yX2_isOut]
def wsX3_leastNeeded_r3 : List Cond := [Cond.methodLink RX2 84 yX2_levelHolding, Cond.instanceMethod yX2_levelHolding, Cond.selects RX2 yX2_levelHolding yX2_levelHolding, Cond.code yX2_levelHolding cX2_levelHolding 3 (some .int), Cond.methodLink RX2 74 yX2_basinToTake, Cond.instanceMethod yX2_basinToTake, Cond.selects RX2 yX2_basinToTake yX2_basinToTake, Cond.code yX2_basinToTake cX2_basinToTake 6 (some .int), Cond.methodLink RX2 77 yX2_loseByLeaks, Cond.instanceMethod yX2_loseByLeaks, Cond.selects RX2 yX2_loseByLeaks yX2_loseByLeaks, Cond.code yX2_loseByLeaks cX2_loseByLeaks 3 none, Cond.fieldLink RX2 88 "ThriftLock$Water" "leaked" "I", Cond.methodLink RX2 91 Lib.Math.min.name, Cond.static Lib.Math.min.name, Cond.initialized "java/lang/Math", Cond.code Lib.Math.min.name Lib.Math.min.code 2 (some .int), Cond.methodLink RX3 194 yX3_choiceOf, Cond.static yX3_choiceOf, Cond.initialized RX3, Cond.code yX3_choiceOf cX3_choiceOf 2 (some .int)]
def wsX3_leastNeeded : List Cond := .code yX3_leastNeeded cX3_leastNeeded 5 (some .int) :: ((wsX3_leastNeeded_r1 ++ (wsX3_leastNeeded_r2 ++ wsX3_leastNeeded_r3)) ++ wsX30 ++ wsX20)
def wsX3_needless_r1 : List Cond := [Cond.methodLink RX3 191 yX3_leastNeeded, Cond.instanceMethod yX3_leastNeeded, Cond.selects RX3 yX3_leastNeeded yX3_leastNeeded, Cond.initialized RX3, Cond.code yX3_leastNeeded cX3_leastNeeded 5 (some .int), Cond.constant RX3 181 (1000000), Cond.fieldLink RX3 10 "ThriftLock" "water" "LThriftLock$Water;", Cond.fieldLink RX3 48 "ThriftLock$Water" "basins" "I", Cond.fieldLink RX3 16 "ThriftLock" "trial" "LThriftLock$Water;", Cond.fieldLink RX3 58 "ThriftLock$Water" "outBits" "I", Cond.methodLink RX3 98 yX2_isOut, Cond.instanceMethod yX2_isOut, Cond.selects RX2 yX2_isOut yX2_isOut, Cond.initialized RX2, Cond.code yX2_isOut cX2_isOut 2 (some .boolean), Cond.fieldLink RX2 46 "ThriftLock$Water" "outBits" "I", Cond.methodLink RX3 177 yX2_becomeLike, Cond.instanceMethod yX2_becomeLike, Cond.selects RX2 yX2_becomeLike yX2_becomeLike, Cond.code yX2_becomeLike cX2_becomeLike 2 none, Cond.fieldLink RX2 9 "ThriftLock$Water" "fullAt" "I", Cond.fieldLink RX2 40 "ThriftLock$Water" "inChamber" "I", Cond.fieldLink RX2 43 "ThriftLock$Water" "basins" "I", Cond.fieldLink RX2 15 "ThriftLock$Water" "bottom" "[I"]
def wsX3_needless_r2 : List Cond := [Cond.methodLink RX2 49 arraycopyName, Cond.native arraycopyName, Cond.static arraycopyName, Cond.initialized "java/lang/System", Cond.fieldLink RX2 19 "ThriftLock$Water" "room" "[I", Cond.fieldLink RX2 22 "ThriftLock$Water" "wide" "[I", Cond.fieldLink RX2 25 "ThriftLock$Water" "rise" "[I", Cond.fieldLink RX2 28 "ThriftLock$Water" "leaks" "[I", Cond.fieldLink RX2 31 "ThriftLock$Water" "held" "[I", Cond.methodLink RX3 182 yX2_drawnBy, Cond.instanceMethod yX2_drawnBy, Cond.selects RX2 yX2_drawnBy yX2_drawnBy, Cond.code yX2_drawnBy cX2_drawnBy 6 (some .int), Cond.fieldLink RX2 62 "ThriftLock$Water" "outside" "I", Cond.methodLink RX2 59 yX2_makeTurn, Cond.instanceMethod yX2_makeTurn, Cond.selects RX2 yX2_makeTurn yX2_makeTurn, Cond.code yX2_makeTurn cX2_makeTurn 5 none, Cond.fieldLink RX2 37 "ThriftLock$Water" "moved" "[I", Cond.fieldLink RX2 34 "ThriftLock$Water" "steps" "[I", Cond.methodLink RX2 65 yJ7_fill_53178, Cond.static yJ7_fill_53178, Cond.initialized RJ7, Cond.code yJ7_fill_53178 cJ7_fill_53178 4 none]
def wsX3_needless_r3 : List Cond := [Cond.methodLink RX2 71 yX2_basinToGive, Cond.instanceMethod yX2_basinToGive, Cond.selects RX2 yX2_basinToGive yX2_basinToGive, Cond.code yX2_basinToGive cX2_basinToGive 6 (some .int), Cond.methodLink RX2 80 yX2_isOut, Cond.methodLink RX2 84 yX2_levelHolding, Cond.instanceMethod yX2_levelHolding, Cond.selects RX2 yX2_levelHolding yX2_levelHolding, Cond.code yX2_levelHolding cX2_levelHolding 3 (some .int), Cond.methodLink RX2 74 yX2_basinToTake, Cond.instanceMethod yX2_basinToTake, Cond.selects RX2 yX2_basinToTake yX2_basinToTake, Cond.code yX2_basinToTake cX2_basinToTake 6 (some .int), Cond.methodLink RX2 77 yX2_loseByLeaks, Cond.instanceMethod yX2_loseByLeaks, Cond.selects RX2 yX2_loseByLeaks yX2_loseByLeaks, Cond.code yX2_loseByLeaks cX2_loseByLeaks 3 none, Cond.fieldLink RX2 88 "ThriftLock$Water" "leaked" "I", Cond.methodLink RX2 91 Lib.Math.min.name, Cond.static Lib.Math.min.name, Cond.initialized "java/lang/Math", Cond.code Lib.Math.min.name Lib.Math.min.code 2 (some .int), Cond.methodLink RX3 194 yX3_choiceOf, Cond.static yX3_choiceOf]
def wsX3_needless_r4 : List Cond := [Cond.code yX3_choiceOf cX3_choiceOf 2 (some .int), Cond.methodLink RX3 188 yX3_partOfChoice, Cond.static yX3_partOfChoice, Cond.code yX3_partOfChoice cX3_partOfChoice 2 (some .int)]
def wsX3_needless : List Cond := .code yX3_needless cX3_needless 2 (some .int) :: ((wsX3_needless_r1 ++ (wsX3_needless_r2 ++ (wsX3_needless_r3 ++ wsX3_needless_r4))) ++ wsX30 ++ wsX20)
def wsX3_isForm : List Cond := .code yX3_isForm cX3_isForm 1 (some .boolean) :: ([])
def wsX3_sheet_r1 : List Cond := [Cond.fieldLink RX3 27 "ThriftLock" "sheets" "[LThriftLock$Sheet;", Cond.methodLink RX3 68 yX3_isSheet, Cond.static yX3_isSheet, Cond.initialized RX3, Cond.code yX3_isSheet cX3_isSheet 1 (some .boolean), Cond.methodLink RX3 197 yX3_isForm, Cond.static yX3_isForm, Cond.code yX3_isForm cX3_isForm 1 (some .boolean), Cond.methodLink RX3 75 yX3_found, Cond.instanceMethod yX3_found, Cond.selects RX3 yX3_found yX3_found, Cond.code yX3_found cX3_found 2 (some .int), Cond.fieldLink RX3 229 "ThriftLock" "latestFinding" "I", Cond.methodLink RX3 200 yX1_renew, Cond.instanceMethod yX1_renew, Cond.selects RX1 yX1_renew yX1_renew, Cond.initialized RX1, Cond.code yX1_renew cX1_renew 3 none, Cond.fieldLink RX1 9 "ThriftLock$Sheet" "lost" "Z", Cond.fieldLink RX1 19 "ThriftLock$Sheet" "form" "I", Cond.fieldLink RX1 23 "ThriftLock$Sheet" "size" "I", Cond.fieldLink RX1 15 "ThriftLock$Sheet" "items" "[I", Cond.methodLink RX1 26 yJ7_fill_53178, Cond.static yJ7_fill_53178]
def wsX3_sheet_r2 : List Cond := [Cond.initialized RJ7, Cond.code yJ7_fill_53178 cJ7_fill_53178 4 none]
def wsX3_sheet : List Cond := .code yX3_sheet cX3_sheet 4 (some .int) :: ((wsX3_sheet_r1 ++ wsX3_sheet_r2) ++ wsX30 ++ wsX10)
def wsX3_lose : List Cond := .code yX3_lose cX3_lose 2 (some .int) :: ([.fieldLink RX3 27 "ThriftLock" "sheets" "[LThriftLock$Sheet;", .fieldLink RX3 71 "ThriftLock$Sheet" "lost" "Z", .fieldLink RX3 79 "ThriftLock$Sheet" "size" "I", .methodLink RX3 68 yX3_isSheet, .static yX3_isSheet, .initialized RX3, .code yX3_isSheet cX3_isSheet 1 (some .boolean), .methodLink RX3 75 yX3_found, .instanceMethod yX3_found, .selects RX3 yX3_found yX3_found, .code yX3_found cX3_found 2 (some .int), .fieldLink RX3 229 "ThriftLock" "latestFinding" "I"] ++ wsX30 ++ wsX10)
def wsX3_lay_r1 : List Cond := [Cond.fieldLink RX3 27 "ThriftLock" "sheets" "[LThriftLock$Sheet;", Cond.methodLink RX3 68 yX3_isSheet, Cond.static yX3_isSheet, Cond.initialized RX3, Cond.code yX3_isSheet cX3_isSheet 1 (some .boolean), Cond.methodLink RX3 197 yX3_isForm, Cond.static yX3_isForm, Cond.code yX3_isForm cX3_isForm 1 (some .boolean), Cond.methodLink RX3 204 yX1_faultAt, Cond.instanceMethod yX1_faultAt, Cond.selects RX1 yX1_faultAt yX1_faultAt, Cond.initialized RX1, Cond.code yX1_faultAt cX1_faultAt 3 (some .int), Cond.fieldLink RX1 9 "ThriftLock$Sheet" "lost" "Z", Cond.fieldLink RX1 19 "ThriftLock$Sheet" "form" "I", Cond.fieldLink RX1 23 "ThriftLock$Sheet" "size" "I", Cond.methodLink RX3 75 yX3_found, Cond.instanceMethod yX3_found, Cond.selects RX3 yX3_found yX3_found, Cond.code yX3_found cX3_found 2 (some .int), Cond.fieldLink RX3 229 "ThriftLock" "latestFinding" "I", Cond.methodLink RX3 207 yX1_put, Cond.instanceMethod yX1_put, Cond.selects RX1 yX1_put yX1_put]
def wsX3_lay_r2 : List Cond := [Cond.code yX1_put cX1_put 3 none, Cond.fieldLink RX1 15 "ThriftLock$Sheet" "items" "[I"]
def wsX3_lay : List Cond := .code yX3_lay cX3_lay 6 (some .int) :: ((wsX3_lay_r1 ++ wsX3_lay_r2) ++ wsX30 ++ wsX10)
def wsX3_get : List Cond := .code yX3_get cX3_get 5 (some .int) :: ([.constant RX3 210 (-2147483648), .fieldLink RX3 27 "ThriftLock" "sheets" "[LThriftLock$Sheet;", .fieldLink RX3 82 "ThriftLock$Sheet" "items" "[I", .methodLink RX3 68 yX3_isSheet, .static yX3_isSheet, .initialized RX3, .code yX3_isSheet cX3_isSheet 1 (some .boolean), .methodLink RX3 197 yX3_isForm, .static yX3_isForm, .code yX3_isForm cX3_isForm 1 (some .boolean), .methodLink RX3 204 yX1_faultAt, .instanceMethod yX1_faultAt, .selects RX1 yX1_faultAt yX1_faultAt, .initialized RX1, .code yX1_faultAt cX1_faultAt 3 (some .int), .fieldLink RX1 9 "ThriftLock$Sheet" "lost" "Z", .fieldLink RX1 19 "ThriftLock$Sheet" "form" "I", .fieldLink RX1 23 "ThriftLock$Sheet" "size" "I", .methodLink RX3 75 yX3_found, .instanceMethod yX3_found, .selects RX3 yX3_found yX3_found, .code yX3_found cX3_found 2 (some .int), .fieldLink RX3 229 "ThriftLock" "latestFinding" "I"] ++ wsX30 ++ wsX10)
def wsX3_copy : List Cond := .code yX3_copy cX3_copy 8 (some .int) :: ([.fieldLink RX3 27 "ThriftLock" "sheets" "[LThriftLock$Sheet;", .fieldLink RX3 71 "ThriftLock$Sheet" "lost" "Z", .fieldLink RX3 211 "ThriftLock$Sheet" "form" "I", .fieldLink RX3 82 "ThriftLock$Sheet" "items" "[I", .methodLink RX3 218 arraycopyName, .native arraycopyName, .static arraycopyName, .initialized "java/lang/System", .methodLink RX3 68 yX3_isSheet, .static yX3_isSheet, .initialized RX3, .code yX3_isSheet cX3_isSheet 1 (some .boolean), .methodLink RX3 75 yX3_found, .instanceMethod yX3_found, .selects RX3 yX3_found yX3_found, .code yX3_found cX3_found 2 (some .int), .fieldLink RX3 229 "ThriftLock" "latestFinding" "I", .methodLink RX3 214 yX1_hasSpan, .instanceMethod yX1_hasSpan, .selects RX1 yX1_hasSpan yX1_hasSpan, .initialized RX1, .code yX1_hasSpan cX1_hasSpan 3 (some .boolean), .fieldLink RX1 23 "ThriftLock$Sheet" "size" "I"] ++ wsX30 ++ wsX10)
def wsX3_write_r1 : List Cond := [Cond.fieldLink RX3 27 "ThriftLock" "sheets" "[LThriftLock$Sheet;", Cond.fieldLink RX3 71 "ThriftLock$Sheet" "lost" "Z", Cond.fieldLink RX3 79 "ThriftLock$Sheet" "size" "I", Cond.fieldLink RX3 10 "ThriftLock" "water" "LThriftLock$Water;", Cond.fieldLink RX3 41 "ThriftLock$Water" "fullAt" "I", Cond.methodLink RX3 224 Lib.Math.min.name, Cond.static Lib.Math.min.name, Cond.initialized "java/lang/Math", Cond.code Lib.Math.min.name Lib.Math.min.code 2 (some .int), Cond.fieldLink RX3 16 "ThriftLock" "trial" "LThriftLock$Water;", Cond.fieldLink RX3 174 "ThriftLock$Water" "steps" "[I", Cond.methodLink RX3 68 yX3_isSheet, Cond.static yX3_isSheet, Cond.initialized RX3, Cond.code yX3_isSheet cX3_isSheet 1 (some .boolean), Cond.methodLink RX3 75 yX3_found, Cond.instanceMethod yX3_found, Cond.selects RX3 yX3_found yX3_found, Cond.code yX3_found cX3_found 2 (some .int), Cond.fieldLink RX3 229 "ThriftLock" "latestFinding" "I", Cond.methodLink RX3 171 yX3_tryTurn, Cond.instanceMethod yX3_tryTurn, Cond.selects RX3 yX3_tryTurn yX3_tryTurn, Cond.code yX3_tryTurn cX3_tryTurn 1 none]
def wsX3_write_r2 : List Cond := [Cond.methodLink RX3 177 yX2_becomeLike, Cond.instanceMethod yX2_becomeLike, Cond.selects RX2 yX2_becomeLike yX2_becomeLike, Cond.initialized RX2, Cond.code yX2_becomeLike cX2_becomeLike 2 none, Cond.fieldLink RX2 9 "ThriftLock$Water" "fullAt" "I", Cond.fieldLink RX2 40 "ThriftLock$Water" "inChamber" "I", Cond.fieldLink RX2 43 "ThriftLock$Water" "basins" "I", Cond.fieldLink RX2 46 "ThriftLock$Water" "outBits" "I", Cond.fieldLink RX2 15 "ThriftLock$Water" "bottom" "[I", Cond.methodLink RX2 49 arraycopyName, Cond.native arraycopyName, Cond.static arraycopyName, Cond.initialized "java/lang/System", Cond.fieldLink RX2 19 "ThriftLock$Water" "room" "[I", Cond.fieldLink RX2 22 "ThriftLock$Water" "wide" "[I", Cond.fieldLink RX2 25 "ThriftLock$Water" "rise" "[I", Cond.fieldLink RX2 28 "ThriftLock$Water" "leaks" "[I", Cond.fieldLink RX2 31 "ThriftLock$Water" "held" "[I", Cond.methodLink RX3 158 yX2_makeTurn, Cond.instanceMethod yX2_makeTurn, Cond.selects RX2 yX2_makeTurn yX2_makeTurn, Cond.code yX2_makeTurn cX2_makeTurn 5 none, Cond.fieldLink RX2 37 "ThriftLock$Water" "moved" "[I"]
def wsX3_write_r3 : List Cond := [Cond.fieldLink RX2 62 "ThriftLock$Water" "outside" "I", Cond.fieldLink RX2 34 "ThriftLock$Water" "steps" "[I", Cond.methodLink RX2 65 yJ7_fill_53178, Cond.static yJ7_fill_53178, Cond.initialized RJ7, Cond.code yJ7_fill_53178 cJ7_fill_53178 4 none, Cond.methodLink RX2 71 yX2_basinToGive, Cond.instanceMethod yX2_basinToGive, Cond.selects RX2 yX2_basinToGive yX2_basinToGive, Cond.code yX2_basinToGive cX2_basinToGive 6 (some .int), Cond.methodLink RX2 80 yX2_isOut, Cond.instanceMethod yX2_isOut, Cond.selects RX2 yX2_isOut yX2_isOut, Cond.code yX2_isOut cX2_isOut 2 (some .boolean), Cond.methodLink RX2 84 yX2_levelHolding, Cond.instanceMethod yX2_levelHolding, Cond.selects RX2 yX2_levelHolding yX2_levelHolding, Cond.code yX2_levelHolding cX2_levelHolding 3 (some .int), Cond.methodLink RX2 74 yX2_basinToTake, Cond.instanceMethod yX2_basinToTake, Cond.selects RX2 yX2_basinToTake yX2_basinToTake, Cond.code yX2_basinToTake cX2_basinToTake 6 (some .int), Cond.methodLink RX2 77 yX2_loseByLeaks, Cond.instanceMethod yX2_loseByLeaks]
def wsX3_write_r4 : List Cond := [Cond.selects RX2 yX2_loseByLeaks yX2_loseByLeaks, Cond.code yX2_loseByLeaks cX2_loseByLeaks 3 none, Cond.fieldLink RX2 88 "ThriftLock$Water" "leaked" "I", Cond.methodLink RX2 91 Lib.Math.min.name, Cond.methodLink RX3 207 yX1_put, Cond.instanceMethod yX1_put, Cond.selects RX1 yX1_put yX1_put, Cond.initialized RX1, Cond.code yX1_put cX1_put 3 none, Cond.fieldLink RX1 19 "ThriftLock$Sheet" "form" "I", Cond.fieldLink RX1 15 "ThriftLock$Sheet" "items" "[I"]
def wsX3_write : List Cond := .code yX3_write cX3_write 5 (some .int) :: ((wsX3_write_r1 ++ (wsX3_write_r2 ++ (wsX3_write_r3 ++ wsX3_write_r4))) ++ wsX30 ++ wsX10 ++ wsX20)
def wsX3_count : List Cond := .code yX3_count cX3_count 2 (some .int) :: ([.fieldLink RX3 10 "ThriftLock" "water" "LThriftLock$Water;", .fieldLink RX3 48 "ThriftLock$Water" "basins" "I", .fieldLink RX3 21 "ThriftLock" "queues" "[LThriftLock$Queue;", .fieldLink RX3 104 "ThriftLock$Queue" "size" "I", .fieldLink RX3 131 "ThriftLock" "turnsKept" "I", .fieldLink RX3 37 "ThriftLock$Water" "inChamber" "I", .fieldLink RX3 143 "ThriftLock" "drawnEver" "I", .fieldLink RX3 146 "ThriftLock" "lostEver" "I", .fieldLink RX3 105 "ThriftLock" "boatsCame" "I", .fieldLink RX3 229 "ThriftLock" "latestFinding" "I", .methodLink RX3 152 yX2_heldInAll, .instanceMethod yX2_heldInAll, .selects RX2 yX2_heldInAll yX2_heldInAll, .initialized RX2, .code yX2_heldInAll cX2_heldInAll 3 (some .int), .fieldLink RX2 43 "ThriftLock$Water" "basins" "I", .fieldLink RX2 31 "ThriftLock$Water" "held" "[I"] ++ wsX30 ++ wsX20 ++ wsX00)
def wsX3_fold : List Cond := .code yX3_fold cX3_fold 3 (some .long) :: ([.constantLong RX3 254 (31)])
def wsX3_foldBasins_r1 : List Cond := [Cond.fieldLink RX3 10 "ThriftLock" "water" "LThriftLock$Water;", Cond.fieldLink RX3 48 "ThriftLock$Water" "basins" "I", Cond.methodLink RX3 256 yX3_info, Cond.instanceMethod yX3_info, Cond.selects RX3 yX3_info yX3_info, Cond.initialized RX3, Cond.code yX3_info cX3_info 3 (some .int), Cond.fieldLink RX3 85 "ThriftLock$Water" "bottom" "[I", Cond.fieldLink RX3 88 "ThriftLock$Water" "room" "[I", Cond.fieldLink RX3 91 "ThriftLock$Water" "wide" "[I", Cond.fieldLink RX3 65 "ThriftLock$Water" "leaks" "[I", Cond.fieldLink RX3 55 "ThriftLock$Water" "held" "[I", Cond.methodLink RX3 61 yX3_isBasin, Cond.instanceMethod yX3_isBasin, Cond.selects RX3 yX3_isBasin yX3_isBasin, Cond.code yX3_isBasin cX3_isBasin 2 (some .boolean), Cond.methodLink RX3 94 yX2_levelHolding, Cond.instanceMethod yX2_levelHolding, Cond.selects RX2 yX2_levelHolding yX2_levelHolding, Cond.initialized RX2, Cond.code yX2_levelHolding cX2_levelHolding 3 (some .int), Cond.fieldLink RX2 15 "ThriftLock$Water" "bottom" "[I", Cond.fieldLink RX2 25 "ThriftLock$Water" "rise" "[I", Cond.methodLink RX3 98 yX2_isOut]
def wsX3_foldBasins_r2 : List Cond := [Cond.instanceMethod yX2_isOut, Cond.selects RX2 yX2_isOut yX2_isOut, Cond.code yX2_isOut cX2_isOut 2 (some .boolean), Cond.fieldLink RX2 46 "ThriftLock$Water" "outBits" "I", Cond.methodLink RX3 237 yX3_fold, Cond.static yX3_fold, Cond.code yX3_fold cX3_fold 3 (some .long), Cond.constantLong RX3 254 (31), Cond.methodLink RX3 185 yX3_bestBottom, Cond.instanceMethod yX3_bestBottom, Cond.selects RX3 yX3_bestBottom yX3_bestBottom, Cond.code yX3_bestBottom cX3_bestBottom 6 (some .int), Cond.constant RX3 181 (1000000), Cond.fieldLink RX3 16 "ThriftLock" "trial" "LThriftLock$Water;", Cond.methodLink RX3 177 yX2_becomeLike, Cond.instanceMethod yX2_becomeLike, Cond.selects RX2 yX2_becomeLike yX2_becomeLike, Cond.code yX2_becomeLike cX2_becomeLike 2 none, Cond.fieldLink RX2 9 "ThriftLock$Water" "fullAt" "I", Cond.fieldLink RX2 40 "ThriftLock$Water" "inChamber" "I", Cond.fieldLink RX2 43 "ThriftLock$Water" "basins" "I", Cond.methodLink RX2 49 arraycopyName, Cond.native arraycopyName, Cond.static arraycopyName]
def wsX3_foldBasins_r3 : List Cond := [Cond.initialized "java/lang/System", Cond.fieldLink RX2 19 "ThriftLock$Water" "room" "[I", Cond.fieldLink RX2 22 "ThriftLock$Water" "wide" "[I", Cond.fieldLink RX2 28 "ThriftLock$Water" "leaks" "[I", Cond.fieldLink RX2 31 "ThriftLock$Water" "held" "[I", Cond.methodLink RX3 182 yX2_drawnBy, Cond.instanceMethod yX2_drawnBy, Cond.selects RX2 yX2_drawnBy yX2_drawnBy, Cond.code yX2_drawnBy cX2_drawnBy 6 (some .int), Cond.fieldLink RX2 62 "ThriftLock$Water" "outside" "I", Cond.methodLink RX2 59 yX2_makeTurn, Cond.instanceMethod yX2_makeTurn, Cond.selects RX2 yX2_makeTurn yX2_makeTurn, Cond.code yX2_makeTurn cX2_makeTurn 5 none, Cond.fieldLink RX2 37 "ThriftLock$Water" "moved" "[I", Cond.fieldLink RX2 34 "ThriftLock$Water" "steps" "[I", Cond.methodLink RX2 65 yJ7_fill_53178, Cond.static yJ7_fill_53178, Cond.initialized RJ7, Cond.code yJ7_fill_53178 cJ7_fill_53178 4 none, Cond.methodLink RX2 71 yX2_basinToGive, Cond.instanceMethod yX2_basinToGive, Cond.selects RX2 yX2_basinToGive yX2_basinToGive, Cond.code yX2_basinToGive cX2_basinToGive 6 (some .int)]
def wsX3_foldBasins_r4 : List Cond := [Cond.methodLink RX2 80 yX2_isOut, Cond.methodLink RX2 84 yX2_levelHolding, Cond.methodLink RX2 74 yX2_basinToTake, Cond.instanceMethod yX2_basinToTake, Cond.selects RX2 yX2_basinToTake yX2_basinToTake, Cond.code yX2_basinToTake cX2_basinToTake 6 (some .int), Cond.methodLink RX2 77 yX2_loseByLeaks, Cond.instanceMethod yX2_loseByLeaks, Cond.selects RX2 yX2_loseByLeaks yX2_loseByLeaks, Cond.code yX2_loseByLeaks cX2_loseByLeaks 3 none, Cond.fieldLink RX2 88 "ThriftLock$Water" "leaked" "I", Cond.methodLink RX2 91 Lib.Math.min.name, Cond.static Lib.Math.min.name, Cond.initialized "java/lang/Math", Cond.code Lib.Math.min.name Lib.Math.min.code 2 (some .int), Cond.methodLink RX3 194 yX3_choiceOf, Cond.static yX3_choiceOf, Cond.code yX3_choiceOf cX3_choiceOf 2 (some .int), Cond.methodLink RX3 188 yX3_partOfChoice, Cond.static yX3_partOfChoice, Cond.code yX3_partOfChoice cX3_partOfChoice 2 (some .int), Cond.methodLink RX3 259 yX3_chamber, Cond.instanceMethod yX3_chamber, Cond.selects RX3 yX3_chamber yX3_chamber]
def wsX3_foldBasins_r5 : List Cond := [Cond.code yX3_chamber cX3_chamber 2 (some .int), Cond.fieldLink RX3 37 "ThriftLock$Water" "inChamber" "I", Cond.fieldLink RX3 41 "ThriftLock$Water" "fullAt" "I"]
def wsX3_foldBasins : List Cond := .code yX3_foldBasins cX3_foldBasins 7 (some .long) :: ((wsX3_foldBasins_r1 ++ (wsX3_foldBasins_r2 ++ (wsX3_foldBasins_r3 ++ (wsX3_foldBasins_r4 ++ wsX3_foldBasins_r5)))) ++ wsX30 ++ wsX20)
def wsX3_foldBoats_r1 : List Cond := [Cond.methodLink RX3 262 yX3_waits, Cond.instanceMethod yX3_waits, Cond.selects RX3 yX3_waits yX3_waits, Cond.initialized RX3, Cond.code yX3_waits cX3_waits 3 (some .int), Cond.fieldLink RX3 21 "ThriftLock" "queues" "[LThriftLock$Queue;", Cond.fieldLink RX3 104 "ThriftLock$Queue" "size" "I", Cond.methodLink RX3 101 yX3_isWay, Cond.static yX3_isWay, Cond.code yX3_isWay cX3_isWay 1 (some .boolean), Cond.methodLink RX3 118 yX0_boatAt, Cond.instanceMethod yX0_boatAt, Cond.selects RX0 yX0_boatAt yX0_boatAt, Cond.initialized RX0, Cond.code yX0_boatAt cX0_boatAt 2 (some .int), Cond.fieldLink RX0 15 "ThriftLock$Queue" "size" "I", Cond.fieldLink RX0 9 "ThriftLock$Queue" "boats" "[I", Cond.methodLink RX3 237 yX3_fold, Cond.static yX3_fold, Cond.code yX3_fold cX3_fold 3 (some .long), Cond.constantLong RX3 254 (31), Cond.methodLink RX3 265 yX3_next, Cond.instanceMethod yX3_next, Cond.selects RX3 yX3_next yX3_next]
def wsX3_foldBoats_r2 : List Cond := [Cond.code yX3_next cX3_next 3 (some .int), Cond.methodLink RX3 124 yX3_wayServedNext, Cond.instanceMethod yX3_wayServedNext, Cond.selects RX3 yX3_wayServedNext yX3_wayServedNext, Cond.code yX3_wayServedNext cX3_wayServedNext 3 (some .int), Cond.fieldLink RX3 121 "ThriftLock" "ruleNow" "I", Cond.methodLink RX3 137 yX3_wayAtChamber, Cond.instanceMethod yX3_wayAtChamber, Cond.selects RX3 yX3_wayAtChamber yX3_wayAtChamber, Cond.code yX3_wayAtChamber cX3_wayAtChamber 1 (some .int), Cond.fieldLink RX3 10 "ThriftLock" "water" "LThriftLock$Water;", Cond.fieldLink RX3 37 "ThriftLock$Water" "inChamber" "I", Cond.methodLink RX3 128 yX3_turnsToServe, Cond.instanceMethod yX3_turnsToServe, Cond.selects RX3 yX3_turnsToServe yX3_turnsToServe, Cond.code yX3_turnsToServe cX3_turnsToServe 2 (some .int)]
def wsX3_foldBoats : List Cond := .code yX3_foldBoats cX3_foldBoats 6 (some .long) :: ((wsX3_foldBoats_r1 ++ wsX3_foldBoats_r2) ++ wsX30 ++ wsX00 ++ wsX20)
def wsX3_foldTurns_r1 : List Cond := [Cond.fieldLink RX3 131 "ThriftLock" "turnsKept" "I", Cond.methodLink RX3 268 yX3_ledger, Cond.instanceMethod yX3_ledger, Cond.selects RX3 yX3_ledger yX3_ledger, Cond.initialized RX3, Cond.code yX3_ledger cX3_ledger 3 (some .int), Cond.fieldLink RX3 31 "ThriftLock" "rows" "[I", Cond.methodLink RX3 237 yX3_fold, Cond.static yX3_fold, Cond.code yX3_fold cX3_fold 3 (some .long), Cond.constantLong RX3 254 (31), Cond.methodLink RX3 271 yX3_total, Cond.instanceMethod yX3_total, Cond.selects RX3 yX3_total yX3_total, Cond.code yX3_total cX3_total 2 (some .int), Cond.fieldLink RX3 143 "ThriftLock" "drawnEver" "I", Cond.fieldLink RX3 146 "ThriftLock" "lostEver" "I", Cond.fieldLink RX3 149 "ThriftLock" "leakedEver" "I", Cond.fieldLink RX3 10 "ThriftLock" "water" "LThriftLock$Water;", Cond.fieldLink RX3 155 "ThriftLock" "turnsEver" "I", Cond.methodLink RX3 152 yX2_heldInAll, Cond.instanceMethod yX2_heldInAll, Cond.selects RX2 yX2_heldInAll yX2_heldInAll, Cond.initialized RX2]
def wsX3_foldTurns_r2 : List Cond := [Cond.code yX2_heldInAll cX2_heldInAll 3 (some .int), Cond.fieldLink RX2 43 "ThriftLock$Water" "basins" "I", Cond.fieldLink RX2 31 "ThriftLock$Water" "held" "[I"]
def wsX3_foldTurns : List Cond := .code yX3_foldTurns cX3_foldTurns 7 (some .long) :: ((wsX3_foldTurns_r1 ++ wsX3_foldTurns_r2) ++ wsX30 ++ wsX20)
def wsX3_foldWhatWouldBe_r1 : List Cond := [Cond.fieldLink RX3 10 "ThriftLock" "water" "LThriftLock$Water;", Cond.fieldLink RX3 41 "ThriftLock$Water" "fullAt" "I", Cond.fieldLink RX3 16 "ThriftLock" "trial" "LThriftLock$Water;", Cond.fieldLink RX3 174 "ThriftLock$Water" "steps" "[I", Cond.methodLink RX3 237 yX3_fold, Cond.static yX3_fold, Cond.initialized RX3, Cond.code yX3_fold cX3_fold 3 (some .long), Cond.constantLong RX3 254 (31), Cond.methodLink RX3 171 yX3_tryTurn, Cond.instanceMethod yX3_tryTurn, Cond.selects RX3 yX3_tryTurn yX3_tryTurn, Cond.code yX3_tryTurn cX3_tryTurn 1 none, Cond.methodLink RX3 177 yX2_becomeLike, Cond.instanceMethod yX2_becomeLike, Cond.selects RX2 yX2_becomeLike yX2_becomeLike, Cond.initialized RX2, Cond.code yX2_becomeLike cX2_becomeLike 2 none, Cond.fieldLink RX2 9 "ThriftLock$Water" "fullAt" "I", Cond.fieldLink RX2 40 "ThriftLock$Water" "inChamber" "I", Cond.fieldLink RX2 43 "ThriftLock$Water" "basins" "I", Cond.fieldLink RX2 46 "ThriftLock$Water" "outBits" "I", Cond.fieldLink RX2 15 "ThriftLock$Water" "bottom" "[I", Cond.methodLink RX2 49 arraycopyName]
def wsX3_foldWhatWouldBe_r2 : List Cond := [Cond.native arraycopyName, Cond.static arraycopyName, Cond.initialized "java/lang/System", Cond.fieldLink RX2 19 "ThriftLock$Water" "room" "[I", Cond.fieldLink RX2 22 "ThriftLock$Water" "wide" "[I", Cond.fieldLink RX2 25 "ThriftLock$Water" "rise" "[I", Cond.fieldLink RX2 28 "ThriftLock$Water" "leaks" "[I", Cond.fieldLink RX2 31 "ThriftLock$Water" "held" "[I", Cond.methodLink RX3 158 yX2_makeTurn, Cond.instanceMethod yX2_makeTurn, Cond.selects RX2 yX2_makeTurn yX2_makeTurn, Cond.code yX2_makeTurn cX2_makeTurn 5 none, Cond.fieldLink RX2 37 "ThriftLock$Water" "moved" "[I", Cond.fieldLink RX2 62 "ThriftLock$Water" "outside" "I", Cond.fieldLink RX2 34 "ThriftLock$Water" "steps" "[I", Cond.methodLink RX2 65 yJ7_fill_53178, Cond.static yJ7_fill_53178, Cond.initialized RJ7, Cond.code yJ7_fill_53178 cJ7_fill_53178 4 none, Cond.methodLink RX2 71 yX2_basinToGive, Cond.instanceMethod yX2_basinToGive, Cond.selects RX2 yX2_basinToGive yX2_basinToGive, Cond.code yX2_basinToGive cX2_basinToGive 6 (some .int), Cond.methodLink RX2 80 yX2_isOut]
def wsX3_foldWhatWouldBe_r3 : List Cond := [Cond.instanceMethod yX2_isOut, Cond.selects RX2 yX2_isOut yX2_isOut, Cond.code yX2_isOut cX2_isOut 2 (some .boolean), Cond.methodLink RX2 84 yX2_levelHolding, Cond.instanceMethod yX2_levelHolding, Cond.selects RX2 yX2_levelHolding yX2_levelHolding, Cond.code yX2_levelHolding cX2_levelHolding 3 (some .int), Cond.methodLink RX2 74 yX2_basinToTake, Cond.instanceMethod yX2_basinToTake, Cond.selects RX2 yX2_basinToTake yX2_basinToTake, Cond.code yX2_basinToTake cX2_basinToTake 6 (some .int), Cond.methodLink RX2 77 yX2_loseByLeaks, Cond.instanceMethod yX2_loseByLeaks, Cond.selects RX2 yX2_loseByLeaks yX2_loseByLeaks, Cond.code yX2_loseByLeaks cX2_loseByLeaks 3 none, Cond.fieldLink RX2 88 "ThriftLock$Water" "leaked" "I", Cond.methodLink RX2 91 Lib.Math.min.name, Cond.static Lib.Math.min.name, Cond.initialized "java/lang/Math", Cond.code Lib.Math.min.name Lib.Math.min.code 2 (some .int), Cond.methodLink RX3 274 yX3_ahead, Cond.instanceMethod yX3_ahead, Cond.selects RX3 yX3_ahead yX3_ahead, Cond.code yX3_ahead cX3_ahead 2 (some .int)]
def wsX3_foldWhatWouldBe_r4 : List Cond := [Cond.constant RX3 181 (1000000), Cond.methodLink RX3 182 yX2_drawnBy, Cond.instanceMethod yX2_drawnBy, Cond.selects RX2 yX2_drawnBy yX2_drawnBy, Cond.code yX2_drawnBy cX2_drawnBy 6 (some .int), Cond.methodLink RX2 59 yX2_makeTurn, Cond.methodLink RX3 191 yX3_leastNeeded, Cond.instanceMethod yX3_leastNeeded, Cond.selects RX3 yX3_leastNeeded yX3_leastNeeded, Cond.code yX3_leastNeeded cX3_leastNeeded 5 (some .int), Cond.fieldLink RX3 48 "ThriftLock$Water" "basins" "I", Cond.fieldLink RX3 58 "ThriftLock$Water" "outBits" "I", Cond.methodLink RX3 98 yX2_isOut, Cond.methodLink RX3 194 yX3_choiceOf, Cond.static yX3_choiceOf, Cond.code yX3_choiceOf cX3_choiceOf 2 (some .int), Cond.methodLink RX3 188 yX3_partOfChoice, Cond.static yX3_partOfChoice, Cond.code yX3_partOfChoice cX3_partOfChoice 2 (some .int)]
def wsX3_foldWhatWouldBe : List Cond := .code yX3_foldWhatWouldBe cX3_foldWhatWouldBe 6 (some .long) :: ((wsX3_foldWhatWouldBe_r1 ++ (wsX3_foldWhatWouldBe_r2 ++ (wsX3_foldWhatWouldBe_r3 ++ wsX3_foldWhatWouldBe_r4))) ++ wsX30 ++ wsX20)
def wsX3_digest_r1 : List Cond := [Cond.constantLong RX3 232 (17), Cond.methodLink RX3 234 yX3_count, Cond.instanceMethod yX3_count, Cond.selects RX3 yX3_count yX3_count, Cond.initialized RX3, Cond.code yX3_count cX3_count 2 (some .int), Cond.fieldLink RX3 10 "ThriftLock" "water" "LThriftLock$Water;", Cond.fieldLink RX3 48 "ThriftLock$Water" "basins" "I", Cond.fieldLink RX3 21 "ThriftLock" "queues" "[LThriftLock$Queue;", Cond.fieldLink RX3 104 "ThriftLock$Queue" "size" "I", Cond.fieldLink RX3 131 "ThriftLock" "turnsKept" "I", Cond.fieldLink RX3 37 "ThriftLock$Water" "inChamber" "I", Cond.fieldLink RX3 143 "ThriftLock" "drawnEver" "I", Cond.fieldLink RX3 146 "ThriftLock" "lostEver" "I", Cond.fieldLink RX3 105 "ThriftLock" "boatsCame" "I", Cond.fieldLink RX3 229 "ThriftLock" "latestFinding" "I", Cond.methodLink RX3 152 yX2_heldInAll, Cond.instanceMethod yX2_heldInAll, Cond.selects RX2 yX2_heldInAll yX2_heldInAll, Cond.initialized RX2, Cond.code yX2_heldInAll cX2_heldInAll 3 (some .int), Cond.fieldLink RX2 43 "ThriftLock$Water" "basins" "I", Cond.fieldLink RX2 31 "ThriftLock$Water" "held" "[I", Cond.methodLink RX3 237 yX3_fold]
def wsX3_digest_r2 : List Cond := [Cond.static yX3_fold, Cond.code yX3_fold cX3_fold 3 (some .long), Cond.constantLong RX3 254 (31), Cond.methodLink RX3 241 yX3_foldBasins, Cond.instanceMethod yX3_foldBasins, Cond.selects RX3 yX3_foldBasins yX3_foldBasins, Cond.code yX3_foldBasins cX3_foldBasins 7 (some .long), Cond.methodLink RX3 256 yX3_info, Cond.instanceMethod yX3_info, Cond.selects RX3 yX3_info yX3_info, Cond.code yX3_info cX3_info 3 (some .int), Cond.fieldLink RX3 85 "ThriftLock$Water" "bottom" "[I", Cond.fieldLink RX3 88 "ThriftLock$Water" "room" "[I", Cond.fieldLink RX3 91 "ThriftLock$Water" "wide" "[I", Cond.fieldLink RX3 65 "ThriftLock$Water" "leaks" "[I", Cond.fieldLink RX3 55 "ThriftLock$Water" "held" "[I", Cond.methodLink RX3 61 yX3_isBasin, Cond.instanceMethod yX3_isBasin, Cond.selects RX3 yX3_isBasin yX3_isBasin, Cond.code yX3_isBasin cX3_isBasin 2 (some .boolean), Cond.methodLink RX3 94 yX2_levelHolding, Cond.instanceMethod yX2_levelHolding, Cond.selects RX2 yX2_levelHolding yX2_levelHolding, Cond.code yX2_levelHolding cX2_levelHolding 3 (some .int)]
def wsX3_digest_r3 : List Cond := [Cond.fieldLink RX2 15 "ThriftLock$Water" "bottom" "[I", Cond.fieldLink RX2 25 "ThriftLock$Water" "rise" "[I", Cond.methodLink RX3 98 yX2_isOut, Cond.instanceMethod yX2_isOut, Cond.selects RX2 yX2_isOut yX2_isOut, Cond.code yX2_isOut cX2_isOut 2 (some .boolean), Cond.fieldLink RX2 46 "ThriftLock$Water" "outBits" "I", Cond.methodLink RX3 185 yX3_bestBottom, Cond.instanceMethod yX3_bestBottom, Cond.selects RX3 yX3_bestBottom yX3_bestBottom, Cond.code yX3_bestBottom cX3_bestBottom 6 (some .int), Cond.constant RX3 181 (1000000), Cond.fieldLink RX3 16 "ThriftLock" "trial" "LThriftLock$Water;", Cond.methodLink RX3 177 yX2_becomeLike, Cond.instanceMethod yX2_becomeLike, Cond.selects RX2 yX2_becomeLike yX2_becomeLike, Cond.code yX2_becomeLike cX2_becomeLike 2 none, Cond.fieldLink RX2 9 "ThriftLock$Water" "fullAt" "I", Cond.fieldLink RX2 40 "ThriftLock$Water" "inChamber" "I", Cond.methodLink RX2 49 arraycopyName, Cond.native arraycopyName, Cond.static arraycopyName, Cond.initialized "java/lang/System", Cond.fieldLink RX2 19 "ThriftLock$Water" "room" "[I"]
def wsX3_digest_r4 : List Cond := [Cond.fieldLink RX2 22 "ThriftLock$Water" "wide" "[I", Cond.fieldLink RX2 28 "ThriftLock$Water" "leaks" "[I", Cond.methodLink RX3 182 yX2_drawnBy, Cond.instanceMethod yX2_drawnBy, Cond.selects RX2 yX2_drawnBy yX2_drawnBy, Cond.code yX2_drawnBy cX2_drawnBy 6 (some .int), Cond.fieldLink RX2 62 "ThriftLock$Water" "outside" "I", Cond.methodLink RX2 59 yX2_makeTurn, Cond.instanceMethod yX2_makeTurn, Cond.selects RX2 yX2_makeTurn yX2_makeTurn, Cond.code yX2_makeTurn cX2_makeTurn 5 none, Cond.fieldLink RX2 37 "ThriftLock$Water" "moved" "[I", Cond.fieldLink RX2 34 "ThriftLock$Water" "steps" "[I", Cond.methodLink RX2 65 yJ7_fill_53178, Cond.static yJ7_fill_53178, Cond.initialized RJ7, Cond.code yJ7_fill_53178 cJ7_fill_53178 4 none, Cond.methodLink RX2 71 yX2_basinToGive, Cond.instanceMethod yX2_basinToGive, Cond.selects RX2 yX2_basinToGive yX2_basinToGive, Cond.code yX2_basinToGive cX2_basinToGive 6 (some .int), Cond.methodLink RX2 80 yX2_isOut, Cond.methodLink RX2 84 yX2_levelHolding, Cond.methodLink RX2 74 yX2_basinToTake]
def wsX3_digest_r5 : List Cond := [Cond.instanceMethod yX2_basinToTake, Cond.selects RX2 yX2_basinToTake yX2_basinToTake, Cond.code yX2_basinToTake cX2_basinToTake 6 (some .int), Cond.methodLink RX2 77 yX2_loseByLeaks, Cond.instanceMethod yX2_loseByLeaks, Cond.selects RX2 yX2_loseByLeaks yX2_loseByLeaks, Cond.code yX2_loseByLeaks cX2_loseByLeaks 3 none, Cond.fieldLink RX2 88 "ThriftLock$Water" "leaked" "I", Cond.methodLink RX2 91 Lib.Math.min.name, Cond.static Lib.Math.min.name, Cond.initialized "java/lang/Math", Cond.code Lib.Math.min.name Lib.Math.min.code 2 (some .int), Cond.methodLink RX3 194 yX3_choiceOf, Cond.static yX3_choiceOf, Cond.code yX3_choiceOf cX3_choiceOf 2 (some .int), Cond.methodLink RX3 188 yX3_partOfChoice, Cond.static yX3_partOfChoice, Cond.code yX3_partOfChoice cX3_partOfChoice 2 (some .int), Cond.methodLink RX3 259 yX3_chamber, Cond.instanceMethod yX3_chamber, Cond.selects RX3 yX3_chamber yX3_chamber, Cond.code yX3_chamber cX3_chamber 2 (some .int), Cond.fieldLink RX3 41 "ThriftLock$Water" "fullAt" "I", Cond.methodLink RX3 245 yX3_foldBoats]
def wsX3_digest_r6 : List Cond := [Cond.instanceMethod yX3_foldBoats, Cond.selects RX3 yX3_foldBoats yX3_foldBoats, Cond.code yX3_foldBoats cX3_foldBoats 6 (some .long), Cond.methodLink RX3 262 yX3_waits, Cond.instanceMethod yX3_waits, Cond.selects RX3 yX3_waits yX3_waits, Cond.code yX3_waits cX3_waits 3 (some .int), Cond.methodLink RX3 101 yX3_isWay, Cond.static yX3_isWay, Cond.code yX3_isWay cX3_isWay 1 (some .boolean), Cond.methodLink RX3 118 yX0_boatAt, Cond.instanceMethod yX0_boatAt, Cond.selects RX0 yX0_boatAt yX0_boatAt, Cond.initialized RX0, Cond.code yX0_boatAt cX0_boatAt 2 (some .int), Cond.fieldLink RX0 15 "ThriftLock$Queue" "size" "I", Cond.fieldLink RX0 9 "ThriftLock$Queue" "boats" "[I", Cond.methodLink RX3 265 yX3_next, Cond.instanceMethod yX3_next, Cond.selects RX3 yX3_next yX3_next, Cond.code yX3_next cX3_next 3 (some .int), Cond.methodLink RX3 124 yX3_wayServedNext, Cond.instanceMethod yX3_wayServedNext, Cond.selects RX3 yX3_wayServedNext yX3_wayServedNext]
def wsX3_digest_r7 : List Cond := [Cond.code yX3_wayServedNext cX3_wayServedNext 3 (some .int), Cond.fieldLink RX3 121 "ThriftLock" "ruleNow" "I", Cond.methodLink RX3 137 yX3_wayAtChamber, Cond.instanceMethod yX3_wayAtChamber, Cond.selects RX3 yX3_wayAtChamber yX3_wayAtChamber, Cond.code yX3_wayAtChamber cX3_wayAtChamber 1 (some .int), Cond.methodLink RX3 128 yX3_turnsToServe, Cond.instanceMethod yX3_turnsToServe, Cond.selects RX3 yX3_turnsToServe yX3_turnsToServe, Cond.code yX3_turnsToServe cX3_turnsToServe 2 (some .int), Cond.methodLink RX3 248 yX3_foldTurns, Cond.instanceMethod yX3_foldTurns, Cond.selects RX3 yX3_foldTurns yX3_foldTurns, Cond.code yX3_foldTurns cX3_foldTurns 7 (some .long), Cond.methodLink RX3 268 yX3_ledger, Cond.instanceMethod yX3_ledger, Cond.selects RX3 yX3_ledger yX3_ledger, Cond.code yX3_ledger cX3_ledger 3 (some .int), Cond.fieldLink RX3 31 "ThriftLock" "rows" "[I", Cond.methodLink RX3 271 yX3_total, Cond.instanceMethod yX3_total, Cond.selects RX3 yX3_total yX3_total, Cond.code yX3_total cX3_total 2 (some .int), Cond.fieldLink RX3 149 "ThriftLock" "leakedEver" "I"]
def wsX3_digest_r8 : List Cond := [Cond.fieldLink RX3 155 "ThriftLock" "turnsEver" "I", Cond.methodLink RX3 251 yX3_foldWhatWouldBe, Cond.instanceMethod yX3_foldWhatWouldBe, Cond.selects RX3 yX3_foldWhatWouldBe yX3_foldWhatWouldBe, Cond.code yX3_foldWhatWouldBe cX3_foldWhatWouldBe 6 (some .long), Cond.fieldLink RX3 174 "ThriftLock$Water" "steps" "[I", Cond.methodLink RX3 171 yX3_tryTurn, Cond.instanceMethod yX3_tryTurn, Cond.selects RX3 yX3_tryTurn yX3_tryTurn, Cond.code yX3_tryTurn cX3_tryTurn 1 none, Cond.methodLink RX3 158 yX2_makeTurn, Cond.methodLink RX3 274 yX3_ahead, Cond.instanceMethod yX3_ahead, Cond.selects RX3 yX3_ahead yX3_ahead, Cond.code yX3_ahead cX3_ahead 2 (some .int), Cond.methodLink RX3 191 yX3_leastNeeded, Cond.instanceMethod yX3_leastNeeded, Cond.selects RX3 yX3_leastNeeded yX3_leastNeeded, Cond.code yX3_leastNeeded cX3_leastNeeded 5 (some .int), Cond.fieldLink RX3 58 "ThriftLock$Water" "outBits" "I"]
def wsX3_digest : List Cond := .code yX3_digest cX3_digest 4 (some .long) :: ((wsX3_digest_r1 ++ (wsX3_digest_r2 ++ (wsX3_digest_r3 ++ (wsX3_digest_r4 ++ (wsX3_digest_r5 ++ (wsX3_digest_r6 ++ (wsX3_digest_r7 ++ wsX3_digest_r8))))))) ++ wsX30 ++ wsX20 ++ wsX00)
def wsX4_init : List Cond := .code yX4_init cX4_init 2 none :: ([.methodLink RX4 1 objectInit, .instanceMethod objectInit, .code objectInit ⟨#[0xb1]⟩ 1 none, .arrayClass .int, .fieldLink RX4 7 "ThriftLockModel" "forms" "[I", .fieldLink RX4 13 "ThriftLockModel" "sizes" "[I", .fieldLink RX4 16 "ThriftLockModel" "items" "[I", .fieldLink RX4 19 "ThriftLockModel" "moved" "[I", .fieldLink RX4 22 "ThriftLockModel" "bottom" "[I", .fieldLink RX4 25 "ThriftLockModel" "room" "[I", .fieldLink RX4 28 "ThriftLockModel" "wide" "[I", .fieldLink RX4 31 "ThriftLockModel" "leak" "[I", .fieldLink RX4 34 "ThriftLockModel" "held" "[I", .fieldLink RX4 37 "ThriftLockModel" "wayOf" "[I", .arrayClass .boolean, .fieldLink RX4 40 "ThriftLockModel" "isWaiting" "[Z", .fieldLink RX4 44 "ThriftLockModel" "steps" "[I", .fieldLink RX4 47 "ThriftLockModel" "went" "[I", .fieldLink RX4 50 "ThriftLockModel" "kept" "[I", .fieldLink RX4 53 "ThriftLockModel" "ledger" "[I", .fieldLink RX4 56 "ThriftLockModel" "head" "I"] ++ wsX40)
def wsX4_in : List Cond := .code yX4_in cX4_in 6 (some .boolean) :: ([])
def wsX4_isTwo : List Cond := .code yX4_isTwo cX4_isTwo 1 (some .boolean) :: ([.methodLink RX4 60 yX4_in, .static yX4_in, .initialized RX4, .code yX4_in cX4_in 6 (some .boolean)])
def wsX4_isIn : List Cond := .code yX4_isIn cX4_isIn 2 (some .boolean) :: ([])
def wsX4_lesser : List Cond := .code yX4_lesser cX4_lesser 2 (some .int) :: ([])
def wsX4_greater : List Cond := .code yX4_greater cX4_greater 2 (some .int) :: ([])
def wsX4_finds : List Cond := .code yX4_finds cX4_finds 2 (some .int) :: ([.fieldLink RX4 64 "ThriftLockModel" "latest" "I"] ++ wsX40)
def wsX4_isSheet : List Cond := .code yX4_isSheet cX4_isSheet 1 (some .boolean) :: ([.constantLong RX4 67 (3), .methodLink RX4 60 yX4_in, .static yX4_in, .initialized RX4, .code yX4_in cX4_in 6 (some .boolean)])
def wsX4_sheet : List Cond := .code yX4_sheet cX4_sheet 5 (some .int) :: ([.constantLong RX4 73 (2), .fieldLink RX4 7 "ThriftLockModel" "forms" "[I", .fieldLink RX4 13 "ThriftLockModel" "sizes" "[I", .fieldLink RX4 16 "ThriftLockModel" "items" "[I", .methodLink RX4 69 yX4_isSheet, .static yX4_isSheet, .initialized RX4, .code yX4_isSheet cX4_isSheet 1 (some .boolean), .constantLong RX4 67 (3), .methodLink RX4 60 yX4_in, .static yX4_in, .code yX4_in cX4_in 6 (some .boolean), .methodLink RX4 75 yX4_finds, .instanceMethod yX4_finds, .selects RX4 yX4_finds yX4_finds, .code yX4_finds cX4_finds 2 (some .int), .fieldLink RX4 64 "ThriftLockModel" "latest" "I"] ++ wsX40)
def wsX4_lose : List Cond := .code yX4_lose cX4_lose 2 (some .int) :: ([.fieldLink RX4 7 "ThriftLockModel" "forms" "[I", .fieldLink RX4 13 "ThriftLockModel" "sizes" "[I", .methodLink RX4 69 yX4_isSheet, .static yX4_isSheet, .initialized RX4, .code yX4_isSheet cX4_isSheet 1 (some .boolean), .constantLong RX4 67 (3), .methodLink RX4 60 yX4_in, .static yX4_in, .code yX4_in cX4_in 6 (some .boolean), .methodLink RX4 75 yX4_finds, .instanceMethod yX4_finds, .selects RX4 yX4_finds yX4_finds, .code yX4_finds cX4_finds 2 (some .int), .fieldLink RX4 64 "ThriftLockModel" "latest" "I"] ++ wsX40)
def wsX4_lacks : List Cond := .code yX4_lacks cX4_lacks 4 (some .int) :: ([.fieldLink RX4 7 "ThriftLockModel" "forms" "[I", .fieldLink RX4 13 "ThriftLockModel" "sizes" "[I", .methodLink RX4 75 yX4_finds, .instanceMethod yX4_finds, .selects RX4 yX4_finds yX4_finds, .initialized RX4, .code yX4_finds cX4_finds 2 (some .int), .fieldLink RX4 64 "ThriftLockModel" "latest" "I", .methodLink RX4 60 yX4_in, .static yX4_in, .code yX4_in cX4_in 6 (some .boolean)] ++ wsX40)
def wsX4_cut : List Cond := .code yX4_cut cX4_cut 2 (some .int) :: ([])
def wsX4_lay : List Cond := .code yX4_lay cX4_lay 6 (some .int) :: ([.constantLong RX4 73 (2), .fieldLink RX4 16 "ThriftLockModel" "items" "[I", .methodLink RX4 69 yX4_isSheet, .static yX4_isSheet, .initialized RX4, .code yX4_isSheet cX4_isSheet 1 (some .boolean), .constantLong RX4 67 (3), .methodLink RX4 60 yX4_in, .static yX4_in, .code yX4_in cX4_in 6 (some .boolean), .methodLink RX4 79 yX4_lacks, .instanceMethod yX4_lacks, .selects RX4 yX4_lacks yX4_lacks, .code yX4_lacks cX4_lacks 4 (some .int), .fieldLink RX4 7 "ThriftLockModel" "forms" "[I", .fieldLink RX4 13 "ThriftLockModel" "sizes" "[I", .methodLink RX4 75 yX4_finds, .instanceMethod yX4_finds, .selects RX4 yX4_finds yX4_finds, .code yX4_finds cX4_finds 2 (some .int), .fieldLink RX4 64 "ThriftLockModel" "latest" "I", .methodLink RX4 83 yX4_cut, .static yX4_cut, .code yX4_cut cX4_cut 2 (some .int)] ++ wsX40)
def wsX4_get : List Cond := .code yX4_get cX4_get 4 (some .int) :: ([.constantLong RX4 73 (2), .constant RX4 87 (-2147483648), .fieldLink RX4 16 "ThriftLockModel" "items" "[I", .methodLink RX4 69 yX4_isSheet, .static yX4_isSheet, .initialized RX4, .code yX4_isSheet cX4_isSheet 1 (some .boolean), .constantLong RX4 67 (3), .methodLink RX4 60 yX4_in, .static yX4_in, .code yX4_in cX4_in 6 (some .boolean), .methodLink RX4 79 yX4_lacks, .instanceMethod yX4_lacks, .selects RX4 yX4_lacks yX4_lacks, .code yX4_lacks cX4_lacks 4 (some .int), .fieldLink RX4 7 "ThriftLockModel" "forms" "[I", .fieldLink RX4 13 "ThriftLockModel" "sizes" "[I", .methodLink RX4 75 yX4_finds, .instanceMethod yX4_finds, .selects RX4 yX4_finds yX4_finds, .code yX4_finds cX4_finds 2 (some .int), .fieldLink RX4 64 "ThriftLockModel" "latest" "I"] ++ wsX40)
def wsX4_copy : List Cond := .code yX4_copy cX4_copy 7 (some .int) :: ([.fieldLink RX4 7 "ThriftLockModel" "forms" "[I", .fieldLink RX4 13 "ThriftLockModel" "sizes" "[I", .fieldLink RX4 19 "ThriftLockModel" "moved" "[I", .fieldLink RX4 16 "ThriftLockModel" "items" "[I", .methodLink RX4 69 yX4_isSheet, .static yX4_isSheet, .initialized RX4, .code yX4_isSheet cX4_isSheet 1 (some .boolean), .constantLong RX4 67 (3), .methodLink RX4 60 yX4_in, .static yX4_in, .code yX4_in cX4_in 6 (some .boolean), .methodLink RX4 75 yX4_finds, .instanceMethod yX4_finds, .selects RX4 yX4_finds yX4_finds, .code yX4_finds cX4_finds 2 (some .int), .fieldLink RX4 64 "ThriftLockModel" "latest" "I"] ++ wsX40)
def wsX4_head : List Cond := .code yX4_head cX4_head 3 (some .int) :: ([.constantLong RX4 88 (60), .fieldLink RX4 90 "ThriftLockModel" "full" "Z", .fieldLink RX4 56 "ThriftLockModel" "head" "I", .methodLink RX4 60 yX4_in, .static yX4_in, .initialized RX4, .code yX4_in cX4_in 6 (some .boolean)] ++ wsX40)
def wsX4_basin : List Cond := .code yX4_basin cX4_basin 4 (some .int) :: ([.constantLong RX4 94 (59), .constantLong RX4 88 (60), .constantLong RX4 67 (3), .fieldLink RX4 96 "ThriftLockModel" "basins" "I", .fieldLink RX4 22 "ThriftLockModel" "bottom" "[I", .fieldLink RX4 25 "ThriftLockModel" "room" "[I", .fieldLink RX4 28 "ThriftLockModel" "wide" "[I", .fieldLink RX4 31 "ThriftLockModel" "leak" "[I", .fieldLink RX4 34 "ThriftLockModel" "held" "[I", .methodLink RX4 60 yX4_in, .static yX4_in, .initialized RX4, .code yX4_in cX4_in 6 (some .boolean)] ++ wsX40)
def wsX4_back : List Cond := .code yX4_back cX4_back 1 (some .int) :: ([.fieldLink RX4 96 "ThriftLockModel" "basins" "I", .fieldLink RX4 34 "ThriftLockModel" "held" "[I", .fieldLink RX4 99 "ThriftLockModel" "out" "I"] ++ wsX40)
def wsX4_isBasin : List Cond := .code yX4_isBasin cX4_isBasin 2 (some .boolean) :: ([.fieldLink RX4 96 "ThriftLockModel" "basins" "I", .methodLink RX4 60 yX4_in, .static yX4_in, .initialized RX4, .code yX4_in cX4_in 6 (some .boolean)] ++ wsX40)
def wsX4_out : List Cond := .code yX4_out cX4_out 2 (some .int) :: ([.fieldLink RX4 99 "ThriftLockModel" "out" "I", .methodLink RX4 102 yX4_isBasin, .instanceMethod yX4_isBasin, .selects RX4 yX4_isBasin yX4_isBasin, .initialized RX4, .code yX4_isBasin cX4_isBasin 2 (some .boolean), .fieldLink RX4 96 "ThriftLockModel" "basins" "I", .methodLink RX4 60 yX4_in, .static yX4_in, .code yX4_in cX4_in 6 (some .boolean)] ++ wsX40)
def wsX4_leak : List Cond := .code yX4_leak cX4_leak 4 (some .int) :: ([.constantLong RX4 67 (3), .fieldLink RX4 31 "ThriftLockModel" "leak" "[I", .methodLink RX4 102 yX4_isBasin, .instanceMethod yX4_isBasin, .selects RX4 yX4_isBasin yX4_isBasin, .initialized RX4, .code yX4_isBasin cX4_isBasin 2 (some .boolean), .fieldLink RX4 96 "ThriftLockModel" "basins" "I", .methodLink RX4 60 yX4_in, .static yX4_in, .code yX4_in cX4_in 6 (some .boolean)] ++ wsX40)
def wsX4_read_r1 : List Cond := [Cond.fieldLink RX4 7 "ThriftLockModel" "forms" "[I", Cond.fieldLink RX4 13 "ThriftLockModel" "sizes" "[I", Cond.fieldLink RX4 16 "ThriftLockModel" "items" "[I", Cond.methodLink RX4 69 yX4_isSheet, Cond.static yX4_isSheet, Cond.initialized RX4, Cond.code yX4_isSheet cX4_isSheet 1 (some .boolean), Cond.constantLong RX4 67 (3), Cond.methodLink RX4 60 yX4_in, Cond.static yX4_in, Cond.code yX4_in cX4_in 6 (some .boolean), Cond.methodLink RX4 75 yX4_finds, Cond.instanceMethod yX4_finds, Cond.selects RX4 yX4_finds yX4_finds, Cond.code yX4_finds cX4_finds 2 (some .int), Cond.fieldLink RX4 64 "ThriftLockModel" "latest" "I", Cond.methodLink RX4 105 yX4_basin, Cond.instanceMethod yX4_basin, Cond.selects RX4 yX4_basin yX4_basin, Cond.code yX4_basin cX4_basin 4 (some .int), Cond.constantLong RX4 94 (59), Cond.constantLong RX4 88 (60), Cond.fieldLink RX4 96 "ThriftLockModel" "basins" "I", Cond.fieldLink RX4 22 "ThriftLockModel" "bottom" "[I"]
def wsX4_read_r2 : List Cond := [Cond.fieldLink RX4 25 "ThriftLockModel" "room" "[I", Cond.fieldLink RX4 28 "ThriftLockModel" "wide" "[I", Cond.fieldLink RX4 31 "ThriftLockModel" "leak" "[I", Cond.fieldLink RX4 34 "ThriftLockModel" "held" "[I"]
def wsX4_read : List Cond := .code yX4_read cX4_read 5 (some .int) :: ((wsX4_read_r1 ++ wsX4_read_r2) ++ wsX40)
def wsX4_levelOf : List Cond := .code yX4_levelOf cX4_levelOf 3 (some .int) :: ([.fieldLink RX4 22 "ThriftLockModel" "bottom" "[I", .fieldLink RX4 28 "ThriftLockModel" "wide" "[I"] ++ wsX40)
def wsX4_infoBy : List Cond := .code yX4_infoBy cX4_infoBy 3 (some .int) :: ([.fieldLink RX4 22 "ThriftLockModel" "bottom" "[I", .fieldLink RX4 25 "ThriftLockModel" "room" "[I", .fieldLink RX4 28 "ThriftLockModel" "wide" "[I", .fieldLink RX4 31 "ThriftLockModel" "leak" "[I", .fieldLink RX4 34 "ThriftLockModel" "held" "[I", .fieldLink RX4 99 "ThriftLockModel" "out" "I", .methodLink RX4 108 yX4_levelOf, .instanceMethod yX4_levelOf, .selects RX4 yX4_levelOf yX4_levelOf, .initialized RX4, .code yX4_levelOf cX4_levelOf 3 (some .int)] ++ wsX40)
def wsX4_info : List Cond := .code yX4_info cX4_info 3 (some .int) :: ([.constantLong RX4 111 (6), .methodLink RX4 102 yX4_isBasin, .instanceMethod yX4_isBasin, .selects RX4 yX4_isBasin yX4_isBasin, .initialized RX4, .code yX4_isBasin cX4_isBasin 2 (some .boolean), .fieldLink RX4 96 "ThriftLockModel" "basins" "I", .methodLink RX4 60 yX4_in, .static yX4_in, .code yX4_in cX4_in 6 (some .boolean), .methodLink RX4 113 yX4_infoBy, .instanceMethod yX4_infoBy, .selects RX4 yX4_infoBy yX4_infoBy, .code yX4_infoBy cX4_infoBy 3 (some .int), .fieldLink RX4 22 "ThriftLockModel" "bottom" "[I", .fieldLink RX4 25 "ThriftLockModel" "room" "[I", .fieldLink RX4 28 "ThriftLockModel" "wide" "[I", .fieldLink RX4 31 "ThriftLockModel" "leak" "[I", .fieldLink RX4 34 "ThriftLockModel" "held" "[I", .fieldLink RX4 99 "ThriftLockModel" "out" "I", .methodLink RX4 108 yX4_levelOf, .instanceMethod yX4_levelOf, .selects RX4 yX4_levelOf yX4_levelOf, .code yX4_levelOf cX4_levelOf 3 (some .int)] ++ wsX40)
def wsX4_chamberBy : List Cond := .code yX4_chamberBy cX4_chamberBy 3 (some .int) :: ([.fieldLink RX4 90 "ThriftLockModel" "full" "Z", .fieldLink RX4 56 "ThriftLockModel" "head" "I"] ++ wsX40)
def wsX4_chamber : List Cond := .code yX4_chamber cX4_chamber 2 (some .int) :: ([.constantLong RX4 73 (2), .methodLink RX4 60 yX4_in, .static yX4_in, .initialized RX4, .code yX4_in cX4_in 6 (some .boolean), .methodLink RX4 116 yX4_chamberBy, .instanceMethod yX4_chamberBy, .selects RX4 yX4_chamberBy yX4_chamberBy, .code yX4_chamberBy cX4_chamberBy 3 (some .int), .fieldLink RX4 90 "ThriftLockModel" "full" "Z", .fieldLink RX4 56 "ThriftLockModel" "head" "I"] ++ wsX40)
def wsX4_manyWait : List Cond := .code yX4_manyWait cX4_manyWait 4 (some .int) :: ([.fieldLink RX4 119 "ThriftLockModel" "came" "I", .fieldLink RX4 40 "ThriftLockModel" "isWaiting" "[Z", .fieldLink RX4 37 "ThriftLockModel" "wayOf" "[I"] ++ wsX40)
def wsX4_boat : List Cond := .code yX4_boat cX4_boat 2 (some .int) :: ([.fieldLink RX4 119 "ThriftLockModel" "came" "I", .fieldLink RX4 37 "ThriftLockModel" "wayOf" "[I", .fieldLink RX4 40 "ThriftLockModel" "isWaiting" "[Z", .methodLink RX4 122 yX4_isTwo, .static yX4_isTwo, .initialized RX4, .code yX4_isTwo cX4_isTwo 1 (some .boolean), .methodLink RX4 60 yX4_in, .static yX4_in, .code yX4_in cX4_in 6 (some .boolean), .methodLink RX4 125 yX4_manyWait, .instanceMethod yX4_manyWait, .selects RX4 yX4_manyWait yX4_manyWait, .code yX4_manyWait cX4_manyWait 4 (some .int)] ++ wsX40)
def wsX4_leave : List Cond := .code yX4_leave cX4_leave 2 (some .int) :: ([.fieldLink RX4 119 "ThriftLockModel" "came" "I", .fieldLink RX4 40 "ThriftLockModel" "isWaiting" "[Z", .fieldLink RX4 37 "ThriftLockModel" "wayOf" "[I", .methodLink RX4 125 yX4_manyWait, .instanceMethod yX4_manyWait, .selects RX4 yX4_manyWait yX4_manyWait, .initialized RX4, .code yX4_manyWait cX4_manyWait 4 (some .int)] ++ wsX40)
def wsX4_waitsBy : List Cond := .code yX4_waitsBy cX4_waitsBy 6 (some .int) :: ([.fieldLink RX4 119 "ThriftLockModel" "came" "I", .fieldLink RX4 40 "ThriftLockModel" "isWaiting" "[Z", .fieldLink RX4 37 "ThriftLockModel" "wayOf" "[I"] ++ wsX40)
def wsX4_waits : List Cond := .code yX4_waits cX4_waits 3 (some .int) :: ([.constantLong RX4 128 (-1), .constantLong RX4 130 (15), .methodLink RX4 122 yX4_isTwo, .static yX4_isTwo, .initialized RX4, .code yX4_isTwo cX4_isTwo 1 (some .boolean), .methodLink RX4 60 yX4_in, .static yX4_in, .code yX4_in cX4_in 6 (some .boolean), .methodLink RX4 132 yX4_waitsBy, .instanceMethod yX4_waitsBy, .selects RX4 yX4_waitsBy yX4_waitsBy, .code yX4_waitsBy cX4_waitsBy 6 (some .int), .fieldLink RX4 119 "ThriftLockModel" "came" "I", .fieldLink RX4 40 "ThriftLockModel" "isWaiting" "[Z", .fieldLink RX4 37 "ThriftLockModel" "wayOf" "[I"] ++ wsX40)
def wsX4_rule : List Cond := .code yX4_rule cX4_rule 3 (some .int) :: ([.fieldLink RX4 135 "ThriftLockModel" "rule" "I", .methodLink RX4 122 yX4_isTwo, .static yX4_isTwo, .initialized RX4, .code yX4_isTwo cX4_isTwo 1 (some .boolean), .methodLink RX4 60 yX4_in, .static yX4_in, .code yX4_in cX4_in 6 (some .boolean)] ++ wsX40)
def wsX4_isSide : List Cond := .code yX4_isSide cX4_isSide 2 (some .boolean) :: ([.fieldLink RX4 90 "ThriftLockModel" "full" "Z"] ++ wsX40)
def wsX4_nextBoat : List Cond := .code yX4_nextBoat cX4_nextBoat 4 (some .int) :: ([.fieldLink RX4 119 "ThriftLockModel" "came" "I", .fieldLink RX4 40 "ThriftLockModel" "isWaiting" "[Z", .fieldLink RX4 37 "ThriftLockModel" "wayOf" "[I", .fieldLink RX4 135 "ThriftLockModel" "rule" "I", .methodLink RX4 138 yX4_isSide, .instanceMethod yX4_isSide, .selects RX4 yX4_isSide yX4_isSide, .initialized RX4, .code yX4_isSide cX4_isSide 2 (some .boolean), .fieldLink RX4 90 "ThriftLockModel" "full" "Z"] ++ wsX40)
def wsX4_nextBy : List Cond := .code yX4_nextBy cX4_nextBy 3 (some .int) :: ([.fieldLink RX4 37 "ThriftLockModel" "wayOf" "[I", .methodLink RX4 141 yX4_nextBoat, .instanceMethod yX4_nextBoat, .selects RX4 yX4_nextBoat yX4_nextBoat, .initialized RX4, .code yX4_nextBoat cX4_nextBoat 4 (some .int), .fieldLink RX4 119 "ThriftLockModel" "came" "I", .fieldLink RX4 40 "ThriftLockModel" "isWaiting" "[Z", .fieldLink RX4 135 "ThriftLockModel" "rule" "I", .methodLink RX4 138 yX4_isSide, .instanceMethod yX4_isSide, .selects RX4 yX4_isSide yX4_isSide, .code yX4_isSide cX4_isSide 2 (some .boolean), .fieldLink RX4 90 "ThriftLockModel" "full" "Z"] ++ wsX40)
def wsX4_next : List Cond := .code yX4_next cX4_next 2 (some .int) :: ([.methodLink RX4 122 yX4_isTwo, .static yX4_isTwo, .initialized RX4, .code yX4_isTwo cX4_isTwo 1 (some .boolean), .methodLink RX4 60 yX4_in, .static yX4_in, .code yX4_in cX4_in 6 (some .boolean), .methodLink RX4 145 yX4_nextBy, .instanceMethod yX4_nextBy, .selects RX4 yX4_nextBy yX4_nextBy, .code yX4_nextBy cX4_nextBy 3 (some .int), .fieldLink RX4 37 "ThriftLockModel" "wayOf" "[I", .methodLink RX4 141 yX4_nextBoat, .instanceMethod yX4_nextBoat, .selects RX4 yX4_nextBoat yX4_nextBoat, .code yX4_nextBoat cX4_nextBoat 4 (some .int), .fieldLink RX4 119 "ThriftLockModel" "came" "I", .fieldLink RX4 40 "ThriftLockModel" "isWaiting" "[Z", .fieldLink RX4 135 "ThriftLockModel" "rule" "I", .methodLink RX4 138 yX4_isSide, .instanceMethod yX4_isSide, .selects RX4 yX4_isSide yX4_isSide, .code yX4_isSide cX4_isSide 2 (some .boolean), .fieldLink RX4 90 "ThriftLockModel" "full" "Z"] ++ wsX40)
def wsX4_goesTo : List Cond := .code yX4_goesTo cX4_goesTo 7 (some .int) :: ([.fieldLink RX4 96 "ThriftLockModel" "basins" "I", .fieldLink RX4 34 "ThriftLockModel" "held" "[I", .fieldLink RX4 99 "ThriftLockModel" "out" "I", .fieldLink RX4 25 "ThriftLockModel" "room" "[I", .methodLink RX4 108 yX4_levelOf, .instanceMethod yX4_levelOf, .selects RX4 yX4_levelOf yX4_levelOf, .initialized RX4, .code yX4_levelOf cX4_levelOf 3 (some .int), .fieldLink RX4 22 "ThriftLockModel" "bottom" "[I", .fieldLink RX4 28 "ThriftLockModel" "wide" "[I", .methodLink RX4 148 yX4_isIn, .static yX4_isIn, .code yX4_isIn cX4_isIn 2 (some .boolean), .methodLink RX4 152 yX4_greater, .static yX4_greater, .code yX4_greater cX4_greater 2 (some .int)] ++ wsX40)
def wsX4_comesFrom : List Cond := .code yX4_comesFrom cX4_comesFrom 7 (some .int) :: ([.constant RX4 155 (999999), .fieldLink RX4 96 "ThriftLockModel" "basins" "I", .fieldLink RX4 34 "ThriftLockModel" "held" "[I", .fieldLink RX4 99 "ThriftLockModel" "out" "I", .methodLink RX4 108 yX4_levelOf, .instanceMethod yX4_levelOf, .selects RX4 yX4_levelOf yX4_levelOf, .initialized RX4, .code yX4_levelOf cX4_levelOf 3 (some .int), .fieldLink RX4 22 "ThriftLockModel" "bottom" "[I", .fieldLink RX4 28 "ThriftLockModel" "wide" "[I", .methodLink RX4 148 yX4_isIn, .static yX4_isIn, .code yX4_isIn cX4_isIn 2 (some .boolean), .methodLink RX4 156 yX4_lesser, .static yX4_lesser, .code yX4_lesser cX4_lesser 2 (some .int)] ++ wsX40)
def wsX4_moves_r1 : List Cond := [Cond.fieldLink RX4 159 "ThriftLockModel" "without" "I", Cond.fieldLink RX4 162 "ThriftLockModel" "leaks" "I", Cond.fieldLink RX4 47 "ThriftLockModel" "went" "[I", Cond.fieldLink RX4 56 "ThriftLockModel" "head" "I", Cond.fieldLink RX4 90 "ThriftLockModel" "full" "Z", Cond.fieldLink RX4 44 "ThriftLockModel" "steps" "[I", Cond.fieldLink RX4 34 "ThriftLockModel" "held" "[I", Cond.fieldLink RX4 96 "ThriftLockModel" "basins" "I", Cond.fieldLink RX4 31 "ThriftLockModel" "leak" "[I", Cond.methodLink RX4 165 yX4_goesTo, Cond.instanceMethod yX4_goesTo, Cond.selects RX4 yX4_goesTo yX4_goesTo, Cond.initialized RX4, Cond.code yX4_goesTo cX4_goesTo 7 (some .int), Cond.fieldLink RX4 99 "ThriftLockModel" "out" "I", Cond.fieldLink RX4 25 "ThriftLockModel" "room" "[I", Cond.methodLink RX4 108 yX4_levelOf, Cond.instanceMethod yX4_levelOf, Cond.selects RX4 yX4_levelOf yX4_levelOf, Cond.code yX4_levelOf cX4_levelOf 3 (some .int), Cond.fieldLink RX4 22 "ThriftLockModel" "bottom" "[I", Cond.fieldLink RX4 28 "ThriftLockModel" "wide" "[I", Cond.methodLink RX4 148 yX4_isIn, Cond.static yX4_isIn]
def wsX4_moves_r2 : List Cond := [Cond.code yX4_isIn cX4_isIn 2 (some .boolean), Cond.methodLink RX4 152 yX4_greater, Cond.static yX4_greater, Cond.code yX4_greater cX4_greater 2 (some .int), Cond.methodLink RX4 168 yX4_comesFrom, Cond.instanceMethod yX4_comesFrom, Cond.selects RX4 yX4_comesFrom yX4_comesFrom, Cond.code yX4_comesFrom cX4_comesFrom 7 (some .int), Cond.constant RX4 155 (999999), Cond.methodLink RX4 156 yX4_lesser, Cond.static yX4_lesser, Cond.code yX4_lesser cX4_lesser 2 (some .int)]
def wsX4_moves : List Cond := .code yX4_moves cX4_moves 3 none :: ((wsX4_moves_r1 ++ wsX4_moves_r2) ++ wsX40)
def wsX4_keeps : List Cond := .code yX4_keeps cX4_keeps 2 none :: ([.fieldLink RX4 90 "ThriftLockModel" "full" "Z", .fieldLink RX4 171 "ThriftLockModel" "keptFull" "Z", .fieldLink RX4 50 "ThriftLockModel" "kept" "[I", .fieldLink RX4 34 "ThriftLockModel" "held" "[I"] ++ wsX40)
def wsX4_takesBack : List Cond := .code yX4_takesBack cX4_takesBack 2 none :: ([.fieldLink RX4 171 "ThriftLockModel" "keptFull" "Z", .fieldLink RX4 90 "ThriftLockModel" "full" "Z", .fieldLink RX4 34 "ThriftLockModel" "held" "[I", .fieldLink RX4 50 "ThriftLockModel" "kept" "[I"] ++ wsX40)
def wsX4_does_r1 : List Cond := [Cond.fieldLink RX4 174 "ThriftLockModel" "turns" "I", Cond.fieldLink RX4 90 "ThriftLockModel" "full" "Z", Cond.fieldLink RX4 53 "ThriftLockModel" "ledger" "[I", Cond.fieldLink RX4 56 "ThriftLockModel" "head" "I", Cond.fieldLink RX4 159 "ThriftLockModel" "without" "I", Cond.fieldLink RX4 162 "ThriftLockModel" "leaks" "I", Cond.fieldLink RX4 47 "ThriftLockModel" "went" "[I", Cond.fieldLink RX4 180 "ThriftLockModel" "drawnEver" "I", Cond.fieldLink RX4 183 "ThriftLockModel" "lostEver" "I", Cond.fieldLink RX4 186 "ThriftLockModel" "leakedEver" "I", Cond.fieldLink RX4 189 "ThriftLockModel" "turnsEver" "I", Cond.methodLink RX4 177 yX4_moves, Cond.instanceMethod yX4_moves, Cond.selects RX4 yX4_moves yX4_moves, Cond.initialized RX4, Cond.code yX4_moves cX4_moves 3 none, Cond.fieldLink RX4 44 "ThriftLockModel" "steps" "[I", Cond.fieldLink RX4 34 "ThriftLockModel" "held" "[I", Cond.fieldLink RX4 96 "ThriftLockModel" "basins" "I", Cond.fieldLink RX4 31 "ThriftLockModel" "leak" "[I", Cond.methodLink RX4 165 yX4_goesTo, Cond.instanceMethod yX4_goesTo, Cond.selects RX4 yX4_goesTo yX4_goesTo, Cond.code yX4_goesTo cX4_goesTo 7 (some .int)]
def wsX4_does_r2 : List Cond := [Cond.fieldLink RX4 99 "ThriftLockModel" "out" "I", Cond.fieldLink RX4 25 "ThriftLockModel" "room" "[I", Cond.methodLink RX4 108 yX4_levelOf, Cond.instanceMethod yX4_levelOf, Cond.selects RX4 yX4_levelOf yX4_levelOf, Cond.code yX4_levelOf cX4_levelOf 3 (some .int), Cond.fieldLink RX4 22 "ThriftLockModel" "bottom" "[I", Cond.fieldLink RX4 28 "ThriftLockModel" "wide" "[I", Cond.methodLink RX4 148 yX4_isIn, Cond.static yX4_isIn, Cond.code yX4_isIn cX4_isIn 2 (some .boolean), Cond.methodLink RX4 152 yX4_greater, Cond.static yX4_greater, Cond.code yX4_greater cX4_greater 2 (some .int), Cond.methodLink RX4 168 yX4_comesFrom, Cond.instanceMethod yX4_comesFrom, Cond.selects RX4 yX4_comesFrom yX4_comesFrom, Cond.code yX4_comesFrom cX4_comesFrom 7 (some .int), Cond.constant RX4 155 (999999), Cond.methodLink RX4 156 yX4_lesser, Cond.static yX4_lesser, Cond.code yX4_lesser cX4_lesser 2 (some .int)]
def wsX4_does : List Cond := .code yX4_does cX4_does 5 none :: ((wsX4_does_r1 ++ wsX4_does_r2) ++ wsX40)
def wsX4_serve_r1 : List Cond := [Cond.fieldLink RX4 174 "ThriftLockModel" "turns" "I", Cond.fieldLink RX4 37 "ThriftLockModel" "wayOf" "[I", Cond.fieldLink RX4 40 "ThriftLockModel" "isWaiting" "[Z", Cond.methodLink RX4 141 yX4_nextBoat, Cond.instanceMethod yX4_nextBoat, Cond.selects RX4 yX4_nextBoat yX4_nextBoat, Cond.initialized RX4, Cond.code yX4_nextBoat cX4_nextBoat 4 (some .int), Cond.fieldLink RX4 119 "ThriftLockModel" "came" "I", Cond.fieldLink RX4 135 "ThriftLockModel" "rule" "I", Cond.methodLink RX4 138 yX4_isSide, Cond.instanceMethod yX4_isSide, Cond.selects RX4 yX4_isSide yX4_isSide, Cond.code yX4_isSide cX4_isSide 2 (some .boolean), Cond.fieldLink RX4 90 "ThriftLockModel" "full" "Z", Cond.methodLink RX4 145 yX4_nextBy, Cond.instanceMethod yX4_nextBy, Cond.selects RX4 yX4_nextBy yX4_nextBy, Cond.code yX4_nextBy cX4_nextBy 3 (some .int), Cond.methodLink RX4 192 yX4_does, Cond.instanceMethod yX4_does, Cond.selects RX4 yX4_does yX4_does, Cond.code yX4_does cX4_does 5 none, Cond.fieldLink RX4 53 "ThriftLockModel" "ledger" "[I"]
def wsX4_serve_r2 : List Cond := [Cond.fieldLink RX4 56 "ThriftLockModel" "head" "I", Cond.fieldLink RX4 159 "ThriftLockModel" "without" "I", Cond.fieldLink RX4 162 "ThriftLockModel" "leaks" "I", Cond.fieldLink RX4 47 "ThriftLockModel" "went" "[I", Cond.fieldLink RX4 180 "ThriftLockModel" "drawnEver" "I", Cond.fieldLink RX4 183 "ThriftLockModel" "lostEver" "I", Cond.fieldLink RX4 186 "ThriftLockModel" "leakedEver" "I", Cond.fieldLink RX4 189 "ThriftLockModel" "turnsEver" "I", Cond.methodLink RX4 177 yX4_moves, Cond.instanceMethod yX4_moves, Cond.selects RX4 yX4_moves yX4_moves, Cond.code yX4_moves cX4_moves 3 none, Cond.fieldLink RX4 44 "ThriftLockModel" "steps" "[I", Cond.fieldLink RX4 34 "ThriftLockModel" "held" "[I", Cond.fieldLink RX4 96 "ThriftLockModel" "basins" "I", Cond.fieldLink RX4 31 "ThriftLockModel" "leak" "[I", Cond.methodLink RX4 165 yX4_goesTo, Cond.instanceMethod yX4_goesTo, Cond.selects RX4 yX4_goesTo yX4_goesTo, Cond.code yX4_goesTo cX4_goesTo 7 (some .int), Cond.fieldLink RX4 99 "ThriftLockModel" "out" "I", Cond.fieldLink RX4 25 "ThriftLockModel" "room" "[I", Cond.methodLink RX4 108 yX4_levelOf, Cond.instanceMethod yX4_levelOf]
def wsX4_serve_r3 : List Cond := [Cond.selects RX4 yX4_levelOf yX4_levelOf, Cond.code yX4_levelOf cX4_levelOf 3 (some .int), Cond.fieldLink RX4 22 "ThriftLockModel" "bottom" "[I", Cond.fieldLink RX4 28 "ThriftLockModel" "wide" "[I", Cond.methodLink RX4 148 yX4_isIn, Cond.static yX4_isIn, Cond.code yX4_isIn cX4_isIn 2 (some .boolean), Cond.methodLink RX4 152 yX4_greater, Cond.static yX4_greater, Cond.code yX4_greater cX4_greater 2 (some .int), Cond.methodLink RX4 168 yX4_comesFrom, Cond.instanceMethod yX4_comesFrom, Cond.selects RX4 yX4_comesFrom yX4_comesFrom, Cond.code yX4_comesFrom cX4_comesFrom 7 (some .int), Cond.constant RX4 155 (999999), Cond.methodLink RX4 156 yX4_lesser, Cond.static yX4_lesser, Cond.code yX4_lesser cX4_lesser 2 (some .int)]
def wsX4_serve : List Cond := .code yX4_serve cX4_serve 2 (some .int) :: ((wsX4_serve_r1 ++ (wsX4_serve_r2 ++ wsX4_serve_r3)) ++ wsX40)
def wsX4_turn_r1 : List Cond := [Cond.fieldLink RX4 174 "ThriftLockModel" "turns" "I", Cond.fieldLink RX4 159 "ThriftLockModel" "without" "I", Cond.methodLink RX4 192 yX4_does, Cond.instanceMethod yX4_does, Cond.selects RX4 yX4_does yX4_does, Cond.initialized RX4, Cond.code yX4_does cX4_does 5 none, Cond.fieldLink RX4 90 "ThriftLockModel" "full" "Z", Cond.fieldLink RX4 53 "ThriftLockModel" "ledger" "[I", Cond.fieldLink RX4 56 "ThriftLockModel" "head" "I", Cond.fieldLink RX4 162 "ThriftLockModel" "leaks" "I", Cond.fieldLink RX4 47 "ThriftLockModel" "went" "[I", Cond.fieldLink RX4 180 "ThriftLockModel" "drawnEver" "I", Cond.fieldLink RX4 183 "ThriftLockModel" "lostEver" "I", Cond.fieldLink RX4 186 "ThriftLockModel" "leakedEver" "I", Cond.fieldLink RX4 189 "ThriftLockModel" "turnsEver" "I", Cond.methodLink RX4 177 yX4_moves, Cond.instanceMethod yX4_moves, Cond.selects RX4 yX4_moves yX4_moves, Cond.code yX4_moves cX4_moves 3 none, Cond.fieldLink RX4 44 "ThriftLockModel" "steps" "[I", Cond.fieldLink RX4 34 "ThriftLockModel" "held" "[I", Cond.fieldLink RX4 96 "ThriftLockModel" "basins" "I", Cond.fieldLink RX4 31 "ThriftLockModel" "leak" "[I"]
def wsX4_turn_r2 : List Cond := [Cond.methodLink RX4 165 yX4_goesTo, Cond.instanceMethod yX4_goesTo, Cond.selects RX4 yX4_goesTo yX4_goesTo, Cond.code yX4_goesTo cX4_goesTo 7 (some .int), Cond.fieldLink RX4 99 "ThriftLockModel" "out" "I", Cond.fieldLink RX4 25 "ThriftLockModel" "room" "[I", Cond.methodLink RX4 108 yX4_levelOf, Cond.instanceMethod yX4_levelOf, Cond.selects RX4 yX4_levelOf yX4_levelOf, Cond.code yX4_levelOf cX4_levelOf 3 (some .int), Cond.fieldLink RX4 22 "ThriftLockModel" "bottom" "[I", Cond.fieldLink RX4 28 "ThriftLockModel" "wide" "[I", Cond.methodLink RX4 148 yX4_isIn, Cond.static yX4_isIn, Cond.code yX4_isIn cX4_isIn 2 (some .boolean), Cond.methodLink RX4 152 yX4_greater, Cond.static yX4_greater, Cond.code yX4_greater cX4_greater 2 (some .int), Cond.methodLink RX4 168 yX4_comesFrom, Cond.instanceMethod yX4_comesFrom, Cond.selects RX4 yX4_comesFrom yX4_comesFrom, Cond.code yX4_comesFrom cX4_comesFrom 7 (some .int), Cond.constant RX4 155 (999999), Cond.methodLink RX4 156 yX4_lesser]
def wsX4_turn_r3 : List Cond := [Cond.static yX4_lesser, Cond.code yX4_lesser cX4_lesser 2 (some .int)]
def wsX4_turn : List Cond := .code yX4_turn cX4_turn 1 (some .int) :: ((wsX4_turn_r1 ++ (wsX4_turn_r2 ++ wsX4_turn_r3)) ++ wsX40)
def wsX4_ledger : List Cond := .code yX4_ledger cX4_ledger 3 (some .int) :: ([.fieldLink RX4 174 "ThriftLockModel" "turns" "I", .constantLong RX4 196 (8), .fieldLink RX4 53 "ThriftLockModel" "ledger" "[I", .methodLink RX4 60 yX4_in, .static yX4_in, .initialized RX4, .code yX4_in cX4_in 6 (some .boolean)] ++ wsX40)
def wsX4_wipe : List Cond := .code yX4_wipe cX4_wipe 2 (some .int) :: ([.fieldLink RX4 174 "ThriftLockModel" "turns" "I"] ++ wsX40)
def wsX4_inBasins : List Cond := .code yX4_inBasins cX4_inBasins 3 (some .int) :: ([.fieldLink RX4 96 "ThriftLockModel" "basins" "I", .fieldLink RX4 34 "ThriftLockModel" "held" "[I"] ++ wsX40)
def wsX4_totalBy : List Cond := .code yX4_totalBy cX4_totalBy 2 (some .int) :: ([.fieldLink RX4 180 "ThriftLockModel" "drawnEver" "I", .fieldLink RX4 183 "ThriftLockModel" "lostEver" "I", .fieldLink RX4 186 "ThriftLockModel" "leakedEver" "I", .fieldLink RX4 189 "ThriftLockModel" "turnsEver" "I", .methodLink RX4 198 yX4_inBasins, .instanceMethod yX4_inBasins, .selects RX4 yX4_inBasins yX4_inBasins, .initialized RX4, .code yX4_inBasins cX4_inBasins 3 (some .int), .fieldLink RX4 96 "ThriftLockModel" "basins" "I", .fieldLink RX4 34 "ThriftLockModel" "held" "[I"] ++ wsX40)
def wsX4_total : List Cond := .code yX4_total cX4_total 2 (some .int) :: ([.constantLong RX4 201 (4), .methodLink RX4 60 yX4_in, .static yX4_in, .initialized RX4, .code yX4_in cX4_in 6 (some .boolean), .methodLink RX4 203 yX4_totalBy, .instanceMethod yX4_totalBy, .selects RX4 yX4_totalBy yX4_totalBy, .code yX4_totalBy cX4_totalBy 2 (some .int), .fieldLink RX4 180 "ThriftLockModel" "drawnEver" "I", .fieldLink RX4 183 "ThriftLockModel" "lostEver" "I", .fieldLink RX4 186 "ThriftLockModel" "leakedEver" "I", .fieldLink RX4 189 "ThriftLockModel" "turnsEver" "I", .methodLink RX4 198 yX4_inBasins, .instanceMethod yX4_inBasins, .selects RX4 yX4_inBasins yX4_inBasins, .code yX4_inBasins cX4_inBasins 3 (some .int), .fieldLink RX4 96 "ThriftLockModel" "basins" "I", .fieldLink RX4 34 "ThriftLockModel" "held" "[I"] ++ wsX40)
def wsX4_looks_r1 : List Cond := [Cond.methodLink RX4 206 yX4_keeps, Cond.instanceMethod yX4_keeps, Cond.selects RX4 yX4_keeps yX4_keeps, Cond.initialized RX4, Cond.code yX4_keeps cX4_keeps 2 none, Cond.fieldLink RX4 90 "ThriftLockModel" "full" "Z", Cond.fieldLink RX4 171 "ThriftLockModel" "keptFull" "Z", Cond.fieldLink RX4 50 "ThriftLockModel" "kept" "[I", Cond.fieldLink RX4 34 "ThriftLockModel" "held" "[I", Cond.methodLink RX4 177 yX4_moves, Cond.instanceMethod yX4_moves, Cond.selects RX4 yX4_moves yX4_moves, Cond.code yX4_moves cX4_moves 3 none, Cond.fieldLink RX4 159 "ThriftLockModel" "without" "I", Cond.fieldLink RX4 162 "ThriftLockModel" "leaks" "I", Cond.fieldLink RX4 47 "ThriftLockModel" "went" "[I", Cond.fieldLink RX4 56 "ThriftLockModel" "head" "I", Cond.fieldLink RX4 44 "ThriftLockModel" "steps" "[I", Cond.fieldLink RX4 96 "ThriftLockModel" "basins" "I", Cond.fieldLink RX4 31 "ThriftLockModel" "leak" "[I", Cond.methodLink RX4 165 yX4_goesTo, Cond.instanceMethod yX4_goesTo, Cond.selects RX4 yX4_goesTo yX4_goesTo, Cond.code yX4_goesTo cX4_goesTo 7 (some .int)]
def wsX4_looks_r2 : List Cond := [Cond.fieldLink RX4 99 "ThriftLockModel" "out" "I", Cond.fieldLink RX4 25 "ThriftLockModel" "room" "[I", Cond.methodLink RX4 108 yX4_levelOf, Cond.instanceMethod yX4_levelOf, Cond.selects RX4 yX4_levelOf yX4_levelOf, Cond.code yX4_levelOf cX4_levelOf 3 (some .int), Cond.fieldLink RX4 22 "ThriftLockModel" "bottom" "[I", Cond.fieldLink RX4 28 "ThriftLockModel" "wide" "[I", Cond.methodLink RX4 148 yX4_isIn, Cond.static yX4_isIn, Cond.code yX4_isIn cX4_isIn 2 (some .boolean), Cond.methodLink RX4 152 yX4_greater, Cond.static yX4_greater, Cond.code yX4_greater cX4_greater 2 (some .int), Cond.methodLink RX4 168 yX4_comesFrom, Cond.instanceMethod yX4_comesFrom, Cond.selects RX4 yX4_comesFrom yX4_comesFrom, Cond.code yX4_comesFrom cX4_comesFrom 7 (some .int), Cond.constant RX4 155 (999999), Cond.methodLink RX4 156 yX4_lesser, Cond.static yX4_lesser, Cond.code yX4_lesser cX4_lesser 2 (some .int), Cond.methodLink RX4 209 yX4_takesBack, Cond.instanceMethod yX4_takesBack]
def wsX4_looks_r3 : List Cond := [Cond.selects RX4 yX4_takesBack yX4_takesBack, Cond.code yX4_takesBack cX4_takesBack 2 none]
def wsX4_looks : List Cond := .code yX4_looks cX4_looks 1 none :: ((wsX4_looks_r1 ++ (wsX4_looks_r2 ++ wsX4_looks_r3)) ++ wsX40)
def wsX4_stepBy : List Cond := .code yX4_stepBy cX4_stepBy 2 (some .int) :: ([.fieldLink RX4 56 "ThriftLockModel" "head" "I", .fieldLink RX4 44 "ThriftLockModel" "steps" "[I"] ++ wsX40)
def wsX4_step_r1 : List Cond := [Cond.constantLong RX4 128 (-1), Cond.constantLong RX4 94 (59), Cond.methodLink RX4 212 yX4_looks, Cond.instanceMethod yX4_looks, Cond.selects RX4 yX4_looks yX4_looks, Cond.initialized RX4, Cond.code yX4_looks cX4_looks 1 none, Cond.methodLink RX4 206 yX4_keeps, Cond.instanceMethod yX4_keeps, Cond.selects RX4 yX4_keeps yX4_keeps, Cond.code yX4_keeps cX4_keeps 2 none, Cond.fieldLink RX4 90 "ThriftLockModel" "full" "Z", Cond.fieldLink RX4 171 "ThriftLockModel" "keptFull" "Z", Cond.fieldLink RX4 50 "ThriftLockModel" "kept" "[I", Cond.fieldLink RX4 34 "ThriftLockModel" "held" "[I", Cond.methodLink RX4 177 yX4_moves, Cond.instanceMethod yX4_moves, Cond.selects RX4 yX4_moves yX4_moves, Cond.code yX4_moves cX4_moves 3 none, Cond.fieldLink RX4 159 "ThriftLockModel" "without" "I", Cond.fieldLink RX4 162 "ThriftLockModel" "leaks" "I", Cond.fieldLink RX4 47 "ThriftLockModel" "went" "[I", Cond.fieldLink RX4 56 "ThriftLockModel" "head" "I", Cond.fieldLink RX4 44 "ThriftLockModel" "steps" "[I"]
def wsX4_step_r2 : List Cond := [Cond.fieldLink RX4 96 "ThriftLockModel" "basins" "I", Cond.fieldLink RX4 31 "ThriftLockModel" "leak" "[I", Cond.methodLink RX4 165 yX4_goesTo, Cond.instanceMethod yX4_goesTo, Cond.selects RX4 yX4_goesTo yX4_goesTo, Cond.code yX4_goesTo cX4_goesTo 7 (some .int), Cond.fieldLink RX4 99 "ThriftLockModel" "out" "I", Cond.fieldLink RX4 25 "ThriftLockModel" "room" "[I", Cond.methodLink RX4 108 yX4_levelOf, Cond.instanceMethod yX4_levelOf, Cond.selects RX4 yX4_levelOf yX4_levelOf, Cond.code yX4_levelOf cX4_levelOf 3 (some .int), Cond.fieldLink RX4 22 "ThriftLockModel" "bottom" "[I", Cond.fieldLink RX4 28 "ThriftLockModel" "wide" "[I", Cond.methodLink RX4 148 yX4_isIn, Cond.static yX4_isIn, Cond.code yX4_isIn cX4_isIn 2 (some .boolean), Cond.methodLink RX4 152 yX4_greater, Cond.static yX4_greater, Cond.code yX4_greater cX4_greater 2 (some .int), Cond.methodLink RX4 168 yX4_comesFrom, Cond.instanceMethod yX4_comesFrom, Cond.selects RX4 yX4_comesFrom yX4_comesFrom, Cond.code yX4_comesFrom cX4_comesFrom 7 (some .int)]
def wsX4_step_r3 : List Cond := [Cond.constant RX4 155 (999999), Cond.methodLink RX4 156 yX4_lesser, Cond.static yX4_lesser, Cond.code yX4_lesser cX4_lesser 2 (some .int), Cond.methodLink RX4 209 yX4_takesBack, Cond.instanceMethod yX4_takesBack, Cond.selects RX4 yX4_takesBack yX4_takesBack, Cond.code yX4_takesBack cX4_takesBack 2 none, Cond.methodLink RX4 60 yX4_in, Cond.static yX4_in, Cond.code yX4_in cX4_in 6 (some .boolean), Cond.methodLink RX4 215 yX4_stepBy, Cond.instanceMethod yX4_stepBy, Cond.selects RX4 yX4_stepBy yX4_stepBy, Cond.code yX4_stepBy cX4_stepBy 2 (some .int)]
def wsX4_step : List Cond := .code yX4_step cX4_step 2 (some .int) :: ((wsX4_step_r1 ++ (wsX4_step_r2 ++ wsX4_step_r3)) ++ wsX40)
def wsX4_aheadOf_r1 : List Cond := [Cond.fieldLink RX4 90 "ThriftLockModel" "full" "Z", Cond.fieldLink RX4 159 "ThriftLockModel" "without" "I", Cond.methodLink RX4 206 yX4_keeps, Cond.instanceMethod yX4_keeps, Cond.selects RX4 yX4_keeps yX4_keeps, Cond.initialized RX4, Cond.code yX4_keeps cX4_keeps 2 none, Cond.fieldLink RX4 171 "ThriftLockModel" "keptFull" "Z", Cond.fieldLink RX4 50 "ThriftLockModel" "kept" "[I", Cond.fieldLink RX4 34 "ThriftLockModel" "held" "[I", Cond.methodLink RX4 177 yX4_moves, Cond.instanceMethod yX4_moves, Cond.selects RX4 yX4_moves yX4_moves, Cond.code yX4_moves cX4_moves 3 none, Cond.fieldLink RX4 162 "ThriftLockModel" "leaks" "I", Cond.fieldLink RX4 47 "ThriftLockModel" "went" "[I", Cond.fieldLink RX4 56 "ThriftLockModel" "head" "I", Cond.fieldLink RX4 44 "ThriftLockModel" "steps" "[I", Cond.fieldLink RX4 96 "ThriftLockModel" "basins" "I", Cond.fieldLink RX4 31 "ThriftLockModel" "leak" "[I", Cond.methodLink RX4 165 yX4_goesTo, Cond.instanceMethod yX4_goesTo, Cond.selects RX4 yX4_goesTo yX4_goesTo, Cond.code yX4_goesTo cX4_goesTo 7 (some .int)]
def wsX4_aheadOf_r2 : List Cond := [Cond.fieldLink RX4 99 "ThriftLockModel" "out" "I", Cond.fieldLink RX4 25 "ThriftLockModel" "room" "[I", Cond.methodLink RX4 108 yX4_levelOf, Cond.instanceMethod yX4_levelOf, Cond.selects RX4 yX4_levelOf yX4_levelOf, Cond.code yX4_levelOf cX4_levelOf 3 (some .int), Cond.fieldLink RX4 22 "ThriftLockModel" "bottom" "[I", Cond.fieldLink RX4 28 "ThriftLockModel" "wide" "[I", Cond.methodLink RX4 148 yX4_isIn, Cond.static yX4_isIn, Cond.code yX4_isIn cX4_isIn 2 (some .boolean), Cond.methodLink RX4 152 yX4_greater, Cond.static yX4_greater, Cond.code yX4_greater cX4_greater 2 (some .int), Cond.methodLink RX4 168 yX4_comesFrom, Cond.instanceMethod yX4_comesFrom, Cond.selects RX4 yX4_comesFrom yX4_comesFrom, Cond.code yX4_comesFrom cX4_comesFrom 7 (some .int), Cond.constant RX4 155 (999999), Cond.methodLink RX4 156 yX4_lesser, Cond.static yX4_lesser, Cond.code yX4_lesser cX4_lesser 2 (some .int), Cond.methodLink RX4 209 yX4_takesBack, Cond.instanceMethod yX4_takesBack]
def wsX4_aheadOf_r3 : List Cond := [Cond.selects RX4 yX4_takesBack yX4_takesBack, Cond.code yX4_takesBack cX4_takesBack 2 none]
def wsX4_aheadOf : List Cond := .code yX4_aheadOf cX4_aheadOf 5 (some .int) :: ((wsX4_aheadOf_r1 ++ (wsX4_aheadOf_r2 ++ wsX4_aheadOf_r3)) ++ wsX40)
def wsX4_ahead_r1 : List Cond := [Cond.constantLong RX4 218 (40), Cond.methodLink RX4 60 yX4_in, Cond.static yX4_in, Cond.initialized RX4, Cond.code yX4_in cX4_in 6 (some .boolean), Cond.methodLink RX4 220 yX4_aheadOf, Cond.instanceMethod yX4_aheadOf, Cond.selects RX4 yX4_aheadOf yX4_aheadOf, Cond.code yX4_aheadOf cX4_aheadOf 5 (some .int), Cond.fieldLink RX4 90 "ThriftLockModel" "full" "Z", Cond.fieldLink RX4 159 "ThriftLockModel" "without" "I", Cond.methodLink RX4 206 yX4_keeps, Cond.instanceMethod yX4_keeps, Cond.selects RX4 yX4_keeps yX4_keeps, Cond.code yX4_keeps cX4_keeps 2 none, Cond.fieldLink RX4 171 "ThriftLockModel" "keptFull" "Z", Cond.fieldLink RX4 50 "ThriftLockModel" "kept" "[I", Cond.fieldLink RX4 34 "ThriftLockModel" "held" "[I", Cond.methodLink RX4 177 yX4_moves, Cond.instanceMethod yX4_moves, Cond.selects RX4 yX4_moves yX4_moves, Cond.code yX4_moves cX4_moves 3 none, Cond.fieldLink RX4 162 "ThriftLockModel" "leaks" "I", Cond.fieldLink RX4 47 "ThriftLockModel" "went" "[I"]
def wsX4_ahead_r2 : List Cond := [Cond.fieldLink RX4 56 "ThriftLockModel" "head" "I", Cond.fieldLink RX4 44 "ThriftLockModel" "steps" "[I", Cond.fieldLink RX4 96 "ThriftLockModel" "basins" "I", Cond.fieldLink RX4 31 "ThriftLockModel" "leak" "[I", Cond.methodLink RX4 165 yX4_goesTo, Cond.instanceMethod yX4_goesTo, Cond.selects RX4 yX4_goesTo yX4_goesTo, Cond.code yX4_goesTo cX4_goesTo 7 (some .int), Cond.fieldLink RX4 99 "ThriftLockModel" "out" "I", Cond.fieldLink RX4 25 "ThriftLockModel" "room" "[I", Cond.methodLink RX4 108 yX4_levelOf, Cond.instanceMethod yX4_levelOf, Cond.selects RX4 yX4_levelOf yX4_levelOf, Cond.code yX4_levelOf cX4_levelOf 3 (some .int), Cond.fieldLink RX4 22 "ThriftLockModel" "bottom" "[I", Cond.fieldLink RX4 28 "ThriftLockModel" "wide" "[I", Cond.methodLink RX4 148 yX4_isIn, Cond.static yX4_isIn, Cond.code yX4_isIn cX4_isIn 2 (some .boolean), Cond.methodLink RX4 152 yX4_greater, Cond.static yX4_greater, Cond.code yX4_greater cX4_greater 2 (some .int), Cond.methodLink RX4 168 yX4_comesFrom, Cond.instanceMethod yX4_comesFrom]
def wsX4_ahead_r3 : List Cond := [Cond.selects RX4 yX4_comesFrom yX4_comesFrom, Cond.code yX4_comesFrom cX4_comesFrom 7 (some .int), Cond.constant RX4 155 (999999), Cond.methodLink RX4 156 yX4_lesser, Cond.static yX4_lesser, Cond.code yX4_lesser cX4_lesser 2 (some .int), Cond.methodLink RX4 209 yX4_takesBack, Cond.instanceMethod yX4_takesBack, Cond.selects RX4 yX4_takesBack yX4_takesBack, Cond.code yX4_takesBack cX4_takesBack 2 none]
def wsX4_ahead : List Cond := .code yX4_ahead cX4_ahead 2 (some .int) :: ((wsX4_ahead_r1 ++ (wsX4_ahead_r2 ++ wsX4_ahead_r3)) ++ wsX40)
def wsX4_betterBy_r1 : List Cond := [Cond.fieldLink RX4 22 "ThriftLockModel" "bottom" "[I", Cond.constant RX4 155 (999999), Cond.methodLink RX4 220 yX4_aheadOf, Cond.instanceMethod yX4_aheadOf, Cond.selects RX4 yX4_aheadOf yX4_aheadOf, Cond.initialized RX4, Cond.code yX4_aheadOf cX4_aheadOf 5 (some .int), Cond.fieldLink RX4 90 "ThriftLockModel" "full" "Z", Cond.fieldLink RX4 159 "ThriftLockModel" "without" "I", Cond.methodLink RX4 206 yX4_keeps, Cond.instanceMethod yX4_keeps, Cond.selects RX4 yX4_keeps yX4_keeps, Cond.code yX4_keeps cX4_keeps 2 none, Cond.fieldLink RX4 171 "ThriftLockModel" "keptFull" "Z", Cond.fieldLink RX4 50 "ThriftLockModel" "kept" "[I", Cond.fieldLink RX4 34 "ThriftLockModel" "held" "[I", Cond.methodLink RX4 177 yX4_moves, Cond.instanceMethod yX4_moves, Cond.selects RX4 yX4_moves yX4_moves, Cond.code yX4_moves cX4_moves 3 none, Cond.fieldLink RX4 162 "ThriftLockModel" "leaks" "I", Cond.fieldLink RX4 47 "ThriftLockModel" "went" "[I", Cond.fieldLink RX4 56 "ThriftLockModel" "head" "I", Cond.fieldLink RX4 44 "ThriftLockModel" "steps" "[I"]
def wsX4_betterBy_r2 : List Cond := [Cond.fieldLink RX4 96 "ThriftLockModel" "basins" "I", Cond.fieldLink RX4 31 "ThriftLockModel" "leak" "[I", Cond.methodLink RX4 165 yX4_goesTo, Cond.instanceMethod yX4_goesTo, Cond.selects RX4 yX4_goesTo yX4_goesTo, Cond.code yX4_goesTo cX4_goesTo 7 (some .int), Cond.fieldLink RX4 99 "ThriftLockModel" "out" "I", Cond.fieldLink RX4 25 "ThriftLockModel" "room" "[I", Cond.methodLink RX4 108 yX4_levelOf, Cond.instanceMethod yX4_levelOf, Cond.selects RX4 yX4_levelOf yX4_levelOf, Cond.code yX4_levelOf cX4_levelOf 3 (some .int), Cond.fieldLink RX4 28 "ThriftLockModel" "wide" "[I", Cond.methodLink RX4 148 yX4_isIn, Cond.static yX4_isIn, Cond.code yX4_isIn cX4_isIn 2 (some .boolean), Cond.methodLink RX4 152 yX4_greater, Cond.static yX4_greater, Cond.code yX4_greater cX4_greater 2 (some .int), Cond.methodLink RX4 168 yX4_comesFrom, Cond.instanceMethod yX4_comesFrom, Cond.selects RX4 yX4_comesFrom yX4_comesFrom, Cond.code yX4_comesFrom cX4_comesFrom 7 (some .int), Cond.methodLink RX4 156 yX4_lesser]
def wsX4_betterBy_r3 : List Cond := [Cond.static yX4_lesser, Cond.code yX4_lesser cX4_lesser 2 (some .int), Cond.methodLink RX4 209 yX4_takesBack, Cond.instanceMethod yX4_takesBack, Cond.selects RX4 yX4_takesBack yX4_takesBack, Cond.code yX4_takesBack cX4_takesBack 2 none]
def wsX4_betterBy : List Cond := .code yX4_betterBy cX4_betterBy 8 (some .int) :: ((wsX4_betterBy_r1 ++ (wsX4_betterBy_r2 ++ wsX4_betterBy_r3)) ++ wsX40)
def wsX4_better_r1 : List Cond := [Cond.methodLink RX4 102 yX4_isBasin, Cond.instanceMethod yX4_isBasin, Cond.selects RX4 yX4_isBasin yX4_isBasin, Cond.initialized RX4, Cond.code yX4_isBasin cX4_isBasin 2 (some .boolean), Cond.fieldLink RX4 96 "ThriftLockModel" "basins" "I", Cond.methodLink RX4 60 yX4_in, Cond.static yX4_in, Cond.code yX4_in cX4_in 6 (some .boolean), Cond.methodLink RX4 122 yX4_isTwo, Cond.static yX4_isTwo, Cond.code yX4_isTwo cX4_isTwo 1 (some .boolean), Cond.methodLink RX4 223 yX4_betterBy, Cond.instanceMethod yX4_betterBy, Cond.selects RX4 yX4_betterBy yX4_betterBy, Cond.code yX4_betterBy cX4_betterBy 8 (some .int), Cond.fieldLink RX4 22 "ThriftLockModel" "bottom" "[I", Cond.constant RX4 155 (999999), Cond.methodLink RX4 220 yX4_aheadOf, Cond.instanceMethod yX4_aheadOf, Cond.selects RX4 yX4_aheadOf yX4_aheadOf, Cond.code yX4_aheadOf cX4_aheadOf 5 (some .int), Cond.fieldLink RX4 90 "ThriftLockModel" "full" "Z", Cond.fieldLink RX4 159 "ThriftLockModel" "without" "I"]
def wsX4_better_r2 : List Cond := [Cond.methodLink RX4 206 yX4_keeps, Cond.instanceMethod yX4_keeps, Cond.selects RX4 yX4_keeps yX4_keeps, Cond.code yX4_keeps cX4_keeps 2 none, Cond.fieldLink RX4 171 "ThriftLockModel" "keptFull" "Z", Cond.fieldLink RX4 50 "ThriftLockModel" "kept" "[I", Cond.fieldLink RX4 34 "ThriftLockModel" "held" "[I", Cond.methodLink RX4 177 yX4_moves, Cond.instanceMethod yX4_moves, Cond.selects RX4 yX4_moves yX4_moves, Cond.code yX4_moves cX4_moves 3 none, Cond.fieldLink RX4 162 "ThriftLockModel" "leaks" "I", Cond.fieldLink RX4 47 "ThriftLockModel" "went" "[I", Cond.fieldLink RX4 56 "ThriftLockModel" "head" "I", Cond.fieldLink RX4 44 "ThriftLockModel" "steps" "[I", Cond.fieldLink RX4 31 "ThriftLockModel" "leak" "[I", Cond.methodLink RX4 165 yX4_goesTo, Cond.instanceMethod yX4_goesTo, Cond.selects RX4 yX4_goesTo yX4_goesTo, Cond.code yX4_goesTo cX4_goesTo 7 (some .int), Cond.fieldLink RX4 99 "ThriftLockModel" "out" "I", Cond.fieldLink RX4 25 "ThriftLockModel" "room" "[I", Cond.methodLink RX4 108 yX4_levelOf, Cond.instanceMethod yX4_levelOf]
def wsX4_better_r3 : List Cond := [Cond.selects RX4 yX4_levelOf yX4_levelOf, Cond.code yX4_levelOf cX4_levelOf 3 (some .int), Cond.fieldLink RX4 28 "ThriftLockModel" "wide" "[I", Cond.methodLink RX4 148 yX4_isIn, Cond.static yX4_isIn, Cond.code yX4_isIn cX4_isIn 2 (some .boolean), Cond.methodLink RX4 152 yX4_greater, Cond.static yX4_greater, Cond.code yX4_greater cX4_greater 2 (some .int), Cond.methodLink RX4 168 yX4_comesFrom, Cond.instanceMethod yX4_comesFrom, Cond.selects RX4 yX4_comesFrom yX4_comesFrom, Cond.code yX4_comesFrom cX4_comesFrom 7 (some .int), Cond.methodLink RX4 156 yX4_lesser, Cond.static yX4_lesser, Cond.code yX4_lesser cX4_lesser 2 (some .int), Cond.methodLink RX4 209 yX4_takesBack, Cond.instanceMethod yX4_takesBack, Cond.selects RX4 yX4_takesBack yX4_takesBack, Cond.code yX4_takesBack cX4_takesBack 2 none]
def wsX4_better : List Cond := .code yX4_better cX4_better 3 (some .int) :: ((wsX4_better_r1 ++ (wsX4_better_r2 ++ wsX4_better_r3)) ++ wsX40)
def wsX4_needlessBy_r1 : List Cond := [Cond.constant RX4 155 (999999), Cond.fieldLink RX4 96 "ThriftLockModel" "basins" "I", Cond.fieldLink RX4 99 "ThriftLockModel" "out" "I", Cond.methodLink RX4 148 yX4_isIn, Cond.static yX4_isIn, Cond.initialized RX4, Cond.code yX4_isIn cX4_isIn 2 (some .boolean), Cond.methodLink RX4 220 yX4_aheadOf, Cond.instanceMethod yX4_aheadOf, Cond.selects RX4 yX4_aheadOf yX4_aheadOf, Cond.code yX4_aheadOf cX4_aheadOf 5 (some .int), Cond.fieldLink RX4 90 "ThriftLockModel" "full" "Z", Cond.fieldLink RX4 159 "ThriftLockModel" "without" "I", Cond.methodLink RX4 206 yX4_keeps, Cond.instanceMethod yX4_keeps, Cond.selects RX4 yX4_keeps yX4_keeps, Cond.code yX4_keeps cX4_keeps 2 none, Cond.fieldLink RX4 171 "ThriftLockModel" "keptFull" "Z", Cond.fieldLink RX4 50 "ThriftLockModel" "kept" "[I", Cond.fieldLink RX4 34 "ThriftLockModel" "held" "[I", Cond.methodLink RX4 177 yX4_moves, Cond.instanceMethod yX4_moves, Cond.selects RX4 yX4_moves yX4_moves, Cond.code yX4_moves cX4_moves 3 none]
def wsX4_needlessBy_r2 : List Cond := [Cond.fieldLink RX4 162 "ThriftLockModel" "leaks" "I", Cond.fieldLink RX4 47 "ThriftLockModel" "went" "[I", Cond.fieldLink RX4 56 "ThriftLockModel" "head" "I", Cond.fieldLink RX4 44 "ThriftLockModel" "steps" "[I", Cond.fieldLink RX4 31 "ThriftLockModel" "leak" "[I", Cond.methodLink RX4 165 yX4_goesTo, Cond.instanceMethod yX4_goesTo, Cond.selects RX4 yX4_goesTo yX4_goesTo, Cond.code yX4_goesTo cX4_goesTo 7 (some .int), Cond.fieldLink RX4 25 "ThriftLockModel" "room" "[I", Cond.methodLink RX4 108 yX4_levelOf, Cond.instanceMethod yX4_levelOf, Cond.selects RX4 yX4_levelOf yX4_levelOf, Cond.code yX4_levelOf cX4_levelOf 3 (some .int), Cond.fieldLink RX4 22 "ThriftLockModel" "bottom" "[I", Cond.fieldLink RX4 28 "ThriftLockModel" "wide" "[I", Cond.methodLink RX4 152 yX4_greater, Cond.static yX4_greater, Cond.code yX4_greater cX4_greater 2 (some .int), Cond.methodLink RX4 168 yX4_comesFrom, Cond.instanceMethod yX4_comesFrom, Cond.selects RX4 yX4_comesFrom yX4_comesFrom, Cond.code yX4_comesFrom cX4_comesFrom 7 (some .int), Cond.methodLink RX4 156 yX4_lesser]
def wsX4_needlessBy_r3 : List Cond := [Cond.static yX4_lesser, Cond.code yX4_lesser cX4_lesser 2 (some .int), Cond.methodLink RX4 209 yX4_takesBack, Cond.instanceMethod yX4_takesBack, Cond.selects RX4 yX4_takesBack yX4_takesBack, Cond.code yX4_takesBack cX4_takesBack 2 none]
def wsX4_needlessBy : List Cond := .code yX4_needlessBy cX4_needlessBy 6 (some .int) :: ((wsX4_needlessBy_r1 ++ (wsX4_needlessBy_r2 ++ wsX4_needlessBy_r3)) ++ wsX40)
def wsX4_needless_r1 : List Cond := [Cond.methodLink RX4 122 yX4_isTwo, Cond.static yX4_isTwo, Cond.initialized RX4, Cond.code yX4_isTwo cX4_isTwo 1 (some .boolean), Cond.methodLink RX4 60 yX4_in, Cond.static yX4_in, Cond.code yX4_in cX4_in 6 (some .boolean), Cond.methodLink RX4 226 yX4_needlessBy, Cond.instanceMethod yX4_needlessBy, Cond.selects RX4 yX4_needlessBy yX4_needlessBy, Cond.code yX4_needlessBy cX4_needlessBy 6 (some .int), Cond.constant RX4 155 (999999), Cond.fieldLink RX4 96 "ThriftLockModel" "basins" "I", Cond.fieldLink RX4 99 "ThriftLockModel" "out" "I", Cond.methodLink RX4 148 yX4_isIn, Cond.static yX4_isIn, Cond.code yX4_isIn cX4_isIn 2 (some .boolean), Cond.methodLink RX4 220 yX4_aheadOf, Cond.instanceMethod yX4_aheadOf, Cond.selects RX4 yX4_aheadOf yX4_aheadOf, Cond.code yX4_aheadOf cX4_aheadOf 5 (some .int), Cond.fieldLink RX4 90 "ThriftLockModel" "full" "Z", Cond.fieldLink RX4 159 "ThriftLockModel" "without" "I", Cond.methodLink RX4 206 yX4_keeps]
def wsX4_needless_r2 : List Cond := [Cond.instanceMethod yX4_keeps, Cond.selects RX4 yX4_keeps yX4_keeps, Cond.code yX4_keeps cX4_keeps 2 none, Cond.fieldLink RX4 171 "ThriftLockModel" "keptFull" "Z", Cond.fieldLink RX4 50 "ThriftLockModel" "kept" "[I", Cond.fieldLink RX4 34 "ThriftLockModel" "held" "[I", Cond.methodLink RX4 177 yX4_moves, Cond.instanceMethod yX4_moves, Cond.selects RX4 yX4_moves yX4_moves, Cond.code yX4_moves cX4_moves 3 none, Cond.fieldLink RX4 162 "ThriftLockModel" "leaks" "I", Cond.fieldLink RX4 47 "ThriftLockModel" "went" "[I", Cond.fieldLink RX4 56 "ThriftLockModel" "head" "I", Cond.fieldLink RX4 44 "ThriftLockModel" "steps" "[I", Cond.fieldLink RX4 31 "ThriftLockModel" "leak" "[I", Cond.methodLink RX4 165 yX4_goesTo, Cond.instanceMethod yX4_goesTo, Cond.selects RX4 yX4_goesTo yX4_goesTo, Cond.code yX4_goesTo cX4_goesTo 7 (some .int), Cond.fieldLink RX4 25 "ThriftLockModel" "room" "[I", Cond.methodLink RX4 108 yX4_levelOf, Cond.instanceMethod yX4_levelOf, Cond.selects RX4 yX4_levelOf yX4_levelOf, Cond.code yX4_levelOf cX4_levelOf 3 (some .int)]
def wsX4_needless_r3 : List Cond := [Cond.fieldLink RX4 22 "ThriftLockModel" "bottom" "[I", Cond.fieldLink RX4 28 "ThriftLockModel" "wide" "[I", Cond.methodLink RX4 152 yX4_greater, Cond.static yX4_greater, Cond.code yX4_greater cX4_greater 2 (some .int), Cond.methodLink RX4 168 yX4_comesFrom, Cond.instanceMethod yX4_comesFrom, Cond.selects RX4 yX4_comesFrom yX4_comesFrom, Cond.code yX4_comesFrom cX4_comesFrom 7 (some .int), Cond.methodLink RX4 156 yX4_lesser, Cond.static yX4_lesser, Cond.code yX4_lesser cX4_lesser 2 (some .int), Cond.methodLink RX4 209 yX4_takesBack, Cond.instanceMethod yX4_takesBack, Cond.selects RX4 yX4_takesBack yX4_takesBack, Cond.code yX4_takesBack cX4_takesBack 2 none]
def wsX4_needless : List Cond := .code yX4_needless cX4_needless 2 (some .int) :: ((wsX4_needless_r1 ++ (wsX4_needless_r2 ++ wsX4_needless_r3)) ++ wsX40)
def wsX4_write_r1 : List Cond := [Cond.fieldLink RX4 7 "ThriftLockModel" "forms" "[I", Cond.fieldLink RX4 13 "ThriftLockModel" "sizes" "[I", Cond.fieldLink RX4 56 "ThriftLockModel" "head" "I", Cond.fieldLink RX4 16 "ThriftLockModel" "items" "[I", Cond.fieldLink RX4 44 "ThriftLockModel" "steps" "[I", Cond.methodLink RX4 69 yX4_isSheet, Cond.static yX4_isSheet, Cond.initialized RX4, Cond.code yX4_isSheet cX4_isSheet 1 (some .boolean), Cond.constantLong RX4 67 (3), Cond.methodLink RX4 60 yX4_in, Cond.static yX4_in, Cond.code yX4_in cX4_in 6 (some .boolean), Cond.methodLink RX4 75 yX4_finds, Cond.instanceMethod yX4_finds, Cond.selects RX4 yX4_finds yX4_finds, Cond.code yX4_finds cX4_finds 2 (some .int), Cond.fieldLink RX4 64 "ThriftLockModel" "latest" "I", Cond.methodLink RX4 212 yX4_looks, Cond.instanceMethod yX4_looks, Cond.selects RX4 yX4_looks yX4_looks, Cond.code yX4_looks cX4_looks 1 none, Cond.methodLink RX4 206 yX4_keeps, Cond.instanceMethod yX4_keeps]
def wsX4_write_r2 : List Cond := [Cond.selects RX4 yX4_keeps yX4_keeps, Cond.code yX4_keeps cX4_keeps 2 none, Cond.fieldLink RX4 90 "ThriftLockModel" "full" "Z", Cond.fieldLink RX4 171 "ThriftLockModel" "keptFull" "Z", Cond.fieldLink RX4 50 "ThriftLockModel" "kept" "[I", Cond.fieldLink RX4 34 "ThriftLockModel" "held" "[I", Cond.methodLink RX4 177 yX4_moves, Cond.instanceMethod yX4_moves, Cond.selects RX4 yX4_moves yX4_moves, Cond.code yX4_moves cX4_moves 3 none, Cond.fieldLink RX4 159 "ThriftLockModel" "without" "I", Cond.fieldLink RX4 162 "ThriftLockModel" "leaks" "I", Cond.fieldLink RX4 47 "ThriftLockModel" "went" "[I", Cond.fieldLink RX4 96 "ThriftLockModel" "basins" "I", Cond.fieldLink RX4 31 "ThriftLockModel" "leak" "[I", Cond.methodLink RX4 165 yX4_goesTo, Cond.instanceMethod yX4_goesTo, Cond.selects RX4 yX4_goesTo yX4_goesTo, Cond.code yX4_goesTo cX4_goesTo 7 (some .int), Cond.fieldLink RX4 99 "ThriftLockModel" "out" "I", Cond.fieldLink RX4 25 "ThriftLockModel" "room" "[I", Cond.methodLink RX4 108 yX4_levelOf, Cond.instanceMethod yX4_levelOf, Cond.selects RX4 yX4_levelOf yX4_levelOf]
def wsX4_write_r3 : List Cond := [Cond.code yX4_levelOf cX4_levelOf 3 (some .int), Cond.fieldLink RX4 22 "ThriftLockModel" "bottom" "[I", Cond.fieldLink RX4 28 "ThriftLockModel" "wide" "[I", Cond.methodLink RX4 148 yX4_isIn, Cond.static yX4_isIn, Cond.code yX4_isIn cX4_isIn 2 (some .boolean), Cond.methodLink RX4 152 yX4_greater, Cond.static yX4_greater, Cond.code yX4_greater cX4_greater 2 (some .int), Cond.methodLink RX4 168 yX4_comesFrom, Cond.instanceMethod yX4_comesFrom, Cond.selects RX4 yX4_comesFrom yX4_comesFrom, Cond.code yX4_comesFrom cX4_comesFrom 7 (some .int), Cond.constant RX4 155 (999999), Cond.methodLink RX4 156 yX4_lesser, Cond.static yX4_lesser, Cond.code yX4_lesser cX4_lesser 2 (some .int), Cond.methodLink RX4 209 yX4_takesBack, Cond.instanceMethod yX4_takesBack, Cond.selects RX4 yX4_takesBack yX4_takesBack, Cond.code yX4_takesBack cX4_takesBack 2 none, Cond.methodLink RX4 83 yX4_cut, Cond.static yX4_cut, Cond.code yX4_cut cX4_cut 2 (some .int)]
def wsX4_write : List Cond := .code yX4_write cX4_write 4 (some .int) :: ((wsX4_write_r1 ++ (wsX4_write_r2 ++ wsX4_write_r3)) ++ wsX40)
def wsX4_count : List Cond := .code yX4_count cX4_count 2 (some .int) :: ([.fieldLink RX4 96 "ThriftLockModel" "basins" "I", .fieldLink RX4 174 "ThriftLockModel" "turns" "I", .fieldLink RX4 180 "ThriftLockModel" "drawnEver" "I", .fieldLink RX4 183 "ThriftLockModel" "lostEver" "I", .fieldLink RX4 119 "ThriftLockModel" "came" "I", .fieldLink RX4 64 "ThriftLockModel" "latest" "I", .methodLink RX4 125 yX4_manyWait, .instanceMethod yX4_manyWait, .selects RX4 yX4_manyWait yX4_manyWait, .initialized RX4, .code yX4_manyWait cX4_manyWait 4 (some .int), .fieldLink RX4 40 "ThriftLockModel" "isWaiting" "[Z", .fieldLink RX4 37 "ThriftLockModel" "wayOf" "[I", .methodLink RX4 116 yX4_chamberBy, .instanceMethod yX4_chamberBy, .selects RX4 yX4_chamberBy yX4_chamberBy, .code yX4_chamberBy cX4_chamberBy 3 (some .int), .fieldLink RX4 90 "ThriftLockModel" "full" "Z", .fieldLink RX4 56 "ThriftLockModel" "head" "I", .methodLink RX4 198 yX4_inBasins, .instanceMethod yX4_inBasins, .selects RX4 yX4_inBasins yX4_inBasins, .code yX4_inBasins cX4_inBasins 3 (some .int), .fieldLink RX4 34 "ThriftLockModel" "held" "[I"] ++ wsX40)
def wsX4_digest_r1 : List Cond := [Cond.constantLong RX4 229 (17), Cond.constantLong RX4 231 (31), Cond.fieldLink RX4 96 "ThriftLockModel" "basins" "I", Cond.fieldLink RX4 174 "ThriftLockModel" "turns" "I", Cond.fieldLink RX4 53 "ThriftLockModel" "ledger" "[I", Cond.methodLink RX4 233 yX4_count, Cond.instanceMethod yX4_count, Cond.selects RX4 yX4_count yX4_count, Cond.initialized RX4, Cond.code yX4_count cX4_count 2 (some .int), Cond.fieldLink RX4 180 "ThriftLockModel" "drawnEver" "I", Cond.fieldLink RX4 183 "ThriftLockModel" "lostEver" "I", Cond.fieldLink RX4 119 "ThriftLockModel" "came" "I", Cond.fieldLink RX4 64 "ThriftLockModel" "latest" "I", Cond.methodLink RX4 125 yX4_manyWait, Cond.instanceMethod yX4_manyWait, Cond.selects RX4 yX4_manyWait yX4_manyWait, Cond.code yX4_manyWait cX4_manyWait 4 (some .int), Cond.fieldLink RX4 40 "ThriftLockModel" "isWaiting" "[Z", Cond.fieldLink RX4 37 "ThriftLockModel" "wayOf" "[I", Cond.methodLink RX4 116 yX4_chamberBy, Cond.instanceMethod yX4_chamberBy, Cond.selects RX4 yX4_chamberBy yX4_chamberBy, Cond.code yX4_chamberBy cX4_chamberBy 3 (some .int)]
def wsX4_digest_r2 : List Cond := [Cond.fieldLink RX4 90 "ThriftLockModel" "full" "Z", Cond.fieldLink RX4 56 "ThriftLockModel" "head" "I", Cond.methodLink RX4 198 yX4_inBasins, Cond.instanceMethod yX4_inBasins, Cond.selects RX4 yX4_inBasins yX4_inBasins, Cond.code yX4_inBasins cX4_inBasins 3 (some .int), Cond.fieldLink RX4 34 "ThriftLockModel" "held" "[I", Cond.methodLink RX4 113 yX4_infoBy, Cond.instanceMethod yX4_infoBy, Cond.selects RX4 yX4_infoBy yX4_infoBy, Cond.code yX4_infoBy cX4_infoBy 3 (some .int), Cond.fieldLink RX4 22 "ThriftLockModel" "bottom" "[I", Cond.fieldLink RX4 25 "ThriftLockModel" "room" "[I", Cond.fieldLink RX4 28 "ThriftLockModel" "wide" "[I", Cond.fieldLink RX4 31 "ThriftLockModel" "leak" "[I", Cond.fieldLink RX4 99 "ThriftLockModel" "out" "I", Cond.methodLink RX4 108 yX4_levelOf, Cond.instanceMethod yX4_levelOf, Cond.selects RX4 yX4_levelOf yX4_levelOf, Cond.code yX4_levelOf cX4_levelOf 3 (some .int), Cond.methodLink RX4 223 yX4_betterBy, Cond.instanceMethod yX4_betterBy, Cond.selects RX4 yX4_betterBy yX4_betterBy, Cond.code yX4_betterBy cX4_betterBy 8 (some .int)]
def wsX4_digest_r3 : List Cond := [Cond.constant RX4 155 (999999), Cond.methodLink RX4 220 yX4_aheadOf, Cond.instanceMethod yX4_aheadOf, Cond.selects RX4 yX4_aheadOf yX4_aheadOf, Cond.code yX4_aheadOf cX4_aheadOf 5 (some .int), Cond.fieldLink RX4 159 "ThriftLockModel" "without" "I", Cond.methodLink RX4 206 yX4_keeps, Cond.instanceMethod yX4_keeps, Cond.selects RX4 yX4_keeps yX4_keeps, Cond.code yX4_keeps cX4_keeps 2 none, Cond.fieldLink RX4 171 "ThriftLockModel" "keptFull" "Z", Cond.fieldLink RX4 50 "ThriftLockModel" "kept" "[I", Cond.methodLink RX4 177 yX4_moves, Cond.instanceMethod yX4_moves, Cond.selects RX4 yX4_moves yX4_moves, Cond.code yX4_moves cX4_moves 3 none, Cond.fieldLink RX4 162 "ThriftLockModel" "leaks" "I", Cond.fieldLink RX4 47 "ThriftLockModel" "went" "[I", Cond.fieldLink RX4 44 "ThriftLockModel" "steps" "[I", Cond.methodLink RX4 165 yX4_goesTo, Cond.instanceMethod yX4_goesTo, Cond.selects RX4 yX4_goesTo yX4_goesTo, Cond.code yX4_goesTo cX4_goesTo 7 (some .int), Cond.methodLink RX4 148 yX4_isIn]
def wsX4_digest_r4 : List Cond := [Cond.static yX4_isIn, Cond.code yX4_isIn cX4_isIn 2 (some .boolean), Cond.methodLink RX4 152 yX4_greater, Cond.static yX4_greater, Cond.code yX4_greater cX4_greater 2 (some .int), Cond.methodLink RX4 168 yX4_comesFrom, Cond.instanceMethod yX4_comesFrom, Cond.selects RX4 yX4_comesFrom yX4_comesFrom, Cond.code yX4_comesFrom cX4_comesFrom 7 (some .int), Cond.methodLink RX4 156 yX4_lesser, Cond.static yX4_lesser, Cond.code yX4_lesser cX4_lesser 2 (some .int), Cond.methodLink RX4 209 yX4_takesBack, Cond.instanceMethod yX4_takesBack, Cond.selects RX4 yX4_takesBack yX4_takesBack, Cond.code yX4_takesBack cX4_takesBack 2 none, Cond.methodLink RX4 132 yX4_waitsBy, Cond.instanceMethod yX4_waitsBy, Cond.selects RX4 yX4_waitsBy yX4_waitsBy, Cond.code yX4_waitsBy cX4_waitsBy 6 (some .int), Cond.methodLink RX4 145 yX4_nextBy, Cond.instanceMethod yX4_nextBy, Cond.selects RX4 yX4_nextBy yX4_nextBy, Cond.code yX4_nextBy cX4_nextBy 3 (some .int)]
def wsX4_digest_r5 : List Cond := [Cond.methodLink RX4 141 yX4_nextBoat, Cond.instanceMethod yX4_nextBoat, Cond.selects RX4 yX4_nextBoat yX4_nextBoat, Cond.code yX4_nextBoat cX4_nextBoat 4 (some .int), Cond.fieldLink RX4 135 "ThriftLockModel" "rule" "I", Cond.methodLink RX4 138 yX4_isSide, Cond.instanceMethod yX4_isSide, Cond.selects RX4 yX4_isSide yX4_isSide, Cond.code yX4_isSide cX4_isSide 2 (some .boolean), Cond.methodLink RX4 203 yX4_totalBy, Cond.instanceMethod yX4_totalBy, Cond.selects RX4 yX4_totalBy yX4_totalBy, Cond.code yX4_totalBy cX4_totalBy 2 (some .int), Cond.fieldLink RX4 186 "ThriftLockModel" "leakedEver" "I", Cond.fieldLink RX4 189 "ThriftLockModel" "turnsEver" "I", Cond.methodLink RX4 212 yX4_looks, Cond.instanceMethod yX4_looks, Cond.selects RX4 yX4_looks yX4_looks, Cond.code yX4_looks cX4_looks 1 none, Cond.methodLink RX4 215 yX4_stepBy, Cond.instanceMethod yX4_stepBy, Cond.selects RX4 yX4_stepBy yX4_stepBy, Cond.code yX4_stepBy cX4_stepBy 2 (some .int), Cond.methodLink RX4 226 yX4_needlessBy]
def wsX4_digest_r6 : List Cond := [Cond.instanceMethod yX4_needlessBy, Cond.selects RX4 yX4_needlessBy yX4_needlessBy, Cond.code yX4_needlessBy cX4_needlessBy 6 (some .int)]
def wsX4_digest : List Cond := .code yX4_digest cX4_digest 5 (some .long) :: ((wsX4_digest_r1 ++ (wsX4_digest_r2 ++ (wsX4_digest_r3 ++ (wsX4_digest_r4 ++ (wsX4_digest_r5 ++ wsX4_digest_r6))))) ++ wsX40)
def wsJ9_min_7cf53 : List Cond := .code yJ9_min_7cf53 cJ9_min_7cf53 2 (some .int) :: ([])
def wsL_law_r1 : List Cond := [Cond.classLink RL 7 RX3, Cond.instantiable RX3 13, Cond.initialized RX3, Cond.classLink RL 10 RX4, Cond.instantiable RX4 30, Cond.initialized RX4, Cond.methodLink RL 9 yX3_init, Cond.instanceMethod yX3_init, Cond.code yX3_init cX3_init 2 none, Cond.methodLink RX3 1 objectInit, Cond.instanceMethod objectInit, Cond.code objectInit ⟨#[0xb1]⟩ 1 none, Cond.classLink RX3 7 RX2, Cond.instantiable RX2 14, Cond.initialized RX2, Cond.fieldLink RX3 10 "ThriftLock" "water" "LThriftLock$Water;", Cond.fieldLink RX3 16 "ThriftLock" "trial" "LThriftLock$Water;", Cond.classLink RX3 19 RX0, Cond.fieldLink RX3 21 "ThriftLock" "queues" "[LThriftLock$Queue;", Cond.classLink RX3 25 RX1, Cond.fieldLink RX3 27 "ThriftLock" "sheets" "[LThriftLock$Sheet;", Cond.arrayClass .int, Cond.fieldLink RX3 31 "ThriftLock" "rows" "[I", Cond.instantiable RX0 2]
def wsL_law_r2 : List Cond := [Cond.initialized RX0, Cond.instantiable RX1 4, Cond.initialized RX1, Cond.instanceMethod yX2_init, Cond.code yX2_init cX2_init 1 none, Cond.methodLink RX2 3 objectInit, Cond.fieldLink RX2 9 "ThriftLock$Water" "fullAt" "I", Cond.fieldLink RX2 15 "ThriftLock$Water" "bottom" "[I", Cond.fieldLink RX2 19 "ThriftLock$Water" "room" "[I", Cond.fieldLink RX2 22 "ThriftLock$Water" "wide" "[I", Cond.fieldLink RX2 25 "ThriftLock$Water" "rise" "[I", Cond.fieldLink RX2 28 "ThriftLock$Water" "leaks" "[I", Cond.fieldLink RX2 31 "ThriftLock$Water" "held" "[I", Cond.fieldLink RX2 34 "ThriftLock$Water" "steps" "[I", Cond.fieldLink RX2 37 "ThriftLock$Water" "moved" "[I", Cond.instanceMethod yX0_init, Cond.code yX0_init cX0_init 1 none, Cond.methodLink RX0 3 objectInit, Cond.fieldLink RX0 9 "ThriftLock$Queue" "boats" "[I", Cond.instanceMethod yX1_init, Cond.code yX1_init cX1_init 1 none, Cond.methodLink RX1 3 objectInit, Cond.fieldLink RX1 9 "ThriftLock$Sheet" "lost" "Z", Cond.fieldLink RX1 15 "ThriftLock$Sheet" "items" "[I"]
def wsL_law_r3 : List Cond := [Cond.methodLink RL 12 yX4_init, Cond.instanceMethod yX4_init, Cond.code yX4_init cX4_init 2 none, Cond.methodLink RX4 1 objectInit, Cond.fieldLink RX4 7 "ThriftLockModel" "forms" "[I", Cond.fieldLink RX4 13 "ThriftLockModel" "sizes" "[I", Cond.fieldLink RX4 16 "ThriftLockModel" "items" "[I", Cond.fieldLink RX4 19 "ThriftLockModel" "moved" "[I", Cond.fieldLink RX4 22 "ThriftLockModel" "bottom" "[I", Cond.fieldLink RX4 25 "ThriftLockModel" "room" "[I", Cond.fieldLink RX4 28 "ThriftLockModel" "wide" "[I", Cond.fieldLink RX4 31 "ThriftLockModel" "leak" "[I", Cond.fieldLink RX4 34 "ThriftLockModel" "held" "[I", Cond.fieldLink RX4 37 "ThriftLockModel" "wayOf" "[I", Cond.arrayClass .boolean, Cond.fieldLink RX4 40 "ThriftLockModel" "isWaiting" "[Z", Cond.fieldLink RX4 44 "ThriftLockModel" "steps" "[I", Cond.fieldLink RX4 47 "ThriftLockModel" "went" "[I", Cond.fieldLink RX4 50 "ThriftLockModel" "kept" "[I", Cond.fieldLink RX4 53 "ThriftLockModel" "ledger" "[I", Cond.fieldLink RX4 56 "ThriftLockModel" "head" "I", Cond.methodLink RL 13 yX3_head, Cond.instanceMethod yX3_head, Cond.selects RX3 yX3_head yX3_head]
def wsL_law_r4 : List Cond := [Cond.code yX3_head cX3_head 3 (some .int), Cond.fieldLink RX3 37 "ThriftLock$Water" "inChamber" "I", Cond.fieldLink RX3 41 "ThriftLock$Water" "fullAt" "I", Cond.methodLink RL 17 yX4_head, Cond.instanceMethod yX4_head, Cond.selects RX4 yX4_head yX4_head, Cond.code yX4_head cX4_head 3 (some .int), Cond.constantLong RX4 88 (60), Cond.fieldLink RX4 90 "ThriftLockModel" "full" "Z", Cond.methodLink RX4 60 yX4_in, Cond.static yX4_in, Cond.code yX4_in cX4_in 6 (some .boolean), Cond.methodLink RL 18 yX3_basin, Cond.instanceMethod yX3_basin, Cond.selects RX3 yX3_basin yX3_basin, Cond.code yX3_basin cX3_basin 4 (some .int), Cond.fieldLink RX3 48 "ThriftLock$Water" "basins" "I", Cond.methodLink RX3 44 yX3_mayBeBasin, Cond.static yX3_mayBeBasin, Cond.code yX3_mayBeBasin cX3_mayBeBasin 3 (some .boolean), Cond.methodLink RX3 51 yX2_addBasin, Cond.instanceMethod yX2_addBasin, Cond.selects RX2 yX2_addBasin yX2_addBasin, Cond.code yX2_addBasin cX2_addBasin 5 none]
def wsL_law_r5 : List Cond := [Cond.fieldLink RX2 43 "ThriftLock$Water" "basins" "I", Cond.methodLink RX2 55 yX2_riseOf, Cond.static yX2_riseOf, Cond.code yX2_riseOf cX2_riseOf 1 (some .int), Cond.methodLink RL 22 yX4_basin, Cond.instanceMethod yX4_basin, Cond.selects RX4 yX4_basin yX4_basin, Cond.code yX4_basin cX4_basin 4 (some .int), Cond.constantLong RX4 94 (59), Cond.constantLong RX4 67 (3), Cond.fieldLink RX4 96 "ThriftLockModel" "basins" "I", Cond.methodLink RL 23 yX3_back, Cond.instanceMethod yX3_back, Cond.selects RX3 yX3_back yX3_back, Cond.code yX3_back cX3_back 2 (some .int), Cond.fieldLink RX3 55 "ThriftLock$Water" "held" "[I", Cond.fieldLink RX3 58 "ThriftLock$Water" "outBits" "I", Cond.methodLink RL 27 yX4_back, Cond.instanceMethod yX4_back, Cond.selects RX4 yX4_back yX4_back, Cond.code yX4_back cX4_back 1 (some .int), Cond.fieldLink RX4 99 "ThriftLockModel" "out" "I", Cond.methodLink RL 28 yX3_out, Cond.instanceMethod yX3_out]
def wsL_law_r6 : List Cond := [Cond.selects RX3 yX3_out yX3_out, Cond.code yX3_out cX3_out 2 (some .int), Cond.methodLink RX3 61 yX3_isBasin, Cond.instanceMethod yX3_isBasin, Cond.selects RX3 yX3_isBasin yX3_isBasin, Cond.code yX3_isBasin cX3_isBasin 2 (some .boolean), Cond.methodLink RL 31 yX4_out, Cond.instanceMethod yX4_out, Cond.selects RX4 yX4_out yX4_out, Cond.code yX4_out cX4_out 2 (some .int), Cond.methodLink RX4 102 yX4_isBasin, Cond.instanceMethod yX4_isBasin, Cond.selects RX4 yX4_isBasin yX4_isBasin, Cond.code yX4_isBasin cX4_isBasin 2 (some .boolean), Cond.methodLink RL 32 yX3_leak, Cond.instanceMethod yX3_leak, Cond.selects RX3 yX3_leak yX3_leak, Cond.code yX3_leak cX3_leak 4 (some .int), Cond.fieldLink RX3 65 "ThriftLock$Water" "leaks" "[I", Cond.methodLink RL 36 yX4_leak, Cond.instanceMethod yX4_leak, Cond.selects RX4 yX4_leak yX4_leak, Cond.code yX4_leak cX4_leak 4 (some .int), Cond.methodLink RL 37 yX3_read]
def wsL_law_r7 : List Cond := [Cond.instanceMethod yX3_read, Cond.selects RX3 yX3_read yX3_read, Cond.code yX3_read cX3_read 5 (some .int), Cond.fieldLink RX3 71 "ThriftLock$Sheet" "lost" "Z", Cond.fieldLink RX3 79 "ThriftLock$Sheet" "size" "I", Cond.fieldLink RX3 82 "ThriftLock$Sheet" "items" "[I", Cond.methodLink RX3 68 yX3_isSheet, Cond.static yX3_isSheet, Cond.code yX3_isSheet cX3_isSheet 1 (some .boolean), Cond.methodLink RX3 75 yX3_found, Cond.instanceMethod yX3_found, Cond.selects RX3 yX3_found yX3_found, Cond.code yX3_found cX3_found 2 (some .int), Cond.fieldLink RX3 229 "ThriftLock" "latestFinding" "I", Cond.methodLink RL 40 yX4_read, Cond.instanceMethod yX4_read, Cond.selects RX4 yX4_read yX4_read, Cond.code yX4_read cX4_read 5 (some .int), Cond.methodLink RX4 69 yX4_isSheet, Cond.static yX4_isSheet, Cond.code yX4_isSheet cX4_isSheet 1 (some .boolean), Cond.methodLink RX4 75 yX4_finds, Cond.instanceMethod yX4_finds, Cond.selects RX4 yX4_finds yX4_finds]
def wsL_law_r8 : List Cond := [Cond.code yX4_finds cX4_finds 2 (some .int), Cond.fieldLink RX4 64 "ThriftLockModel" "latest" "I", Cond.methodLink RX4 105 yX4_basin, Cond.methodLink RL 41 yX3_info, Cond.instanceMethod yX3_info, Cond.selects RX3 yX3_info yX3_info, Cond.code yX3_info cX3_info 3 (some .int), Cond.fieldLink RX3 85 "ThriftLock$Water" "bottom" "[I", Cond.fieldLink RX3 88 "ThriftLock$Water" "room" "[I", Cond.fieldLink RX3 91 "ThriftLock$Water" "wide" "[I", Cond.methodLink RX3 94 yX2_levelHolding, Cond.instanceMethod yX2_levelHolding, Cond.selects RX2 yX2_levelHolding yX2_levelHolding, Cond.code yX2_levelHolding cX2_levelHolding 3 (some .int), Cond.methodLink RX3 98 yX2_isOut, Cond.instanceMethod yX2_isOut, Cond.selects RX2 yX2_isOut yX2_isOut, Cond.code yX2_isOut cX2_isOut 2 (some .boolean), Cond.fieldLink RX2 46 "ThriftLock$Water" "outBits" "I", Cond.methodLink RL 44 yX4_info, Cond.instanceMethod yX4_info, Cond.selects RX4 yX4_info yX4_info, Cond.code yX4_info cX4_info 3 (some .int), Cond.constantLong RX4 111 (6)]
def wsL_law_r9 : List Cond := [Cond.methodLink RX4 113 yX4_infoBy, Cond.instanceMethod yX4_infoBy, Cond.selects RX4 yX4_infoBy yX4_infoBy, Cond.code yX4_infoBy cX4_infoBy 3 (some .int), Cond.methodLink RX4 108 yX4_levelOf, Cond.instanceMethod yX4_levelOf, Cond.selects RX4 yX4_levelOf yX4_levelOf, Cond.code yX4_levelOf cX4_levelOf 3 (some .int), Cond.methodLink RL 45 yX3_chamber, Cond.instanceMethod yX3_chamber, Cond.selects RX3 yX3_chamber yX3_chamber, Cond.code yX3_chamber cX3_chamber 2 (some .int), Cond.methodLink RL 48 yX4_chamber, Cond.instanceMethod yX4_chamber, Cond.selects RX4 yX4_chamber yX4_chamber, Cond.code yX4_chamber cX4_chamber 2 (some .int), Cond.constantLong RX4 73 (2), Cond.methodLink RX4 116 yX4_chamberBy, Cond.instanceMethod yX4_chamberBy, Cond.selects RX4 yX4_chamberBy yX4_chamberBy, Cond.code yX4_chamberBy cX4_chamberBy 3 (some .int), Cond.methodLink RL 49 yX3_boat, Cond.instanceMethod yX3_boat, Cond.selects RX3 yX3_boat yX3_boat]
def wsL_law_r10 : List Cond := [Cond.code yX3_boat cX3_boat 3 (some .int), Cond.fieldLink RX3 104 "ThriftLock$Queue" "size" "I", Cond.fieldLink RX3 105 "ThriftLock" "boatsCame" "I", Cond.methodLink RX3 101 yX3_isWay, Cond.static yX3_isWay, Cond.code yX3_isWay cX3_isWay 1 (some .boolean), Cond.methodLink RX3 108 yX0_append, Cond.instanceMethod yX0_append, Cond.selects RX0 yX0_append yX0_append, Cond.code yX0_append cX0_append 2 none, Cond.fieldLink RX0 15 "ThriftLock$Queue" "size" "I", Cond.methodLink RL 52 yX4_boat, Cond.instanceMethod yX4_boat, Cond.selects RX4 yX4_boat yX4_boat, Cond.code yX4_boat cX4_boat 2 (some .int), Cond.fieldLink RX4 119 "ThriftLockModel" "came" "I", Cond.methodLink RX4 122 yX4_isTwo, Cond.static yX4_isTwo, Cond.code yX4_isTwo cX4_isTwo 1 (some .boolean), Cond.methodLink RX4 125 yX4_manyWait, Cond.instanceMethod yX4_manyWait, Cond.selects RX4 yX4_manyWait yX4_manyWait, Cond.code yX4_manyWait cX4_manyWait 4 (some .int), Cond.methodLink RL 53 yX3_leave]
def wsL_law_r11 : List Cond := [Cond.instanceMethod yX3_leave, Cond.selects RX3 yX3_leave yX3_leave, Cond.code yX3_leave cX3_leave 4 (some .int), Cond.methodLink RX3 112 yX0_placeOf, Cond.instanceMethod yX0_placeOf, Cond.selects RX0 yX0_placeOf yX0_placeOf, Cond.code yX0_placeOf cX0_placeOf 3 (some .int), Cond.methodLink RX3 115 yX0_removeAt, Cond.instanceMethod yX0_removeAt, Cond.selects RX0 yX0_removeAt yX0_removeAt, Cond.code yX0_removeAt cX0_removeAt 2 none, Cond.methodLink RX0 19 arraycopyName, Cond.native arraycopyName, Cond.static arraycopyName, Cond.initialized "java/lang/System", Cond.methodLink RL 56 yX4_leave, Cond.instanceMethod yX4_leave, Cond.selects RX4 yX4_leave yX4_leave, Cond.code yX4_leave cX4_leave 2 (some .int), Cond.methodLink RL 57 yX3_waits, Cond.instanceMethod yX3_waits, Cond.selects RX3 yX3_waits yX3_waits, Cond.code yX3_waits cX3_waits 3 (some .int), Cond.methodLink RX3 118 yX0_boatAt]
def wsL_law_r12 : List Cond := [Cond.instanceMethod yX0_boatAt, Cond.selects RX0 yX0_boatAt yX0_boatAt, Cond.code yX0_boatAt cX0_boatAt 2 (some .int), Cond.methodLink RL 60 yX4_waits, Cond.instanceMethod yX4_waits, Cond.selects RX4 yX4_waits yX4_waits, Cond.code yX4_waits cX4_waits 3 (some .int), Cond.constantLong RX4 128 (-1), Cond.constantLong RX4 130 (15), Cond.methodLink RX4 132 yX4_waitsBy, Cond.instanceMethod yX4_waitsBy, Cond.selects RX4 yX4_waitsBy yX4_waitsBy, Cond.code yX4_waitsBy cX4_waitsBy 6 (some .int), Cond.methodLink RL 61 yX3_rule, Cond.instanceMethod yX3_rule, Cond.selects RX3 yX3_rule yX3_rule, Cond.code yX3_rule cX3_rule 3 (some .int), Cond.fieldLink RX3 121 "ThriftLock" "ruleNow" "I", Cond.methodLink RL 64 yX4_rule, Cond.instanceMethod yX4_rule, Cond.selects RX4 yX4_rule yX4_rule, Cond.code yX4_rule cX4_rule 3 (some .int), Cond.fieldLink RX4 135 "ThriftLockModel" "rule" "I", Cond.methodLink RL 65 yX3_serve]
def wsL_law_r13 : List Cond := [Cond.instanceMethod yX3_serve, Cond.selects RX3 yX3_serve yX3_serve, Cond.code yX3_serve cX3_serve 4 (some .int), Cond.fieldLink RX3 131 "ThriftLock" "turnsKept" "I", Cond.methodLink RX3 124 yX3_wayServedNext, Cond.instanceMethod yX3_wayServedNext, Cond.selects RX3 yX3_wayServedNext yX3_wayServedNext, Cond.code yX3_wayServedNext cX3_wayServedNext 3 (some .int), Cond.methodLink RX3 137 yX3_wayAtChamber, Cond.instanceMethod yX3_wayAtChamber, Cond.selects RX3 yX3_wayAtChamber yX3_wayAtChamber, Cond.code yX3_wayAtChamber cX3_wayAtChamber 1 (some .int), Cond.methodLink RX3 128 yX3_turnsToServe, Cond.instanceMethod yX3_turnsToServe, Cond.selects RX3 yX3_turnsToServe yX3_turnsToServe, Cond.code yX3_turnsToServe cX3_turnsToServe 2 (some .int), Cond.methodLink RX3 134 yX3_makeTurnFor, Cond.instanceMethod yX3_makeTurnFor, Cond.selects RX3 yX3_makeTurnFor yX3_makeTurnFor, Cond.code yX3_makeTurnFor cX3_makeTurnFor 3 none, Cond.fieldLink RX3 143 "ThriftLock" "drawnEver" "I", Cond.fieldLink RX3 140 "ThriftLock$Water" "outside" "I", Cond.fieldLink RX3 146 "ThriftLock" "lostEver" "I", Cond.fieldLink RX3 149 "ThriftLock" "leakedEver" "I"]
def wsL_law_r14 : List Cond := [Cond.fieldLink RX3 161 "ThriftLock$Water" "leaked" "I", Cond.fieldLink RX3 155 "ThriftLock" "turnsEver" "I", Cond.methodLink RX3 158 yX2_makeTurn, Cond.instanceMethod yX2_makeTurn, Cond.selects RX2 yX2_makeTurn yX2_makeTurn, Cond.code yX2_makeTurn cX2_makeTurn 5 none, Cond.fieldLink RX2 40 "ThriftLock$Water" "inChamber" "I", Cond.fieldLink RX2 62 "ThriftLock$Water" "outside" "I", Cond.methodLink RX2 65 yJ7_fill_53178, Cond.static yJ7_fill_53178, Cond.initialized RJ7, Cond.code yJ7_fill_53178 cJ7_fill_53178 4 none, Cond.methodLink RX2 71 yX2_basinToGive, Cond.instanceMethod yX2_basinToGive, Cond.selects RX2 yX2_basinToGive yX2_basinToGive, Cond.code yX2_basinToGive cX2_basinToGive 6 (some .int), Cond.methodLink RX2 80 yX2_isOut, Cond.methodLink RX2 84 yX2_levelHolding, Cond.methodLink RX2 74 yX2_basinToTake, Cond.instanceMethod yX2_basinToTake, Cond.selects RX2 yX2_basinToTake yX2_basinToTake, Cond.code yX2_basinToTake cX2_basinToTake 6 (some .int), Cond.methodLink RX2 77 yX2_loseByLeaks, Cond.instanceMethod yX2_loseByLeaks]
def wsL_law_r15 : List Cond := [Cond.selects RX2 yX2_loseByLeaks yX2_loseByLeaks, Cond.code yX2_loseByLeaks cX2_loseByLeaks 3 none, Cond.fieldLink RX2 88 "ThriftLock$Water" "leaked" "I", Cond.methodLink RX2 91 Lib.Math.min.name, Cond.static Lib.Math.min.name, Cond.initialized "java/lang/Math", Cond.code Lib.Math.min.name Lib.Math.min.code 2 (some .int), Cond.methodLink RX3 164 yX3_enterTurn, Cond.instanceMethod yX3_enterTurn, Cond.selects RX3 yX3_enterTurn yX3_enterTurn, Cond.code yX3_enterTurn cX3_enterTurn 5 none, Cond.fieldLink RX3 168 "ThriftLock$Water" "moved" "[I", Cond.methodLink RL 68 yX4_serve, Cond.instanceMethod yX4_serve, Cond.selects RX4 yX4_serve yX4_serve, Cond.code yX4_serve cX4_serve 2 (some .int), Cond.fieldLink RX4 174 "ThriftLockModel" "turns" "I", Cond.methodLink RX4 141 yX4_nextBoat, Cond.instanceMethod yX4_nextBoat, Cond.selects RX4 yX4_nextBoat yX4_nextBoat, Cond.code yX4_nextBoat cX4_nextBoat 4 (some .int), Cond.methodLink RX4 138 yX4_isSide, Cond.instanceMethod yX4_isSide, Cond.selects RX4 yX4_isSide yX4_isSide]
def wsL_law_r16 : List Cond := [Cond.code yX4_isSide cX4_isSide 2 (some .boolean), Cond.methodLink RX4 145 yX4_nextBy, Cond.instanceMethod yX4_nextBy, Cond.selects RX4 yX4_nextBy yX4_nextBy, Cond.code yX4_nextBy cX4_nextBy 3 (some .int), Cond.methodLink RX4 192 yX4_does, Cond.instanceMethod yX4_does, Cond.selects RX4 yX4_does yX4_does, Cond.code yX4_does cX4_does 5 none, Cond.fieldLink RX4 159 "ThriftLockModel" "without" "I", Cond.fieldLink RX4 162 "ThriftLockModel" "leaks" "I", Cond.fieldLink RX4 180 "ThriftLockModel" "drawnEver" "I", Cond.fieldLink RX4 183 "ThriftLockModel" "lostEver" "I", Cond.fieldLink RX4 186 "ThriftLockModel" "leakedEver" "I", Cond.fieldLink RX4 189 "ThriftLockModel" "turnsEver" "I", Cond.methodLink RX4 177 yX4_moves, Cond.instanceMethod yX4_moves, Cond.selects RX4 yX4_moves yX4_moves, Cond.code yX4_moves cX4_moves 3 none, Cond.methodLink RX4 165 yX4_goesTo, Cond.instanceMethod yX4_goesTo, Cond.selects RX4 yX4_goesTo yX4_goesTo, Cond.code yX4_goesTo cX4_goesTo 7 (some .int), Cond.methodLink RX4 148 yX4_isIn]
def wsL_law_r17 : List Cond := [Cond.static yX4_isIn, Cond.code yX4_isIn cX4_isIn 2 (some .boolean), Cond.methodLink RX4 152 yX4_greater, Cond.static yX4_greater, Cond.code yX4_greater cX4_greater 2 (some .int), Cond.methodLink RX4 168 yX4_comesFrom, Cond.instanceMethod yX4_comesFrom, Cond.selects RX4 yX4_comesFrom yX4_comesFrom, Cond.code yX4_comesFrom cX4_comesFrom 7 (some .int), Cond.constant RX4 155 (999999), Cond.methodLink RX4 156 yX4_lesser, Cond.static yX4_lesser, Cond.code yX4_lesser cX4_lesser 2 (some .int), Cond.methodLink RL 69 yX3_next, Cond.instanceMethod yX3_next, Cond.selects RX3 yX3_next yX3_next, Cond.code yX3_next cX3_next 3 (some .int), Cond.methodLink RL 72 yX4_next, Cond.instanceMethod yX4_next, Cond.selects RX4 yX4_next yX4_next, Cond.code yX4_next cX4_next 2 (some .int), Cond.methodLink RL 73 yX3_turn, Cond.instanceMethod yX3_turn, Cond.selects RX3 yX3_turn yX3_turn]
def wsL_law_r18 : List Cond := [Cond.code yX3_turn cX3_turn 1 (some .int), Cond.methodLink RL 76 yX4_turn, Cond.instanceMethod yX4_turn, Cond.selects RX4 yX4_turn yX4_turn, Cond.code yX4_turn cX4_turn 1 (some .int), Cond.methodLink RL 77 yX3_ledger, Cond.instanceMethod yX3_ledger, Cond.selects RX3 yX3_ledger yX3_ledger, Cond.code yX3_ledger cX3_ledger 3 (some .int), Cond.methodLink RL 80 yX4_ledger, Cond.instanceMethod yX4_ledger, Cond.selects RX4 yX4_ledger yX4_ledger, Cond.code yX4_ledger cX4_ledger 3 (some .int), Cond.constantLong RX4 196 (8), Cond.methodLink RL 81 yX3_wipe, Cond.instanceMethod yX3_wipe, Cond.selects RX3 yX3_wipe yX3_wipe, Cond.code yX3_wipe cX3_wipe 2 (some .int), Cond.methodLink RL 84 yX4_wipe, Cond.instanceMethod yX4_wipe, Cond.selects RX4 yX4_wipe yX4_wipe, Cond.code yX4_wipe cX4_wipe 2 (some .int), Cond.methodLink RL 85 yX3_total, Cond.instanceMethod yX3_total]
def wsL_law_r19 : List Cond := [Cond.selects RX3 yX3_total yX3_total, Cond.code yX3_total cX3_total 2 (some .int), Cond.methodLink RX3 152 yX2_heldInAll, Cond.instanceMethod yX2_heldInAll, Cond.selects RX2 yX2_heldInAll yX2_heldInAll, Cond.code yX2_heldInAll cX2_heldInAll 3 (some .int), Cond.methodLink RL 88 yX4_total, Cond.instanceMethod yX4_total, Cond.selects RX4 yX4_total yX4_total, Cond.code yX4_total cX4_total 2 (some .int), Cond.constantLong RX4 201 (4), Cond.methodLink RX4 203 yX4_totalBy, Cond.instanceMethod yX4_totalBy, Cond.selects RX4 yX4_totalBy yX4_totalBy, Cond.code yX4_totalBy cX4_totalBy 2 (some .int), Cond.methodLink RX4 198 yX4_inBasins, Cond.instanceMethod yX4_inBasins, Cond.selects RX4 yX4_inBasins yX4_inBasins, Cond.code yX4_inBasins cX4_inBasins 3 (some .int), Cond.methodLink RL 89 yX3_step, Cond.instanceMethod yX3_step, Cond.selects RX3 yX3_step yX3_step, Cond.code yX3_step cX3_step 2 (some .int), Cond.fieldLink RX3 174 "ThriftLock$Water" "steps" "[I"]
def wsL_law_r20 : List Cond := [Cond.methodLink RX3 171 yX3_tryTurn, Cond.instanceMethod yX3_tryTurn, Cond.selects RX3 yX3_tryTurn yX3_tryTurn, Cond.code yX3_tryTurn cX3_tryTurn 1 none, Cond.methodLink RX3 177 yX2_becomeLike, Cond.instanceMethod yX2_becomeLike, Cond.selects RX2 yX2_becomeLike yX2_becomeLike, Cond.code yX2_becomeLike cX2_becomeLike 2 none, Cond.methodLink RX2 49 arraycopyName, Cond.methodLink RL 92 yX4_step, Cond.instanceMethod yX4_step, Cond.selects RX4 yX4_step yX4_step, Cond.code yX4_step cX4_step 2 (some .int), Cond.methodLink RX4 212 yX4_looks, Cond.instanceMethod yX4_looks, Cond.selects RX4 yX4_looks yX4_looks, Cond.code yX4_looks cX4_looks 1 none, Cond.methodLink RX4 206 yX4_keeps, Cond.instanceMethod yX4_keeps, Cond.selects RX4 yX4_keeps yX4_keeps, Cond.code yX4_keeps cX4_keeps 2 none, Cond.fieldLink RX4 171 "ThriftLockModel" "keptFull" "Z", Cond.methodLink RX4 209 yX4_takesBack, Cond.instanceMethod yX4_takesBack]
def wsL_law_r21 : List Cond := [Cond.selects RX4 yX4_takesBack yX4_takesBack, Cond.code yX4_takesBack cX4_takesBack 2 none, Cond.methodLink RX4 215 yX4_stepBy, Cond.instanceMethod yX4_stepBy, Cond.selects RX4 yX4_stepBy yX4_stepBy, Cond.code yX4_stepBy cX4_stepBy 2 (some .int), Cond.methodLink RL 93 yX3_ahead, Cond.instanceMethod yX3_ahead, Cond.selects RX3 yX3_ahead yX3_ahead, Cond.code yX3_ahead cX3_ahead 2 (some .int), Cond.constant RX3 181 (1000000), Cond.methodLink RX3 182 yX2_drawnBy, Cond.instanceMethod yX2_drawnBy, Cond.selects RX2 yX2_drawnBy yX2_drawnBy, Cond.code yX2_drawnBy cX2_drawnBy 6 (some .int), Cond.methodLink RX2 59 yX2_makeTurn, Cond.methodLink RL 96 yX4_ahead, Cond.instanceMethod yX4_ahead, Cond.selects RX4 yX4_ahead yX4_ahead, Cond.code yX4_ahead cX4_ahead 2 (some .int), Cond.constantLong RX4 218 (40), Cond.methodLink RX4 220 yX4_aheadOf, Cond.instanceMethod yX4_aheadOf, Cond.selects RX4 yX4_aheadOf yX4_aheadOf]
def wsL_law_r22 : List Cond := [Cond.code yX4_aheadOf cX4_aheadOf 5 (some .int), Cond.methodLink RL 97 yX3_better, Cond.instanceMethod yX3_better, Cond.selects RX3 yX3_better yX3_better, Cond.code yX3_better cX3_better 3 (some .int), Cond.methodLink RX3 185 yX3_bestBottom, Cond.instanceMethod yX3_bestBottom, Cond.selects RX3 yX3_bestBottom yX3_bestBottom, Cond.code yX3_bestBottom cX3_bestBottom 6 (some .int), Cond.methodLink RX3 194 yX3_choiceOf, Cond.static yX3_choiceOf, Cond.code yX3_choiceOf cX3_choiceOf 2 (some .int), Cond.methodLink RX3 188 yX3_partOfChoice, Cond.static yX3_partOfChoice, Cond.code yX3_partOfChoice cX3_partOfChoice 2 (some .int), Cond.methodLink RL 100 yX4_better, Cond.instanceMethod yX4_better, Cond.selects RX4 yX4_better yX4_better, Cond.code yX4_better cX4_better 3 (some .int), Cond.methodLink RX4 223 yX4_betterBy, Cond.instanceMethod yX4_betterBy, Cond.selects RX4 yX4_betterBy yX4_betterBy, Cond.code yX4_betterBy cX4_betterBy 8 (some .int), Cond.methodLink RL 101 yX3_needless]
def wsL_law_r23 : List Cond := [Cond.instanceMethod yX3_needless, Cond.selects RX3 yX3_needless yX3_needless, Cond.code yX3_needless cX3_needless 2 (some .int), Cond.methodLink RX3 191 yX3_leastNeeded, Cond.instanceMethod yX3_leastNeeded, Cond.selects RX3 yX3_leastNeeded yX3_leastNeeded, Cond.code yX3_leastNeeded cX3_leastNeeded 5 (some .int), Cond.methodLink RL 104 yX4_needless, Cond.instanceMethod yX4_needless, Cond.selects RX4 yX4_needless yX4_needless, Cond.code yX4_needless cX4_needless 2 (some .int), Cond.methodLink RX4 226 yX4_needlessBy, Cond.instanceMethod yX4_needlessBy, Cond.selects RX4 yX4_needlessBy yX4_needlessBy, Cond.code yX4_needlessBy cX4_needlessBy 6 (some .int), Cond.methodLink RL 105 yX3_sheet, Cond.instanceMethod yX3_sheet, Cond.selects RX3 yX3_sheet yX3_sheet, Cond.code yX3_sheet cX3_sheet 4 (some .int), Cond.methodLink RX3 197 yX3_isForm, Cond.static yX3_isForm, Cond.code yX3_isForm cX3_isForm 1 (some .boolean), Cond.methodLink RX3 200 yX1_renew, Cond.instanceMethod yX1_renew]
def wsL_law_r24 : List Cond := [Cond.selects RX1 yX1_renew yX1_renew, Cond.code yX1_renew cX1_renew 3 none, Cond.fieldLink RX1 19 "ThriftLock$Sheet" "form" "I", Cond.fieldLink RX1 23 "ThriftLock$Sheet" "size" "I", Cond.methodLink RX1 26 yJ7_fill_53178, Cond.methodLink RL 108 yX4_sheet, Cond.instanceMethod yX4_sheet, Cond.selects RX4 yX4_sheet yX4_sheet, Cond.code yX4_sheet cX4_sheet 5 (some .int), Cond.methodLink RL 109 yX3_lose, Cond.instanceMethod yX3_lose, Cond.selects RX3 yX3_lose yX3_lose, Cond.code yX3_lose cX3_lose 2 (some .int), Cond.methodLink RL 112 yX4_lose, Cond.instanceMethod yX4_lose, Cond.selects RX4 yX4_lose yX4_lose, Cond.code yX4_lose cX4_lose 2 (some .int), Cond.methodLink RL 113 yX3_lay, Cond.instanceMethod yX3_lay, Cond.selects RX3 yX3_lay yX3_lay, Cond.code yX3_lay cX3_lay 6 (some .int), Cond.methodLink RX3 204 yX1_faultAt, Cond.instanceMethod yX1_faultAt, Cond.selects RX1 yX1_faultAt yX1_faultAt]
def wsL_law_r25 : List Cond := [Cond.code yX1_faultAt cX1_faultAt 3 (some .int), Cond.methodLink RX3 207 yX1_put, Cond.instanceMethod yX1_put, Cond.selects RX1 yX1_put yX1_put, Cond.code yX1_put cX1_put 3 none, Cond.methodLink RL 117 yX4_lay, Cond.instanceMethod yX4_lay, Cond.selects RX4 yX4_lay yX4_lay, Cond.code yX4_lay cX4_lay 6 (some .int), Cond.methodLink RX4 79 yX4_lacks, Cond.instanceMethod yX4_lacks, Cond.selects RX4 yX4_lacks yX4_lacks, Cond.code yX4_lacks cX4_lacks 4 (some .int), Cond.methodLink RX4 83 yX4_cut, Cond.static yX4_cut, Cond.code yX4_cut cX4_cut 2 (some .int), Cond.methodLink RL 118 yX3_get, Cond.instanceMethod yX3_get, Cond.selects RX3 yX3_get yX3_get, Cond.code yX3_get cX3_get 5 (some .int), Cond.constant RX3 210 (-2147483648), Cond.methodLink RL 121 yX4_get, Cond.instanceMethod yX4_get, Cond.selects RX4 yX4_get yX4_get]
def wsL_law_r26 : List Cond := [Cond.code yX4_get cX4_get 4 (some .int), Cond.constant RX4 87 (-2147483648), Cond.methodLink RL 122 yX3_copy, Cond.instanceMethod yX3_copy, Cond.selects RX3 yX3_copy yX3_copy, Cond.code yX3_copy cX3_copy 8 (some .int), Cond.fieldLink RX3 211 "ThriftLock$Sheet" "form" "I", Cond.methodLink RX3 218 arraycopyName, Cond.methodLink RX3 214 yX1_hasSpan, Cond.instanceMethod yX1_hasSpan, Cond.selects RX1 yX1_hasSpan yX1_hasSpan, Cond.code yX1_hasSpan cX1_hasSpan 3 (some .boolean), Cond.methodLink RL 126 yX4_copy, Cond.instanceMethod yX4_copy, Cond.selects RX4 yX4_copy yX4_copy, Cond.code yX4_copy cX4_copy 7 (some .int), Cond.methodLink RL 127 yX3_write, Cond.instanceMethod yX3_write, Cond.selects RX3 yX3_write yX3_write, Cond.code yX3_write cX3_write 5 (some .int), Cond.methodLink RX3 224 Lib.Math.min.name, Cond.methodLink RL 130 yX4_write, Cond.instanceMethod yX4_write, Cond.selects RX4 yX4_write yX4_write]
def wsL_law_r27 : List Cond := [Cond.code yX4_write cX4_write 4 (some .int), Cond.methodLink RL 131 yX3_count, Cond.instanceMethod yX3_count, Cond.selects RX3 yX3_count yX3_count, Cond.code yX3_count cX3_count 2 (some .int), Cond.methodLink RL 134 yX4_count, Cond.instanceMethod yX4_count, Cond.selects RX4 yX4_count yX4_count, Cond.code yX4_count cX4_count 2 (some .int), Cond.methodLink RL 135 yX3_digest, Cond.instanceMethod yX3_digest, Cond.selects RX3 yX3_digest yX3_digest, Cond.code yX3_digest cX3_digest 4 (some .long), Cond.constantLong RX3 232 (17), Cond.methodLink RX3 234 yX3_count, Cond.methodLink RX3 237 yX3_fold, Cond.static yX3_fold, Cond.code yX3_fold cX3_fold 3 (some .long), Cond.constantLong RX3 254 (31), Cond.methodLink RX3 241 yX3_foldBasins, Cond.instanceMethod yX3_foldBasins, Cond.selects RX3 yX3_foldBasins yX3_foldBasins, Cond.code yX3_foldBasins cX3_foldBasins 7 (some .long), Cond.methodLink RX3 256 yX3_info]
def wsL_law_r28 : List Cond := [Cond.methodLink RX3 259 yX3_chamber, Cond.methodLink RX3 245 yX3_foldBoats, Cond.instanceMethod yX3_foldBoats, Cond.selects RX3 yX3_foldBoats yX3_foldBoats, Cond.code yX3_foldBoats cX3_foldBoats 6 (some .long), Cond.methodLink RX3 262 yX3_waits, Cond.methodLink RX3 265 yX3_next, Cond.methodLink RX3 248 yX3_foldTurns, Cond.instanceMethod yX3_foldTurns, Cond.selects RX3 yX3_foldTurns yX3_foldTurns, Cond.code yX3_foldTurns cX3_foldTurns 7 (some .long), Cond.methodLink RX3 268 yX3_ledger, Cond.methodLink RX3 271 yX3_total, Cond.methodLink RX3 251 yX3_foldWhatWouldBe, Cond.instanceMethod yX3_foldWhatWouldBe, Cond.selects RX3 yX3_foldWhatWouldBe yX3_foldWhatWouldBe, Cond.code yX3_foldWhatWouldBe cX3_foldWhatWouldBe 6 (some .long), Cond.methodLink RX3 274 yX3_ahead, Cond.methodLink RL 139 yX4_digest, Cond.instanceMethod yX4_digest, Cond.selects RX4 yX4_digest yX4_digest, Cond.code yX4_digest cX4_digest 5 (some .long), Cond.constantLong RX4 229 (17), Cond.constantLong RX4 231 (31)]
def wsL_law_r29 : List Cond := [Cond.methodLink RX4 233 yX4_count]
def wsL_law : List Cond := (wsL_law_r1 ++ (wsL_law_r2 ++ (wsL_law_r3 ++ (wsL_law_r4 ++ (wsL_law_r5 ++ (wsL_law_r6 ++ (wsL_law_r7 ++ (wsL_law_r8 ++ (wsL_law_r9 ++ (wsL_law_r10 ++ (wsL_law_r11 ++ (wsL_law_r12 ++ (wsL_law_r13 ++ (wsL_law_r14 ++ (wsL_law_r15 ++ (wsL_law_r16 ++ (wsL_law_r17 ++ (wsL_law_r18 ++ (wsL_law_r19 ++ (wsL_law_r20 ++ (wsL_law_r21 ++ (wsL_law_r22 ++ (wsL_law_r23 ++ (wsL_law_r24 ++ (wsL_law_r25 ++ (wsL_law_r26 ++ (wsL_law_r27 ++ (wsL_law_r28 ++ wsL_law_r29)))))))))))))))))))))))))))) ++ wsX30 ++ wsX40 ++ wsX20 ++ wsX00 ++ wsX10 ++ ([] : List Cond)
theorem inlX0 : ∀ w ∈ wsX00, w ∈ wsL_law := fun _ h => List.mem_append_left _ (List.mem_append_left _ (List.mem_append_right _ h))
theorem inlX1 : ∀ w ∈ wsX10, w ∈ wsL_law := fun _ h => List.mem_append_left _ (List.mem_append_right _ h)
theorem inlX2 : ∀ w ∈ wsX20, w ∈ wsL_law := fun _ h => List.mem_append_left _ (List.mem_append_left _ (List.mem_append_left _ (List.mem_append_right _ h)))
theorem inlX3 : ∀ w ∈ wsX30, w ∈ wsL_law := fun _ h => List.mem_append_left _ (List.mem_append_left _ (List.mem_append_left _ (List.mem_append_left _ (List.mem_append_left _ (List.mem_append_right _ h)))))
theorem inlX4 : ∀ w ∈ wsX40, w ∈ wsL_law := fun _ h => List.mem_append_left _ (List.mem_append_left _ (List.mem_append_left _ (List.mem_append_left _ (List.mem_append_right _ h))))
abbrev vwCl : List vw_C := [(RX0, TX0, 2), (RX1, TX1, 4), (RX2, TX2, 14), (RX3, TX3, 13), (RX4, TX4, 30)]
end
section
theorem dX0_init_0 : decode cX0_init 0 = .ok (.aload_n 0, 1) := by decide +kernel
theorem dX0_init_1 : decode cX0_init 1 = .ok (.invokespecial 3, 3) := by decide +kernel
theorem dX0_init_4 : decode cX0_init 4 = .ok (.aload_n 0, 1) := by decide +kernel
theorem dX0_init_5 : decode cX0_init 5 = .ok (.bipush 16, 2) := by decide +kernel
theorem dX0_init_7 : decode cX0_init 7 = .ok (.newarray .int, 2) := by decide +kernel
theorem dX0_init_9 : decode cX0_init 9 = .ok (.putfield 9, 3) := by decide +kernel
theorem dX0_init_12 : decode cX0_init 12 = .ok (.return_, 1) := by decide +kernel
theorem dX0_boatAt_0 : decode cX0_boatAt 0 = .ok (.iload_n 1, 1) := by decide +kernel
theorem dX0_boatAt_1 : decode cX0_boatAt 1 = .ok (.ifCond .lt 20, 3) := by decide +kernel
theorem dX0_boatAt_4 : decode cX0_boatAt 4 = .ok (.iload_n 1, 1) := by decide +kernel
theorem dX0_boatAt_5 : decode cX0_boatAt 5 = .ok (.aload_n 0, 1) := by decide +kernel
theorem dX0_boatAt_6 : decode cX0_boatAt 6 = .ok (.getfield 15, 3) := by decide +kernel
theorem dX0_boatAt_9 : decode cX0_boatAt 9 = .ok (.if_icmp .ge 12, 3) := by decide +kernel
theorem dX0_boatAt_12 : decode cX0_boatAt 12 = .ok (.aload_n 0, 1) := by decide +kernel
theorem dX0_boatAt_13 : decode cX0_boatAt 13 = .ok (.getfield 9, 3) := by decide +kernel
theorem dX0_boatAt_16 : decode cX0_boatAt 16 = .ok (.iload_n 1, 1) := by decide +kernel
theorem dX0_boatAt_17 : decode cX0_boatAt 17 = .ok (.iaload, 1) := by decide +kernel
theorem dX0_boatAt_18 : decode cX0_boatAt 18 = .ok (.goto 4, 3) := by decide +kernel
theorem dX0_boatAt_21 : decode cX0_boatAt 21 = .ok (.iconst (-1), 1) := by decide +kernel
theorem dX0_boatAt_22 : decode cX0_boatAt 22 = .ok (.ireturn, 1) := by decide +kernel
theorem dX0_append_0 : decode cX0_append 0 = .ok (.aload_n 0, 1) := by decide +kernel
theorem dX0_append_1 : decode cX0_append 1 = .ok (.getfield 15, 3) := by decide +kernel
theorem dX0_append_4 : decode cX0_append 4 = .ok (.bipush 16, 2) := by decide +kernel
theorem dX0_append_6 : decode cX0_append 6 = .ok (.if_icmp .ge 23, 3) := by decide +kernel
theorem dX0_append_9 : decode cX0_append 9 = .ok (.aload_n 0, 1) := by decide +kernel
theorem dX0_append_10 : decode cX0_append 10 = .ok (.getfield 9, 3) := by decide +kernel
theorem dX0_append_13 : decode cX0_append 13 = .ok (.aload_n 0, 1) := by decide +kernel
theorem dX0_append_14 : decode cX0_append 14 = .ok (.getfield 15, 3) := by decide +kernel
theorem dX0_append_17 : decode cX0_append 17 = .ok (.iload_n 1, 1) := by decide +kernel
theorem dX0_append_18 : decode cX0_append 18 = .ok (.iastore, 1) := by decide +kernel
theorem dX0_append_19 : decode cX0_append 19 = .ok (.aload_n 0, 1) := by decide +kernel
theorem dX0_append_20 : decode cX0_append 20 = .ok (.dup, 1) := by decide +kernel
theorem dX0_append_21 : decode cX0_append 21 = .ok (.getfield 15, 3) := by decide +kernel
theorem dX0_append_24 : decode cX0_append 24 = .ok (.iconst 1, 1) := by decide +kernel
theorem dX0_append_25 : decode cX0_append 25 = .ok (.iadd, 1) := by decide +kernel
theorem dX0_append_26 : decode cX0_append 26 = .ok (.putfield 15, 3) := by decide +kernel
theorem dX0_append_29 : decode cX0_append 29 = .ok (.return_, 1) := by decide +kernel
theorem dX0_placeOf_0 : decode cX0_placeOf 0 = .ok (.iconst 0, 1) := by decide +kernel
theorem dX0_placeOf_1 : decode cX0_placeOf 1 = .ok (.istore_n 2, 1) := by decide +kernel
theorem dX0_placeOf_2 : decode cX0_placeOf 2 = .ok (.iload_n 2, 1) := by decide +kernel
theorem dX0_placeOf_3 : decode cX0_placeOf 3 = .ok (.aload_n 0, 1) := by decide +kernel
theorem dX0_placeOf_4 : decode cX0_placeOf 4 = .ok (.getfield 15, 3) := by decide +kernel
theorem dX0_placeOf_7 : decode cX0_placeOf 7 = .ok (.if_icmp .ge 21, 3) := by decide +kernel
theorem dX0_placeOf_10 : decode cX0_placeOf 10 = .ok (.aload_n 0, 1) := by decide +kernel
theorem dX0_placeOf_11 : decode cX0_placeOf 11 = .ok (.getfield 9, 3) := by decide +kernel
theorem dX0_placeOf_14 : decode cX0_placeOf 14 = .ok (.iload_n 2, 1) := by decide +kernel
theorem dX0_placeOf_15 : decode cX0_placeOf 15 = .ok (.iaload, 1) := by decide +kernel
theorem dX0_placeOf_16 : decode cX0_placeOf 16 = .ok (.iload_n 1, 1) := by decide +kernel
theorem dX0_placeOf_17 : decode cX0_placeOf 17 = .ok (.if_icmp .ne 5, 3) := by decide +kernel
theorem dX0_placeOf_20 : decode cX0_placeOf 20 = .ok (.iload_n 2, 1) := by decide +kernel
theorem dX0_placeOf_21 : decode cX0_placeOf 21 = .ok (.ireturn, 1) := by decide +kernel
theorem dX0_placeOf_22 : decode cX0_placeOf 22 = .ok (.iinc 2 1, 3) := by decide +kernel
theorem dX0_placeOf_25 : decode cX0_placeOf 25 = .ok (.goto (-23), 3) := by decide +kernel
theorem dX0_placeOf_28 : decode cX0_placeOf 28 = .ok (.iconst (-1), 1) := by decide +kernel
theorem dX0_placeOf_29 : decode cX0_placeOf 29 = .ok (.ireturn, 1) := by decide +kernel
theorem dX0_removeAt_0 : decode cX0_removeAt 0 = .ok (.iload_n 1, 1) := by decide +kernel
theorem dX0_removeAt_1 : decode cX0_removeAt 1 = .ok (.ifCond .lt 11, 3) := by decide +kernel
theorem dX0_removeAt_4 : decode cX0_removeAt 4 = .ok (.iload_n 1, 1) := by decide +kernel
theorem dX0_removeAt_5 : decode cX0_removeAt 5 = .ok (.aload_n 0, 1) := by decide +kernel
theorem dX0_removeAt_6 : decode cX0_removeAt 6 = .ok (.getfield 15, 3) := by decide +kernel
theorem dX0_removeAt_9 : decode cX0_removeAt 9 = .ok (.if_icmp .lt 4, 3) := by decide +kernel
theorem dX0_removeAt_12 : decode cX0_removeAt 12 = .ok (.return_, 1) := by decide +kernel
theorem dX0_removeAt_13 : decode cX0_removeAt 13 = .ok (.aload_n 0, 1) := by decide +kernel
theorem dX0_removeAt_14 : decode cX0_removeAt 14 = .ok (.getfield 9, 3) := by decide +kernel
theorem dX0_removeAt_17 : decode cX0_removeAt 17 = .ok (.iload_n 1, 1) := by decide +kernel
theorem dX0_removeAt_18 : decode cX0_removeAt 18 = .ok (.iconst 1, 1) := by decide +kernel
theorem dX0_removeAt_19 : decode cX0_removeAt 19 = .ok (.iadd, 1) := by decide +kernel
theorem dX0_removeAt_20 : decode cX0_removeAt 20 = .ok (.aload_n 0, 1) := by decide +kernel
theorem dX0_removeAt_21 : decode cX0_removeAt 21 = .ok (.getfield 9, 3) := by decide +kernel
theorem dX0_removeAt_24 : decode cX0_removeAt 24 = .ok (.iload_n 1, 1) := by decide +kernel
theorem dX0_removeAt_25 : decode cX0_removeAt 25 = .ok (.aload_n 0, 1) := by decide +kernel
theorem dX0_removeAt_26 : decode cX0_removeAt 26 = .ok (.getfield 15, 3) := by decide +kernel
theorem dX0_removeAt_29 : decode cX0_removeAt 29 = .ok (.iload_n 1, 1) := by decide +kernel
theorem dX0_removeAt_30 : decode cX0_removeAt 30 = .ok (.isub, 1) := by decide +kernel
theorem dX0_removeAt_31 : decode cX0_removeAt 31 = .ok (.iconst 1, 1) := by decide +kernel
theorem dX0_removeAt_32 : decode cX0_removeAt 32 = .ok (.isub, 1) := by decide +kernel
theorem dX0_removeAt_33 : decode cX0_removeAt 33 = .ok (.invokestatic 19, 3) := by decide +kernel
theorem dX0_removeAt_36 : decode cX0_removeAt 36 = .ok (.aload_n 0, 1) := by decide +kernel
theorem dX0_removeAt_37 : decode cX0_removeAt 37 = .ok (.dup, 1) := by decide +kernel
theorem dX0_removeAt_38 : decode cX0_removeAt 38 = .ok (.getfield 15, 3) := by decide +kernel
theorem dX0_removeAt_41 : decode cX0_removeAt 41 = .ok (.iconst 1, 1) := by decide +kernel
theorem dX0_removeAt_42 : decode cX0_removeAt 42 = .ok (.isub, 1) := by decide +kernel
theorem dX0_removeAt_43 : decode cX0_removeAt 43 = .ok (.putfield 15, 3) := by decide +kernel
theorem dX0_removeAt_46 : decode cX0_removeAt 46 = .ok (.return_, 1) := by decide +kernel
theorem dX1_init_0 : decode cX1_init 0 = .ok (.aload_n 0, 1) := by decide +kernel
theorem dX1_init_1 : decode cX1_init 1 = .ok (.invokespecial 3, 3) := by decide +kernel
theorem dX1_init_4 : decode cX1_init 4 = .ok (.aload_n 0, 1) := by decide +kernel
theorem dX1_init_5 : decode cX1_init 5 = .ok (.iconst 1, 1) := by decide +kernel
theorem dX1_init_6 : decode cX1_init 6 = .ok (.putfield 9, 3) := by decide +kernel
theorem dX1_init_9 : decode cX1_init 9 = .ok (.aload_n 0, 1) := by decide +kernel
theorem dX1_init_10 : decode cX1_init 10 = .ok (.bipush 60, 2) := by decide +kernel
theorem dX1_init_12 : decode cX1_init 12 = .ok (.newarray .int, 2) := by decide +kernel
theorem dX1_init_14 : decode cX1_init 14 = .ok (.putfield 15, 3) := by decide +kernel
theorem dX1_init_17 : decode cX1_init 17 = .ok (.return_, 1) := by decide +kernel
set_option maxRecDepth 20000 in
theorem ggX1_renew_J7_fill_53178 : GoodIn wsX1_renew wsJ7_fill_53178 := goodIn_r _ [8] (by decide +kernel) (by decide +kernel)
set_option maxRecDepth 20000 in
theorem gX1_renew_J7_fill_53178 : GoodIn wsX1_renew (va_wsS RX1 26 yJ7_fill_53178 wsJ7_fill_53178) := goodIn_app (goodIn_of _ (by decide +kernel)) ggX1_renew_J7_fill_53178
theorem dX1_renew_0 : decode cX1_renew 0 = .ok (.aload_n 0, 1) := by decide +kernel
theorem dX1_renew_1 : decode cX1_renew 1 = .ok (.iconst 0, 1) := by decide +kernel
theorem dX1_renew_2 : decode cX1_renew 2 = .ok (.putfield 9, 3) := by decide +kernel
theorem dX1_renew_5 : decode cX1_renew 5 = .ok (.aload_n 0, 1) := by decide +kernel
theorem dX1_renew_6 : decode cX1_renew 6 = .ok (.iload_n 1, 1) := by decide +kernel
theorem dX1_renew_7 : decode cX1_renew 7 = .ok (.putfield 19, 3) := by decide +kernel
theorem dX1_renew_10 : decode cX1_renew 10 = .ok (.aload_n 0, 1) := by decide +kernel
theorem dX1_renew_11 : decode cX1_renew 11 = .ok (.iload_n 2, 1) := by decide +kernel
theorem dX1_renew_12 : decode cX1_renew 12 = .ok (.putfield 23, 3) := by decide +kernel
theorem dX1_renew_15 : decode cX1_renew 15 = .ok (.aload_n 0, 1) := by decide +kernel
theorem dX1_renew_16 : decode cX1_renew 16 = .ok (.getfield 15, 3) := by decide +kernel
theorem dX1_renew_19 : decode cX1_renew 19 = .ok (.iconst 0, 1) := by decide +kernel
theorem dX1_renew_20 : decode cX1_renew 20 = .ok (.invokestatic 26, 3) := by decide +kernel
theorem dX1_renew_23 : decode cX1_renew 23 = .ok (.return_, 1) := by decide +kernel
theorem dX1_faultAt_0 : decode cX1_faultAt 0 = .ok (.aload_n 0, 1) := by decide +kernel
theorem dX1_faultAt_1 : decode cX1_faultAt 1 = .ok (.getfield 9, 3) := by decide +kernel
theorem dX1_faultAt_4 : decode cX1_faultAt 4 = .ok (.ifCond .eq 5, 3) := by decide +kernel
theorem dX1_faultAt_7 : decode cX1_faultAt 7 = .ok (.iconst 1, 1) := by decide +kernel
theorem dX1_faultAt_8 : decode cX1_faultAt 8 = .ok (.ireturn, 1) := by decide +kernel
theorem dX1_faultAt_9 : decode cX1_faultAt 9 = .ok (.aload_n 0, 1) := by decide +kernel
theorem dX1_faultAt_10 : decode cX1_faultAt 10 = .ok (.getfield 19, 3) := by decide +kernel
theorem dX1_faultAt_13 : decode cX1_faultAt 13 = .ok (.iload_n 1, 1) := by decide +kernel
theorem dX1_faultAt_14 : decode cX1_faultAt 14 = .ok (.if_icmp .eq 5, 3) := by decide +kernel
theorem dX1_faultAt_17 : decode cX1_faultAt 17 = .ok (.iconst 3, 1) := by decide +kernel
theorem dX1_faultAt_18 : decode cX1_faultAt 18 = .ok (.ireturn, 1) := by decide +kernel
theorem dX1_faultAt_19 : decode cX1_faultAt 19 = .ok (.iload_n 2, 1) := by decide +kernel
theorem dX1_faultAt_20 : decode cX1_faultAt 20 = .ok (.ifCond .lt 11, 3) := by decide +kernel
theorem dX1_faultAt_23 : decode cX1_faultAt 23 = .ok (.iload_n 2, 1) := by decide +kernel
theorem dX1_faultAt_24 : decode cX1_faultAt 24 = .ok (.aload_n 0, 1) := by decide +kernel
theorem dX1_faultAt_25 : decode cX1_faultAt 25 = .ok (.getfield 23, 3) := by decide +kernel
theorem dX1_faultAt_28 : decode cX1_faultAt 28 = .ok (.if_icmp .lt 7, 3) := by decide +kernel
theorem dX1_faultAt_31 : decode cX1_faultAt 31 = .ok (.iconst 2, 1) := by decide +kernel
theorem dX1_faultAt_32 : decode cX1_faultAt 32 = .ok (.goto 4, 3) := by decide +kernel
theorem dX1_faultAt_35 : decode cX1_faultAt 35 = .ok (.iconst 0, 1) := by decide +kernel
theorem dX1_faultAt_36 : decode cX1_faultAt 36 = .ok (.ireturn, 1) := by decide +kernel
theorem dX1_hasSpan_0 : decode cX1_hasSpan 0 = .ok (.iload_n 1, 1) := by decide +kernel
theorem dX1_hasSpan_1 : decode cX1_hasSpan 1 = .ok (.ifCond .lt 21, 3) := by decide +kernel
theorem dX1_hasSpan_4 : decode cX1_hasSpan 4 = .ok (.iload_n 2, 1) := by decide +kernel
theorem dX1_hasSpan_5 : decode cX1_hasSpan 5 = .ok (.ifCond .lt 17, 3) := by decide +kernel
theorem dX1_hasSpan_8 : decode cX1_hasSpan 8 = .ok (.iload_n 2, 1) := by decide +kernel
theorem dX1_hasSpan_9 : decode cX1_hasSpan 9 = .ok (.aload_n 0, 1) := by decide +kernel
theorem dX1_hasSpan_10 : decode cX1_hasSpan 10 = .ok (.getfield 23, 3) := by decide +kernel
theorem dX1_hasSpan_13 : decode cX1_hasSpan 13 = .ok (.iload_n 1, 1) := by decide +kernel
theorem dX1_hasSpan_14 : decode cX1_hasSpan 14 = .ok (.isub, 1) := by decide +kernel
theorem dX1_hasSpan_15 : decode cX1_hasSpan 15 = .ok (.if_icmp .gt 7, 3) := by decide +kernel
theorem dX1_hasSpan_18 : decode cX1_hasSpan 18 = .ok (.iconst 1, 1) := by decide +kernel
theorem dX1_hasSpan_19 : decode cX1_hasSpan 19 = .ok (.goto 4, 3) := by decide +kernel
theorem dX1_hasSpan_22 : decode cX1_hasSpan 22 = .ok (.iconst 0, 1) := by decide +kernel
theorem dX1_hasSpan_23 : decode cX1_hasSpan 23 = .ok (.ireturn, 1) := by decide +kernel
theorem dX1_put_0 : decode cX1_put 0 = .ok (.aload_n 0, 1) := by decide +kernel
theorem dX1_put_1 : decode cX1_put 1 = .ok (.getfield 19, 3) := by decide +kernel
theorem dX1_put_4 : decode cX1_put 4 = .ok (.lookupswitch 50 #[(0, 28), (1, 39)], 28) := by decide +kernel
theorem dX1_put_32 : decode cX1_put 32 = .ok (.aload_n 0, 1) := by decide +kernel
theorem dX1_put_33 : decode cX1_put 33 = .ok (.getfield 15, 3) := by decide +kernel
theorem dX1_put_36 : decode cX1_put 36 = .ok (.iload_n 1, 1) := by decide +kernel
theorem dX1_put_37 : decode cX1_put 37 = .ok (.iload_n 2, 1) := by decide +kernel
theorem dX1_put_38 : decode cX1_put 38 = .ok (.i2b, 1) := by decide +kernel
theorem dX1_put_39 : decode cX1_put 39 = .ok (.iastore, 1) := by decide +kernel
theorem dX1_put_40 : decode cX1_put 40 = .ok (.goto 21, 3) := by decide +kernel
theorem dX1_put_43 : decode cX1_put 43 = .ok (.aload_n 0, 1) := by decide +kernel
theorem dX1_put_44 : decode cX1_put 44 = .ok (.getfield 15, 3) := by decide +kernel
theorem dX1_put_47 : decode cX1_put 47 = .ok (.iload_n 1, 1) := by decide +kernel
theorem dX1_put_48 : decode cX1_put 48 = .ok (.iload_n 2, 1) := by decide +kernel
theorem dX1_put_49 : decode cX1_put 49 = .ok (.i2s, 1) := by decide +kernel
theorem dX1_put_50 : decode cX1_put 50 = .ok (.iastore, 1) := by decide +kernel
theorem dX1_put_51 : decode cX1_put 51 = .ok (.goto 10, 3) := by decide +kernel
theorem dX1_put_54 : decode cX1_put 54 = .ok (.aload_n 0, 1) := by decide +kernel
theorem dX1_put_55 : decode cX1_put 55 = .ok (.getfield 15, 3) := by decide +kernel
theorem dX1_put_58 : decode cX1_put 58 = .ok (.iload_n 1, 1) := by decide +kernel
theorem dX1_put_59 : decode cX1_put 59 = .ok (.iload_n 2, 1) := by decide +kernel
theorem dX1_put_60 : decode cX1_put 60 = .ok (.iastore, 1) := by decide +kernel
theorem dX1_put_61 : decode cX1_put 61 = .ok (.return_, 1) := by decide +kernel
theorem dX2_init_0 : decode cX2_init 0 = .ok (.aload_n 0, 1) := by decide +kernel
theorem dX2_init_1 : decode cX2_init 1 = .ok (.invokespecial 3, 3) := by decide +kernel
theorem dX2_init_4 : decode cX2_init 4 = .ok (.aload_n 0, 1) := by decide +kernel
theorem dX2_init_5 : decode cX2_init 5 = .ok (.bipush 30, 2) := by decide +kernel
theorem dX2_init_7 : decode cX2_init 7 = .ok (.putfield 9, 3) := by decide +kernel
theorem dX2_init_10 : decode cX2_init 10 = .ok (.aload_n 0, 1) := by decide +kernel
theorem dX2_init_11 : decode cX2_init 11 = .ok (.iconst 4, 1) := by decide +kernel
theorem dX2_init_12 : decode cX2_init 12 = .ok (.newarray .int, 2) := by decide +kernel
theorem dX2_init_14 : decode cX2_init 14 = .ok (.putfield 15, 3) := by decide +kernel
theorem dX2_init_17 : decode cX2_init 17 = .ok (.aload_n 0, 1) := by decide +kernel
theorem dX2_init_18 : decode cX2_init 18 = .ok (.iconst 4, 1) := by decide +kernel
theorem dX2_init_19 : decode cX2_init 19 = .ok (.newarray .int, 2) := by decide +kernel
theorem dX2_init_21 : decode cX2_init 21 = .ok (.putfield 19, 3) := by decide +kernel
theorem dX2_init_24 : decode cX2_init 24 = .ok (.aload_n 0, 1) := by decide +kernel
theorem dX2_init_25 : decode cX2_init 25 = .ok (.iconst 4, 1) := by decide +kernel
theorem dX2_init_26 : decode cX2_init 26 = .ok (.newarray .int, 2) := by decide +kernel
theorem dX2_init_28 : decode cX2_init 28 = .ok (.putfield 22, 3) := by decide +kernel
theorem dX2_init_31 : decode cX2_init 31 = .ok (.aload_n 0, 1) := by decide +kernel
theorem dX2_init_32 : decode cX2_init 32 = .ok (.iconst 4, 1) := by decide +kernel
theorem dX2_init_33 : decode cX2_init 33 = .ok (.newarray .int, 2) := by decide +kernel
theorem dX2_init_35 : decode cX2_init 35 = .ok (.putfield 25, 3) := by decide +kernel
theorem dX2_init_38 : decode cX2_init 38 = .ok (.aload_n 0, 1) := by decide +kernel
theorem dX2_init_39 : decode cX2_init 39 = .ok (.iconst 4, 1) := by decide +kernel
theorem dX2_init_40 : decode cX2_init 40 = .ok (.newarray .int, 2) := by decide +kernel
theorem dX2_init_42 : decode cX2_init 42 = .ok (.putfield 28, 3) := by decide +kernel
theorem dX2_init_45 : decode cX2_init 45 = .ok (.aload_n 0, 1) := by decide +kernel
theorem dX2_init_46 : decode cX2_init 46 = .ok (.iconst 4, 1) := by decide +kernel
theorem dX2_init_47 : decode cX2_init 47 = .ok (.newarray .int, 2) := by decide +kernel
theorem dX2_init_49 : decode cX2_init 49 = .ok (.putfield 31, 3) := by decide +kernel
theorem dX2_init_52 : decode cX2_init 52 = .ok (.aload_n 0, 1) := by decide +kernel
theorem dX2_init_53 : decode cX2_init 53 = .ok (.bipush 60, 2) := by decide +kernel
theorem dX2_init_55 : decode cX2_init 55 = .ok (.newarray .int, 2) := by decide +kernel
theorem dX2_init_57 : decode cX2_init 57 = .ok (.putfield 34, 3) := by decide +kernel
theorem dX2_init_60 : decode cX2_init 60 = .ok (.aload_n 0, 1) := by decide +kernel
theorem dX2_init_61 : decode cX2_init 61 = .ok (.iconst 4, 1) := by decide +kernel
theorem dX2_init_62 : decode cX2_init 62 = .ok (.newarray .int, 2) := by decide +kernel
theorem dX2_init_64 : decode cX2_init 64 = .ok (.putfield 37, 3) := by decide +kernel
theorem dX2_init_67 : decode cX2_init 67 = .ok (.return_, 1) := by decide +kernel
theorem dX2_becomeLike_0 : decode cX2_becomeLike 0 = .ok (.aload_n 0, 1) := by decide +kernel
theorem dX2_becomeLike_1 : decode cX2_becomeLike 1 = .ok (.aload_n 1, 1) := by decide +kernel
theorem dX2_becomeLike_2 : decode cX2_becomeLike 2 = .ok (.getfield 9, 3) := by decide +kernel
theorem dX2_becomeLike_5 : decode cX2_becomeLike 5 = .ok (.putfield 9, 3) := by decide +kernel
theorem dX2_becomeLike_8 : decode cX2_becomeLike 8 = .ok (.aload_n 0, 1) := by decide +kernel
theorem dX2_becomeLike_9 : decode cX2_becomeLike 9 = .ok (.aload_n 1, 1) := by decide +kernel
theorem dX2_becomeLike_10 : decode cX2_becomeLike 10 = .ok (.getfield 40, 3) := by decide +kernel
theorem dX2_becomeLike_13 : decode cX2_becomeLike 13 = .ok (.putfield 40, 3) := by decide +kernel
theorem dX2_becomeLike_16 : decode cX2_becomeLike 16 = .ok (.aload_n 0, 1) := by decide +kernel
theorem dX2_becomeLike_17 : decode cX2_becomeLike 17 = .ok (.aload_n 1, 1) := by decide +kernel
theorem dX2_becomeLike_18 : decode cX2_becomeLike 18 = .ok (.getfield 43, 3) := by decide +kernel
theorem dX2_becomeLike_21 : decode cX2_becomeLike 21 = .ok (.putfield 43, 3) := by decide +kernel
theorem dX2_becomeLike_24 : decode cX2_becomeLike 24 = .ok (.aload_n 0, 1) := by decide +kernel
theorem dX2_becomeLike_25 : decode cX2_becomeLike 25 = .ok (.aload_n 1, 1) := by decide +kernel
theorem dX2_becomeLike_26 : decode cX2_becomeLike 26 = .ok (.getfield 46, 3) := by decide +kernel
theorem dX2_becomeLike_29 : decode cX2_becomeLike 29 = .ok (.putfield 46, 3) := by decide +kernel
theorem dX2_becomeLike_32 : decode cX2_becomeLike 32 = .ok (.aload_n 1, 1) := by decide +kernel
theorem dX2_becomeLike_33 : decode cX2_becomeLike 33 = .ok (.getfield 15, 3) := by decide +kernel
theorem dX2_becomeLike_36 : decode cX2_becomeLike 36 = .ok (.iconst 0, 1) := by decide +kernel
theorem dX2_becomeLike_37 : decode cX2_becomeLike 37 = .ok (.aload_n 0, 1) := by decide +kernel
theorem dX2_becomeLike_38 : decode cX2_becomeLike 38 = .ok (.getfield 15, 3) := by decide +kernel
theorem dX2_becomeLike_41 : decode cX2_becomeLike 41 = .ok (.iconst 0, 1) := by decide +kernel
theorem dX2_becomeLike_42 : decode cX2_becomeLike 42 = .ok (.iconst 4, 1) := by decide +kernel
theorem dX2_becomeLike_43 : decode cX2_becomeLike 43 = .ok (.invokestatic 49, 3) := by decide +kernel
theorem dX2_becomeLike_46 : decode cX2_becomeLike 46 = .ok (.aload_n 1, 1) := by decide +kernel
theorem dX2_becomeLike_47 : decode cX2_becomeLike 47 = .ok (.getfield 19, 3) := by decide +kernel
theorem dX2_becomeLike_50 : decode cX2_becomeLike 50 = .ok (.iconst 0, 1) := by decide +kernel
theorem dX2_becomeLike_51 : decode cX2_becomeLike 51 = .ok (.aload_n 0, 1) := by decide +kernel
theorem dX2_becomeLike_52 : decode cX2_becomeLike 52 = .ok (.getfield 19, 3) := by decide +kernel
theorem dX2_becomeLike_55 : decode cX2_becomeLike 55 = .ok (.iconst 0, 1) := by decide +kernel
theorem dX2_becomeLike_56 : decode cX2_becomeLike 56 = .ok (.iconst 4, 1) := by decide +kernel
theorem dX2_becomeLike_57 : decode cX2_becomeLike 57 = .ok (.invokestatic 49, 3) := by decide +kernel
theorem dX2_becomeLike_60 : decode cX2_becomeLike 60 = .ok (.aload_n 1, 1) := by decide +kernel
theorem dX2_becomeLike_61 : decode cX2_becomeLike 61 = .ok (.getfield 22, 3) := by decide +kernel
theorem dX2_becomeLike_64 : decode cX2_becomeLike 64 = .ok (.iconst 0, 1) := by decide +kernel
theorem dX2_becomeLike_65 : decode cX2_becomeLike 65 = .ok (.aload_n 0, 1) := by decide +kernel
theorem dX2_becomeLike_66 : decode cX2_becomeLike 66 = .ok (.getfield 22, 3) := by decide +kernel
theorem dX2_becomeLike_69 : decode cX2_becomeLike 69 = .ok (.iconst 0, 1) := by decide +kernel
theorem dX2_becomeLike_70 : decode cX2_becomeLike 70 = .ok (.iconst 4, 1) := by decide +kernel
theorem dX2_becomeLike_71 : decode cX2_becomeLike 71 = .ok (.invokestatic 49, 3) := by decide +kernel
theorem dX2_becomeLike_74 : decode cX2_becomeLike 74 = .ok (.aload_n 1, 1) := by decide +kernel
theorem dX2_becomeLike_75 : decode cX2_becomeLike 75 = .ok (.getfield 25, 3) := by decide +kernel
theorem dX2_becomeLike_78 : decode cX2_becomeLike 78 = .ok (.iconst 0, 1) := by decide +kernel
theorem dX2_becomeLike_79 : decode cX2_becomeLike 79 = .ok (.aload_n 0, 1) := by decide +kernel
theorem dX2_becomeLike_80 : decode cX2_becomeLike 80 = .ok (.getfield 25, 3) := by decide +kernel
theorem dX2_becomeLike_83 : decode cX2_becomeLike 83 = .ok (.iconst 0, 1) := by decide +kernel
theorem dX2_becomeLike_84 : decode cX2_becomeLike 84 = .ok (.iconst 4, 1) := by decide +kernel
theorem dX2_becomeLike_85 : decode cX2_becomeLike 85 = .ok (.invokestatic 49, 3) := by decide +kernel
theorem dX2_becomeLike_88 : decode cX2_becomeLike 88 = .ok (.aload_n 1, 1) := by decide +kernel
theorem dX2_becomeLike_89 : decode cX2_becomeLike 89 = .ok (.getfield 28, 3) := by decide +kernel
theorem dX2_becomeLike_92 : decode cX2_becomeLike 92 = .ok (.iconst 0, 1) := by decide +kernel
theorem dX2_becomeLike_93 : decode cX2_becomeLike 93 = .ok (.aload_n 0, 1) := by decide +kernel
theorem dX2_becomeLike_94 : decode cX2_becomeLike 94 = .ok (.getfield 28, 3) := by decide +kernel
theorem dX2_becomeLike_97 : decode cX2_becomeLike 97 = .ok (.iconst 0, 1) := by decide +kernel
theorem dX2_becomeLike_98 : decode cX2_becomeLike 98 = .ok (.iconst 4, 1) := by decide +kernel
theorem dX2_becomeLike_99 : decode cX2_becomeLike 99 = .ok (.invokestatic 49, 3) := by decide +kernel
theorem dX2_becomeLike_102 : decode cX2_becomeLike 102 = .ok (.aload_n 1, 1) := by decide +kernel
theorem dX2_becomeLike_103 : decode cX2_becomeLike 103 = .ok (.getfield 31, 3) := by decide +kernel
theorem dX2_becomeLike_106 : decode cX2_becomeLike 106 = .ok (.iconst 0, 1) := by decide +kernel
theorem dX2_becomeLike_107 : decode cX2_becomeLike 107 = .ok (.aload_n 0, 1) := by decide +kernel
theorem dX2_becomeLike_108 : decode cX2_becomeLike 108 = .ok (.getfield 31, 3) := by decide +kernel
theorem dX2_becomeLike_111 : decode cX2_becomeLike 111 = .ok (.iconst 0, 1) := by decide +kernel
theorem dX2_becomeLike_112 : decode cX2_becomeLike 112 = .ok (.iconst 4, 1) := by decide +kernel
theorem dX2_becomeLike_113 : decode cX2_becomeLike 113 = .ok (.invokestatic 49, 3) := by decide +kernel
theorem dX2_becomeLike_116 : decode cX2_becomeLike 116 = .ok (.return_, 1) := by decide +kernel
set_option maxRecDepth 20000 in
theorem ggX2_addBasin_X2_riseOf : GoodIn wsX2_addBasin wsX2_riseOf := goodIn_r _ [11] (by decide +kernel) (by decide +kernel)
set_option maxRecDepth 20000 in
theorem gX2_addBasin_X2_riseOf : GoodIn wsX2_addBasin (va_wsS RX2 55 yX2_riseOf wsX2_riseOf) := goodIn_app (goodIn_of _ (by decide +kernel)) ggX2_addBasin_X2_riseOf
theorem dX2_addBasin_0 : decode cX2_addBasin 0 = .ok (.aload_n 0, 1) := by decide +kernel
theorem dX2_addBasin_1 : decode cX2_addBasin 1 = .ok (.getfield 43, 3) := by decide +kernel
theorem dX2_addBasin_4 : decode cX2_addBasin 4 = .ok (.istore 4, 2) := by decide +kernel
theorem dX2_addBasin_6 : decode cX2_addBasin 6 = .ok (.iload 4, 2) := by decide +kernel
theorem dX2_addBasin_8 : decode cX2_addBasin 8 = .ok (.iconst 4, 1) := by decide +kernel
theorem dX2_addBasin_9 : decode cX2_addBasin 9 = .ok (.if_icmp .lt 4, 3) := by decide +kernel
theorem dX2_addBasin_12 : decode cX2_addBasin 12 = .ok (.return_, 1) := by decide +kernel
theorem dX2_addBasin_13 : decode cX2_addBasin 13 = .ok (.aload_n 0, 1) := by decide +kernel
theorem dX2_addBasin_14 : decode cX2_addBasin 14 = .ok (.getfield 15, 3) := by decide +kernel
theorem dX2_addBasin_17 : decode cX2_addBasin 17 = .ok (.iload 4, 2) := by decide +kernel
theorem dX2_addBasin_19 : decode cX2_addBasin 19 = .ok (.iload_n 1, 1) := by decide +kernel
theorem dX2_addBasin_20 : decode cX2_addBasin 20 = .ok (.iastore, 1) := by decide +kernel
theorem dX2_addBasin_21 : decode cX2_addBasin 21 = .ok (.aload_n 0, 1) := by decide +kernel
theorem dX2_addBasin_22 : decode cX2_addBasin 22 = .ok (.getfield 19, 3) := by decide +kernel
theorem dX2_addBasin_25 : decode cX2_addBasin 25 = .ok (.iload 4, 2) := by decide +kernel
theorem dX2_addBasin_27 : decode cX2_addBasin 27 = .ok (.iload_n 2, 1) := by decide +kernel
theorem dX2_addBasin_28 : decode cX2_addBasin 28 = .ok (.iastore, 1) := by decide +kernel
theorem dX2_addBasin_29 : decode cX2_addBasin 29 = .ok (.aload_n 0, 1) := by decide +kernel
theorem dX2_addBasin_30 : decode cX2_addBasin 30 = .ok (.getfield 22, 3) := by decide +kernel
theorem dX2_addBasin_33 : decode cX2_addBasin 33 = .ok (.iload 4, 2) := by decide +kernel
theorem dX2_addBasin_35 : decode cX2_addBasin 35 = .ok (.iload_n 3, 1) := by decide +kernel
theorem dX2_addBasin_36 : decode cX2_addBasin 36 = .ok (.iastore, 1) := by decide +kernel
theorem dX2_addBasin_37 : decode cX2_addBasin 37 = .ok (.aload_n 0, 1) := by decide +kernel
theorem dX2_addBasin_38 : decode cX2_addBasin 38 = .ok (.getfield 25, 3) := by decide +kernel
theorem dX2_addBasin_41 : decode cX2_addBasin 41 = .ok (.iload 4, 2) := by decide +kernel
theorem dX2_addBasin_43 : decode cX2_addBasin 43 = .ok (.iload_n 3, 1) := by decide +kernel
theorem dX2_addBasin_44 : decode cX2_addBasin 44 = .ok (.invokestatic 55, 3) := by decide +kernel
theorem dX2_addBasin_47 : decode cX2_addBasin 47 = .ok (.iastore, 1) := by decide +kernel
theorem dX2_addBasin_48 : decode cX2_addBasin 48 = .ok (.aload_n 0, 1) := by decide +kernel
theorem dX2_addBasin_49 : decode cX2_addBasin 49 = .ok (.getfield 28, 3) := by decide +kernel
theorem dX2_addBasin_52 : decode cX2_addBasin 52 = .ok (.iload 4, 2) := by decide +kernel
theorem dX2_addBasin_54 : decode cX2_addBasin 54 = .ok (.iconst 0, 1) := by decide +kernel
theorem dX2_addBasin_55 : decode cX2_addBasin 55 = .ok (.iastore, 1) := by decide +kernel
theorem dX2_addBasin_56 : decode cX2_addBasin 56 = .ok (.aload_n 0, 1) := by decide +kernel
theorem dX2_addBasin_57 : decode cX2_addBasin 57 = .ok (.getfield 31, 3) := by decide +kernel
theorem dX2_addBasin_60 : decode cX2_addBasin 60 = .ok (.iload 4, 2) := by decide +kernel
theorem dX2_addBasin_62 : decode cX2_addBasin 62 = .ok (.iconst 0, 1) := by decide +kernel
theorem dX2_addBasin_63 : decode cX2_addBasin 63 = .ok (.iastore, 1) := by decide +kernel
theorem dX2_addBasin_64 : decode cX2_addBasin 64 = .ok (.aload_n 0, 1) := by decide +kernel
theorem dX2_addBasin_65 : decode cX2_addBasin 65 = .ok (.dup, 1) := by decide +kernel
theorem dX2_addBasin_66 : decode cX2_addBasin 66 = .ok (.getfield 43, 3) := by decide +kernel
theorem dX2_addBasin_69 : decode cX2_addBasin 69 = .ok (.iconst 1, 1) := by decide +kernel
theorem dX2_addBasin_70 : decode cX2_addBasin 70 = .ok (.iadd, 1) := by decide +kernel
theorem dX2_addBasin_71 : decode cX2_addBasin 71 = .ok (.putfield 43, 3) := by decide +kernel
theorem dX2_addBasin_74 : decode cX2_addBasin 74 = .ok (.return_, 1) := by decide +kernel
theorem dX2_riseOf_0 : decode cX2_riseOf 0 = .ok (.iload_n 0, 1) := by decide +kernel
theorem dX2_riseOf_1 : decode cX2_riseOf 1 = .ok (.lookupswitch 32 #[(1, 27), (2, 30)], 27) := by decide +kernel
theorem dX2_riseOf_28 : decode cX2_riseOf 28 = .ok (.bipush 6, 2) := by decide +kernel
theorem dX2_riseOf_30 : decode cX2_riseOf 30 = .ok (.ireturn, 1) := by decide +kernel
theorem dX2_riseOf_31 : decode cX2_riseOf 31 = .ok (.iconst 3, 1) := by decide +kernel
theorem dX2_riseOf_32 : decode cX2_riseOf 32 = .ok (.ireturn, 1) := by decide +kernel
theorem dX2_riseOf_33 : decode cX2_riseOf 33 = .ok (.iconst 2, 1) := by decide +kernel
theorem dX2_riseOf_34 : decode cX2_riseOf 34 = .ok (.ireturn, 1) := by decide +kernel
theorem dX2_isOut_0 : decode cX2_isOut 0 = .ok (.aload_n 0, 1) := by decide +kernel
theorem dX2_isOut_1 : decode cX2_isOut 1 = .ok (.getfield 46, 3) := by decide +kernel
theorem dX2_isOut_4 : decode cX2_isOut 4 = .ok (.iload_n 1, 1) := by decide +kernel
theorem dX2_isOut_5 : decode cX2_isOut 5 = .ok (.ishr, 1) := by decide +kernel
theorem dX2_isOut_6 : decode cX2_isOut 6 = .ok (.iconst 1, 1) := by decide +kernel
theorem dX2_isOut_7 : decode cX2_isOut 7 = .ok (.iand, 1) := by decide +kernel
theorem dX2_isOut_8 : decode cX2_isOut 8 = .ok (.ifCond .eq 7, 3) := by decide +kernel
theorem dX2_isOut_11 : decode cX2_isOut 11 = .ok (.iconst 1, 1) := by decide +kernel
theorem dX2_isOut_12 : decode cX2_isOut 12 = .ok (.goto 4, 3) := by decide +kernel
theorem dX2_isOut_15 : decode cX2_isOut 15 = .ok (.iconst 0, 1) := by decide +kernel
theorem dX2_isOut_16 : decode cX2_isOut 16 = .ok (.ireturn, 1) := by decide +kernel
theorem dX2_levelHolding_0 : decode cX2_levelHolding 0 = .ok (.bipush 6, 2) := by decide +kernel
theorem dX2_levelHolding_2 : decode cX2_levelHolding 2 = .ok (.aload_n 0, 1) := by decide +kernel
theorem dX2_levelHolding_3 : decode cX2_levelHolding 3 = .ok (.getfield 15, 3) := by decide +kernel
theorem dX2_levelHolding_6 : decode cX2_levelHolding 6 = .ok (.iload_n 1, 1) := by decide +kernel
theorem dX2_levelHolding_7 : decode cX2_levelHolding 7 = .ok (.iaload, 1) := by decide +kernel
theorem dX2_levelHolding_8 : decode cX2_levelHolding 8 = .ok (.imul, 1) := by decide +kernel
theorem dX2_levelHolding_9 : decode cX2_levelHolding 9 = .ok (.aload_n 0, 1) := by decide +kernel
theorem dX2_levelHolding_10 : decode cX2_levelHolding 10 = .ok (.getfield 25, 3) := by decide +kernel
theorem dX2_levelHolding_13 : decode cX2_levelHolding 13 = .ok (.iload_n 1, 1) := by decide +kernel
theorem dX2_levelHolding_14 : decode cX2_levelHolding 14 = .ok (.iaload, 1) := by decide +kernel
theorem dX2_levelHolding_15 : decode cX2_levelHolding 15 = .ok (.iload_n 2, 1) := by decide +kernel
theorem dX2_levelHolding_16 : decode cX2_levelHolding 16 = .ok (.imul, 1) := by decide +kernel
theorem dX2_levelHolding_17 : decode cX2_levelHolding 17 = .ok (.iadd, 1) := by decide +kernel
theorem dX2_levelHolding_18 : decode cX2_levelHolding 18 = .ok (.ireturn, 1) := by decide +kernel
theorem dX2_heldInAll_0 : decode cX2_heldInAll 0 = .ok (.iconst 0, 1) := by decide +kernel
theorem dX2_heldInAll_1 : decode cX2_heldInAll 1 = .ok (.istore_n 1, 1) := by decide +kernel
theorem dX2_heldInAll_2 : decode cX2_heldInAll 2 = .ok (.iconst 0, 1) := by decide +kernel
theorem dX2_heldInAll_3 : decode cX2_heldInAll 3 = .ok (.istore_n 2, 1) := by decide +kernel
theorem dX2_heldInAll_4 : decode cX2_heldInAll 4 = .ok (.iload_n 2, 1) := by decide +kernel
theorem dX2_heldInAll_5 : decode cX2_heldInAll 5 = .ok (.aload_n 0, 1) := by decide +kernel
theorem dX2_heldInAll_6 : decode cX2_heldInAll 6 = .ok (.getfield 43, 3) := by decide +kernel
theorem dX2_heldInAll_9 : decode cX2_heldInAll 9 = .ok (.if_icmp .ge 18, 3) := by decide +kernel
theorem dX2_heldInAll_12 : decode cX2_heldInAll 12 = .ok (.iload_n 1, 1) := by decide +kernel
theorem dX2_heldInAll_13 : decode cX2_heldInAll 13 = .ok (.aload_n 0, 1) := by decide +kernel
theorem dX2_heldInAll_14 : decode cX2_heldInAll 14 = .ok (.getfield 31, 3) := by decide +kernel
theorem dX2_heldInAll_17 : decode cX2_heldInAll 17 = .ok (.iload_n 2, 1) := by decide +kernel
theorem dX2_heldInAll_18 : decode cX2_heldInAll 18 = .ok (.iaload, 1) := by decide +kernel
theorem dX2_heldInAll_19 : decode cX2_heldInAll 19 = .ok (.iadd, 1) := by decide +kernel
theorem dX2_heldInAll_20 : decode cX2_heldInAll 20 = .ok (.istore_n 1, 1) := by decide +kernel
theorem dX2_heldInAll_21 : decode cX2_heldInAll 21 = .ok (.iinc 2 1, 3) := by decide +kernel
theorem dX2_heldInAll_24 : decode cX2_heldInAll 24 = .ok (.goto (-20), 3) := by decide +kernel
theorem dX2_heldInAll_27 : decode cX2_heldInAll 27 = .ok (.iload_n 1, 1) := by decide +kernel
theorem dX2_heldInAll_28 : decode cX2_heldInAll 28 = .ok (.ireturn, 1) := by decide +kernel
set_option maxRecDepth 20000 in
theorem ggX2_drawnBy_X2_makeTurn : GoodIn wsX2_drawnBy wsX2_makeTurn := goodIn_r _ [7, 1, 8, 2, 9, 10, 11, 12, 13, 14, 15, 16, 17, 18, 6, 19, 20, 21, 22, 23, 24, 25, 26, 27, 28, 29, 30, 31, 32, 33, 34, 35, 36, 37, 38, 39, 40, 41, 42, 43, 44, 45, 46, 47, 48, 49, 50, 51, 52, 53, 54, 55, 56, 57, 58, 59, 60] (by decide +kernel) (by decide +kernel)
set_option maxRecDepth 20000 in
theorem gX2_drawnBy_X2_makeTurn : GoodIn wsX2_drawnBy (wsV RX2 59 RX2 yX2_makeTurn wsX2_makeTurn) := goodIn_app (goodIn_of _ (by decide +kernel)) ggX2_drawnBy_X2_makeTurn
theorem dX2_drawnBy_0 : decode cX2_drawnBy 0 = .ok (.iconst 0, 1) := by decide +kernel
theorem dX2_drawnBy_1 : decode cX2_drawnBy 1 = .ok (.istore_n 3, 1) := by decide +kernel
theorem dX2_drawnBy_2 : decode cX2_drawnBy 2 = .ok (.iconst 0, 1) := by decide +kernel
theorem dX2_drawnBy_3 : decode cX2_drawnBy 3 = .ok (.istore 4, 2) := by decide +kernel
theorem dX2_drawnBy_5 : decode cX2_drawnBy 5 = .ok (.iload 4, 2) := by decide +kernel
theorem dX2_drawnBy_7 : decode cX2_drawnBy 7 = .ok (.iload_n 1, 1) := by decide +kernel
theorem dX2_drawnBy_8 : decode cX2_drawnBy 8 = .ok (.if_icmp .ge 44, 3) := by decide +kernel
theorem dX2_drawnBy_11 : decode cX2_drawnBy 11 = .ok (.iload_n 3, 1) := by decide +kernel
theorem dX2_drawnBy_12 : decode cX2_drawnBy 12 = .ok (.iload_n 2, 1) := by decide +kernel
theorem dX2_drawnBy_13 : decode cX2_drawnBy 13 = .ok (.if_icmp .ge 39, 3) := by decide +kernel
theorem dX2_drawnBy_16 : decode cX2_drawnBy 16 = .ok (.aload_n 0, 1) := by decide +kernel
theorem dX2_drawnBy_17 : decode cX2_drawnBy 17 = .ok (.getfield 40, 3) := by decide +kernel
theorem dX2_drawnBy_20 : decode cX2_drawnBy 20 = .ok (.ifCond .ne 7, 3) := by decide +kernel
theorem dX2_drawnBy_23 : decode cX2_drawnBy 23 = .ok (.iconst 1, 1) := by decide +kernel
theorem dX2_drawnBy_24 : decode cX2_drawnBy 24 = .ok (.goto 4, 3) := by decide +kernel
theorem dX2_drawnBy_27 : decode cX2_drawnBy 27 = .ok (.iconst 0, 1) := by decide +kernel
theorem dX2_drawnBy_28 : decode cX2_drawnBy 28 = .ok (.istore 5, 2) := by decide +kernel
theorem dX2_drawnBy_30 : decode cX2_drawnBy 30 = .ok (.aload_n 0, 1) := by decide +kernel
theorem dX2_drawnBy_31 : decode cX2_drawnBy 31 = .ok (.invokevirtual 59, 3) := by decide +kernel
theorem dX2_drawnBy_34 : decode cX2_drawnBy 34 = .ok (.iload 5, 2) := by decide +kernel
theorem dX2_drawnBy_36 : decode cX2_drawnBy 36 = .ok (.ifCond .eq 10, 3) := by decide +kernel
theorem dX2_drawnBy_39 : decode cX2_drawnBy 39 = .ok (.iload_n 3, 1) := by decide +kernel
theorem dX2_drawnBy_40 : decode cX2_drawnBy 40 = .ok (.aload_n 0, 1) := by decide +kernel
theorem dX2_drawnBy_41 : decode cX2_drawnBy 41 = .ok (.getfield 62, 3) := by decide +kernel
theorem dX2_drawnBy_44 : decode cX2_drawnBy 44 = .ok (.iadd, 1) := by decide +kernel
theorem dX2_drawnBy_45 : decode cX2_drawnBy 45 = .ok (.istore_n 3, 1) := by decide +kernel
theorem dX2_drawnBy_46 : decode cX2_drawnBy 46 = .ok (.iinc 4 1, 3) := by decide +kernel
theorem dX2_drawnBy_49 : decode cX2_drawnBy 49 = .ok (.goto (-44), 3) := by decide +kernel
theorem dX2_drawnBy_52 : decode cX2_drawnBy 52 = .ok (.iload_n 3, 1) := by decide +kernel
theorem dX2_drawnBy_53 : decode cX2_drawnBy 53 = .ok (.ireturn, 1) := by decide +kernel
set_option maxRecDepth 20000 in
theorem ggX2_makeTurn_J7_fill_53178 : GoodIn wsX2_makeTurn wsJ7_fill_53178 := goodIn_r _ [10] (by decide +kernel) (by decide +kernel)
set_option maxRecDepth 20000 in
theorem gX2_makeTurn_J7_fill_53178 : GoodIn wsX2_makeTurn (va_wsS RX2 65 yJ7_fill_53178 wsJ7_fill_53178) := goodIn_app (goodIn_of _ (by decide +kernel)) ggX2_makeTurn_J7_fill_53178
set_option maxRecDepth 20000 in
theorem ggX2_makeTurn_X2_basinToGive : GoodIn wsX2_makeTurn wsX2_basinToGive := goodIn_r _ [15, 16, 6, 17, 18, 19, 14, 20, 21, 22, 23, 24, 25, 26, 27, 43, 44, 45, 46, 47, 48, 49, 50, 51, 52, 53, 54, 55, 56] (by decide +kernel) (by decide +kernel)
set_option maxRecDepth 20000 in
theorem gX2_makeTurn_X2_basinToGive : GoodIn wsX2_makeTurn (wsV RX2 71 RX2 yX2_basinToGive wsX2_basinToGive) := goodIn_app (goodIn_of _ (by decide +kernel)) ggX2_makeTurn_X2_basinToGive
set_option maxRecDepth 20000 in
theorem ggX2_makeTurn_X2_basinToTake : GoodIn wsX2_makeTurn wsX2_basinToTake := goodIn_r _ [31, 16, 6, 32, 17, 18, 19, 14, 20, 21, 22, 23, 24, 25, 26, 27, 43, 44, 45, 46, 47, 48, 49, 50, 51, 52, 53, 54, 55, 56] (by decide +kernel) (by decide +kernel)
set_option maxRecDepth 20000 in
theorem gX2_makeTurn_X2_basinToTake : GoodIn wsX2_makeTurn (wsV RX2 74 RX2 yX2_basinToTake wsX2_basinToTake) := goodIn_app (goodIn_of _ (by decide +kernel)) ggX2_makeTurn_X2_basinToTake
set_option maxRecDepth 20000 in
theorem ggX2_makeTurn_X2_loseByLeaks : GoodIn wsX2_makeTurn wsX2_loseByLeaks := goodIn_r _ [36, 37, 16, 38, 6, 39, 40, 41, 42, 43, 44, 45, 46, 47, 48, 49, 50, 51, 52, 53, 54, 55, 56] (by decide +kernel) (by decide +kernel)
set_option maxRecDepth 20000 in
theorem gX2_makeTurn_X2_loseByLeaks : GoodIn wsX2_makeTurn (wsV RX2 77 RX2 yX2_loseByLeaks wsX2_loseByLeaks) := goodIn_app (goodIn_of _ (by decide +kernel)) ggX2_makeTurn_X2_loseByLeaks
theorem dX2_makeTurn_0 : decode cX2_makeTurn 0 = .ok (.aload_n 0, 1) := by decide +kernel
theorem dX2_makeTurn_1 : decode cX2_makeTurn 1 = .ok (.getfield 40, 3) := by decide +kernel
theorem dX2_makeTurn_4 : decode cX2_makeTurn 4 = .ok (.ifCond .ne 7, 3) := by decide +kernel
theorem dX2_makeTurn_7 : decode cX2_makeTurn 7 = .ok (.iconst 1, 1) := by decide +kernel
theorem dX2_makeTurn_8 : decode cX2_makeTurn 8 = .ok (.goto 4, 3) := by decide +kernel
theorem dX2_makeTurn_11 : decode cX2_makeTurn 11 = .ok (.iconst 0, 1) := by decide +kernel
theorem dX2_makeTurn_12 : decode cX2_makeTurn 12 = .ok (.istore_n 1, 1) := by decide +kernel
theorem dX2_makeTurn_13 : decode cX2_makeTurn 13 = .ok (.iload_n 1, 1) := by decide +kernel
theorem dX2_makeTurn_14 : decode cX2_makeTurn 14 = .ok (.ifCond .eq 7, 3) := by decide +kernel
theorem dX2_makeTurn_17 : decode cX2_makeTurn 17 = .ok (.iconst 1, 1) := by decide +kernel
theorem dX2_makeTurn_18 : decode cX2_makeTurn 18 = .ok (.goto 4, 3) := by decide +kernel
theorem dX2_makeTurn_21 : decode cX2_makeTurn 21 = .ok (.iconst (-1), 1) := by decide +kernel
theorem dX2_makeTurn_22 : decode cX2_makeTurn 22 = .ok (.istore_n 2, 1) := by decide +kernel
theorem dX2_makeTurn_23 : decode cX2_makeTurn 23 = .ok (.aload_n 0, 1) := by decide +kernel
theorem dX2_makeTurn_24 : decode cX2_makeTurn 24 = .ok (.getfield 37, 3) := by decide +kernel
theorem dX2_makeTurn_27 : decode cX2_makeTurn 27 = .ok (.iconst 0, 1) := by decide +kernel
theorem dX2_makeTurn_28 : decode cX2_makeTurn 28 = .ok (.invokestatic 65, 3) := by decide +kernel
theorem dX2_makeTurn_31 : decode cX2_makeTurn 31 = .ok (.aload_n 0, 1) := by decide +kernel
theorem dX2_makeTurn_32 : decode cX2_makeTurn 32 = .ok (.iconst 0, 1) := by decide +kernel
theorem dX2_makeTurn_33 : decode cX2_makeTurn 33 = .ok (.putfield 62, 3) := by decide +kernel
theorem dX2_makeTurn_36 : decode cX2_makeTurn 36 = .ok (.iconst 0, 1) := by decide +kernel
theorem dX2_makeTurn_37 : decode cX2_makeTurn 37 = .ok (.istore_n 3, 1) := by decide +kernel
theorem dX2_makeTurn_38 : decode cX2_makeTurn 38 = .ok (.iload_n 3, 1) := by decide +kernel
theorem dX2_makeTurn_39 : decode cX2_makeTurn 39 = .ok (.aload_n 0, 1) := by decide +kernel
theorem dX2_makeTurn_40 : decode cX2_makeTurn 40 = .ok (.getfield 9, 3) := by decide +kernel
theorem dX2_makeTurn_43 : decode cX2_makeTurn 43 = .ok (.if_icmp .ge 99, 3) := by decide +kernel
theorem dX2_makeTurn_46 : decode cX2_makeTurn 46 = .ok (.aload_n 0, 1) := by decide +kernel
theorem dX2_makeTurn_47 : decode cX2_makeTurn 47 = .ok (.dup, 1) := by decide +kernel
theorem dX2_makeTurn_48 : decode cX2_makeTurn 48 = .ok (.getfield 40, 3) := by decide +kernel
theorem dX2_makeTurn_51 : decode cX2_makeTurn 51 = .ok (.iload_n 2, 1) := by decide +kernel
theorem dX2_makeTurn_52 : decode cX2_makeTurn 52 = .ok (.iadd, 1) := by decide +kernel
theorem dX2_makeTurn_53 : decode cX2_makeTurn 53 = .ok (.putfield 40, 3) := by decide +kernel
theorem dX2_makeTurn_56 : decode cX2_makeTurn 56 = .ok (.iload_n 1, 1) := by decide +kernel
theorem dX2_makeTurn_57 : decode cX2_makeTurn 57 = .ok (.ifCond .eq 17, 3) := by decide +kernel
theorem dX2_makeTurn_60 : decode cX2_makeTurn 60 = .ok (.aload_n 0, 1) := by decide +kernel
theorem dX2_makeTurn_61 : decode cX2_makeTurn 61 = .ok (.bipush 6, 2) := by decide +kernel
theorem dX2_makeTurn_63 : decode cX2_makeTurn 63 = .ok (.aload_n 0, 1) := by decide +kernel
theorem dX2_makeTurn_64 : decode cX2_makeTurn 64 = .ok (.getfield 40, 3) := by decide +kernel
theorem dX2_makeTurn_67 : decode cX2_makeTurn 67 = .ok (.imul, 1) := by decide +kernel
theorem dX2_makeTurn_68 : decode cX2_makeTurn 68 = .ok (.invokevirtual 71, 3) := by decide +kernel
theorem dX2_makeTurn_71 : decode cX2_makeTurn 71 = .ok (.goto 14, 3) := by decide +kernel
theorem dX2_makeTurn_74 : decode cX2_makeTurn 74 = .ok (.aload_n 0, 1) := by decide +kernel
theorem dX2_makeTurn_75 : decode cX2_makeTurn 75 = .ok (.bipush 6, 2) := by decide +kernel
theorem dX2_makeTurn_77 : decode cX2_makeTurn 77 = .ok (.aload_n 0, 1) := by decide +kernel
theorem dX2_makeTurn_78 : decode cX2_makeTurn 78 = .ok (.getfield 40, 3) := by decide +kernel
theorem dX2_makeTurn_81 : decode cX2_makeTurn 81 = .ok (.imul, 1) := by decide +kernel
theorem dX2_makeTurn_82 : decode cX2_makeTurn 82 = .ok (.invokevirtual 74, 3) := by decide +kernel
theorem dX2_makeTurn_85 : decode cX2_makeTurn 85 = .ok (.istore 4, 2) := by decide +kernel
theorem dX2_makeTurn_87 : decode cX2_makeTurn 87 = .ok (.aload_n 0, 1) := by decide +kernel
theorem dX2_makeTurn_88 : decode cX2_makeTurn 88 = .ok (.getfield 34, 3) := by decide +kernel
theorem dX2_makeTurn_91 : decode cX2_makeTurn 91 = .ok (.iload_n 3, 1) := by decide +kernel
theorem dX2_makeTurn_92 : decode cX2_makeTurn 92 = .ok (.iload 4, 2) := by decide +kernel
theorem dX2_makeTurn_94 : decode cX2_makeTurn 94 = .ok (.iastore, 1) := by decide +kernel
theorem dX2_makeTurn_95 : decode cX2_makeTurn 95 = .ok (.iload 4, 2) := by decide +kernel
theorem dX2_makeTurn_97 : decode cX2_makeTurn 97 = .ok (.iconst (-1), 1) := by decide +kernel
theorem dX2_makeTurn_98 : decode cX2_makeTurn 98 = .ok (.if_icmp .ne 16, 3) := by decide +kernel
theorem dX2_makeTurn_101 : decode cX2_makeTurn 101 = .ok (.aload_n 0, 1) := by decide +kernel
theorem dX2_makeTurn_102 : decode cX2_makeTurn 102 = .ok (.dup, 1) := by decide +kernel
theorem dX2_makeTurn_103 : decode cX2_makeTurn 103 = .ok (.getfield 62, 3) := by decide +kernel
theorem dX2_makeTurn_106 : decode cX2_makeTurn 106 = .ok (.iconst 1, 1) := by decide +kernel
theorem dX2_makeTurn_107 : decode cX2_makeTurn 107 = .ok (.iadd, 1) := by decide +kernel
theorem dX2_makeTurn_108 : decode cX2_makeTurn 108 = .ok (.putfield 62, 3) := by decide +kernel
theorem dX2_makeTurn_111 : decode cX2_makeTurn 111 = .ok (.goto 25, 3) := by decide +kernel
theorem dX2_makeTurn_114 : decode cX2_makeTurn 114 = .ok (.aload_n 0, 1) := by decide +kernel
theorem dX2_makeTurn_115 : decode cX2_makeTurn 115 = .ok (.getfield 31, 3) := by decide +kernel
theorem dX2_makeTurn_118 : decode cX2_makeTurn 118 = .ok (.iload 4, 2) := by decide +kernel
theorem dX2_makeTurn_120 : decode cX2_makeTurn 120 = .ok (.dup2, 1) := by decide +kernel
theorem dX2_makeTurn_121 : decode cX2_makeTurn 121 = .ok (.iaload, 1) := by decide +kernel
theorem dX2_makeTurn_122 : decode cX2_makeTurn 122 = .ok (.iload_n 2, 1) := by decide +kernel
theorem dX2_makeTurn_123 : decode cX2_makeTurn 123 = .ok (.isub, 1) := by decide +kernel
theorem dX2_makeTurn_124 : decode cX2_makeTurn 124 = .ok (.iastore, 1) := by decide +kernel
theorem dX2_makeTurn_125 : decode cX2_makeTurn 125 = .ok (.aload_n 0, 1) := by decide +kernel
theorem dX2_makeTurn_126 : decode cX2_makeTurn 126 = .ok (.getfield 37, 3) := by decide +kernel
theorem dX2_makeTurn_129 : decode cX2_makeTurn 129 = .ok (.iload 4, 2) := by decide +kernel
theorem dX2_makeTurn_131 : decode cX2_makeTurn 131 = .ok (.dup2, 1) := by decide +kernel
theorem dX2_makeTurn_132 : decode cX2_makeTurn 132 = .ok (.iaload, 1) := by decide +kernel
theorem dX2_makeTurn_133 : decode cX2_makeTurn 133 = .ok (.iconst 1, 1) := by decide +kernel
theorem dX2_makeTurn_134 : decode cX2_makeTurn 134 = .ok (.iadd, 1) := by decide +kernel
theorem dX2_makeTurn_135 : decode cX2_makeTurn 135 = .ok (.iastore, 1) := by decide +kernel
theorem dX2_makeTurn_136 : decode cX2_makeTurn 136 = .ok (.iinc 3 1, 3) := by decide +kernel
theorem dX2_makeTurn_139 : decode cX2_makeTurn 139 = .ok (.goto (-101), 3) := by decide +kernel
theorem dX2_makeTurn_142 : decode cX2_makeTurn 142 = .ok (.aload_n 0, 1) := by decide +kernel
theorem dX2_makeTurn_143 : decode cX2_makeTurn 143 = .ok (.invokevirtual 77, 3) := by decide +kernel
theorem dX2_makeTurn_146 : decode cX2_makeTurn 146 = .ok (.return_, 1) := by decide +kernel
set_option maxRecDepth 20000 in
theorem ggX2_basinToGive_X2_isOut : GoodIn wsX2_basinToGive wsX2_isOut := goodIn_r _ [7, 8, 15, 16, 17, 18, 19, 20, 21, 22, 23, 24, 25, 26, 27, 28] (by decide +kernel) (by decide +kernel)
set_option maxRecDepth 20000 in
theorem gX2_basinToGive_X2_isOut : GoodIn wsX2_basinToGive (wsV RX2 80 RX2 yX2_isOut wsX2_isOut) := goodIn_app (goodIn_of _ (by decide +kernel)) ggX2_basinToGive_X2_isOut
set_option maxRecDepth 20000 in
theorem ggX2_basinToGive_X2_levelHolding : GoodIn wsX2_basinToGive wsX2_levelHolding := goodIn_r _ [12, 13, 14, 15, 16, 17, 18, 19, 20, 21, 22, 23, 24, 25, 26, 27, 28] (by decide +kernel) (by decide +kernel)
set_option maxRecDepth 20000 in
theorem gX2_basinToGive_X2_levelHolding : GoodIn wsX2_basinToGive (wsV RX2 84 RX2 yX2_levelHolding wsX2_levelHolding) := goodIn_app (goodIn_of _ (by decide +kernel)) ggX2_basinToGive_X2_levelHolding
theorem dX2_basinToGive_0 : decode cX2_basinToGive 0 = .ok (.iconst (-1), 1) := by decide +kernel
theorem dX2_basinToGive_1 : decode cX2_basinToGive 1 = .ok (.istore_n 2, 1) := by decide +kernel
theorem dX2_basinToGive_2 : decode cX2_basinToGive 2 = .ok (.iconst 0, 1) := by decide +kernel
theorem dX2_basinToGive_3 : decode cX2_basinToGive 3 = .ok (.istore_n 3, 1) := by decide +kernel
theorem dX2_basinToGive_4 : decode cX2_basinToGive 4 = .ok (.iconst 0, 1) := by decide +kernel
theorem dX2_basinToGive_5 : decode cX2_basinToGive 5 = .ok (.istore 4, 2) := by decide +kernel
theorem dX2_basinToGive_7 : decode cX2_basinToGive 7 = .ok (.iload 4, 2) := by decide +kernel
theorem dX2_basinToGive_9 : decode cX2_basinToGive 9 = .ok (.aload_n 0, 1) := by decide +kernel
theorem dX2_basinToGive_10 : decode cX2_basinToGive 10 = .ok (.getfield 43, 3) := by decide +kernel
theorem dX2_basinToGive_13 : decode cX2_basinToGive 13 = .ok (.if_icmp .ge 72, 3) := by decide +kernel
theorem dX2_basinToGive_16 : decode cX2_basinToGive 16 = .ok (.aload_n 0, 1) := by decide +kernel
theorem dX2_basinToGive_17 : decode cX2_basinToGive 17 = .ok (.iload 4, 2) := by decide +kernel
theorem dX2_basinToGive_19 : decode cX2_basinToGive 19 = .ok (.invokevirtual 80, 3) := by decide +kernel
theorem dX2_basinToGive_22 : decode cX2_basinToGive 22 = .ok (.ifCond .ne 57, 3) := by decide +kernel
theorem dX2_basinToGive_25 : decode cX2_basinToGive 25 = .ok (.aload_n 0, 1) := by decide +kernel
theorem dX2_basinToGive_26 : decode cX2_basinToGive 26 = .ok (.getfield 31, 3) := by decide +kernel
theorem dX2_basinToGive_29 : decode cX2_basinToGive 29 = .ok (.iload 4, 2) := by decide +kernel
theorem dX2_basinToGive_31 : decode cX2_basinToGive 31 = .ok (.iaload, 1) := by decide +kernel
theorem dX2_basinToGive_32 : decode cX2_basinToGive 32 = .ok (.iconst 1, 1) := by decide +kernel
theorem dX2_basinToGive_33 : decode cX2_basinToGive 33 = .ok (.if_icmp .ge 6, 3) := by decide +kernel
theorem dX2_basinToGive_36 : decode cX2_basinToGive 36 = .ok (.goto 43, 3) := by decide +kernel
theorem dX2_basinToGive_39 : decode cX2_basinToGive 39 = .ok (.aload_n 0, 1) := by decide +kernel
theorem dX2_basinToGive_40 : decode cX2_basinToGive 40 = .ok (.iload 4, 2) := by decide +kernel
theorem dX2_basinToGive_42 : decode cX2_basinToGive 42 = .ok (.aload_n 0, 1) := by decide +kernel
theorem dX2_basinToGive_43 : decode cX2_basinToGive 43 = .ok (.getfield 31, 3) := by decide +kernel
theorem dX2_basinToGive_46 : decode cX2_basinToGive 46 = .ok (.iload 4, 2) := by decide +kernel
theorem dX2_basinToGive_48 : decode cX2_basinToGive 48 = .ok (.iaload, 1) := by decide +kernel
theorem dX2_basinToGive_49 : decode cX2_basinToGive 49 = .ok (.iconst 1, 1) := by decide +kernel
theorem dX2_basinToGive_50 : decode cX2_basinToGive 50 = .ok (.isub, 1) := by decide +kernel
theorem dX2_basinToGive_51 : decode cX2_basinToGive 51 = .ok (.invokevirtual 84, 3) := by decide +kernel
theorem dX2_basinToGive_54 : decode cX2_basinToGive 54 = .ok (.istore 5, 2) := by decide +kernel
theorem dX2_basinToGive_56 : decode cX2_basinToGive 56 = .ok (.iload 5, 2) := by decide +kernel
theorem dX2_basinToGive_58 : decode cX2_basinToGive 58 = .ok (.iload_n 1, 1) := by decide +kernel
theorem dX2_basinToGive_59 : decode cX2_basinToGive 59 = .ok (.if_icmp .lt 20, 3) := by decide +kernel
theorem dX2_basinToGive_62 : decode cX2_basinToGive 62 = .ok (.iload_n 2, 1) := by decide +kernel
theorem dX2_basinToGive_63 : decode cX2_basinToGive 63 = .ok (.iconst (-1), 1) := by decide +kernel
theorem dX2_basinToGive_64 : decode cX2_basinToGive 64 = .ok (.if_icmp .eq 9, 3) := by decide +kernel
theorem dX2_basinToGive_67 : decode cX2_basinToGive 67 = .ok (.iload 5, 2) := by decide +kernel
theorem dX2_basinToGive_69 : decode cX2_basinToGive 69 = .ok (.iload_n 3, 1) := by decide +kernel
theorem dX2_basinToGive_70 : decode cX2_basinToGive 70 = .ok (.if_icmp .ge 9, 3) := by decide +kernel
theorem dX2_basinToGive_73 : decode cX2_basinToGive 73 = .ok (.iload 4, 2) := by decide +kernel
theorem dX2_basinToGive_75 : decode cX2_basinToGive 75 = .ok (.istore_n 2, 1) := by decide +kernel
theorem dX2_basinToGive_76 : decode cX2_basinToGive 76 = .ok (.iload 5, 2) := by decide +kernel
theorem dX2_basinToGive_78 : decode cX2_basinToGive 78 = .ok (.istore_n 3, 1) := by decide +kernel
theorem dX2_basinToGive_79 : decode cX2_basinToGive 79 = .ok (.iinc 4 1, 3) := by decide +kernel
theorem dX2_basinToGive_82 : decode cX2_basinToGive 82 = .ok (.goto (-75), 3) := by decide +kernel
theorem dX2_basinToGive_85 : decode cX2_basinToGive 85 = .ok (.iload_n 2, 1) := by decide +kernel
theorem dX2_basinToGive_86 : decode cX2_basinToGive 86 = .ok (.ireturn, 1) := by decide +kernel
set_option maxRecDepth 20000 in
theorem ggX2_basinToTake_X2_isOut : GoodIn wsX2_basinToTake wsX2_isOut := goodIn_r _ [8, 9, 16, 17, 18, 19, 20, 21, 22, 23, 24, 25, 26, 27, 28, 29] (by decide +kernel) (by decide +kernel)
set_option maxRecDepth 20000 in
theorem gX2_basinToTake_X2_isOut : GoodIn wsX2_basinToTake (wsV RX2 80 RX2 yX2_isOut wsX2_isOut) := goodIn_app (goodIn_of _ (by decide +kernel)) ggX2_basinToTake_X2_isOut
set_option maxRecDepth 20000 in
theorem ggX2_basinToTake_X2_levelHolding : GoodIn wsX2_basinToTake wsX2_levelHolding := goodIn_r _ [13, 14, 15, 16, 17, 18, 19, 20, 21, 22, 23, 24, 25, 26, 27, 28, 29] (by decide +kernel) (by decide +kernel)
set_option maxRecDepth 20000 in
theorem gX2_basinToTake_X2_levelHolding : GoodIn wsX2_basinToTake (wsV RX2 84 RX2 yX2_levelHolding wsX2_levelHolding) := goodIn_app (goodIn_of _ (by decide +kernel)) ggX2_basinToTake_X2_levelHolding
theorem dX2_basinToTake_0 : decode cX2_basinToTake 0 = .ok (.iconst (-1), 1) := by decide +kernel
theorem dX2_basinToTake_1 : decode cX2_basinToTake 1 = .ok (.istore_n 2, 1) := by decide +kernel
theorem dX2_basinToTake_2 : decode cX2_basinToTake 2 = .ok (.iconst 0, 1) := by decide +kernel
theorem dX2_basinToTake_3 : decode cX2_basinToTake 3 = .ok (.istore_n 3, 1) := by decide +kernel
theorem dX2_basinToTake_4 : decode cX2_basinToTake 4 = .ok (.iconst 0, 1) := by decide +kernel
theorem dX2_basinToTake_5 : decode cX2_basinToTake 5 = .ok (.istore 4, 2) := by decide +kernel
theorem dX2_basinToTake_7 : decode cX2_basinToTake 7 = .ok (.iload 4, 2) := by decide +kernel
theorem dX2_basinToTake_9 : decode cX2_basinToTake 9 = .ok (.aload_n 0, 1) := by decide +kernel
theorem dX2_basinToTake_10 : decode cX2_basinToTake 10 = .ok (.getfield 43, 3) := by decide +kernel
theorem dX2_basinToTake_13 : decode cX2_basinToTake 13 = .ok (.if_icmp .ge 78, 3) := by decide +kernel
theorem dX2_basinToTake_16 : decode cX2_basinToTake 16 = .ok (.aload_n 0, 1) := by decide +kernel
theorem dX2_basinToTake_17 : decode cX2_basinToTake 17 = .ok (.iload 4, 2) := by decide +kernel
theorem dX2_basinToTake_19 : decode cX2_basinToTake 19 = .ok (.invokevirtual 80, 3) := by decide +kernel
theorem dX2_basinToTake_22 : decode cX2_basinToTake 22 = .ok (.ifCond .ne 63, 3) := by decide +kernel
theorem dX2_basinToTake_25 : decode cX2_basinToTake 25 = .ok (.aload_n 0, 1) := by decide +kernel
theorem dX2_basinToTake_26 : decode cX2_basinToTake 26 = .ok (.getfield 31, 3) := by decide +kernel
theorem dX2_basinToTake_29 : decode cX2_basinToTake 29 = .ok (.iload 4, 2) := by decide +kernel
theorem dX2_basinToTake_31 : decode cX2_basinToTake 31 = .ok (.iaload, 1) := by decide +kernel
theorem dX2_basinToTake_32 : decode cX2_basinToTake 32 = .ok (.aload_n 0, 1) := by decide +kernel
theorem dX2_basinToTake_33 : decode cX2_basinToTake 33 = .ok (.getfield 19, 3) := by decide +kernel
theorem dX2_basinToTake_36 : decode cX2_basinToTake 36 = .ok (.iload 4, 2) := by decide +kernel
theorem dX2_basinToTake_38 : decode cX2_basinToTake 38 = .ok (.iaload, 1) := by decide +kernel
theorem dX2_basinToTake_39 : decode cX2_basinToTake 39 = .ok (.if_icmp .lt 6, 3) := by decide +kernel
theorem dX2_basinToTake_42 : decode cX2_basinToTake 42 = .ok (.goto 43, 3) := by decide +kernel
theorem dX2_basinToTake_45 : decode cX2_basinToTake 45 = .ok (.aload_n 0, 1) := by decide +kernel
theorem dX2_basinToTake_46 : decode cX2_basinToTake 46 = .ok (.iload 4, 2) := by decide +kernel
theorem dX2_basinToTake_48 : decode cX2_basinToTake 48 = .ok (.aload_n 0, 1) := by decide +kernel
theorem dX2_basinToTake_49 : decode cX2_basinToTake 49 = .ok (.getfield 31, 3) := by decide +kernel
theorem dX2_basinToTake_52 : decode cX2_basinToTake 52 = .ok (.iload 4, 2) := by decide +kernel
theorem dX2_basinToTake_54 : decode cX2_basinToTake 54 = .ok (.iaload, 1) := by decide +kernel
theorem dX2_basinToTake_55 : decode cX2_basinToTake 55 = .ok (.iconst 1, 1) := by decide +kernel
theorem dX2_basinToTake_56 : decode cX2_basinToTake 56 = .ok (.iadd, 1) := by decide +kernel
theorem dX2_basinToTake_57 : decode cX2_basinToTake 57 = .ok (.invokevirtual 84, 3) := by decide +kernel
theorem dX2_basinToTake_60 : decode cX2_basinToTake 60 = .ok (.istore 5, 2) := by decide +kernel
theorem dX2_basinToTake_62 : decode cX2_basinToTake 62 = .ok (.iload 5, 2) := by decide +kernel
theorem dX2_basinToTake_64 : decode cX2_basinToTake 64 = .ok (.iload_n 1, 1) := by decide +kernel
theorem dX2_basinToTake_65 : decode cX2_basinToTake 65 = .ok (.if_icmp .gt 20, 3) := by decide +kernel
theorem dX2_basinToTake_68 : decode cX2_basinToTake 68 = .ok (.iload_n 2, 1) := by decide +kernel
theorem dX2_basinToTake_69 : decode cX2_basinToTake 69 = .ok (.iconst (-1), 1) := by decide +kernel
theorem dX2_basinToTake_70 : decode cX2_basinToTake 70 = .ok (.if_icmp .eq 9, 3) := by decide +kernel
theorem dX2_basinToTake_73 : decode cX2_basinToTake 73 = .ok (.iload 5, 2) := by decide +kernel
theorem dX2_basinToTake_75 : decode cX2_basinToTake 75 = .ok (.iload_n 3, 1) := by decide +kernel
theorem dX2_basinToTake_76 : decode cX2_basinToTake 76 = .ok (.if_icmp .le 9, 3) := by decide +kernel
theorem dX2_basinToTake_79 : decode cX2_basinToTake 79 = .ok (.iload 4, 2) := by decide +kernel
theorem dX2_basinToTake_81 : decode cX2_basinToTake 81 = .ok (.istore_n 2, 1) := by decide +kernel
theorem dX2_basinToTake_82 : decode cX2_basinToTake 82 = .ok (.iload 5, 2) := by decide +kernel
theorem dX2_basinToTake_84 : decode cX2_basinToTake 84 = .ok (.istore_n 3, 1) := by decide +kernel
theorem dX2_basinToTake_85 : decode cX2_basinToTake 85 = .ok (.iinc 4 1, 3) := by decide +kernel
theorem dX2_basinToTake_88 : decode cX2_basinToTake 88 = .ok (.goto (-81), 3) := by decide +kernel
theorem dX2_basinToTake_91 : decode cX2_basinToTake 91 = .ok (.iload_n 2, 1) := by decide +kernel
theorem dX2_basinToTake_92 : decode cX2_basinToTake 92 = .ok (.ireturn, 1) := by decide +kernel
theorem dX2_loseByLeaks_0 : decode cX2_loseByLeaks 0 = .ok (.aload_n 0, 1) := by decide +kernel
theorem dX2_loseByLeaks_1 : decode cX2_loseByLeaks 1 = .ok (.iconst 0, 1) := by decide +kernel
theorem dX2_loseByLeaks_2 : decode cX2_loseByLeaks 2 = .ok (.putfield 88, 3) := by decide +kernel
theorem dX2_loseByLeaks_5 : decode cX2_loseByLeaks 5 = .ok (.iconst 0, 1) := by decide +kernel
theorem dX2_loseByLeaks_6 : decode cX2_loseByLeaks 6 = .ok (.istore_n 1, 1) := by decide +kernel
theorem dX2_loseByLeaks_7 : decode cX2_loseByLeaks 7 = .ok (.iload_n 1, 1) := by decide +kernel
theorem dX2_loseByLeaks_8 : decode cX2_loseByLeaks 8 = .ok (.aload_n 0, 1) := by decide +kernel
theorem dX2_loseByLeaks_9 : decode cX2_loseByLeaks 9 = .ok (.getfield 43, 3) := by decide +kernel
theorem dX2_loseByLeaks_12 : decode cX2_loseByLeaks 12 = .ok (.if_icmp .ge 45, 3) := by decide +kernel
theorem dX2_loseByLeaks_15 : decode cX2_loseByLeaks 15 = .ok (.aload_n 0, 1) := by decide +kernel
theorem dX2_loseByLeaks_16 : decode cX2_loseByLeaks 16 = .ok (.getfield 28, 3) := by decide +kernel
theorem dX2_loseByLeaks_19 : decode cX2_loseByLeaks 19 = .ok (.iload_n 1, 1) := by decide +kernel
theorem dX2_loseByLeaks_20 : decode cX2_loseByLeaks 20 = .ok (.iaload, 1) := by decide +kernel
theorem dX2_loseByLeaks_21 : decode cX2_loseByLeaks 21 = .ok (.aload_n 0, 1) := by decide +kernel
theorem dX2_loseByLeaks_22 : decode cX2_loseByLeaks 22 = .ok (.getfield 31, 3) := by decide +kernel
theorem dX2_loseByLeaks_25 : decode cX2_loseByLeaks 25 = .ok (.iload_n 1, 1) := by decide +kernel
theorem dX2_loseByLeaks_26 : decode cX2_loseByLeaks 26 = .ok (.iaload, 1) := by decide +kernel
theorem dX2_loseByLeaks_27 : decode cX2_loseByLeaks 27 = .ok (.invokestatic 91, 3) := by decide +kernel
theorem dX2_loseByLeaks_30 : decode cX2_loseByLeaks 30 = .ok (.istore_n 2, 1) := by decide +kernel
theorem dX2_loseByLeaks_31 : decode cX2_loseByLeaks 31 = .ok (.aload_n 0, 1) := by decide +kernel
theorem dX2_loseByLeaks_32 : decode cX2_loseByLeaks 32 = .ok (.getfield 31, 3) := by decide +kernel
theorem dX2_loseByLeaks_35 : decode cX2_loseByLeaks 35 = .ok (.iload_n 1, 1) := by decide +kernel
theorem dX2_loseByLeaks_36 : decode cX2_loseByLeaks 36 = .ok (.dup2, 1) := by decide +kernel
theorem dX2_loseByLeaks_37 : decode cX2_loseByLeaks 37 = .ok (.iaload, 1) := by decide +kernel
theorem dX2_loseByLeaks_38 : decode cX2_loseByLeaks 38 = .ok (.iload_n 2, 1) := by decide +kernel
theorem dX2_loseByLeaks_39 : decode cX2_loseByLeaks 39 = .ok (.isub, 1) := by decide +kernel
theorem dX2_loseByLeaks_40 : decode cX2_loseByLeaks 40 = .ok (.iastore, 1) := by decide +kernel
theorem dX2_loseByLeaks_41 : decode cX2_loseByLeaks 41 = .ok (.aload_n 0, 1) := by decide +kernel
theorem dX2_loseByLeaks_42 : decode cX2_loseByLeaks 42 = .ok (.dup, 1) := by decide +kernel
theorem dX2_loseByLeaks_43 : decode cX2_loseByLeaks 43 = .ok (.getfield 88, 3) := by decide +kernel
theorem dX2_loseByLeaks_46 : decode cX2_loseByLeaks 46 = .ok (.iload_n 2, 1) := by decide +kernel
theorem dX2_loseByLeaks_47 : decode cX2_loseByLeaks 47 = .ok (.iadd, 1) := by decide +kernel
theorem dX2_loseByLeaks_48 : decode cX2_loseByLeaks 48 = .ok (.putfield 88, 3) := by decide +kernel
theorem dX2_loseByLeaks_51 : decode cX2_loseByLeaks 51 = .ok (.iinc 1 1, 3) := by decide +kernel
theorem dX2_loseByLeaks_54 : decode cX2_loseByLeaks 54 = .ok (.goto (-47), 3) := by decide +kernel
theorem dX2_loseByLeaks_57 : decode cX2_loseByLeaks 57 = .ok (.return_, 1) := by decide +kernel
set_option maxRecDepth 20000 in
theorem ggX3_init_X2_init : GoodIn wsX3_init wsX2_init := goodIn_r _ [20, 21, 2, 3, 22, 13, 23, 24, 25, 26, 27, 28, 29, 30, 40, 41, 42, 43, 44, 45, 46, 47, 48, 49, 50, 51, 52, 53] (by decide +kernel) (by decide +kernel)
set_option maxRecDepth 20000 in
theorem gX3_init_X2_init_n9 : GoodIn wsX3_init (wsX2_init) := ggX3_init_X2_init
set_option maxRecDepth 20000 in
theorem ggX3_init_X0_init : GoodIn wsX3_init wsX0_init := goodIn_r _ [32, 33, 2, 3, 13, 34, 67, 68] (by decide +kernel) (by decide +kernel)
set_option maxRecDepth 20000 in
theorem gX3_init_X0_init_n35 : GoodIn wsX3_init (wsX0_init) := ggX3_init_X0_init
set_option maxRecDepth 20000 in
theorem ggX3_init_X1_init : GoodIn wsX3_init wsX1_init := goodIn_r _ [36, 37, 2, 3, 38, 13, 39, 69, 70, 71, 72] (by decide +kernel) (by decide +kernel)
set_option maxRecDepth 20000 in
theorem gX3_init_X1_init_n36 : GoodIn wsX3_init (wsX1_init) := ggX3_init_X1_init
theorem dX3_init_0 : decode cX3_init 0 = .ok (.aload_n 0, 1) := by decide +kernel
theorem dX3_init_1 : decode cX3_init 1 = .ok (.invokespecial 1, 3) := by decide +kernel
theorem dX3_init_4 : decode cX3_init 4 = .ok (.aload_n 0, 1) := by decide +kernel
theorem dX3_init_5 : decode cX3_init 5 = .ok (.new 7, 3) := by decide +kernel
theorem dX3_init_8 : decode cX3_init 8 = .ok (.dup, 1) := by decide +kernel
theorem dX3_init_9 : decode cX3_init 9 = .ok (.invokespecial 9, 3) := by decide +kernel
theorem dX3_init_12 : decode cX3_init 12 = .ok (.putfield 10, 3) := by decide +kernel
theorem dX3_init_15 : decode cX3_init 15 = .ok (.aload_n 0, 1) := by decide +kernel
theorem dX3_init_16 : decode cX3_init 16 = .ok (.new 7, 3) := by decide +kernel
theorem dX3_init_19 : decode cX3_init 19 = .ok (.dup, 1) := by decide +kernel
theorem dX3_init_20 : decode cX3_init 20 = .ok (.invokespecial 9, 3) := by decide +kernel
theorem dX3_init_23 : decode cX3_init 23 = .ok (.putfield 16, 3) := by decide +kernel
theorem dX3_init_26 : decode cX3_init 26 = .ok (.aload_n 0, 1) := by decide +kernel
theorem dX3_init_27 : decode cX3_init 27 = .ok (.iconst 2, 1) := by decide +kernel
theorem dX3_init_28 : decode cX3_init 28 = .ok (.anewarray 19, 3) := by decide +kernel
theorem dX3_init_31 : decode cX3_init 31 = .ok (.putfield 21, 3) := by decide +kernel
theorem dX3_init_34 : decode cX3_init 34 = .ok (.aload_n 0, 1) := by decide +kernel
theorem dX3_init_35 : decode cX3_init 35 = .ok (.iconst 4, 1) := by decide +kernel
theorem dX3_init_36 : decode cX3_init 36 = .ok (.anewarray 25, 3) := by decide +kernel
theorem dX3_init_39 : decode cX3_init 39 = .ok (.putfield 27, 3) := by decide +kernel
theorem dX3_init_42 : decode cX3_init 42 = .ok (.aload_n 0, 1) := by decide +kernel
theorem dX3_init_43 : decode cX3_init 43 = .ok (.sipush 540, 3) := by decide +kernel
theorem dX3_init_46 : decode cX3_init 46 = .ok (.newarray .int, 2) := by decide +kernel
theorem dX3_init_48 : decode cX3_init 48 = .ok (.putfield 31, 3) := by decide +kernel
theorem dX3_init_51 : decode cX3_init 51 = .ok (.aload_n 0, 1) := by decide +kernel
theorem dX3_init_52 : decode cX3_init 52 = .ok (.getfield 21, 3) := by decide +kernel
theorem dX3_init_55 : decode cX3_init 55 = .ok (.iconst 0, 1) := by decide +kernel
theorem dX3_init_56 : decode cX3_init 56 = .ok (.new 19, 3) := by decide +kernel
theorem dX3_init_59 : decode cX3_init 59 = .ok (.dup, 1) := by decide +kernel
theorem dX3_init_60 : decode cX3_init 60 = .ok (.invokespecial 35, 3) := by decide +kernel
theorem dX3_init_63 : decode cX3_init 63 = .ok (.aastore, 1) := by decide +kernel
theorem dX3_init_64 : decode cX3_init 64 = .ok (.aload_n 0, 1) := by decide +kernel
theorem dX3_init_65 : decode cX3_init 65 = .ok (.getfield 21, 3) := by decide +kernel
theorem dX3_init_68 : decode cX3_init 68 = .ok (.iconst 1, 1) := by decide +kernel
theorem dX3_init_69 : decode cX3_init 69 = .ok (.new 19, 3) := by decide +kernel
theorem dX3_init_72 : decode cX3_init 72 = .ok (.dup, 1) := by decide +kernel
theorem dX3_init_73 : decode cX3_init 73 = .ok (.invokespecial 35, 3) := by decide +kernel
theorem dX3_init_76 : decode cX3_init 76 = .ok (.aastore, 1) := by decide +kernel
theorem dX3_init_77 : decode cX3_init 77 = .ok (.iconst 0, 1) := by decide +kernel
theorem dX3_init_78 : decode cX3_init 78 = .ok (.istore_n 1, 1) := by decide +kernel
theorem dX3_init_79 : decode cX3_init 79 = .ok (.iload_n 1, 1) := by decide +kernel
theorem dX3_init_80 : decode cX3_init 80 = .ok (.iconst 4, 1) := by decide +kernel
theorem dX3_init_81 : decode cX3_init 81 = .ok (.if_icmp .ge 22, 3) := by decide +kernel
theorem dX3_init_84 : decode cX3_init 84 = .ok (.aload_n 0, 1) := by decide +kernel
theorem dX3_init_85 : decode cX3_init 85 = .ok (.getfield 27, 3) := by decide +kernel
theorem dX3_init_88 : decode cX3_init 88 = .ok (.iload_n 1, 1) := by decide +kernel
theorem dX3_init_89 : decode cX3_init 89 = .ok (.new 25, 3) := by decide +kernel
theorem dX3_init_92 : decode cX3_init 92 = .ok (.dup, 1) := by decide +kernel
theorem dX3_init_93 : decode cX3_init 93 = .ok (.invokespecial 36, 3) := by decide +kernel
theorem dX3_init_96 : decode cX3_init 96 = .ok (.aastore, 1) := by decide +kernel
theorem dX3_init_97 : decode cX3_init 97 = .ok (.iinc 1 1, 3) := by decide +kernel
theorem dX3_init_100 : decode cX3_init 100 = .ok (.goto (-21), 3) := by decide +kernel
theorem dX3_init_103 : decode cX3_init 103 = .ok (.return_, 1) := by decide +kernel
theorem dX3_head_0 : decode cX3_head 0 = .ok (.iload_n 1, 1) := by decide +kernel
theorem dX3_head_1 : decode cX3_head 1 = .ok (.iconst 1, 1) := by decide +kernel
theorem dX3_head_2 : decode cX3_head 2 = .ok (.if_icmp .lt 9, 3) := by decide +kernel
theorem dX3_head_5 : decode cX3_head 5 = .ok (.iload_n 1, 1) := by decide +kernel
theorem dX3_head_6 : decode cX3_head 6 = .ok (.bipush 60, 2) := by decide +kernel
theorem dX3_head_8 : decode cX3_head 8 = .ok (.if_icmp .le 6, 3) := by decide +kernel
theorem dX3_head_11 : decode cX3_head 11 = .ok (.bipush (-2), 2) := by decide +kernel
theorem dX3_head_13 : decode cX3_head 13 = .ok (.ireturn, 1) := by decide +kernel
theorem dX3_head_14 : decode cX3_head 14 = .ok (.aload_n 0, 1) := by decide +kernel
theorem dX3_head_15 : decode cX3_head 15 = .ok (.getfield 10, 3) := by decide +kernel
theorem dX3_head_18 : decode cX3_head 18 = .ok (.getfield 37, 3) := by decide +kernel
theorem dX3_head_21 : decode cX3_head 21 = .ok (.ifCond .eq 6, 3) := by decide +kernel
theorem dX3_head_24 : decode cX3_head 24 = .ok (.bipush (-3), 2) := by decide +kernel
theorem dX3_head_26 : decode cX3_head 26 = .ok (.ireturn, 1) := by decide +kernel
theorem dX3_head_27 : decode cX3_head 27 = .ok (.aload_n 0, 1) := by decide +kernel
theorem dX3_head_28 : decode cX3_head 28 = .ok (.getfield 10, 3) := by decide +kernel
theorem dX3_head_31 : decode cX3_head 31 = .ok (.getfield 41, 3) := by decide +kernel
theorem dX3_head_34 : decode cX3_head 34 = .ok (.istore_n 2, 1) := by decide +kernel
theorem dX3_head_35 : decode cX3_head 35 = .ok (.aload_n 0, 1) := by decide +kernel
theorem dX3_head_36 : decode cX3_head 36 = .ok (.getfield 10, 3) := by decide +kernel
theorem dX3_head_39 : decode cX3_head 39 = .ok (.iload_n 1, 1) := by decide +kernel
theorem dX3_head_40 : decode cX3_head 40 = .ok (.putfield 41, 3) := by decide +kernel
theorem dX3_head_43 : decode cX3_head 43 = .ok (.iload_n 2, 1) := by decide +kernel
theorem dX3_head_44 : decode cX3_head 44 = .ok (.ireturn, 1) := by decide +kernel
set_option maxRecDepth 20000 in
theorem ggX3_basin_X3_mayBeBasin : GoodIn wsX3_basin wsX3_mayBeBasin := goodIn_r _ [6] (by decide +kernel) (by decide +kernel)
set_option maxRecDepth 20000 in
theorem gX3_basin_X3_mayBeBasin : GoodIn wsX3_basin (va_wsS RX3 44 yX3_mayBeBasin wsX3_mayBeBasin) := goodIn_app (goodIn_of _ (by decide +kernel)) ggX3_basin_X3_mayBeBasin
set_option maxRecDepth 20000 in
theorem ggX3_basin_X2_addBasin : GoodIn wsX3_basin wsX2_addBasin := goodIn_r _ [11, 12, 13, 14, 15, 16, 17, 18, 19, 20, 10, 21, 35, 36, 37, 38, 39, 40, 41, 42, 43, 44, 45, 46, 47, 48] (by decide +kernel) (by decide +kernel)
set_option maxRecDepth 20000 in
theorem gX3_basin_X2_addBasin : GoodIn wsX3_basin (wsV RX3 51 RX2 yX2_addBasin wsX2_addBasin) := goodIn_app (goodIn_of _ (by decide +kernel)) ggX3_basin_X2_addBasin
theorem dX3_basin_0 : decode cX3_basin 0 = .ok (.iload_n 1, 1) := by decide +kernel
theorem dX3_basin_1 : decode cX3_basin 1 = .ok (.iload_n 2, 1) := by decide +kernel
theorem dX3_basin_2 : decode cX3_basin 2 = .ok (.iload_n 3, 1) := by decide +kernel
theorem dX3_basin_3 : decode cX3_basin 3 = .ok (.invokestatic 44, 3) := by decide +kernel
theorem dX3_basin_6 : decode cX3_basin 6 = .ok (.ifCond .ne 6, 3) := by decide +kernel
theorem dX3_basin_9 : decode cX3_basin 9 = .ok (.bipush (-2), 2) := by decide +kernel
theorem dX3_basin_11 : decode cX3_basin 11 = .ok (.ireturn, 1) := by decide +kernel
theorem dX3_basin_12 : decode cX3_basin 12 = .ok (.aload_n 0, 1) := by decide +kernel
theorem dX3_basin_13 : decode cX3_basin 13 = .ok (.getfield 10, 3) := by decide +kernel
theorem dX3_basin_16 : decode cX3_basin 16 = .ok (.getfield 48, 3) := by decide +kernel
theorem dX3_basin_19 : decode cX3_basin 19 = .ok (.iconst 4, 1) := by decide +kernel
theorem dX3_basin_20 : decode cX3_basin 20 = .ok (.if_icmp .lt 6, 3) := by decide +kernel
theorem dX3_basin_23 : decode cX3_basin 23 = .ok (.bipush (-4), 2) := by decide +kernel
theorem dX3_basin_25 : decode cX3_basin 25 = .ok (.ireturn, 1) := by decide +kernel
theorem dX3_basin_26 : decode cX3_basin 26 = .ok (.aload_n 0, 1) := by decide +kernel
theorem dX3_basin_27 : decode cX3_basin 27 = .ok (.getfield 10, 3) := by decide +kernel
theorem dX3_basin_30 : decode cX3_basin 30 = .ok (.iload_n 1, 1) := by decide +kernel
theorem dX3_basin_31 : decode cX3_basin 31 = .ok (.iload_n 2, 1) := by decide +kernel
theorem dX3_basin_32 : decode cX3_basin 32 = .ok (.iload_n 3, 1) := by decide +kernel
theorem dX3_basin_33 : decode cX3_basin 33 = .ok (.invokevirtual 51, 3) := by decide +kernel
theorem dX3_basin_36 : decode cX3_basin 36 = .ok (.aload_n 0, 1) := by decide +kernel
theorem dX3_basin_37 : decode cX3_basin 37 = .ok (.getfield 10, 3) := by decide +kernel
theorem dX3_basin_40 : decode cX3_basin 40 = .ok (.getfield 48, 3) := by decide +kernel
theorem dX3_basin_43 : decode cX3_basin 43 = .ok (.ireturn, 1) := by decide +kernel
theorem dX3_back_0 : decode cX3_back 0 = .ok (.aload_n 0, 1) := by decide +kernel
theorem dX3_back_1 : decode cX3_back 1 = .ok (.getfield 10, 3) := by decide +kernel
theorem dX3_back_4 : decode cX3_back 4 = .ok (.getfield 48, 3) := by decide +kernel
theorem dX3_back_7 : decode cX3_back 7 = .ok (.iconst 1, 1) := by decide +kernel
theorem dX3_back_8 : decode cX3_back 8 = .ok (.isub, 1) := by decide +kernel
theorem dX3_back_9 : decode cX3_back 9 = .ok (.istore_n 1, 1) := by decide +kernel
theorem dX3_back_10 : decode cX3_back 10 = .ok (.iload_n 1, 1) := by decide +kernel
theorem dX3_back_11 : decode cX3_back 11 = .ok (.ifCond .lt 15, 3) := by decide +kernel
theorem dX3_back_14 : decode cX3_back 14 = .ok (.aload_n 0, 1) := by decide +kernel
theorem dX3_back_15 : decode cX3_back 15 = .ok (.getfield 10, 3) := by decide +kernel
theorem dX3_back_18 : decode cX3_back 18 = .ok (.getfield 55, 3) := by decide +kernel
theorem dX3_back_21 : decode cX3_back 21 = .ok (.iload_n 1, 1) := by decide +kernel
theorem dX3_back_22 : decode cX3_back 22 = .ok (.iaload, 1) := by decide +kernel
theorem dX3_back_23 : decode cX3_back 23 = .ok (.ifCond .eq 6, 3) := by decide +kernel
theorem dX3_back_26 : decode cX3_back 26 = .ok (.bipush (-3), 2) := by decide +kernel
theorem dX3_back_28 : decode cX3_back 28 = .ok (.ireturn, 1) := by decide +kernel
theorem dX3_back_29 : decode cX3_back 29 = .ok (.aload_n 0, 1) := by decide +kernel
theorem dX3_back_30 : decode cX3_back 30 = .ok (.getfield 10, 3) := by decide +kernel
theorem dX3_back_33 : decode cX3_back 33 = .ok (.iload_n 1, 1) := by decide +kernel
theorem dX3_back_34 : decode cX3_back 34 = .ok (.putfield 48, 3) := by decide +kernel
theorem dX3_back_37 : decode cX3_back 37 = .ok (.aload_n 0, 1) := by decide +kernel
theorem dX3_back_38 : decode cX3_back 38 = .ok (.getfield 10, 3) := by decide +kernel
theorem dX3_back_41 : decode cX3_back 41 = .ok (.dup, 1) := by decide +kernel
theorem dX3_back_42 : decode cX3_back 42 = .ok (.getfield 58, 3) := by decide +kernel
theorem dX3_back_45 : decode cX3_back 45 = .ok (.iconst 1, 1) := by decide +kernel
theorem dX3_back_46 : decode cX3_back 46 = .ok (.iload_n 1, 1) := by decide +kernel
theorem dX3_back_47 : decode cX3_back 47 = .ok (.ishl, 1) := by decide +kernel
theorem dX3_back_48 : decode cX3_back 48 = .ok (.iconst (-1), 1) := by decide +kernel
theorem dX3_back_49 : decode cX3_back 49 = .ok (.ixor, 1) := by decide +kernel
theorem dX3_back_50 : decode cX3_back 50 = .ok (.iand, 1) := by decide +kernel
theorem dX3_back_51 : decode cX3_back 51 = .ok (.putfield 58, 3) := by decide +kernel
theorem dX3_back_54 : decode cX3_back 54 = .ok (.iload_n 1, 1) := by decide +kernel
theorem dX3_back_55 : decode cX3_back 55 = .ok (.ireturn, 1) := by decide +kernel
set_option maxRecDepth 20000 in
theorem ggX3_out_X3_isBasin : GoodIn wsX3_out wsX3_isBasin := goodIn_r _ [7, 1, 8, 9, 10, 11, 12, 13, 14, 15, 16, 17, 18, 19, 20, 21, 22, 23, 24, 25, 26, 27, 28, 29, 30, 31, 32, 33, 34, 35] (by decide +kernel) (by decide +kernel)
set_option maxRecDepth 20000 in
theorem gX3_out_X3_isBasin : GoodIn wsX3_out (wsV RX3 61 RX3 yX3_isBasin wsX3_isBasin) := goodIn_app (goodIn_of _ (by decide +kernel)) ggX3_out_X3_isBasin
theorem dX3_out_0 : decode cX3_out 0 = .ok (.aload_n 0, 1) := by decide +kernel
theorem dX3_out_1 : decode cX3_out 1 = .ok (.iload_n 1, 1) := by decide +kernel
theorem dX3_out_2 : decode cX3_out 2 = .ok (.invokevirtual 61, 3) := by decide +kernel
theorem dX3_out_5 : decode cX3_out 5 = .ok (.ifCond .ne 6, 3) := by decide +kernel
theorem dX3_out_8 : decode cX3_out 8 = .ok (.bipush (-2), 2) := by decide +kernel
theorem dX3_out_10 : decode cX3_out 10 = .ok (.ireturn, 1) := by decide +kernel
theorem dX3_out_11 : decode cX3_out 11 = .ok (.aload_n 0, 1) := by decide +kernel
theorem dX3_out_12 : decode cX3_out 12 = .ok (.getfield 10, 3) := by decide +kernel
theorem dX3_out_15 : decode cX3_out 15 = .ok (.dup, 1) := by decide +kernel
theorem dX3_out_16 : decode cX3_out 16 = .ok (.getfield 58, 3) := by decide +kernel
theorem dX3_out_19 : decode cX3_out 19 = .ok (.iconst 1, 1) := by decide +kernel
theorem dX3_out_20 : decode cX3_out 20 = .ok (.iload_n 1, 1) := by decide +kernel
theorem dX3_out_21 : decode cX3_out 21 = .ok (.ishl, 1) := by decide +kernel
theorem dX3_out_22 : decode cX3_out 22 = .ok (.ixor, 1) := by decide +kernel
theorem dX3_out_23 : decode cX3_out 23 = .ok (.putfield 58, 3) := by decide +kernel
theorem dX3_out_26 : decode cX3_out 26 = .ok (.aload_n 0, 1) := by decide +kernel
theorem dX3_out_27 : decode cX3_out 27 = .ok (.getfield 10, 3) := by decide +kernel
theorem dX3_out_30 : decode cX3_out 30 = .ok (.getfield 58, 3) := by decide +kernel
theorem dX3_out_33 : decode cX3_out 33 = .ok (.ireturn, 1) := by decide +kernel
set_option maxRecDepth 20000 in
theorem ggX3_leak_X3_isBasin : GoodIn wsX3_leak wsX3_isBasin := goodIn_r _ [7, 1, 8, 9, 10, 11, 12, 13, 14, 15, 16, 17, 18, 19, 20, 21, 22, 23, 24, 25, 26, 27, 28, 29, 30, 31, 32, 33, 34, 35] (by decide +kernel) (by decide +kernel)
set_option maxRecDepth 20000 in
theorem gX3_leak_X3_isBasin : GoodIn wsX3_leak (wsV RX3 61 RX3 yX3_isBasin wsX3_isBasin) := goodIn_app (goodIn_of _ (by decide +kernel)) ggX3_leak_X3_isBasin
theorem dX3_leak_0 : decode cX3_leak 0 = .ok (.aload_n 0, 1) := by decide +kernel
theorem dX3_leak_1 : decode cX3_leak 1 = .ok (.iload_n 1, 1) := by decide +kernel
theorem dX3_leak_2 : decode cX3_leak 2 = .ok (.invokevirtual 61, 3) := by decide +kernel
theorem dX3_leak_5 : decode cX3_leak 5 = .ok (.ifCond .eq 12, 3) := by decide +kernel
theorem dX3_leak_8 : decode cX3_leak 8 = .ok (.iload_n 2, 1) := by decide +kernel
theorem dX3_leak_9 : decode cX3_leak 9 = .ok (.ifCond .lt 8, 3) := by decide +kernel
theorem dX3_leak_12 : decode cX3_leak 12 = .ok (.iload_n 2, 1) := by decide +kernel
theorem dX3_leak_13 : decode cX3_leak 13 = .ok (.iconst 3, 1) := by decide +kernel
theorem dX3_leak_14 : decode cX3_leak 14 = .ok (.if_icmp .le 6, 3) := by decide +kernel
theorem dX3_leak_17 : decode cX3_leak 17 = .ok (.bipush (-2), 2) := by decide +kernel
theorem dX3_leak_19 : decode cX3_leak 19 = .ok (.ireturn, 1) := by decide +kernel
theorem dX3_leak_20 : decode cX3_leak 20 = .ok (.aload_n 0, 1) := by decide +kernel
theorem dX3_leak_21 : decode cX3_leak 21 = .ok (.getfield 10, 3) := by decide +kernel
theorem dX3_leak_24 : decode cX3_leak 24 = .ok (.getfield 65, 3) := by decide +kernel
theorem dX3_leak_27 : decode cX3_leak 27 = .ok (.iload_n 1, 1) := by decide +kernel
theorem dX3_leak_28 : decode cX3_leak 28 = .ok (.iaload, 1) := by decide +kernel
theorem dX3_leak_29 : decode cX3_leak 29 = .ok (.istore_n 3, 1) := by decide +kernel
theorem dX3_leak_30 : decode cX3_leak 30 = .ok (.aload_n 0, 1) := by decide +kernel
theorem dX3_leak_31 : decode cX3_leak 31 = .ok (.getfield 10, 3) := by decide +kernel
theorem dX3_leak_34 : decode cX3_leak 34 = .ok (.getfield 65, 3) := by decide +kernel
theorem dX3_leak_37 : decode cX3_leak 37 = .ok (.iload_n 1, 1) := by decide +kernel
theorem dX3_leak_38 : decode cX3_leak 38 = .ok (.iload_n 2, 1) := by decide +kernel
theorem dX3_leak_39 : decode cX3_leak 39 = .ok (.iastore, 1) := by decide +kernel
theorem dX3_leak_40 : decode cX3_leak 40 = .ok (.iload_n 3, 1) := by decide +kernel
theorem dX3_leak_41 : decode cX3_leak 41 = .ok (.ireturn, 1) := by decide +kernel
set_option maxRecDepth 20000 in
theorem ggX3_read_X3_isSheet : GoodIn wsX3_read wsX3_isSheet := goodIn_r _ [10] (by decide +kernel) (by decide +kernel)
set_option maxRecDepth 20000 in
theorem gX3_read_X3_isSheet : GoodIn wsX3_read (va_wsS RX3 68 yX3_isSheet wsX3_isSheet) := goodIn_app (goodIn_of _ (by decide +kernel)) ggX3_read_X3_isSheet
set_option maxRecDepth 20000 in
theorem ggX3_read_X3_found : GoodIn wsX3_read wsX3_found := goodIn_r _ [14, 15, 34, 35, 36, 37, 38, 39, 40, 41, 42, 43, 44, 45, 46] (by decide +kernel) (by decide +kernel)
set_option maxRecDepth 20000 in
theorem gX3_read_X3_found : GoodIn wsX3_read (wsV RX3 75 RX3 yX3_found wsX3_found) := goodIn_app (goodIn_of _ (by decide +kernel)) ggX3_read_X3_found
set_option maxRecDepth 20000 in
theorem ggX3_read_X3_mayBeBasin : GoodIn wsX3_read wsX3_mayBeBasin := goodIn_r _ [18] (by decide +kernel) (by decide +kernel)
set_option maxRecDepth 20000 in
theorem gX3_read_X3_mayBeBasin : GoodIn wsX3_read (va_wsS RX3 44 yX3_mayBeBasin wsX3_mayBeBasin) := goodIn_app (goodIn_of _ (by decide +kernel)) ggX3_read_X3_mayBeBasin
set_option maxRecDepth 20000 in
theorem ggX3_read_X2_addBasin : GoodIn wsX3_read wsX2_addBasin := goodIn_r _ [23, 24, 25, 26, 27, 28, 29, 30, 31, 32, 22, 33, 51, 52, 53, 54, 55, 56, 57, 58, 59, 60, 61, 62, 63, 64] (by decide +kernel) (by decide +kernel)
set_option maxRecDepth 20000 in
theorem gX3_read_X2_addBasin : GoodIn wsX3_read (wsV RX3 51 RX2 yX2_addBasin wsX2_addBasin) := goodIn_app (goodIn_of _ (by decide +kernel)) ggX3_read_X2_addBasin
theorem dX3_read_0 : decode cX3_read 0 = .ok (.iload_n 1, 1) := by decide +kernel
theorem dX3_read_1 : decode cX3_read 1 = .ok (.invokestatic 68, 3) := by decide +kernel
theorem dX3_read_4 : decode cX3_read 4 = .ok (.ifCond .ne 6, 3) := by decide +kernel
theorem dX3_read_7 : decode cX3_read 7 = .ok (.bipush (-2), 2) := by decide +kernel
theorem dX3_read_9 : decode cX3_read 9 = .ok (.ireturn, 1) := by decide +kernel
theorem dX3_read_10 : decode cX3_read 10 = .ok (.aload_n 0, 1) := by decide +kernel
theorem dX3_read_11 : decode cX3_read 11 = .ok (.getfield 27, 3) := by decide +kernel
theorem dX3_read_14 : decode cX3_read 14 = .ok (.iload_n 1, 1) := by decide +kernel
theorem dX3_read_15 : decode cX3_read 15 = .ok (.aaload, 1) := by decide +kernel
theorem dX3_read_16 : decode cX3_read 16 = .ok (.astore_n 2, 1) := by decide +kernel
theorem dX3_read_17 : decode cX3_read 17 = .ok (.aload_n 2, 1) := by decide +kernel
theorem dX3_read_18 : decode cX3_read 18 = .ok (.getfield 71, 3) := by decide +kernel
theorem dX3_read_21 : decode cX3_read 21 = .ok (.ifCond .eq 9, 3) := by decide +kernel
theorem dX3_read_24 : decode cX3_read 24 = .ok (.aload_n 0, 1) := by decide +kernel
theorem dX3_read_25 : decode cX3_read 25 = .ok (.iconst 1, 1) := by decide +kernel
theorem dX3_read_26 : decode cX3_read 26 = .ok (.invokevirtual 75, 3) := by decide +kernel
theorem dX3_read_29 : decode cX3_read 29 = .ok (.ireturn, 1) := by decide +kernel
theorem dX3_read_30 : decode cX3_read 30 = .ok (.iconst 0, 1) := by decide +kernel
theorem dX3_read_31 : decode cX3_read 31 = .ok (.istore_n 3, 1) := by decide +kernel
theorem dX3_read_32 : decode cX3_read 32 = .ok (.iconst 0, 1) := by decide +kernel
theorem dX3_read_33 : decode cX3_read 33 = .ok (.istore 4, 2) := by decide +kernel
theorem dX3_read_35 : decode cX3_read 35 = .ok (.iload 4, 2) := by decide +kernel
theorem dX3_read_37 : decode cX3_read 37 = .ok (.iconst 2, 1) := by decide +kernel
theorem dX3_read_38 : decode cX3_read 38 = .ok (.iadd, 1) := by decide +kernel
theorem dX3_read_39 : decode cX3_read 39 = .ok (.aload_n 2, 1) := by decide +kernel
theorem dX3_read_40 : decode cX3_read 40 = .ok (.getfield 79, 3) := by decide +kernel
theorem dX3_read_43 : decode cX3_read 43 = .ok (.if_icmp .ge 89, 3) := by decide +kernel
theorem dX3_read_46 : decode cX3_read 46 = .ok (.aload_n 0, 1) := by decide +kernel
theorem dX3_read_47 : decode cX3_read 47 = .ok (.getfield 10, 3) := by decide +kernel
theorem dX3_read_50 : decode cX3_read 50 = .ok (.getfield 48, 3) := by decide +kernel
theorem dX3_read_53 : decode cX3_read 53 = .ok (.iconst 4, 1) := by decide +kernel
theorem dX3_read_54 : decode cX3_read 54 = .ok (.if_icmp .ge 78, 3) := by decide +kernel
theorem dX3_read_57 : decode cX3_read 57 = .ok (.aload_n 2, 1) := by decide +kernel
theorem dX3_read_58 : decode cX3_read 58 = .ok (.getfield 82, 3) := by decide +kernel
theorem dX3_read_61 : decode cX3_read 61 = .ok (.iload 4, 2) := by decide +kernel
theorem dX3_read_63 : decode cX3_read 63 = .ok (.iaload, 1) := by decide +kernel
theorem dX3_read_64 : decode cX3_read 64 = .ok (.aload_n 2, 1) := by decide +kernel
theorem dX3_read_65 : decode cX3_read 65 = .ok (.getfield 82, 3) := by decide +kernel
theorem dX3_read_68 : decode cX3_read 68 = .ok (.iload 4, 2) := by decide +kernel
theorem dX3_read_70 : decode cX3_read 70 = .ok (.iconst 1, 1) := by decide +kernel
theorem dX3_read_71 : decode cX3_read 71 = .ok (.iadd, 1) := by decide +kernel
theorem dX3_read_72 : decode cX3_read 72 = .ok (.iaload, 1) := by decide +kernel
theorem dX3_read_73 : decode cX3_read 73 = .ok (.aload_n 2, 1) := by decide +kernel
theorem dX3_read_74 : decode cX3_read 74 = .ok (.getfield 82, 3) := by decide +kernel
theorem dX3_read_77 : decode cX3_read 77 = .ok (.iload 4, 2) := by decide +kernel
theorem dX3_read_79 : decode cX3_read 79 = .ok (.iconst 2, 1) := by decide +kernel
theorem dX3_read_80 : decode cX3_read 80 = .ok (.iadd, 1) := by decide +kernel
theorem dX3_read_81 : decode cX3_read 81 = .ok (.iaload, 1) := by decide +kernel
theorem dX3_read_82 : decode cX3_read 82 = .ok (.invokestatic 44, 3) := by decide +kernel
theorem dX3_read_85 : decode cX3_read 85 = .ok (.ifCond .ne 6, 3) := by decide +kernel
theorem dX3_read_88 : decode cX3_read 88 = .ok (.goto 44, 3) := by decide +kernel
theorem dX3_read_91 : decode cX3_read 91 = .ok (.aload_n 0, 1) := by decide +kernel
theorem dX3_read_92 : decode cX3_read 92 = .ok (.getfield 10, 3) := by decide +kernel
theorem dX3_read_95 : decode cX3_read 95 = .ok (.aload_n 2, 1) := by decide +kernel
theorem dX3_read_96 : decode cX3_read 96 = .ok (.getfield 82, 3) := by decide +kernel
theorem dX3_read_99 : decode cX3_read 99 = .ok (.iload 4, 2) := by decide +kernel
theorem dX3_read_101 : decode cX3_read 101 = .ok (.iaload, 1) := by decide +kernel
theorem dX3_read_102 : decode cX3_read 102 = .ok (.aload_n 2, 1) := by decide +kernel
theorem dX3_read_103 : decode cX3_read 103 = .ok (.getfield 82, 3) := by decide +kernel
theorem dX3_read_106 : decode cX3_read 106 = .ok (.iload 4, 2) := by decide +kernel
theorem dX3_read_108 : decode cX3_read 108 = .ok (.iconst 1, 1) := by decide +kernel
theorem dX3_read_109 : decode cX3_read 109 = .ok (.iadd, 1) := by decide +kernel
theorem dX3_read_110 : decode cX3_read 110 = .ok (.iaload, 1) := by decide +kernel
theorem dX3_read_111 : decode cX3_read 111 = .ok (.aload_n 2, 1) := by decide +kernel
theorem dX3_read_112 : decode cX3_read 112 = .ok (.getfield 82, 3) := by decide +kernel
theorem dX3_read_115 : decode cX3_read 115 = .ok (.iload 4, 2) := by decide +kernel
theorem dX3_read_117 : decode cX3_read 117 = .ok (.iconst 2, 1) := by decide +kernel
theorem dX3_read_118 : decode cX3_read 118 = .ok (.iadd, 1) := by decide +kernel
theorem dX3_read_119 : decode cX3_read 119 = .ok (.iaload, 1) := by decide +kernel
theorem dX3_read_120 : decode cX3_read 120 = .ok (.invokevirtual 51, 3) := by decide +kernel
theorem dX3_read_123 : decode cX3_read 123 = .ok (.iinc 3 1, 3) := by decide +kernel
theorem dX3_read_126 : decode cX3_read 126 = .ok (.iinc 4 3, 3) := by decide +kernel
theorem dX3_read_129 : decode cX3_read 129 = .ok (.goto (-94), 3) := by decide +kernel
theorem dX3_read_132 : decode cX3_read 132 = .ok (.iload_n 3, 1) := by decide +kernel
theorem dX3_read_133 : decode cX3_read 133 = .ok (.ireturn, 1) := by decide +kernel
set_option maxRecDepth 20000 in
theorem ggX3_info_X3_isBasin : GoodIn wsX3_info wsX3_isBasin := goodIn_r _ [11, 1, 12, 25, 26, 27, 28, 29, 30, 31, 32, 33, 34, 35, 36, 37, 38, 39, 40, 41, 42, 43, 44, 45, 46, 47, 48, 49, 50, 51] (by decide +kernel) (by decide +kernel)
set_option maxRecDepth 20000 in
theorem gX3_info_X3_isBasin : GoodIn wsX3_info (wsV RX3 61 RX3 yX3_isBasin wsX3_isBasin) := goodIn_app (goodIn_of _ (by decide +kernel)) ggX3_info_X3_isBasin
set_option maxRecDepth 20000 in
theorem ggX3_info_X2_levelHolding : GoodIn wsX3_info wsX2_levelHolding := goodIn_r _ [17, 18, 19, 38, 39, 40, 41, 42, 43, 44, 45, 46, 47, 48, 49, 50, 51] (by decide +kernel) (by decide +kernel)
set_option maxRecDepth 20000 in
theorem gX3_info_X2_levelHolding : GoodIn wsX3_info (wsV RX3 94 RX2 yX2_levelHolding wsX2_levelHolding) := goodIn_app (goodIn_of _ (by decide +kernel)) ggX3_info_X2_levelHolding
set_option maxRecDepth 20000 in
theorem ggX3_info_X2_isOut : GoodIn wsX3_info wsX2_isOut := goodIn_r _ [23, 24, 38, 39, 40, 41, 42, 43, 44, 45, 46, 47, 48, 49, 50, 51] (by decide +kernel) (by decide +kernel)
set_option maxRecDepth 20000 in
theorem gX3_info_X2_isOut : GoodIn wsX3_info (wsV RX3 98 RX2 yX2_isOut wsX2_isOut) := goodIn_app (goodIn_of _ (by decide +kernel)) ggX3_info_X2_isOut
theorem dX3_info_0 : decode cX3_info 0 = .ok (.aload_n 0, 1) := by decide +kernel
theorem dX3_info_1 : decode cX3_info 1 = .ok (.iload_n 1, 1) := by decide +kernel
theorem dX3_info_2 : decode cX3_info 2 = .ok (.invokevirtual 61, 3) := by decide +kernel
theorem dX3_info_5 : decode cX3_info 5 = .ok (.ifCond .ne 6, 3) := by decide +kernel
theorem dX3_info_8 : decode cX3_info 8 = .ok (.bipush (-2), 2) := by decide +kernel
theorem dX3_info_10 : decode cX3_info 10 = .ok (.ireturn, 1) := by decide +kernel
theorem dX3_info_11 : decode cX3_info 11 = .ok (.iload_n 2, 1) := by decide +kernel
theorem dX3_info_12 : decode cX3_info 12 = .ok (.tableswitch 129 0 6 #[44, 54, 64, 74, 84, 94, 112], 44) := by decide +kernel
theorem dX3_info_56 : decode cX3_info 56 = .ok (.aload_n 0, 1) := by decide +kernel
theorem dX3_info_57 : decode cX3_info 57 = .ok (.getfield 10, 3) := by decide +kernel
theorem dX3_info_60 : decode cX3_info 60 = .ok (.getfield 85, 3) := by decide +kernel
theorem dX3_info_63 : decode cX3_info 63 = .ok (.iload_n 1, 1) := by decide +kernel
theorem dX3_info_64 : decode cX3_info 64 = .ok (.iaload, 1) := by decide +kernel
theorem dX3_info_65 : decode cX3_info 65 = .ok (.ireturn, 1) := by decide +kernel
theorem dX3_info_66 : decode cX3_info 66 = .ok (.aload_n 0, 1) := by decide +kernel
theorem dX3_info_67 : decode cX3_info 67 = .ok (.getfield 10, 3) := by decide +kernel
theorem dX3_info_70 : decode cX3_info 70 = .ok (.getfield 88, 3) := by decide +kernel
theorem dX3_info_73 : decode cX3_info 73 = .ok (.iload_n 1, 1) := by decide +kernel
theorem dX3_info_74 : decode cX3_info 74 = .ok (.iaload, 1) := by decide +kernel
theorem dX3_info_75 : decode cX3_info 75 = .ok (.ireturn, 1) := by decide +kernel
theorem dX3_info_76 : decode cX3_info 76 = .ok (.aload_n 0, 1) := by decide +kernel
theorem dX3_info_77 : decode cX3_info 77 = .ok (.getfield 10, 3) := by decide +kernel
theorem dX3_info_80 : decode cX3_info 80 = .ok (.getfield 91, 3) := by decide +kernel
theorem dX3_info_83 : decode cX3_info 83 = .ok (.iload_n 1, 1) := by decide +kernel
theorem dX3_info_84 : decode cX3_info 84 = .ok (.iaload, 1) := by decide +kernel
theorem dX3_info_85 : decode cX3_info 85 = .ok (.ireturn, 1) := by decide +kernel
theorem dX3_info_86 : decode cX3_info 86 = .ok (.aload_n 0, 1) := by decide +kernel
theorem dX3_info_87 : decode cX3_info 87 = .ok (.getfield 10, 3) := by decide +kernel
theorem dX3_info_90 : decode cX3_info 90 = .ok (.getfield 65, 3) := by decide +kernel
theorem dX3_info_93 : decode cX3_info 93 = .ok (.iload_n 1, 1) := by decide +kernel
theorem dX3_info_94 : decode cX3_info 94 = .ok (.iaload, 1) := by decide +kernel
theorem dX3_info_95 : decode cX3_info 95 = .ok (.ireturn, 1) := by decide +kernel
theorem dX3_info_96 : decode cX3_info 96 = .ok (.aload_n 0, 1) := by decide +kernel
theorem dX3_info_97 : decode cX3_info 97 = .ok (.getfield 10, 3) := by decide +kernel
theorem dX3_info_100 : decode cX3_info 100 = .ok (.getfield 55, 3) := by decide +kernel
theorem dX3_info_103 : decode cX3_info 103 = .ok (.iload_n 1, 1) := by decide +kernel
theorem dX3_info_104 : decode cX3_info 104 = .ok (.iaload, 1) := by decide +kernel
theorem dX3_info_105 : decode cX3_info 105 = .ok (.ireturn, 1) := by decide +kernel
theorem dX3_info_106 : decode cX3_info 106 = .ok (.aload_n 0, 1) := by decide +kernel
theorem dX3_info_107 : decode cX3_info 107 = .ok (.getfield 10, 3) := by decide +kernel
theorem dX3_info_110 : decode cX3_info 110 = .ok (.iload_n 1, 1) := by decide +kernel
theorem dX3_info_111 : decode cX3_info 111 = .ok (.aload_n 0, 1) := by decide +kernel
theorem dX3_info_112 : decode cX3_info 112 = .ok (.getfield 10, 3) := by decide +kernel
theorem dX3_info_115 : decode cX3_info 115 = .ok (.getfield 55, 3) := by decide +kernel
theorem dX3_info_118 : decode cX3_info 118 = .ok (.iload_n 1, 1) := by decide +kernel
theorem dX3_info_119 : decode cX3_info 119 = .ok (.iaload, 1) := by decide +kernel
theorem dX3_info_120 : decode cX3_info 120 = .ok (.invokevirtual 94, 3) := by decide +kernel
theorem dX3_info_123 : decode cX3_info 123 = .ok (.ireturn, 1) := by decide +kernel
theorem dX3_info_124 : decode cX3_info 124 = .ok (.aload_n 0, 1) := by decide +kernel
theorem dX3_info_125 : decode cX3_info 125 = .ok (.getfield 10, 3) := by decide +kernel
theorem dX3_info_128 : decode cX3_info 128 = .ok (.iload_n 1, 1) := by decide +kernel
theorem dX3_info_129 : decode cX3_info 129 = .ok (.invokevirtual 98, 3) := by decide +kernel
theorem dX3_info_132 : decode cX3_info 132 = .ok (.ifCond .eq 7, 3) := by decide +kernel
theorem dX3_info_135 : decode cX3_info 135 = .ok (.iconst 1, 1) := by decide +kernel
theorem dX3_info_136 : decode cX3_info 136 = .ok (.goto 4, 3) := by decide +kernel
theorem dX3_info_139 : decode cX3_info 139 = .ok (.iconst 0, 1) := by decide +kernel
theorem dX3_info_140 : decode cX3_info 140 = .ok (.ireturn, 1) := by decide +kernel
theorem dX3_info_141 : decode cX3_info 141 = .ok (.bipush (-2), 2) := by decide +kernel
theorem dX3_info_143 : decode cX3_info 143 = .ok (.ireturn, 1) := by decide +kernel
theorem dX3_chamber_0 : decode cX3_chamber 0 = .ok (.iload_n 1, 1) := by decide +kernel
theorem dX3_chamber_1 : decode cX3_chamber 1 = .ok (.tableswitch 54 0 2 #[27, 35, 46], 27) := by decide +kernel
theorem dX3_chamber_28 : decode cX3_chamber 28 = .ok (.aload_n 0, 1) := by decide +kernel
theorem dX3_chamber_29 : decode cX3_chamber 29 = .ok (.getfield 10, 3) := by decide +kernel
theorem dX3_chamber_32 : decode cX3_chamber 32 = .ok (.getfield 37, 3) := by decide +kernel
theorem dX3_chamber_35 : decode cX3_chamber 35 = .ok (.ireturn, 1) := by decide +kernel
theorem dX3_chamber_36 : decode cX3_chamber 36 = .ok (.bipush 6, 2) := by decide +kernel
theorem dX3_chamber_38 : decode cX3_chamber 38 = .ok (.aload_n 0, 1) := by decide +kernel
theorem dX3_chamber_39 : decode cX3_chamber 39 = .ok (.getfield 10, 3) := by decide +kernel
theorem dX3_chamber_42 : decode cX3_chamber 42 = .ok (.getfield 37, 3) := by decide +kernel
theorem dX3_chamber_45 : decode cX3_chamber 45 = .ok (.imul, 1) := by decide +kernel
theorem dX3_chamber_46 : decode cX3_chamber 46 = .ok (.ireturn, 1) := by decide +kernel
theorem dX3_chamber_47 : decode cX3_chamber 47 = .ok (.aload_n 0, 1) := by decide +kernel
theorem dX3_chamber_48 : decode cX3_chamber 48 = .ok (.getfield 10, 3) := by decide +kernel
theorem dX3_chamber_51 : decode cX3_chamber 51 = .ok (.getfield 41, 3) := by decide +kernel
theorem dX3_chamber_54 : decode cX3_chamber 54 = .ok (.ireturn, 1) := by decide +kernel
theorem dX3_chamber_55 : decode cX3_chamber 55 = .ok (.bipush (-2), 2) := by decide +kernel
theorem dX3_chamber_57 : decode cX3_chamber 57 = .ok (.ireturn, 1) := by decide +kernel
theorem dX3_isBasin_0 : decode cX3_isBasin 0 = .ok (.iload_n 1, 1) := by decide +kernel
theorem dX3_isBasin_1 : decode cX3_isBasin 1 = .ok (.ifCond .lt 18, 3) := by decide +kernel
theorem dX3_isBasin_4 : decode cX3_isBasin 4 = .ok (.iload_n 1, 1) := by decide +kernel
theorem dX3_isBasin_5 : decode cX3_isBasin 5 = .ok (.aload_n 0, 1) := by decide +kernel
theorem dX3_isBasin_6 : decode cX3_isBasin 6 = .ok (.getfield 10, 3) := by decide +kernel
theorem dX3_isBasin_9 : decode cX3_isBasin 9 = .ok (.getfield 48, 3) := by decide +kernel
theorem dX3_isBasin_12 : decode cX3_isBasin 12 = .ok (.if_icmp .ge 7, 3) := by decide +kernel
theorem dX3_isBasin_15 : decode cX3_isBasin 15 = .ok (.iconst 1, 1) := by decide +kernel
theorem dX3_isBasin_16 : decode cX3_isBasin 16 = .ok (.goto 4, 3) := by decide +kernel
theorem dX3_isBasin_19 : decode cX3_isBasin 19 = .ok (.iconst 0, 1) := by decide +kernel
theorem dX3_isBasin_20 : decode cX3_isBasin 20 = .ok (.ireturn, 1) := by decide +kernel
theorem dX3_mayBeBasin_0 : decode cX3_mayBeBasin 0 = .ok (.iload_n 0, 1) := by decide +kernel
theorem dX3_mayBeBasin_1 : decode cX3_mayBeBasin 1 = .ok (.ifCond .lt 34, 3) := by decide +kernel
theorem dX3_mayBeBasin_4 : decode cX3_mayBeBasin 4 = .ok (.iload_n 0, 1) := by decide +kernel
theorem dX3_mayBeBasin_5 : decode cX3_mayBeBasin 5 = .ok (.bipush 60, 2) := by decide +kernel
theorem dX3_mayBeBasin_7 : decode cX3_mayBeBasin 7 = .ok (.if_icmp .ge 28, 3) := by decide +kernel
theorem dX3_mayBeBasin_10 : decode cX3_mayBeBasin 10 = .ok (.iload_n 1, 1) := by decide +kernel
theorem dX3_mayBeBasin_11 : decode cX3_mayBeBasin 11 = .ok (.iconst 1, 1) := by decide +kernel
theorem dX3_mayBeBasin_12 : decode cX3_mayBeBasin 12 = .ok (.if_icmp .lt 23, 3) := by decide +kernel
theorem dX3_mayBeBasin_15 : decode cX3_mayBeBasin 15 = .ok (.iload_n 1, 1) := by decide +kernel
theorem dX3_mayBeBasin_16 : decode cX3_mayBeBasin 16 = .ok (.bipush 60, 2) := by decide +kernel
theorem dX3_mayBeBasin_18 : decode cX3_mayBeBasin 18 = .ok (.if_icmp .gt 17, 3) := by decide +kernel
theorem dX3_mayBeBasin_21 : decode cX3_mayBeBasin 21 = .ok (.iload_n 2, 1) := by decide +kernel
theorem dX3_mayBeBasin_22 : decode cX3_mayBeBasin 22 = .ok (.iconst 1, 1) := by decide +kernel
theorem dX3_mayBeBasin_23 : decode cX3_mayBeBasin 23 = .ok (.if_icmp .lt 12, 3) := by decide +kernel
theorem dX3_mayBeBasin_26 : decode cX3_mayBeBasin 26 = .ok (.iload_n 2, 1) := by decide +kernel
theorem dX3_mayBeBasin_27 : decode cX3_mayBeBasin 27 = .ok (.iconst 3, 1) := by decide +kernel
theorem dX3_mayBeBasin_28 : decode cX3_mayBeBasin 28 = .ok (.if_icmp .gt 7, 3) := by decide +kernel
theorem dX3_mayBeBasin_31 : decode cX3_mayBeBasin 31 = .ok (.iconst 1, 1) := by decide +kernel
theorem dX3_mayBeBasin_32 : decode cX3_mayBeBasin 32 = .ok (.goto 4, 3) := by decide +kernel
theorem dX3_mayBeBasin_35 : decode cX3_mayBeBasin 35 = .ok (.iconst 0, 1) := by decide +kernel
theorem dX3_mayBeBasin_36 : decode cX3_mayBeBasin 36 = .ok (.ireturn, 1) := by decide +kernel
set_option maxRecDepth 20000 in
theorem ggX3_boat_X3_isWay : GoodIn wsX3_boat wsX3_isWay := goodIn_r _ [7] (by decide +kernel) (by decide +kernel)
set_option maxRecDepth 20000 in
theorem gX3_boat_X3_isWay : GoodIn wsX3_boat (va_wsS RX3 101 yX3_isWay wsX3_isWay) := goodIn_app (goodIn_of _ (by decide +kernel)) ggX3_boat_X3_isWay
set_option maxRecDepth 20000 in
theorem ggX3_boat_X0_append : GoodIn wsX3_boat wsX0_append := goodIn_r _ [12, 13, 14, 28, 29] (by decide +kernel) (by decide +kernel)
set_option maxRecDepth 20000 in
theorem gX3_boat_X0_append : GoodIn wsX3_boat (wsV RX3 108 RX0 yX0_append wsX0_append) := goodIn_app (goodIn_of _ (by decide +kernel)) ggX3_boat_X0_append
theorem dX3_boat_0 : decode cX3_boat 0 = .ok (.iload_n 1, 1) := by decide +kernel
theorem dX3_boat_1 : decode cX3_boat 1 = .ok (.invokestatic 101, 3) := by decide +kernel
theorem dX3_boat_4 : decode cX3_boat 4 = .ok (.ifCond .ne 6, 3) := by decide +kernel
theorem dX3_boat_7 : decode cX3_boat 7 = .ok (.bipush (-2), 2) := by decide +kernel
theorem dX3_boat_9 : decode cX3_boat 9 = .ok (.ireturn, 1) := by decide +kernel
theorem dX3_boat_10 : decode cX3_boat 10 = .ok (.aload_n 0, 1) := by decide +kernel
theorem dX3_boat_11 : decode cX3_boat 11 = .ok (.getfield 21, 3) := by decide +kernel
theorem dX3_boat_14 : decode cX3_boat 14 = .ok (.iload_n 1, 1) := by decide +kernel
theorem dX3_boat_15 : decode cX3_boat 15 = .ok (.aaload, 1) := by decide +kernel
theorem dX3_boat_16 : decode cX3_boat 16 = .ok (.getfield 104, 3) := by decide +kernel
theorem dX3_boat_19 : decode cX3_boat 19 = .ok (.bipush 16, 2) := by decide +kernel
theorem dX3_boat_21 : decode cX3_boat 21 = .ok (.if_icmp .ge 12, 3) := by decide +kernel
theorem dX3_boat_24 : decode cX3_boat 24 = .ok (.aload_n 0, 1) := by decide +kernel
theorem dX3_boat_25 : decode cX3_boat 25 = .ok (.getfield 105, 3) := by decide +kernel
theorem dX3_boat_28 : decode cX3_boat 28 = .ok (.bipush 100, 2) := by decide +kernel
theorem dX3_boat_30 : decode cX3_boat 30 = .ok (.if_icmp .lt 6, 3) := by decide +kernel
theorem dX3_boat_33 : decode cX3_boat 33 = .ok (.bipush (-4), 2) := by decide +kernel
theorem dX3_boat_35 : decode cX3_boat 35 = .ok (.ireturn, 1) := by decide +kernel
theorem dX3_boat_36 : decode cX3_boat 36 = .ok (.aload_n 0, 1) := by decide +kernel
theorem dX3_boat_37 : decode cX3_boat 37 = .ok (.getfield 105, 3) := by decide +kernel
theorem dX3_boat_40 : decode cX3_boat 40 = .ok (.istore_n 2, 1) := by decide +kernel
theorem dX3_boat_41 : decode cX3_boat 41 = .ok (.aload_n 0, 1) := by decide +kernel
theorem dX3_boat_42 : decode cX3_boat 42 = .ok (.getfield 21, 3) := by decide +kernel
theorem dX3_boat_45 : decode cX3_boat 45 = .ok (.iload_n 1, 1) := by decide +kernel
theorem dX3_boat_46 : decode cX3_boat 46 = .ok (.aaload, 1) := by decide +kernel
theorem dX3_boat_47 : decode cX3_boat 47 = .ok (.iload_n 2, 1) := by decide +kernel
theorem dX3_boat_48 : decode cX3_boat 48 = .ok (.invokevirtual 108, 3) := by decide +kernel
theorem dX3_boat_51 : decode cX3_boat 51 = .ok (.aload_n 0, 1) := by decide +kernel
theorem dX3_boat_52 : decode cX3_boat 52 = .ok (.dup, 1) := by decide +kernel
theorem dX3_boat_53 : decode cX3_boat 53 = .ok (.getfield 105, 3) := by decide +kernel
theorem dX3_boat_56 : decode cX3_boat 56 = .ok (.iconst 1, 1) := by decide +kernel
theorem dX3_boat_57 : decode cX3_boat 57 = .ok (.iadd, 1) := by decide +kernel
theorem dX3_boat_58 : decode cX3_boat 58 = .ok (.putfield 105, 3) := by decide +kernel
theorem dX3_boat_61 : decode cX3_boat 61 = .ok (.iload_n 2, 1) := by decide +kernel
theorem dX3_boat_62 : decode cX3_boat 62 = .ok (.ireturn, 1) := by decide +kernel
set_option maxRecDepth 20000 in
theorem ggX3_leave_X0_placeOf : GoodIn wsX3_leave wsX0_placeOf := goodIn_r _ [7, 8, 9, 31, 32] (by decide +kernel) (by decide +kernel)
set_option maxRecDepth 20000 in
theorem gX3_leave_X0_placeOf : GoodIn wsX3_leave (wsV RX3 112 RX0 yX0_placeOf wsX0_placeOf) := goodIn_app (goodIn_of _ (by decide +kernel)) ggX3_leave_X0_placeOf
set_option maxRecDepth 20000 in
theorem ggX3_leave_X0_removeAt : GoodIn wsX3_leave wsX0_removeAt := goodIn_r _ [13, 8, 9, 14, 15, 16, 17, 31, 32] (by decide +kernel) (by decide +kernel)
set_option maxRecDepth 20000 in
theorem gX3_leave_X0_removeAt : GoodIn wsX3_leave (wsV RX3 115 RX0 yX0_removeAt wsX0_removeAt) := goodIn_app (goodIn_of _ (by decide +kernel)) ggX3_leave_X0_removeAt
theorem dX3_leave_0 : decode cX3_leave 0 = .ok (.iload_n 1, 1) := by decide +kernel
theorem dX3_leave_1 : decode cX3_leave 1 = .ok (.ifCond .ge 6, 3) := by decide +kernel
theorem dX3_leave_4 : decode cX3_leave 4 = .ok (.bipush (-2), 2) := by decide +kernel
theorem dX3_leave_6 : decode cX3_leave 6 = .ok (.ireturn, 1) := by decide +kernel
theorem dX3_leave_7 : decode cX3_leave 7 = .ok (.iconst 0, 1) := by decide +kernel
theorem dX3_leave_8 : decode cX3_leave 8 = .ok (.istore_n 2, 1) := by decide +kernel
theorem dX3_leave_9 : decode cX3_leave 9 = .ok (.iload_n 2, 1) := by decide +kernel
theorem dX3_leave_10 : decode cX3_leave 10 = .ok (.iconst 1, 1) := by decide +kernel
theorem dX3_leave_11 : decode cX3_leave 11 = .ok (.if_icmp .gt 45, 3) := by decide +kernel
theorem dX3_leave_14 : decode cX3_leave 14 = .ok (.aload_n 0, 1) := by decide +kernel
theorem dX3_leave_15 : decode cX3_leave 15 = .ok (.getfield 21, 3) := by decide +kernel
theorem dX3_leave_18 : decode cX3_leave 18 = .ok (.iload_n 2, 1) := by decide +kernel
theorem dX3_leave_19 : decode cX3_leave 19 = .ok (.aaload, 1) := by decide +kernel
theorem dX3_leave_20 : decode cX3_leave 20 = .ok (.iload_n 1, 1) := by decide +kernel
theorem dX3_leave_21 : decode cX3_leave 21 = .ok (.invokevirtual 112, 3) := by decide +kernel
theorem dX3_leave_24 : decode cX3_leave 24 = .ok (.istore_n 3, 1) := by decide +kernel
theorem dX3_leave_25 : decode cX3_leave 25 = .ok (.iload_n 3, 1) := by decide +kernel
theorem dX3_leave_26 : decode cX3_leave 26 = .ok (.iconst (-1), 1) := by decide +kernel
theorem dX3_leave_27 : decode cX3_leave 27 = .ok (.if_icmp .eq 23, 3) := by decide +kernel
theorem dX3_leave_30 : decode cX3_leave 30 = .ok (.aload_n 0, 1) := by decide +kernel
theorem dX3_leave_31 : decode cX3_leave 31 = .ok (.getfield 21, 3) := by decide +kernel
theorem dX3_leave_34 : decode cX3_leave 34 = .ok (.iload_n 2, 1) := by decide +kernel
theorem dX3_leave_35 : decode cX3_leave 35 = .ok (.aaload, 1) := by decide +kernel
theorem dX3_leave_36 : decode cX3_leave 36 = .ok (.iload_n 3, 1) := by decide +kernel
theorem dX3_leave_37 : decode cX3_leave 37 = .ok (.invokevirtual 115, 3) := by decide +kernel
theorem dX3_leave_40 : decode cX3_leave 40 = .ok (.aload_n 0, 1) := by decide +kernel
theorem dX3_leave_41 : decode cX3_leave 41 = .ok (.getfield 21, 3) := by decide +kernel
theorem dX3_leave_44 : decode cX3_leave 44 = .ok (.iload_n 2, 1) := by decide +kernel
theorem dX3_leave_45 : decode cX3_leave 45 = .ok (.aaload, 1) := by decide +kernel
theorem dX3_leave_46 : decode cX3_leave 46 = .ok (.getfield 104, 3) := by decide +kernel
theorem dX3_leave_49 : decode cX3_leave 49 = .ok (.ireturn, 1) := by decide +kernel
theorem dX3_leave_50 : decode cX3_leave 50 = .ok (.iinc 2 1, 3) := by decide +kernel
theorem dX3_leave_53 : decode cX3_leave 53 = .ok (.goto (-44), 3) := by decide +kernel
theorem dX3_leave_56 : decode cX3_leave 56 = .ok (.bipush (-3), 2) := by decide +kernel
theorem dX3_leave_58 : decode cX3_leave 58 = .ok (.ireturn, 1) := by decide +kernel
set_option maxRecDepth 20000 in
theorem ggX3_waits_X3_isWay : GoodIn wsX3_waits wsX3_isWay := goodIn_r _ [6] (by decide +kernel) (by decide +kernel)
set_option maxRecDepth 20000 in
theorem gX3_waits_X3_isWay : GoodIn wsX3_waits (va_wsS RX3 101 yX3_isWay wsX3_isWay) := goodIn_app (goodIn_of _ (by decide +kernel)) ggX3_waits_X3_isWay
set_option maxRecDepth 20000 in
theorem ggX3_waits_X0_boatAt : GoodIn wsX3_waits wsX0_boatAt := goodIn_r _ [11, 12, 13, 27, 28] (by decide +kernel) (by decide +kernel)
set_option maxRecDepth 20000 in
theorem gX3_waits_X0_boatAt : GoodIn wsX3_waits (wsV RX3 118 RX0 yX0_boatAt wsX0_boatAt) := goodIn_app (goodIn_of _ (by decide +kernel)) ggX3_waits_X0_boatAt
theorem dX3_waits_0 : decode cX3_waits 0 = .ok (.iload_n 1, 1) := by decide +kernel
theorem dX3_waits_1 : decode cX3_waits 1 = .ok (.invokestatic 101, 3) := by decide +kernel
theorem dX3_waits_4 : decode cX3_waits 4 = .ok (.ifCond .eq 14, 3) := by decide +kernel
theorem dX3_waits_7 : decode cX3_waits 7 = .ok (.iload_n 2, 1) := by decide +kernel
theorem dX3_waits_8 : decode cX3_waits 8 = .ok (.iconst (-1), 1) := by decide +kernel
theorem dX3_waits_9 : decode cX3_waits 9 = .ok (.if_icmp .lt 9, 3) := by decide +kernel
theorem dX3_waits_12 : decode cX3_waits 12 = .ok (.iload_n 2, 1) := by decide +kernel
theorem dX3_waits_13 : decode cX3_waits 13 = .ok (.bipush 16, 2) := by decide +kernel
theorem dX3_waits_15 : decode cX3_waits 15 = .ok (.if_icmp .lt 6, 3) := by decide +kernel
theorem dX3_waits_18 : decode cX3_waits 18 = .ok (.bipush (-2), 2) := by decide +kernel
theorem dX3_waits_20 : decode cX3_waits 20 = .ok (.ireturn, 1) := by decide +kernel
theorem dX3_waits_21 : decode cX3_waits 21 = .ok (.iload_n 2, 1) := by decide +kernel
theorem dX3_waits_22 : decode cX3_waits 22 = .ok (.iconst (-1), 1) := by decide +kernel
theorem dX3_waits_23 : decode cX3_waits 23 = .ok (.if_icmp .ne 15, 3) := by decide +kernel
theorem dX3_waits_26 : decode cX3_waits 26 = .ok (.aload_n 0, 1) := by decide +kernel
theorem dX3_waits_27 : decode cX3_waits 27 = .ok (.getfield 21, 3) := by decide +kernel
theorem dX3_waits_30 : decode cX3_waits 30 = .ok (.iload_n 1, 1) := by decide +kernel
theorem dX3_waits_31 : decode cX3_waits 31 = .ok (.aaload, 1) := by decide +kernel
theorem dX3_waits_32 : decode cX3_waits 32 = .ok (.getfield 104, 3) := by decide +kernel
theorem dX3_waits_35 : decode cX3_waits 35 = .ok (.goto 13, 3) := by decide +kernel
theorem dX3_waits_38 : decode cX3_waits 38 = .ok (.aload_n 0, 1) := by decide +kernel
theorem dX3_waits_39 : decode cX3_waits 39 = .ok (.getfield 21, 3) := by decide +kernel
theorem dX3_waits_42 : decode cX3_waits 42 = .ok (.iload_n 1, 1) := by decide +kernel
theorem dX3_waits_43 : decode cX3_waits 43 = .ok (.aaload, 1) := by decide +kernel
theorem dX3_waits_44 : decode cX3_waits 44 = .ok (.iload_n 2, 1) := by decide +kernel
theorem dX3_waits_45 : decode cX3_waits 45 = .ok (.invokevirtual 118, 3) := by decide +kernel
theorem dX3_waits_48 : decode cX3_waits 48 = .ok (.ireturn, 1) := by decide +kernel
theorem dX3_rule_0 : decode cX3_rule 0 = .ok (.iload_n 1, 1) := by decide +kernel
theorem dX3_rule_1 : decode cX3_rule 1 = .ok (.ifCond .eq 11, 3) := by decide +kernel
theorem dX3_rule_4 : decode cX3_rule 4 = .ok (.iload_n 1, 1) := by decide +kernel
theorem dX3_rule_5 : decode cX3_rule 5 = .ok (.iconst 1, 1) := by decide +kernel
theorem dX3_rule_6 : decode cX3_rule 6 = .ok (.if_icmp .eq 6, 3) := by decide +kernel
theorem dX3_rule_9 : decode cX3_rule 9 = .ok (.bipush (-2), 2) := by decide +kernel
theorem dX3_rule_11 : decode cX3_rule 11 = .ok (.ireturn, 1) := by decide +kernel
theorem dX3_rule_12 : decode cX3_rule 12 = .ok (.aload_n 0, 1) := by decide +kernel
theorem dX3_rule_13 : decode cX3_rule 13 = .ok (.getfield 121, 3) := by decide +kernel
theorem dX3_rule_16 : decode cX3_rule 16 = .ok (.istore_n 2, 1) := by decide +kernel
theorem dX3_rule_17 : decode cX3_rule 17 = .ok (.aload_n 0, 1) := by decide +kernel
theorem dX3_rule_18 : decode cX3_rule 18 = .ok (.iload_n 1, 1) := by decide +kernel
theorem dX3_rule_19 : decode cX3_rule 19 = .ok (.putfield 121, 3) := by decide +kernel
theorem dX3_rule_22 : decode cX3_rule 22 = .ok (.iload_n 2, 1) := by decide +kernel
theorem dX3_rule_23 : decode cX3_rule 23 = .ok (.ireturn, 1) := by decide +kernel
set_option maxRecDepth 20000 in
theorem ggX3_serve_X3_wayServedNext : GoodIn wsX3_serve wsX3_wayServedNext := goodIn_r _ [7, 2, 8, 9, 10, 11, 12, 13, 14, 15, 16, 17, 18, 6, 19, 20, 21, 97, 98, 99, 100, 101, 102, 103, 104, 105, 106, 107, 108, 109, 110, 111, 112, 113, 114, 115, 116, 117, 118, 119, 120, 121, 122, 123, 124, 125] (by decide +kernel) (by decide +kernel)
set_option maxRecDepth 20000 in
theorem gX3_serve_X3_wayServedNext : GoodIn wsX3_serve (wsV RX3 124 RX3 yX3_wayServedNext wsX3_wayServedNext) := goodIn_app (goodIn_of _ (by decide +kernel)) ggX3_serve_X3_wayServedNext
set_option maxRecDepth 20000 in
theorem ggX3_serve_X3_turnsToServe : GoodIn wsX3_serve wsX3_turnsToServe := goodIn_r _ [25, 16, 17, 18, 6, 19, 20, 21, 97, 98, 99, 100, 101, 102, 103, 104, 105, 106, 107, 108, 109, 112, 113, 114, 115, 116, 117, 118, 119, 120, 121, 122, 123, 124, 125] (by decide +kernel) (by decide +kernel)
set_option maxRecDepth 20000 in
theorem gX3_serve_X3_turnsToServe : GoodIn wsX3_serve (wsV RX3 128 RX3 yX3_turnsToServe wsX3_turnsToServe) := goodIn_app (goodIn_of _ (by decide +kernel)) ggX3_serve_X3_turnsToServe
set_option maxRecDepth 20000 in
theorem ggX3_serve_X3_makeTurnFor : GoodIn wsX3_serve wsX3_makeTurnFor := goodIn_r _ [29, 20, 21, 30, 31, 32, 33, 34, 35, 1, 36, 37, 38, 39, 40, 41, 42, 43, 44, 45, 46, 47, 48, 49, 50, 51, 52, 53, 54, 55, 56, 57, 58, 59, 60, 61, 62, 63, 64, 65, 66, 67, 68, 69, 70, 71, 72, 73, 74, 75, 76, 77, 78, 79, 80, 81, 82, 83, 84, 6, 85, 86, 87, 88, 97, 98, 99, 100, 101, 102, 103, 104, 105, 106, 107, 108, 109, 112, 113, 114, 115, 116, 117, 118, 119, 120, 121, 122, 123, 124, 125] (by decide +kernel) (by decide +kernel)
set_option maxRecDepth 20000 in
theorem gX3_serve_X3_makeTurnFor : GoodIn wsX3_serve (wsV RX3 134 RX3 yX3_makeTurnFor wsX3_makeTurnFor) := goodIn_app (goodIn_of _ (by decide +kernel)) ggX3_serve_X3_makeTurnFor
set_option maxRecDepth 20000 in
theorem ggX3_serve_X0_boatAt : GoodIn wsX3_serve wsX0_boatAt := goodIn_r _ [13, 14, 15, 110, 111] (by decide +kernel) (by decide +kernel)
set_option maxRecDepth 20000 in
theorem gX3_serve_X0_boatAt : GoodIn wsX3_serve (wsV RX3 118 RX0 yX0_boatAt wsX0_boatAt) := goodIn_app (goodIn_of _ (by decide +kernel)) ggX3_serve_X0_boatAt
set_option maxRecDepth 20000 in
theorem ggX3_serve_X0_removeAt : GoodIn wsX3_serve wsX0_removeAt := goodIn_r _ [92, 14, 15, 93, 94, 95, 96, 110, 111] (by decide +kernel) (by decide +kernel)
set_option maxRecDepth 20000 in
theorem gX3_serve_X0_removeAt : GoodIn wsX3_serve (wsV RX3 115 RX0 yX0_removeAt wsX0_removeAt) := goodIn_app (goodIn_of _ (by decide +kernel)) ggX3_serve_X0_removeAt
theorem dX3_serve_0 : decode cX3_serve 0 = .ok (.aload_n 0, 1) := by decide +kernel
theorem dX3_serve_1 : decode cX3_serve 1 = .ok (.invokevirtual 124, 3) := by decide +kernel
theorem dX3_serve_4 : decode cX3_serve 4 = .ok (.istore_n 1, 1) := by decide +kernel
theorem dX3_serve_5 : decode cX3_serve 5 = .ok (.iload_n 1, 1) := by decide +kernel
theorem dX3_serve_6 : decode cX3_serve 6 = .ok (.iconst (-1), 1) := by decide +kernel
theorem dX3_serve_7 : decode cX3_serve 7 = .ok (.if_icmp .ne 6, 3) := by decide +kernel
theorem dX3_serve_10 : decode cX3_serve 10 = .ok (.bipush (-3), 2) := by decide +kernel
theorem dX3_serve_12 : decode cX3_serve 12 = .ok (.ireturn, 1) := by decide +kernel
theorem dX3_serve_13 : decode cX3_serve 13 = .ok (.aload_n 0, 1) := by decide +kernel
theorem dX3_serve_14 : decode cX3_serve 14 = .ok (.iload_n 1, 1) := by decide +kernel
theorem dX3_serve_15 : decode cX3_serve 15 = .ok (.invokevirtual 128, 3) := by decide +kernel
theorem dX3_serve_18 : decode cX3_serve 18 = .ok (.istore_n 2, 1) := by decide +kernel
theorem dX3_serve_19 : decode cX3_serve 19 = .ok (.aload_n 0, 1) := by decide +kernel
theorem dX3_serve_20 : decode cX3_serve 20 = .ok (.getfield 131, 3) := by decide +kernel
theorem dX3_serve_23 : decode cX3_serve 23 = .ok (.iload_n 2, 1) := by decide +kernel
theorem dX3_serve_24 : decode cX3_serve 24 = .ok (.iadd, 1) := by decide +kernel
theorem dX3_serve_25 : decode cX3_serve 25 = .ok (.bipush 60, 2) := by decide +kernel
theorem dX3_serve_27 : decode cX3_serve 27 = .ok (.if_icmp .le 6, 3) := by decide +kernel
theorem dX3_serve_30 : decode cX3_serve 30 = .ok (.bipush (-4), 2) := by decide +kernel
theorem dX3_serve_32 : decode cX3_serve 32 = .ok (.ireturn, 1) := by decide +kernel
theorem dX3_serve_33 : decode cX3_serve 33 = .ok (.iload_n 2, 1) := by decide +kernel
theorem dX3_serve_34 : decode cX3_serve 34 = .ok (.iconst 2, 1) := by decide +kernel
theorem dX3_serve_35 : decode cX3_serve 35 = .ok (.if_icmp .ne 8, 3) := by decide +kernel
theorem dX3_serve_38 : decode cX3_serve 38 = .ok (.aload_n 0, 1) := by decide +kernel
theorem dX3_serve_39 : decode cX3_serve 39 = .ok (.iconst (-1), 1) := by decide +kernel
theorem dX3_serve_40 : decode cX3_serve 40 = .ok (.invokevirtual 134, 3) := by decide +kernel
theorem dX3_serve_43 : decode cX3_serve 43 = .ok (.aload_n 0, 1) := by decide +kernel
theorem dX3_serve_44 : decode cX3_serve 44 = .ok (.getfield 21, 3) := by decide +kernel
theorem dX3_serve_47 : decode cX3_serve 47 = .ok (.iload_n 1, 1) := by decide +kernel
theorem dX3_serve_48 : decode cX3_serve 48 = .ok (.aaload, 1) := by decide +kernel
theorem dX3_serve_49 : decode cX3_serve 49 = .ok (.iconst 0, 1) := by decide +kernel
theorem dX3_serve_50 : decode cX3_serve 50 = .ok (.invokevirtual 118, 3) := by decide +kernel
theorem dX3_serve_53 : decode cX3_serve 53 = .ok (.istore_n 3, 1) := by decide +kernel
theorem dX3_serve_54 : decode cX3_serve 54 = .ok (.aload_n 0, 1) := by decide +kernel
theorem dX3_serve_55 : decode cX3_serve 55 = .ok (.getfield 21, 3) := by decide +kernel
theorem dX3_serve_58 : decode cX3_serve 58 = .ok (.iload_n 1, 1) := by decide +kernel
theorem dX3_serve_59 : decode cX3_serve 59 = .ok (.aaload, 1) := by decide +kernel
theorem dX3_serve_60 : decode cX3_serve 60 = .ok (.iconst 0, 1) := by decide +kernel
theorem dX3_serve_61 : decode cX3_serve 61 = .ok (.invokevirtual 115, 3) := by decide +kernel
theorem dX3_serve_64 : decode cX3_serve 64 = .ok (.aload_n 0, 1) := by decide +kernel
theorem dX3_serve_65 : decode cX3_serve 65 = .ok (.iload_n 3, 1) := by decide +kernel
theorem dX3_serve_66 : decode cX3_serve 66 = .ok (.invokevirtual 134, 3) := by decide +kernel
theorem dX3_serve_69 : decode cX3_serve 69 = .ok (.iload_n 3, 1) := by decide +kernel
theorem dX3_serve_70 : decode cX3_serve 70 = .ok (.ireturn, 1) := by decide +kernel
set_option maxRecDepth 20000 in
theorem ggX3_next_X3_wayServedNext : GoodIn wsX3_next wsX3_wayServedNext := goodIn_r _ [6, 1, 7, 8, 9, 10, 11, 12, 13, 14, 15, 16, 17, 5, 18, 19, 20, 25, 26, 27, 28, 29, 30, 31, 32, 33, 34, 35, 36, 37, 38, 39, 40, 41, 42, 43, 44, 45, 46, 47, 48, 49, 50, 51, 52, 53] (by decide +kernel) (by decide +kernel)
set_option maxRecDepth 20000 in
theorem gX3_next_X3_wayServedNext : GoodIn wsX3_next (wsV RX3 124 RX3 yX3_wayServedNext wsX3_wayServedNext) := goodIn_app (goodIn_of _ (by decide +kernel)) ggX3_next_X3_wayServedNext
set_option maxRecDepth 20000 in
theorem ggX3_next_X0_boatAt : GoodIn wsX3_next wsX0_boatAt := goodIn_r _ [12, 13, 14, 38, 39] (by decide +kernel) (by decide +kernel)
set_option maxRecDepth 20000 in
theorem gX3_next_X0_boatAt : GoodIn wsX3_next (wsV RX3 118 RX0 yX0_boatAt wsX0_boatAt) := goodIn_app (goodIn_of _ (by decide +kernel)) ggX3_next_X0_boatAt
set_option maxRecDepth 20000 in
theorem ggX3_next_X3_turnsToServe : GoodIn wsX3_next wsX3_turnsToServe := goodIn_r _ [24, 15, 16, 17, 5, 18, 19, 20, 25, 26, 27, 28, 29, 30, 31, 32, 33, 34, 35, 36, 37, 40, 41, 42, 43, 44, 45, 46, 47, 48, 49, 50, 51, 52, 53] (by decide +kernel) (by decide +kernel)
set_option maxRecDepth 20000 in
theorem gX3_next_X3_turnsToServe : GoodIn wsX3_next (wsV RX3 128 RX3 yX3_turnsToServe wsX3_turnsToServe) := goodIn_app (goodIn_of _ (by decide +kernel)) ggX3_next_X3_turnsToServe
theorem dX3_next_0 : decode cX3_next 0 = .ok (.iload_n 1, 1) := by decide +kernel
theorem dX3_next_1 : decode cX3_next 1 = .ok (.ifCond .eq 11, 3) := by decide +kernel
theorem dX3_next_4 : decode cX3_next 4 = .ok (.iload_n 1, 1) := by decide +kernel
theorem dX3_next_5 : decode cX3_next 5 = .ok (.iconst 1, 1) := by decide +kernel
theorem dX3_next_6 : decode cX3_next 6 = .ok (.if_icmp .eq 6, 3) := by decide +kernel
theorem dX3_next_9 : decode cX3_next 9 = .ok (.bipush (-2), 2) := by decide +kernel
theorem dX3_next_11 : decode cX3_next 11 = .ok (.ireturn, 1) := by decide +kernel
theorem dX3_next_12 : decode cX3_next 12 = .ok (.aload_n 0, 1) := by decide +kernel
theorem dX3_next_13 : decode cX3_next 13 = .ok (.invokevirtual 124, 3) := by decide +kernel
theorem dX3_next_16 : decode cX3_next 16 = .ok (.istore_n 2, 1) := by decide +kernel
theorem dX3_next_17 : decode cX3_next 17 = .ok (.iload_n 2, 1) := by decide +kernel
theorem dX3_next_18 : decode cX3_next 18 = .ok (.iconst (-1), 1) := by decide +kernel
theorem dX3_next_19 : decode cX3_next 19 = .ok (.if_icmp .ne 13, 3) := by decide +kernel
theorem dX3_next_22 : decode cX3_next 22 = .ok (.iload_n 1, 1) := by decide +kernel
theorem dX3_next_23 : decode cX3_next 23 = .ok (.ifCond .ne 7, 3) := by decide +kernel
theorem dX3_next_26 : decode cX3_next 26 = .ok (.iconst (-1), 1) := by decide +kernel
theorem dX3_next_27 : decode cX3_next 27 = .ok (.goto 4, 3) := by decide +kernel
theorem dX3_next_30 : decode cX3_next 30 = .ok (.iconst 0, 1) := by decide +kernel
theorem dX3_next_31 : decode cX3_next 31 = .ok (.ireturn, 1) := by decide +kernel
theorem dX3_next_32 : decode cX3_next 32 = .ok (.iload_n 1, 1) := by decide +kernel
theorem dX3_next_33 : decode cX3_next 33 = .ok (.ifCond .ne 16, 3) := by decide +kernel
theorem dX3_next_36 : decode cX3_next 36 = .ok (.aload_n 0, 1) := by decide +kernel
theorem dX3_next_37 : decode cX3_next 37 = .ok (.getfield 21, 3) := by decide +kernel
theorem dX3_next_40 : decode cX3_next 40 = .ok (.iload_n 2, 1) := by decide +kernel
theorem dX3_next_41 : decode cX3_next 41 = .ok (.aaload, 1) := by decide +kernel
theorem dX3_next_42 : decode cX3_next 42 = .ok (.iconst 0, 1) := by decide +kernel
theorem dX3_next_43 : decode cX3_next 43 = .ok (.invokevirtual 118, 3) := by decide +kernel
theorem dX3_next_46 : decode cX3_next 46 = .ok (.goto 8, 3) := by decide +kernel
theorem dX3_next_49 : decode cX3_next 49 = .ok (.aload_n 0, 1) := by decide +kernel
theorem dX3_next_50 : decode cX3_next 50 = .ok (.iload_n 2, 1) := by decide +kernel
theorem dX3_next_51 : decode cX3_next 51 = .ok (.invokevirtual 128, 3) := by decide +kernel
theorem dX3_next_54 : decode cX3_next 54 = .ok (.ireturn, 1) := by decide +kernel
theorem dX3_isWay_0 : decode cX3_isWay 0 = .ok (.iload_n 0, 1) := by decide +kernel
theorem dX3_isWay_1 : decode cX3_isWay 1 = .ok (.ifCond .eq 8, 3) := by decide +kernel
theorem dX3_isWay_4 : decode cX3_isWay 4 = .ok (.iload_n 0, 1) := by decide +kernel
theorem dX3_isWay_5 : decode cX3_isWay 5 = .ok (.iconst 1, 1) := by decide +kernel
theorem dX3_isWay_6 : decode cX3_isWay 6 = .ok (.if_icmp .ne 7, 3) := by decide +kernel
theorem dX3_isWay_9 : decode cX3_isWay 9 = .ok (.iconst 1, 1) := by decide +kernel
theorem dX3_isWay_10 : decode cX3_isWay 10 = .ok (.goto 4, 3) := by decide +kernel
theorem dX3_isWay_13 : decode cX3_isWay 13 = .ok (.iconst 0, 1) := by decide +kernel
theorem dX3_isWay_14 : decode cX3_isWay 14 = .ok (.ireturn, 1) := by decide +kernel
theorem dX3_wayAtChamber_0 : decode cX3_wayAtChamber 0 = .ok (.aload_n 0, 1) := by decide +kernel
theorem dX3_wayAtChamber_1 : decode cX3_wayAtChamber 1 = .ok (.getfield 10, 3) := by decide +kernel
theorem dX3_wayAtChamber_4 : decode cX3_wayAtChamber 4 = .ok (.getfield 37, 3) := by decide +kernel
theorem dX3_wayAtChamber_7 : decode cX3_wayAtChamber 7 = .ok (.ifCond .ne 7, 3) := by decide +kernel
theorem dX3_wayAtChamber_10 : decode cX3_wayAtChamber 10 = .ok (.iconst 1, 1) := by decide +kernel
theorem dX3_wayAtChamber_11 : decode cX3_wayAtChamber 11 = .ok (.goto 4, 3) := by decide +kernel
theorem dX3_wayAtChamber_14 : decode cX3_wayAtChamber 14 = .ok (.iconst 0, 1) := by decide +kernel
theorem dX3_wayAtChamber_15 : decode cX3_wayAtChamber 15 = .ok (.ireturn, 1) := by decide +kernel
set_option maxRecDepth 20000 in
theorem ggX3_wayServedNext_X0_boatAt : GoodIn wsX3_wayServedNext wsX0_boatAt := goodIn_r _ [7, 8, 9, 30, 31] (by decide +kernel) (by decide +kernel)
set_option maxRecDepth 20000 in
theorem gX3_wayServedNext_X0_boatAt : GoodIn wsX3_wayServedNext (wsV RX3 118 RX0 yX0_boatAt wsX0_boatAt) := goodIn_app (goodIn_of _ (by decide +kernel)) ggX3_wayServedNext_X0_boatAt
set_option maxRecDepth 20000 in
theorem ggX3_wayServedNext_X3_wayAtChamber : GoodIn wsX3_wayServedNext wsX3_wayAtChamber := goodIn_r _ [14, 15, 16, 17, 18, 19, 20, 21, 22, 23, 24, 25, 26, 27, 28, 29, 32, 33, 34, 35, 36, 37, 38, 39, 40, 41, 42, 43, 44, 45] (by decide +kernel) (by decide +kernel)
set_option maxRecDepth 20000 in
theorem gX3_wayServedNext_X3_wayAtChamber : GoodIn wsX3_wayServedNext (wsV RX3 137 RX3 yX3_wayAtChamber wsX3_wayAtChamber) := goodIn_app (goodIn_of _ (by decide +kernel)) ggX3_wayServedNext_X3_wayAtChamber
theorem dX3_wayServedNext_0 : decode cX3_wayServedNext 0 = .ok (.aload_n 0, 1) := by decide +kernel
theorem dX3_wayServedNext_1 : decode cX3_wayServedNext 1 = .ok (.getfield 21, 3) := by decide +kernel
theorem dX3_wayServedNext_4 : decode cX3_wayServedNext 4 = .ok (.iconst 0, 1) := by decide +kernel
theorem dX3_wayServedNext_5 : decode cX3_wayServedNext 5 = .ok (.aaload, 1) := by decide +kernel
theorem dX3_wayServedNext_6 : decode cX3_wayServedNext 6 = .ok (.iconst 0, 1) := by decide +kernel
theorem dX3_wayServedNext_7 : decode cX3_wayServedNext 7 = .ok (.invokevirtual 118, 3) := by decide +kernel
theorem dX3_wayServedNext_10 : decode cX3_wayServedNext 10 = .ok (.istore_n 1, 1) := by decide +kernel
theorem dX3_wayServedNext_11 : decode cX3_wayServedNext 11 = .ok (.aload_n 0, 1) := by decide +kernel
theorem dX3_wayServedNext_12 : decode cX3_wayServedNext 12 = .ok (.getfield 21, 3) := by decide +kernel
theorem dX3_wayServedNext_15 : decode cX3_wayServedNext 15 = .ok (.iconst 1, 1) := by decide +kernel
theorem dX3_wayServedNext_16 : decode cX3_wayServedNext 16 = .ok (.aaload, 1) := by decide +kernel
theorem dX3_wayServedNext_17 : decode cX3_wayServedNext 17 = .ok (.iconst 0, 1) := by decide +kernel
theorem dX3_wayServedNext_18 : decode cX3_wayServedNext 18 = .ok (.invokevirtual 118, 3) := by decide +kernel
theorem dX3_wayServedNext_21 : decode cX3_wayServedNext 21 = .ok (.istore_n 2, 1) := by decide +kernel
theorem dX3_wayServedNext_22 : decode cX3_wayServedNext 22 = .ok (.iload_n 1, 1) := by decide +kernel
theorem dX3_wayServedNext_23 : decode cX3_wayServedNext 23 = .ok (.iconst (-1), 1) := by decide +kernel
theorem dX3_wayServedNext_24 : decode cX3_wayServedNext 24 = .ok (.if_icmp .ne 14, 3) := by decide +kernel
theorem dX3_wayServedNext_27 : decode cX3_wayServedNext 27 = .ok (.iload_n 2, 1) := by decide +kernel
theorem dX3_wayServedNext_28 : decode cX3_wayServedNext 28 = .ok (.iconst (-1), 1) := by decide +kernel
theorem dX3_wayServedNext_29 : decode cX3_wayServedNext 29 = .ok (.if_icmp .ne 7, 3) := by decide +kernel
theorem dX3_wayServedNext_32 : decode cX3_wayServedNext 32 = .ok (.iconst (-1), 1) := by decide +kernel
theorem dX3_wayServedNext_33 : decode cX3_wayServedNext 33 = .ok (.goto 4, 3) := by decide +kernel
theorem dX3_wayServedNext_36 : decode cX3_wayServedNext 36 = .ok (.iconst 1, 1) := by decide +kernel
theorem dX3_wayServedNext_37 : decode cX3_wayServedNext 37 = .ok (.ireturn, 1) := by decide +kernel
theorem dX3_wayServedNext_38 : decode cX3_wayServedNext 38 = .ok (.iload_n 2, 1) := by decide +kernel
theorem dX3_wayServedNext_39 : decode cX3_wayServedNext 39 = .ok (.iconst (-1), 1) := by decide +kernel
theorem dX3_wayServedNext_40 : decode cX3_wayServedNext 40 = .ok (.if_icmp .ne 5, 3) := by decide +kernel
theorem dX3_wayServedNext_43 : decode cX3_wayServedNext 43 = .ok (.iconst 0, 1) := by decide +kernel
theorem dX3_wayServedNext_44 : decode cX3_wayServedNext 44 = .ok (.ireturn, 1) := by decide +kernel
theorem dX3_wayServedNext_45 : decode cX3_wayServedNext 45 = .ok (.aload_n 0, 1) := by decide +kernel
theorem dX3_wayServedNext_46 : decode cX3_wayServedNext 46 = .ok (.getfield 121, 3) := by decide +kernel
theorem dX3_wayServedNext_49 : decode cX3_wayServedNext 49 = .ok (.iconst 1, 1) := by decide +kernel
theorem dX3_wayServedNext_50 : decode cX3_wayServedNext 50 = .ok (.if_icmp .ne 8, 3) := by decide +kernel
theorem dX3_wayServedNext_53 : decode cX3_wayServedNext 53 = .ok (.aload_n 0, 1) := by decide +kernel
theorem dX3_wayServedNext_54 : decode cX3_wayServedNext 54 = .ok (.invokevirtual 137, 3) := by decide +kernel
theorem dX3_wayServedNext_57 : decode cX3_wayServedNext 57 = .ok (.ireturn, 1) := by decide +kernel
theorem dX3_wayServedNext_58 : decode cX3_wayServedNext 58 = .ok (.iload_n 1, 1) := by decide +kernel
theorem dX3_wayServedNext_59 : decode cX3_wayServedNext 59 = .ok (.iload_n 2, 1) := by decide +kernel
theorem dX3_wayServedNext_60 : decode cX3_wayServedNext 60 = .ok (.if_icmp .ge 7, 3) := by decide +kernel
theorem dX3_wayServedNext_63 : decode cX3_wayServedNext 63 = .ok (.iconst 0, 1) := by decide +kernel
theorem dX3_wayServedNext_64 : decode cX3_wayServedNext 64 = .ok (.goto 4, 3) := by decide +kernel
theorem dX3_wayServedNext_67 : decode cX3_wayServedNext 67 = .ok (.iconst 1, 1) := by decide +kernel
theorem dX3_wayServedNext_68 : decode cX3_wayServedNext 68 = .ok (.ireturn, 1) := by decide +kernel
set_option maxRecDepth 20000 in
theorem ggX3_turnsToServe_X3_wayAtChamber : GoodIn wsX3_turnsToServe wsX3_wayAtChamber := goodIn_r _ [5, 6, 7, 8, 9, 10, 11, 12, 13, 14, 15, 16, 17, 18, 19, 20, 21, 22, 23, 24, 25, 26, 27, 28, 29, 30, 31, 32, 33, 34] (by decide +kernel) (by decide +kernel)
set_option maxRecDepth 20000 in
theorem gX3_turnsToServe_X3_wayAtChamber : GoodIn wsX3_turnsToServe (wsV RX3 137 RX3 yX3_wayAtChamber wsX3_wayAtChamber) := goodIn_app (goodIn_of _ (by decide +kernel)) ggX3_turnsToServe_X3_wayAtChamber
theorem dX3_turnsToServe_0 : decode cX3_turnsToServe 0 = .ok (.iload_n 1, 1) := by decide +kernel
theorem dX3_turnsToServe_1 : decode cX3_turnsToServe 1 = .ok (.aload_n 0, 1) := by decide +kernel
theorem dX3_turnsToServe_2 : decode cX3_turnsToServe 2 = .ok (.invokevirtual 137, 3) := by decide +kernel
theorem dX3_turnsToServe_5 : decode cX3_turnsToServe 5 = .ok (.if_icmp .ne 7, 3) := by decide +kernel
theorem dX3_turnsToServe_8 : decode cX3_turnsToServe 8 = .ok (.iconst 1, 1) := by decide +kernel
theorem dX3_turnsToServe_9 : decode cX3_turnsToServe 9 = .ok (.goto 4, 3) := by decide +kernel
theorem dX3_turnsToServe_12 : decode cX3_turnsToServe 12 = .ok (.iconst 2, 1) := by decide +kernel
theorem dX3_turnsToServe_13 : decode cX3_turnsToServe 13 = .ok (.ireturn, 1) := by decide +kernel
set_option maxRecDepth 20000 in
theorem ggX3_turn_X3_makeTurnFor : GoodIn wsX3_turn wsX3_makeTurnFor := goodIn_r _ [8, 2, 9, 10, 3, 11, 12, 13, 14, 1, 15, 16, 17, 18, 19, 20, 21, 22, 23, 24, 25, 26, 27, 28, 29, 30, 31, 32, 33, 34, 35, 36, 37, 38, 39, 40, 41, 42, 43, 44, 45, 46, 47, 48, 49, 50, 51, 52, 53, 54, 55, 56, 57, 58, 59, 60, 61, 62, 63, 7, 64, 65, 66, 67, 68, 69, 70, 71, 72, 73, 74, 75, 76, 77, 78, 79, 80, 81, 82, 83, 84, 85, 86, 87, 88, 89, 90, 91, 92, 93, 94] (by decide +kernel) (by decide +kernel)
set_option maxRecDepth 20000 in
theorem gX3_turn_X3_makeTurnFor : GoodIn wsX3_turn (wsV RX3 134 RX3 yX3_makeTurnFor wsX3_makeTurnFor) := goodIn_app (goodIn_of _ (by decide +kernel)) ggX3_turn_X3_makeTurnFor
theorem dX3_turn_0 : decode cX3_turn 0 = .ok (.aload_n 0, 1) := by decide +kernel
theorem dX3_turn_1 : decode cX3_turn 1 = .ok (.getfield 131, 3) := by decide +kernel
theorem dX3_turn_4 : decode cX3_turn 4 = .ok (.bipush 60, 2) := by decide +kernel
theorem dX3_turn_6 : decode cX3_turn 6 = .ok (.if_icmp .lt 6, 3) := by decide +kernel
theorem dX3_turn_9 : decode cX3_turn 9 = .ok (.bipush (-4), 2) := by decide +kernel
theorem dX3_turn_11 : decode cX3_turn 11 = .ok (.ireturn, 1) := by decide +kernel
theorem dX3_turn_12 : decode cX3_turn 12 = .ok (.aload_n 0, 1) := by decide +kernel
theorem dX3_turn_13 : decode cX3_turn 13 = .ok (.iconst (-1), 1) := by decide +kernel
theorem dX3_turn_14 : decode cX3_turn 14 = .ok (.invokevirtual 134, 3) := by decide +kernel
theorem dX3_turn_17 : decode cX3_turn 17 = .ok (.aload_n 0, 1) := by decide +kernel
theorem dX3_turn_18 : decode cX3_turn 18 = .ok (.getfield 10, 3) := by decide +kernel
theorem dX3_turn_21 : decode cX3_turn 21 = .ok (.getfield 140, 3) := by decide +kernel
theorem dX3_turn_24 : decode cX3_turn 24 = .ok (.ireturn, 1) := by decide +kernel
theorem dX3_ledger_0 : decode cX3_ledger 0 = .ok (.iload_n 1, 1) := by decide +kernel
theorem dX3_ledger_1 : decode cX3_ledger 1 = .ok (.ifCond .lt 21, 3) := by decide +kernel
theorem dX3_ledger_4 : decode cX3_ledger 4 = .ok (.iload_n 1, 1) := by decide +kernel
theorem dX3_ledger_5 : decode cX3_ledger 5 = .ok (.aload_n 0, 1) := by decide +kernel
theorem dX3_ledger_6 : decode cX3_ledger 6 = .ok (.getfield 131, 3) := by decide +kernel
theorem dX3_ledger_9 : decode cX3_ledger 9 = .ok (.if_icmp .ge 13, 3) := by decide +kernel
theorem dX3_ledger_12 : decode cX3_ledger 12 = .ok (.iload_n 2, 1) := by decide +kernel
theorem dX3_ledger_13 : decode cX3_ledger 13 = .ok (.ifCond .lt 9, 3) := by decide +kernel
theorem dX3_ledger_16 : decode cX3_ledger 16 = .ok (.iload_n 2, 1) := by decide +kernel
theorem dX3_ledger_17 : decode cX3_ledger 17 = .ok (.bipush 9, 2) := by decide +kernel
theorem dX3_ledger_19 : decode cX3_ledger 19 = .ok (.if_icmp .lt 6, 3) := by decide +kernel
theorem dX3_ledger_22 : decode cX3_ledger 22 = .ok (.bipush (-2), 2) := by decide +kernel
theorem dX3_ledger_24 : decode cX3_ledger 24 = .ok (.ireturn, 1) := by decide +kernel
theorem dX3_ledger_25 : decode cX3_ledger 25 = .ok (.aload_n 0, 1) := by decide +kernel
theorem dX3_ledger_26 : decode cX3_ledger 26 = .ok (.getfield 31, 3) := by decide +kernel
theorem dX3_ledger_29 : decode cX3_ledger 29 = .ok (.iload_n 1, 1) := by decide +kernel
theorem dX3_ledger_30 : decode cX3_ledger 30 = .ok (.bipush 9, 2) := by decide +kernel
theorem dX3_ledger_32 : decode cX3_ledger 32 = .ok (.imul, 1) := by decide +kernel
theorem dX3_ledger_33 : decode cX3_ledger 33 = .ok (.iload_n 2, 1) := by decide +kernel
theorem dX3_ledger_34 : decode cX3_ledger 34 = .ok (.iadd, 1) := by decide +kernel
theorem dX3_ledger_35 : decode cX3_ledger 35 = .ok (.iaload, 1) := by decide +kernel
theorem dX3_ledger_36 : decode cX3_ledger 36 = .ok (.ireturn, 1) := by decide +kernel
theorem dX3_wipe_0 : decode cX3_wipe 0 = .ok (.aload_n 0, 1) := by decide +kernel
theorem dX3_wipe_1 : decode cX3_wipe 1 = .ok (.getfield 131, 3) := by decide +kernel
theorem dX3_wipe_4 : decode cX3_wipe 4 = .ok (.istore_n 1, 1) := by decide +kernel
theorem dX3_wipe_5 : decode cX3_wipe 5 = .ok (.aload_n 0, 1) := by decide +kernel
theorem dX3_wipe_6 : decode cX3_wipe 6 = .ok (.iconst 0, 1) := by decide +kernel
theorem dX3_wipe_7 : decode cX3_wipe 7 = .ok (.putfield 131, 3) := by decide +kernel
theorem dX3_wipe_10 : decode cX3_wipe 10 = .ok (.iload_n 1, 1) := by decide +kernel
theorem dX3_wipe_11 : decode cX3_wipe 11 = .ok (.ireturn, 1) := by decide +kernel
set_option maxRecDepth 20000 in
theorem ggX3_total_X2_heldInAll : GoodIn wsX3_total wsX2_heldInAll := goodIn_r _ [10, 11, 12, 26, 27, 28, 29, 30, 31, 32, 33, 34, 35, 36, 37, 38, 39] (by decide +kernel) (by decide +kernel)
set_option maxRecDepth 20000 in
theorem gX3_total_X2_heldInAll : GoodIn wsX3_total (wsV RX3 152 RX2 yX2_heldInAll wsX2_heldInAll) := goodIn_app (goodIn_of _ (by decide +kernel)) ggX3_total_X2_heldInAll
theorem dX3_total_0 : decode cX3_total 0 = .ok (.iload_n 1, 1) := by decide +kernel
theorem dX3_total_1 : decode cX3_total 1 = .ok (.tableswitch 63 0 4 #[35, 40, 45, 50, 58], 35) := by decide +kernel
theorem dX3_total_36 : decode cX3_total 36 = .ok (.aload_n 0, 1) := by decide +kernel
theorem dX3_total_37 : decode cX3_total 37 = .ok (.getfield 143, 3) := by decide +kernel
theorem dX3_total_40 : decode cX3_total 40 = .ok (.ireturn, 1) := by decide +kernel
theorem dX3_total_41 : decode cX3_total 41 = .ok (.aload_n 0, 1) := by decide +kernel
theorem dX3_total_42 : decode cX3_total 42 = .ok (.getfield 146, 3) := by decide +kernel
theorem dX3_total_45 : decode cX3_total 45 = .ok (.ireturn, 1) := by decide +kernel
theorem dX3_total_46 : decode cX3_total 46 = .ok (.aload_n 0, 1) := by decide +kernel
theorem dX3_total_47 : decode cX3_total 47 = .ok (.getfield 149, 3) := by decide +kernel
theorem dX3_total_50 : decode cX3_total 50 = .ok (.ireturn, 1) := by decide +kernel
theorem dX3_total_51 : decode cX3_total 51 = .ok (.aload_n 0, 1) := by decide +kernel
theorem dX3_total_52 : decode cX3_total 52 = .ok (.getfield 10, 3) := by decide +kernel
theorem dX3_total_55 : decode cX3_total 55 = .ok (.invokevirtual 152, 3) := by decide +kernel
theorem dX3_total_58 : decode cX3_total 58 = .ok (.ireturn, 1) := by decide +kernel
theorem dX3_total_59 : decode cX3_total 59 = .ok (.aload_n 0, 1) := by decide +kernel
theorem dX3_total_60 : decode cX3_total 60 = .ok (.getfield 155, 3) := by decide +kernel
theorem dX3_total_63 : decode cX3_total 63 = .ok (.ireturn, 1) := by decide +kernel
theorem dX3_total_64 : decode cX3_total 64 = .ok (.bipush (-2), 2) := by decide +kernel
theorem dX3_total_66 : decode cX3_total 66 = .ok (.ireturn, 1) := by decide +kernel
set_option maxRecDepth 20000 in
theorem ggX3_makeTurnFor_X2_makeTurn : GoodIn wsX3_makeTurnFor wsX2_makeTurn := goodIn_r _ [14, 15, 16, 17, 18, 19, 20, 21, 22, 23, 24, 25, 26, 27, 13, 28, 29, 30, 31, 32, 33, 34, 35, 36, 37, 38, 39, 40, 41, 42, 43, 44, 45, 46, 47, 48, 49, 50, 51, 52, 53, 54, 55, 77, 78, 79, 80, 81, 82, 83, 84, 85, 86, 87, 88, 89, 90] (by decide +kernel) (by decide +kernel)
set_option maxRecDepth 20000 in
theorem gX3_makeTurnFor_X2_makeTurn : GoodIn wsX3_makeTurnFor (wsV RX3 158 RX2 yX2_makeTurn wsX2_makeTurn) := goodIn_app (goodIn_of _ (by decide +kernel)) ggX3_makeTurnFor_X2_makeTurn
set_option maxRecDepth 20000 in
theorem ggX3_makeTurnFor_X3_enterTurn : GoodIn wsX3_makeTurnFor wsX3_enterTurn := goodIn_r _ [60, 9, 61, 1, 62, 4, 7, 63, 64, 65, 66, 67, 68, 69, 70, 71, 72, 73, 74, 75, 76, 77, 78, 79, 80, 81, 82, 83, 84, 85, 86, 87, 88, 89, 90] (by decide +kernel) (by decide +kernel)
set_option maxRecDepth 20000 in
theorem gX3_makeTurnFor_X3_enterTurn : GoodIn wsX3_makeTurnFor (wsV RX3 164 RX3 yX3_enterTurn wsX3_enterTurn) := goodIn_app (goodIn_of _ (by decide +kernel)) ggX3_makeTurnFor_X3_enterTurn
theorem dX3_makeTurnFor_0 : decode cX3_makeTurnFor 0 = .ok (.aload_n 0, 1) := by decide +kernel
theorem dX3_makeTurnFor_1 : decode cX3_makeTurnFor 1 = .ok (.getfield 10, 3) := by decide +kernel
theorem dX3_makeTurnFor_4 : decode cX3_makeTurnFor 4 = .ok (.getfield 37, 3) := by decide +kernel
theorem dX3_makeTurnFor_7 : decode cX3_makeTurnFor 7 = .ok (.ifCond .ne 7, 3) := by decide +kernel
theorem dX3_makeTurnFor_10 : decode cX3_makeTurnFor 10 = .ok (.iconst 1, 1) := by decide +kernel
theorem dX3_makeTurnFor_11 : decode cX3_makeTurnFor 11 = .ok (.goto 4, 3) := by decide +kernel
theorem dX3_makeTurnFor_14 : decode cX3_makeTurnFor 14 = .ok (.iconst 0, 1) := by decide +kernel
theorem dX3_makeTurnFor_15 : decode cX3_makeTurnFor 15 = .ok (.istore_n 2, 1) := by decide +kernel
theorem dX3_makeTurnFor_16 : decode cX3_makeTurnFor 16 = .ok (.aload_n 0, 1) := by decide +kernel
theorem dX3_makeTurnFor_17 : decode cX3_makeTurnFor 17 = .ok (.getfield 10, 3) := by decide +kernel
theorem dX3_makeTurnFor_20 : decode cX3_makeTurnFor 20 = .ok (.invokevirtual 158, 3) := by decide +kernel
theorem dX3_makeTurnFor_23 : decode cX3_makeTurnFor 23 = .ok (.iload_n 2, 1) := by decide +kernel
theorem dX3_makeTurnFor_24 : decode cX3_makeTurnFor 24 = .ok (.ifCond .eq 22, 3) := by decide +kernel
theorem dX3_makeTurnFor_27 : decode cX3_makeTurnFor 27 = .ok (.aload_n 0, 1) := by decide +kernel
theorem dX3_makeTurnFor_28 : decode cX3_makeTurnFor 28 = .ok (.dup, 1) := by decide +kernel
theorem dX3_makeTurnFor_29 : decode cX3_makeTurnFor 29 = .ok (.getfield 143, 3) := by decide +kernel
theorem dX3_makeTurnFor_32 : decode cX3_makeTurnFor 32 = .ok (.aload_n 0, 1) := by decide +kernel
theorem dX3_makeTurnFor_33 : decode cX3_makeTurnFor 33 = .ok (.getfield 10, 3) := by decide +kernel
theorem dX3_makeTurnFor_36 : decode cX3_makeTurnFor 36 = .ok (.getfield 140, 3) := by decide +kernel
theorem dX3_makeTurnFor_39 : decode cX3_makeTurnFor 39 = .ok (.iadd, 1) := by decide +kernel
theorem dX3_makeTurnFor_40 : decode cX3_makeTurnFor 40 = .ok (.putfield 143, 3) := by decide +kernel
theorem dX3_makeTurnFor_43 : decode cX3_makeTurnFor 43 = .ok (.goto 19, 3) := by decide +kernel
theorem dX3_makeTurnFor_46 : decode cX3_makeTurnFor 46 = .ok (.aload_n 0, 1) := by decide +kernel
theorem dX3_makeTurnFor_47 : decode cX3_makeTurnFor 47 = .ok (.dup, 1) := by decide +kernel
theorem dX3_makeTurnFor_48 : decode cX3_makeTurnFor 48 = .ok (.getfield 146, 3) := by decide +kernel
theorem dX3_makeTurnFor_51 : decode cX3_makeTurnFor 51 = .ok (.aload_n 0, 1) := by decide +kernel
theorem dX3_makeTurnFor_52 : decode cX3_makeTurnFor 52 = .ok (.getfield 10, 3) := by decide +kernel
theorem dX3_makeTurnFor_55 : decode cX3_makeTurnFor 55 = .ok (.getfield 140, 3) := by decide +kernel
theorem dX3_makeTurnFor_58 : decode cX3_makeTurnFor 58 = .ok (.iadd, 1) := by decide +kernel
theorem dX3_makeTurnFor_59 : decode cX3_makeTurnFor 59 = .ok (.putfield 146, 3) := by decide +kernel
theorem dX3_makeTurnFor_62 : decode cX3_makeTurnFor 62 = .ok (.aload_n 0, 1) := by decide +kernel
theorem dX3_makeTurnFor_63 : decode cX3_makeTurnFor 63 = .ok (.dup, 1) := by decide +kernel
theorem dX3_makeTurnFor_64 : decode cX3_makeTurnFor 64 = .ok (.getfield 149, 3) := by decide +kernel
theorem dX3_makeTurnFor_67 : decode cX3_makeTurnFor 67 = .ok (.aload_n 0, 1) := by decide +kernel
theorem dX3_makeTurnFor_68 : decode cX3_makeTurnFor 68 = .ok (.getfield 10, 3) := by decide +kernel
theorem dX3_makeTurnFor_71 : decode cX3_makeTurnFor 71 = .ok (.getfield 161, 3) := by decide +kernel
theorem dX3_makeTurnFor_74 : decode cX3_makeTurnFor 74 = .ok (.iadd, 1) := by decide +kernel
theorem dX3_makeTurnFor_75 : decode cX3_makeTurnFor 75 = .ok (.putfield 149, 3) := by decide +kernel
theorem dX3_makeTurnFor_78 : decode cX3_makeTurnFor 78 = .ok (.aload_n 0, 1) := by decide +kernel
theorem dX3_makeTurnFor_79 : decode cX3_makeTurnFor 79 = .ok (.dup, 1) := by decide +kernel
theorem dX3_makeTurnFor_80 : decode cX3_makeTurnFor 80 = .ok (.getfield 155, 3) := by decide +kernel
theorem dX3_makeTurnFor_83 : decode cX3_makeTurnFor 83 = .ok (.iconst 1, 1) := by decide +kernel
theorem dX3_makeTurnFor_84 : decode cX3_makeTurnFor 84 = .ok (.iadd, 1) := by decide +kernel
theorem dX3_makeTurnFor_85 : decode cX3_makeTurnFor 85 = .ok (.putfield 155, 3) := by decide +kernel
theorem dX3_makeTurnFor_88 : decode cX3_makeTurnFor 88 = .ok (.aload_n 0, 1) := by decide +kernel
theorem dX3_makeTurnFor_89 : decode cX3_makeTurnFor 89 = .ok (.getfield 131, 3) := by decide +kernel
theorem dX3_makeTurnFor_92 : decode cX3_makeTurnFor 92 = .ok (.bipush 60, 2) := by decide +kernel
theorem dX3_makeTurnFor_94 : decode cX3_makeTurnFor 94 = .ok (.if_icmp .ge 9, 3) := by decide +kernel
theorem dX3_makeTurnFor_97 : decode cX3_makeTurnFor 97 = .ok (.aload_n 0, 1) := by decide +kernel
theorem dX3_makeTurnFor_98 : decode cX3_makeTurnFor 98 = .ok (.iload_n 1, 1) := by decide +kernel
theorem dX3_makeTurnFor_99 : decode cX3_makeTurnFor 99 = .ok (.iload_n 2, 1) := by decide +kernel
theorem dX3_makeTurnFor_100 : decode cX3_makeTurnFor 100 = .ok (.invokevirtual 164, 3) := by decide +kernel
theorem dX3_makeTurnFor_103 : decode cX3_makeTurnFor 103 = .ok (.return_, 1) := by decide +kernel
theorem dX3_enterTurn_0 : decode cX3_enterTurn 0 = .ok (.aload_n 0, 1) := by decide +kernel
theorem dX3_enterTurn_1 : decode cX3_enterTurn 1 = .ok (.getfield 131, 3) := by decide +kernel
theorem dX3_enterTurn_4 : decode cX3_enterTurn 4 = .ok (.bipush 9, 2) := by decide +kernel
theorem dX3_enterTurn_6 : decode cX3_enterTurn 6 = .ok (.imul, 1) := by decide +kernel
theorem dX3_enterTurn_7 : decode cX3_enterTurn 7 = .ok (.istore_n 3, 1) := by decide +kernel
theorem dX3_enterTurn_8 : decode cX3_enterTurn 8 = .ok (.aload_n 0, 1) := by decide +kernel
theorem dX3_enterTurn_9 : decode cX3_enterTurn 9 = .ok (.getfield 31, 3) := by decide +kernel
theorem dX3_enterTurn_12 : decode cX3_enterTurn 12 = .ok (.iload_n 3, 1) := by decide +kernel
theorem dX3_enterTurn_13 : decode cX3_enterTurn 13 = .ok (.iload_n 1, 1) := by decide +kernel
theorem dX3_enterTurn_14 : decode cX3_enterTurn 14 = .ok (.iastore, 1) := by decide +kernel
theorem dX3_enterTurn_15 : decode cX3_enterTurn 15 = .ok (.aload_n 0, 1) := by decide +kernel
theorem dX3_enterTurn_16 : decode cX3_enterTurn 16 = .ok (.getfield 31, 3) := by decide +kernel
theorem dX3_enterTurn_19 : decode cX3_enterTurn 19 = .ok (.iload_n 3, 1) := by decide +kernel
theorem dX3_enterTurn_20 : decode cX3_enterTurn 20 = .ok (.iconst 1, 1) := by decide +kernel
theorem dX3_enterTurn_21 : decode cX3_enterTurn 21 = .ok (.iadd, 1) := by decide +kernel
theorem dX3_enterTurn_22 : decode cX3_enterTurn 22 = .ok (.iload_n 2, 1) := by decide +kernel
theorem dX3_enterTurn_23 : decode cX3_enterTurn 23 = .ok (.ifCond .eq 7, 3) := by decide +kernel
theorem dX3_enterTurn_26 : decode cX3_enterTurn 26 = .ok (.iconst 1, 1) := by decide +kernel
theorem dX3_enterTurn_27 : decode cX3_enterTurn 27 = .ok (.goto 4, 3) := by decide +kernel
theorem dX3_enterTurn_30 : decode cX3_enterTurn 30 = .ok (.iconst 0, 1) := by decide +kernel
theorem dX3_enterTurn_31 : decode cX3_enterTurn 31 = .ok (.iastore, 1) := by decide +kernel
theorem dX3_enterTurn_32 : decode cX3_enterTurn 32 = .ok (.aload_n 0, 1) := by decide +kernel
theorem dX3_enterTurn_33 : decode cX3_enterTurn 33 = .ok (.getfield 31, 3) := by decide +kernel
theorem dX3_enterTurn_36 : decode cX3_enterTurn 36 = .ok (.iload_n 3, 1) := by decide +kernel
theorem dX3_enterTurn_37 : decode cX3_enterTurn 37 = .ok (.iconst 2, 1) := by decide +kernel
theorem dX3_enterTurn_38 : decode cX3_enterTurn 38 = .ok (.iadd, 1) := by decide +kernel
theorem dX3_enterTurn_39 : decode cX3_enterTurn 39 = .ok (.aload_n 0, 1) := by decide +kernel
theorem dX3_enterTurn_40 : decode cX3_enterTurn 40 = .ok (.getfield 10, 3) := by decide +kernel
theorem dX3_enterTurn_43 : decode cX3_enterTurn 43 = .ok (.getfield 41, 3) := by decide +kernel
theorem dX3_enterTurn_46 : decode cX3_enterTurn 46 = .ok (.aload_n 0, 1) := by decide +kernel
theorem dX3_enterTurn_47 : decode cX3_enterTurn 47 = .ok (.getfield 10, 3) := by decide +kernel
theorem dX3_enterTurn_50 : decode cX3_enterTurn 50 = .ok (.getfield 140, 3) := by decide +kernel
theorem dX3_enterTurn_53 : decode cX3_enterTurn 53 = .ok (.isub, 1) := by decide +kernel
theorem dX3_enterTurn_54 : decode cX3_enterTurn 54 = .ok (.iastore, 1) := by decide +kernel
theorem dX3_enterTurn_55 : decode cX3_enterTurn 55 = .ok (.aload_n 0, 1) := by decide +kernel
theorem dX3_enterTurn_56 : decode cX3_enterTurn 56 = .ok (.getfield 31, 3) := by decide +kernel
theorem dX3_enterTurn_59 : decode cX3_enterTurn 59 = .ok (.iload_n 3, 1) := by decide +kernel
theorem dX3_enterTurn_60 : decode cX3_enterTurn 60 = .ok (.iconst 3, 1) := by decide +kernel
theorem dX3_enterTurn_61 : decode cX3_enterTurn 61 = .ok (.iadd, 1) := by decide +kernel
theorem dX3_enterTurn_62 : decode cX3_enterTurn 62 = .ok (.aload_n 0, 1) := by decide +kernel
theorem dX3_enterTurn_63 : decode cX3_enterTurn 63 = .ok (.getfield 10, 3) := by decide +kernel
theorem dX3_enterTurn_66 : decode cX3_enterTurn 66 = .ok (.getfield 140, 3) := by decide +kernel
theorem dX3_enterTurn_69 : decode cX3_enterTurn 69 = .ok (.iastore, 1) := by decide +kernel
theorem dX3_enterTurn_70 : decode cX3_enterTurn 70 = .ok (.aload_n 0, 1) := by decide +kernel
theorem dX3_enterTurn_71 : decode cX3_enterTurn 71 = .ok (.getfield 31, 3) := by decide +kernel
theorem dX3_enterTurn_74 : decode cX3_enterTurn 74 = .ok (.iload_n 3, 1) := by decide +kernel
theorem dX3_enterTurn_75 : decode cX3_enterTurn 75 = .ok (.iconst 4, 1) := by decide +kernel
theorem dX3_enterTurn_76 : decode cX3_enterTurn 76 = .ok (.iadd, 1) := by decide +kernel
theorem dX3_enterTurn_77 : decode cX3_enterTurn 77 = .ok (.aload_n 0, 1) := by decide +kernel
theorem dX3_enterTurn_78 : decode cX3_enterTurn 78 = .ok (.getfield 10, 3) := by decide +kernel
theorem dX3_enterTurn_81 : decode cX3_enterTurn 81 = .ok (.getfield 161, 3) := by decide +kernel
theorem dX3_enterTurn_84 : decode cX3_enterTurn 84 = .ok (.iastore, 1) := by decide +kernel
theorem dX3_enterTurn_85 : decode cX3_enterTurn 85 = .ok (.iconst 0, 1) := by decide +kernel
theorem dX3_enterTurn_86 : decode cX3_enterTurn 86 = .ok (.istore 4, 2) := by decide +kernel
theorem dX3_enterTurn_88 : decode cX3_enterTurn 88 = .ok (.iload 4, 2) := by decide +kernel
theorem dX3_enterTurn_90 : decode cX3_enterTurn 90 = .ok (.iconst 4, 1) := by decide +kernel
theorem dX3_enterTurn_91 : decode cX3_enterTurn 91 = .ok (.if_icmp .ge 30, 3) := by decide +kernel
theorem dX3_enterTurn_94 : decode cX3_enterTurn 94 = .ok (.aload_n 0, 1) := by decide +kernel
theorem dX3_enterTurn_95 : decode cX3_enterTurn 95 = .ok (.getfield 31, 3) := by decide +kernel
theorem dX3_enterTurn_98 : decode cX3_enterTurn 98 = .ok (.iload_n 3, 1) := by decide +kernel
theorem dX3_enterTurn_99 : decode cX3_enterTurn 99 = .ok (.iconst 5, 1) := by decide +kernel
theorem dX3_enterTurn_100 : decode cX3_enterTurn 100 = .ok (.iadd, 1) := by decide +kernel
theorem dX3_enterTurn_101 : decode cX3_enterTurn 101 = .ok (.iload 4, 2) := by decide +kernel
theorem dX3_enterTurn_103 : decode cX3_enterTurn 103 = .ok (.iadd, 1) := by decide +kernel
theorem dX3_enterTurn_104 : decode cX3_enterTurn 104 = .ok (.aload_n 0, 1) := by decide +kernel
theorem dX3_enterTurn_105 : decode cX3_enterTurn 105 = .ok (.getfield 10, 3) := by decide +kernel
theorem dX3_enterTurn_108 : decode cX3_enterTurn 108 = .ok (.getfield 168, 3) := by decide +kernel
end
section
theorem dX3_enterTurn_111 : decode cX3_enterTurn 111 = .ok (.iload 4, 2) := by decide +kernel
theorem dX3_enterTurn_113 : decode cX3_enterTurn 113 = .ok (.iaload, 1) := by decide +kernel
theorem dX3_enterTurn_114 : decode cX3_enterTurn 114 = .ok (.iastore, 1) := by decide +kernel
theorem dX3_enterTurn_115 : decode cX3_enterTurn 115 = .ok (.iinc 4 1, 3) := by decide +kernel
theorem dX3_enterTurn_118 : decode cX3_enterTurn 118 = .ok (.goto (-30), 3) := by decide +kernel
theorem dX3_enterTurn_121 : decode cX3_enterTurn 121 = .ok (.aload_n 0, 1) := by decide +kernel
theorem dX3_enterTurn_122 : decode cX3_enterTurn 122 = .ok (.dup, 1) := by decide +kernel
theorem dX3_enterTurn_123 : decode cX3_enterTurn 123 = .ok (.getfield 131, 3) := by decide +kernel
theorem dX3_enterTurn_126 : decode cX3_enterTurn 126 = .ok (.iconst 1, 1) := by decide +kernel
theorem dX3_enterTurn_127 : decode cX3_enterTurn 127 = .ok (.iadd, 1) := by decide +kernel
theorem dX3_enterTurn_128 : decode cX3_enterTurn 128 = .ok (.putfield 131, 3) := by decide +kernel
theorem dX3_enterTurn_131 : decode cX3_enterTurn 131 = .ok (.return_, 1) := by decide +kernel
set_option maxRecDepth 20000 in
theorem ggX3_step_X3_tryTurn : GoodIn wsX3_step wsX3_tryTurn := goodIn_r _ [9, 3, 1, 10, 11, 12, 13, 14, 15, 16, 17, 18, 19, 20, 21, 22, 23, 24, 25, 26, 27, 28, 29, 30, 31, 32, 33, 34, 35, 36, 37, 38, 39, 40, 41, 42, 43, 44, 45, 46, 47, 48, 49, 50, 51, 52, 53, 54, 55, 56, 57, 58, 59, 60, 61, 62, 63, 64, 65, 66, 67, 68, 69, 70, 71, 72, 73, 74, 75, 76, 77, 78, 79, 80, 81, 82, 83, 84, 85, 86, 87, 88, 89, 90, 91] (by decide +kernel) (by decide +kernel)
set_option maxRecDepth 20000 in
theorem gX3_step_X3_tryTurn : GoodIn wsX3_step (wsV RX3 171 RX3 yX3_tryTurn wsX3_tryTurn) := goodIn_app (goodIn_of _ (by decide +kernel)) ggX3_step_X3_tryTurn
theorem dX3_step_0 : decode cX3_step 0 = .ok (.iload_n 1, 1) := by decide +kernel
theorem dX3_step_1 : decode cX3_step 1 = .ok (.iconst (-1), 1) := by decide +kernel
theorem dX3_step_2 : decode cX3_step 2 = .ok (.if_icmp .lt 9, 3) := by decide +kernel
theorem dX3_step_5 : decode cX3_step 5 = .ok (.iload_n 1, 1) := by decide +kernel
theorem dX3_step_6 : decode cX3_step 6 = .ok (.bipush 60, 2) := by decide +kernel
theorem dX3_step_8 : decode cX3_step 8 = .ok (.if_icmp .lt 6, 3) := by decide +kernel
theorem dX3_step_11 : decode cX3_step 11 = .ok (.bipush (-2), 2) := by decide +kernel
theorem dX3_step_13 : decode cX3_step 13 = .ok (.ireturn, 1) := by decide +kernel
theorem dX3_step_14 : decode cX3_step 14 = .ok (.iload_n 1, 1) := by decide +kernel
theorem dX3_step_15 : decode cX3_step 15 = .ok (.iconst (-1), 1) := by decide +kernel
theorem dX3_step_16 : decode cX3_step 16 = .ok (.if_icmp .ne 11, 3) := by decide +kernel
theorem dX3_step_19 : decode cX3_step 19 = .ok (.aload_n 0, 1) := by decide +kernel
theorem dX3_step_20 : decode cX3_step 20 = .ok (.getfield 10, 3) := by decide +kernel
theorem dX3_step_23 : decode cX3_step 23 = .ok (.getfield 41, 3) := by decide +kernel
theorem dX3_step_26 : decode cX3_step 26 = .ok (.ireturn, 1) := by decide +kernel
theorem dX3_step_27 : decode cX3_step 27 = .ok (.iload_n 1, 1) := by decide +kernel
theorem dX3_step_28 : decode cX3_step 28 = .ok (.aload_n 0, 1) := by decide +kernel
theorem dX3_step_29 : decode cX3_step 29 = .ok (.getfield 10, 3) := by decide +kernel
theorem dX3_step_32 : decode cX3_step 32 = .ok (.getfield 41, 3) := by decide +kernel
theorem dX3_step_35 : decode cX3_step 35 = .ok (.if_icmp .lt 5, 3) := by decide +kernel
theorem dX3_step_38 : decode cX3_step 38 = .ok (.iconst (-1), 1) := by decide +kernel
theorem dX3_step_39 : decode cX3_step 39 = .ok (.ireturn, 1) := by decide +kernel
theorem dX3_step_40 : decode cX3_step 40 = .ok (.aload_n 0, 1) := by decide +kernel
theorem dX3_step_41 : decode cX3_step 41 = .ok (.invokevirtual 171, 3) := by decide +kernel
theorem dX3_step_44 : decode cX3_step 44 = .ok (.aload_n 0, 1) := by decide +kernel
theorem dX3_step_45 : decode cX3_step 45 = .ok (.getfield 16, 3) := by decide +kernel
theorem dX3_step_48 : decode cX3_step 48 = .ok (.getfield 174, 3) := by decide +kernel
theorem dX3_step_51 : decode cX3_step 51 = .ok (.iload_n 1, 1) := by decide +kernel
theorem dX3_step_52 : decode cX3_step 52 = .ok (.iaload, 1) := by decide +kernel
theorem dX3_step_53 : decode cX3_step 53 = .ok (.ireturn, 1) := by decide +kernel
set_option maxRecDepth 20000 in
theorem ggX3_ahead_X2_becomeLike : GoodIn wsX3_ahead wsX2_becomeLike := goodIn_r _ [8, 9, 10, 11, 12, 13, 14, 15, 16, 17, 18, 19, 20, 21, 22, 76, 77, 78, 79, 80, 81, 82, 83, 84, 85, 86, 87, 88, 89] (by decide +kernel) (by decide +kernel)
set_option maxRecDepth 20000 in
theorem gX3_ahead_X2_becomeLike : GoodIn wsX3_ahead (wsV RX3 177 RX2 yX2_becomeLike wsX2_becomeLike) := goodIn_app (goodIn_of _ (by decide +kernel)) ggX3_ahead_X2_becomeLike
set_option maxRecDepth 20000 in
theorem ggX3_ahead_X2_drawnBy : GoodIn wsX3_ahead wsX2_drawnBy := goodIn_r _ [26, 10, 27, 28, 29, 30, 7, 31, 32, 9, 33, 22, 34, 35, 36, 37, 38, 39, 40, 41, 11, 42, 43, 44, 45, 12, 46, 47, 48, 49, 13, 20, 50, 51, 52, 53, 18, 54, 55, 56, 57, 58, 21, 59, 60, 61, 62, 76, 77, 78, 79, 80, 81, 82, 83, 84, 85, 86, 87, 88, 89] (by decide +kernel) (by decide +kernel)
set_option maxRecDepth 20000 in
theorem gX3_ahead_X2_drawnBy : GoodIn wsX3_ahead (wsV RX3 182 RX2 yX2_drawnBy wsX2_drawnBy) := goodIn_app (goodIn_of _ (by decide +kernel)) ggX3_ahead_X2_drawnBy
theorem dX3_ahead_0 : decode cX3_ahead 0 = .ok (.iload_n 1, 1) := by decide +kernel
theorem dX3_ahead_1 : decode cX3_ahead 1 = .ok (.ifCond .lt 9, 3) := by decide +kernel
theorem dX3_ahead_4 : decode cX3_ahead 4 = .ok (.iload_n 1, 1) := by decide +kernel
theorem dX3_ahead_5 : decode cX3_ahead 5 = .ok (.bipush 40, 2) := by decide +kernel
theorem dX3_ahead_7 : decode cX3_ahead 7 = .ok (.if_icmp .le 6, 3) := by decide +kernel
theorem dX3_ahead_10 : decode cX3_ahead 10 = .ok (.bipush (-2), 2) := by decide +kernel
theorem dX3_ahead_12 : decode cX3_ahead 12 = .ok (.ireturn, 1) := by decide +kernel
theorem dX3_ahead_13 : decode cX3_ahead 13 = .ok (.aload_n 0, 1) := by decide +kernel
theorem dX3_ahead_14 : decode cX3_ahead 14 = .ok (.getfield 16, 3) := by decide +kernel
theorem dX3_ahead_17 : decode cX3_ahead 17 = .ok (.aload_n 0, 1) := by decide +kernel
theorem dX3_ahead_18 : decode cX3_ahead 18 = .ok (.getfield 10, 3) := by decide +kernel
theorem dX3_ahead_21 : decode cX3_ahead 21 = .ok (.invokevirtual 177, 3) := by decide +kernel
theorem dX3_ahead_24 : decode cX3_ahead 24 = .ok (.aload_n 0, 1) := by decide +kernel
theorem dX3_ahead_25 : decode cX3_ahead 25 = .ok (.getfield 16, 3) := by decide +kernel
theorem dX3_ahead_28 : decode cX3_ahead 28 = .ok (.iload_n 1, 1) := by decide +kernel
theorem dX3_ahead_29 : decode cX3_ahead 29 = .ok (.ldc 181, 2) := by decide +kernel
theorem dX3_ahead_31 : decode cX3_ahead 31 = .ok (.invokevirtual 182, 3) := by decide +kernel
theorem dX3_ahead_34 : decode cX3_ahead 34 = .ok (.ireturn, 1) := by decide +kernel
set_option maxRecDepth 20000 in
theorem ggX3_better_X3_isBasin : GoodIn wsX3_better wsX3_isBasin := goodIn_r _ [5, 6, 7, 80, 81, 82, 83, 84, 85, 86, 87, 88, 89, 90, 91, 92, 93, 94, 95, 96, 97, 98, 99, 100, 101, 102, 103, 104, 105, 106] (by decide +kernel) (by decide +kernel)
set_option maxRecDepth 20000 in
theorem gX3_better_X3_isBasin : GoodIn wsX3_better (wsV RX3 61 RX3 yX3_isBasin wsX3_isBasin) := goodIn_app (goodIn_of _ (by decide +kernel)) ggX3_better_X3_isBasin
set_option maxRecDepth 20000 in
theorem ggX3_better_X3_bestBottom : GoodIn wsX3_better wsX3_bestBottom := goodIn_r _ [11, 12, 13, 6, 14, 15, 16, 17, 18, 19, 20, 21, 22, 23, 24, 25, 26, 27, 28, 29, 30, 31, 32, 33, 34, 35, 36, 37, 38, 39, 40, 41, 42, 43, 44, 45, 46, 47, 48, 49, 50, 51, 52, 53, 54, 55, 56, 57, 58, 59, 60, 61, 62, 63, 64, 65, 66, 67, 68, 69, 70, 71, 72, 73, 74, 75, 4, 76, 80, 81, 82, 83, 84, 85, 86, 87, 88, 89, 90, 91, 92, 93, 94, 95, 96, 97, 98, 99, 100, 101, 102, 103, 104, 105, 106] (by decide +kernel) (by decide +kernel)
set_option maxRecDepth 20000 in
theorem gX3_better_X3_bestBottom : GoodIn wsX3_better (wsV RX3 185 RX3 yX3_bestBottom wsX3_bestBottom) := goodIn_app (goodIn_of _ (by decide +kernel)) ggX3_better_X3_bestBottom
set_option maxRecDepth 20000 in
theorem ggX3_better_X3_partOfChoice : GoodIn wsX3_better wsX3_partOfChoice := goodIn_r _ [79] (by decide +kernel) (by decide +kernel)
set_option maxRecDepth 20000 in
theorem gX3_better_X3_partOfChoice : GoodIn wsX3_better (va_wsS RX3 188 yX3_partOfChoice wsX3_partOfChoice) := goodIn_app (goodIn_of _ (by decide +kernel)) ggX3_better_X3_partOfChoice
theorem dX3_better_0 : decode cX3_better 0 = .ok (.aload_n 0, 1) := by decide +kernel
theorem dX3_better_1 : decode cX3_better 1 = .ok (.iload_n 1, 1) := by decide +kernel
theorem dX3_better_2 : decode cX3_better 2 = .ok (.invokevirtual 61, 3) := by decide +kernel
theorem dX3_better_5 : decode cX3_better 5 = .ok (.ifCond .eq 12, 3) := by decide +kernel
theorem dX3_better_8 : decode cX3_better 8 = .ok (.iload_n 2, 1) := by decide +kernel
theorem dX3_better_9 : decode cX3_better 9 = .ok (.ifCond .lt 8, 3) := by decide +kernel
theorem dX3_better_12 : decode cX3_better 12 = .ok (.iload_n 2, 1) := by decide +kernel
theorem dX3_better_13 : decode cX3_better 13 = .ok (.iconst 1, 1) := by decide +kernel
theorem dX3_better_14 : decode cX3_better 14 = .ok (.if_icmp .le 6, 3) := by decide +kernel
theorem dX3_better_17 : decode cX3_better 17 = .ok (.bipush (-2), 2) := by decide +kernel
theorem dX3_better_19 : decode cX3_better 19 = .ok (.ireturn, 1) := by decide +kernel
theorem dX3_better_20 : decode cX3_better 20 = .ok (.aload_n 0, 1) := by decide +kernel
theorem dX3_better_21 : decode cX3_better 21 = .ok (.iload_n 1, 1) := by decide +kernel
theorem dX3_better_22 : decode cX3_better 22 = .ok (.invokevirtual 185, 3) := by decide +kernel
theorem dX3_better_25 : decode cX3_better 25 = .ok (.iload_n 2, 1) := by decide +kernel
theorem dX3_better_26 : decode cX3_better 26 = .ok (.invokestatic 188, 3) := by decide +kernel
theorem dX3_better_29 : decode cX3_better 29 = .ok (.ireturn, 1) := by decide +kernel
set_option maxRecDepth 20000 in
theorem ggX3_needless_X3_leastNeeded : GoodIn wsX3_needless wsX3_leastNeeded := goodIn_r _ [5, 6, 7, 8, 9, 10, 11, 12, 13, 14, 15, 16, 17, 18, 19, 20, 21, 22, 23, 24, 25, 26, 27, 28, 29, 30, 31, 32, 33, 34, 35, 36, 37, 38, 39, 40, 41, 42, 43, 44, 45, 46, 47, 48, 49, 50, 51, 52, 53, 54, 55, 56, 57, 58, 59, 60, 61, 62, 63, 64, 65, 66, 67, 68, 69, 70, 71, 72, 4, 73, 77, 78, 79, 80, 81, 82, 83, 84, 85, 86, 87, 88, 89, 90, 91, 92, 93, 94, 95, 96, 97, 98, 99, 100, 101, 102, 103] (by decide +kernel) (by decide +kernel)
set_option maxRecDepth 20000 in
theorem gX3_needless_X3_leastNeeded : GoodIn wsX3_needless (wsV RX3 191 RX3 yX3_leastNeeded wsX3_leastNeeded) := goodIn_app (goodIn_of _ (by decide +kernel)) ggX3_needless_X3_leastNeeded
set_option maxRecDepth 20000 in
theorem ggX3_needless_X3_partOfChoice : GoodIn wsX3_needless wsX3_partOfChoice := goodIn_r _ [76] (by decide +kernel) (by decide +kernel)
set_option maxRecDepth 20000 in
theorem gX3_needless_X3_partOfChoice : GoodIn wsX3_needless (va_wsS RX3 188 yX3_partOfChoice wsX3_partOfChoice) := goodIn_app (goodIn_of _ (by decide +kernel)) ggX3_needless_X3_partOfChoice
theorem dX3_needless_0 : decode cX3_needless 0 = .ok (.iload_n 1, 1) := by decide +kernel
theorem dX3_needless_1 : decode cX3_needless 1 = .ok (.ifCond .lt 8, 3) := by decide +kernel
theorem dX3_needless_4 : decode cX3_needless 4 = .ok (.iload_n 1, 1) := by decide +kernel
theorem dX3_needless_5 : decode cX3_needless 5 = .ok (.iconst 1, 1) := by decide +kernel
theorem dX3_needless_6 : decode cX3_needless 6 = .ok (.if_icmp .le 6, 3) := by decide +kernel
theorem dX3_needless_9 : decode cX3_needless 9 = .ok (.bipush (-2), 2) := by decide +kernel
theorem dX3_needless_11 : decode cX3_needless 11 = .ok (.ireturn, 1) := by decide +kernel
theorem dX3_needless_12 : decode cX3_needless 12 = .ok (.aload_n 0, 1) := by decide +kernel
theorem dX3_needless_13 : decode cX3_needless 13 = .ok (.invokevirtual 191, 3) := by decide +kernel
theorem dX3_needless_16 : decode cX3_needless 16 = .ok (.iload_n 1, 1) := by decide +kernel
theorem dX3_needless_17 : decode cX3_needless 17 = .ok (.invokestatic 188, 3) := by decide +kernel
theorem dX3_needless_20 : decode cX3_needless 20 = .ok (.ireturn, 1) := by decide +kernel
set_option maxRecDepth 20000 in
theorem ggX3_tryTurn_X2_becomeLike : GoodIn wsX3_tryTurn wsX2_becomeLike := goodIn_r _ [7, 8, 9, 10, 11, 12, 13, 14, 15, 16, 17, 18, 19, 20, 21, 71, 72, 73, 74, 75, 76, 77, 78, 79, 80, 81, 82, 83, 84] (by decide +kernel) (by decide +kernel)
set_option maxRecDepth 20000 in
theorem gX3_tryTurn_X2_becomeLike : GoodIn wsX3_tryTurn (wsV RX3 177 RX2 yX2_becomeLike wsX2_becomeLike) := goodIn_app (goodIn_of _ (by decide +kernel)) ggX3_tryTurn_X2_becomeLike
set_option maxRecDepth 20000 in
theorem ggX3_tryTurn_X2_makeTurn : GoodIn wsX3_tryTurn wsX2_makeTurn := goodIn_r _ [25, 9, 26, 27, 8, 28, 21, 29, 30, 31, 32, 33, 34, 35, 6, 36, 10, 37, 38, 39, 40, 11, 41, 42, 43, 44, 12, 19, 45, 46, 47, 48, 17, 49, 50, 51, 52, 53, 20, 54, 55, 56, 57, 71, 72, 73, 74, 75, 76, 77, 78, 79, 80, 81, 82, 83, 84] (by decide +kernel) (by decide +kernel)
set_option maxRecDepth 20000 in
theorem gX3_tryTurn_X2_makeTurn : GoodIn wsX3_tryTurn (wsV RX3 158 RX2 yX2_makeTurn wsX2_makeTurn) := goodIn_app (goodIn_of _ (by decide +kernel)) ggX3_tryTurn_X2_makeTurn
theorem dX3_tryTurn_0 : decode cX3_tryTurn 0 = .ok (.aload_n 0, 1) := by decide +kernel
theorem dX3_tryTurn_1 : decode cX3_tryTurn 1 = .ok (.getfield 16, 3) := by decide +kernel
theorem dX3_tryTurn_4 : decode cX3_tryTurn 4 = .ok (.aload_n 0, 1) := by decide +kernel
theorem dX3_tryTurn_5 : decode cX3_tryTurn 5 = .ok (.getfield 10, 3) := by decide +kernel
theorem dX3_tryTurn_8 : decode cX3_tryTurn 8 = .ok (.invokevirtual 177, 3) := by decide +kernel
theorem dX3_tryTurn_11 : decode cX3_tryTurn 11 = .ok (.aload_n 0, 1) := by decide +kernel
theorem dX3_tryTurn_12 : decode cX3_tryTurn 12 = .ok (.getfield 16, 3) := by decide +kernel
theorem dX3_tryTurn_15 : decode cX3_tryTurn 15 = .ok (.invokevirtual 158, 3) := by decide +kernel
theorem dX3_tryTurn_18 : decode cX3_tryTurn 18 = .ok (.return_, 1) := by decide +kernel
theorem dX3_choiceOf_0 : decode cX3_choiceOf 0 = .ok (.iload_n 1, 1) := by decide +kernel
theorem dX3_choiceOf_1 : decode cX3_choiceOf 1 = .ok (.bipush 6, 2) := by decide +kernel
theorem dX3_choiceOf_3 : decode cX3_choiceOf 3 = .ok (.ishl, 1) := by decide +kernel
theorem dX3_choiceOf_4 : decode cX3_choiceOf 4 = .ok (.iload_n 0, 1) := by decide +kernel
theorem dX3_choiceOf_5 : decode cX3_choiceOf 5 = .ok (.ior, 1) := by decide +kernel
theorem dX3_choiceOf_6 : decode cX3_choiceOf 6 = .ok (.ireturn, 1) := by decide +kernel
theorem dX3_partOfChoice_0 : decode cX3_partOfChoice 0 = .ok (.iload_n 0, 1) := by decide +kernel
theorem dX3_partOfChoice_1 : decode cX3_partOfChoice 1 = .ok (.iconst (-1), 1) := by decide +kernel
theorem dX3_partOfChoice_2 : decode cX3_partOfChoice 2 = .ok (.if_icmp .ne 5, 3) := by decide +kernel
theorem dX3_partOfChoice_5 : decode cX3_partOfChoice 5 = .ok (.iconst (-1), 1) := by decide +kernel
theorem dX3_partOfChoice_6 : decode cX3_partOfChoice 6 = .ok (.ireturn, 1) := by decide +kernel
theorem dX3_partOfChoice_7 : decode cX3_partOfChoice 7 = .ok (.iload_n 1, 1) := by decide +kernel
theorem dX3_partOfChoice_8 : decode cX3_partOfChoice 8 = .ok (.ifCond .ne 10, 3) := by decide +kernel
theorem dX3_partOfChoice_11 : decode cX3_partOfChoice 11 = .ok (.iload_n 0, 1) := by decide +kernel
theorem dX3_partOfChoice_12 : decode cX3_partOfChoice 12 = .ok (.bipush 63, 2) := by decide +kernel
theorem dX3_partOfChoice_14 : decode cX3_partOfChoice 14 = .ok (.iand, 1) := by decide +kernel
theorem dX3_partOfChoice_15 : decode cX3_partOfChoice 15 = .ok (.goto 7, 3) := by decide +kernel
theorem dX3_partOfChoice_18 : decode cX3_partOfChoice 18 = .ok (.iload_n 0, 1) := by decide +kernel
theorem dX3_partOfChoice_19 : decode cX3_partOfChoice 19 = .ok (.bipush 6, 2) := by decide +kernel
theorem dX3_partOfChoice_21 : decode cX3_partOfChoice 21 = .ok (.ishr, 1) := by decide +kernel
theorem dX3_partOfChoice_22 : decode cX3_partOfChoice 22 = .ok (.ireturn, 1) := by decide +kernel
set_option maxRecDepth 20000 in
theorem ggX3_bestBottom_X2_becomeLike : GoodIn wsX3_bestBottom wsX2_becomeLike := goodIn_r _ [9, 10, 11, 12, 13, 14, 15, 16, 17, 18, 19, 20, 21, 22, 23, 81, 82, 83, 84, 85, 86, 87, 88, 89, 90, 91, 92, 93, 94] (by decide +kernel) (by decide +kernel)
set_option maxRecDepth 20000 in
theorem gX3_bestBottom_X2_becomeLike : GoodIn wsX3_bestBottom (wsV RX3 177 RX2 yX2_becomeLike wsX2_becomeLike) := goodIn_app (goodIn_of _ (by decide +kernel)) ggX3_bestBottom_X2_becomeLike
set_option maxRecDepth 20000 in
theorem ggX3_bestBottom_X2_drawnBy : GoodIn wsX3_bestBottom wsX2_drawnBy := goodIn_r _ [27, 11, 28, 29, 30, 31, 8, 32, 33, 10, 34, 23, 35, 36, 37, 38, 39, 40, 41, 42, 12, 43, 44, 45, 46, 13, 47, 48, 49, 50, 14, 21, 51, 52, 53, 54, 19, 55, 56, 57, 58, 59, 22, 60, 61, 62, 63, 81, 82, 83, 84, 85, 86, 87, 88, 89, 90, 91, 92, 93, 94] (by decide +kernel) (by decide +kernel)
set_option maxRecDepth 20000 in
theorem gX3_bestBottom_X2_drawnBy : GoodIn wsX3_bestBottom (wsV RX3 182 RX2 yX2_drawnBy wsX2_drawnBy) := goodIn_app (goodIn_of _ (by decide +kernel)) ggX3_bestBottom_X2_drawnBy
set_option maxRecDepth 20000 in
theorem ggX3_bestBottom_X3_choiceOf : GoodIn wsX3_bestBottom wsX3_choiceOf := goodIn_r _ [67] (by decide +kernel) (by decide +kernel)
set_option maxRecDepth 20000 in
theorem gX3_bestBottom_X3_choiceOf : GoodIn wsX3_bestBottom (va_wsS RX3 194 yX3_choiceOf wsX3_choiceOf) := goodIn_app (goodIn_of _ (by decide +kernel)) ggX3_bestBottom_X3_choiceOf
theorem dX3_bestBottom_0 : decode cX3_bestBottom 0 = .ok (.iconst (-1), 1) := by decide +kernel
theorem dX3_bestBottom_1 : decode cX3_bestBottom 1 = .ok (.istore_n 2, 1) := by decide +kernel
theorem dX3_bestBottom_2 : decode cX3_bestBottom 2 = .ok (.ldc 181, 2) := by decide +kernel
theorem dX3_bestBottom_4 : decode cX3_bestBottom 4 = .ok (.istore_n 3, 1) := by decide +kernel
theorem dX3_bestBottom_5 : decode cX3_bestBottom 5 = .ok (.iconst 0, 1) := by decide +kernel
theorem dX3_bestBottom_6 : decode cX3_bestBottom 6 = .ok (.istore 4, 2) := by decide +kernel
theorem dX3_bestBottom_8 : decode cX3_bestBottom 8 = .ok (.iload 4, 2) := by decide +kernel
theorem dX3_bestBottom_10 : decode cX3_bestBottom 10 = .ok (.bipush 60, 2) := by decide +kernel
theorem dX3_bestBottom_12 : decode cX3_bestBottom 12 = .ok (.if_icmp .ge 60, 3) := by decide +kernel
theorem dX3_bestBottom_15 : decode cX3_bestBottom 15 = .ok (.aload_n 0, 1) := by decide +kernel
theorem dX3_bestBottom_16 : decode cX3_bestBottom 16 = .ok (.getfield 16, 3) := by decide +kernel
theorem dX3_bestBottom_19 : decode cX3_bestBottom 19 = .ok (.aload_n 0, 1) := by decide +kernel
theorem dX3_bestBottom_20 : decode cX3_bestBottom 20 = .ok (.getfield 10, 3) := by decide +kernel
theorem dX3_bestBottom_23 : decode cX3_bestBottom 23 = .ok (.invokevirtual 177, 3) := by decide +kernel
theorem dX3_bestBottom_26 : decode cX3_bestBottom 26 = .ok (.aload_n 0, 1) := by decide +kernel
theorem dX3_bestBottom_27 : decode cX3_bestBottom 27 = .ok (.getfield 16, 3) := by decide +kernel
theorem dX3_bestBottom_30 : decode cX3_bestBottom 30 = .ok (.getfield 85, 3) := by decide +kernel
theorem dX3_bestBottom_33 : decode cX3_bestBottom 33 = .ok (.iload_n 1, 1) := by decide +kernel
theorem dX3_bestBottom_34 : decode cX3_bestBottom 34 = .ok (.iload 4, 2) := by decide +kernel
theorem dX3_bestBottom_36 : decode cX3_bestBottom 36 = .ok (.iastore, 1) := by decide +kernel
theorem dX3_bestBottom_37 : decode cX3_bestBottom 37 = .ok (.aload_n 0, 1) := by decide +kernel
theorem dX3_bestBottom_38 : decode cX3_bestBottom 38 = .ok (.getfield 16, 3) := by decide +kernel
theorem dX3_bestBottom_41 : decode cX3_bestBottom 41 = .ok (.bipush 10, 2) := by decide +kernel
theorem dX3_bestBottom_43 : decode cX3_bestBottom 43 = .ok (.iload_n 3, 1) := by decide +kernel
theorem dX3_bestBottom_44 : decode cX3_bestBottom 44 = .ok (.invokevirtual 182, 3) := by decide +kernel
theorem dX3_bestBottom_47 : decode cX3_bestBottom 47 = .ok (.istore 5, 2) := by decide +kernel
theorem dX3_bestBottom_49 : decode cX3_bestBottom 49 = .ok (.iload 5, 2) := by decide +kernel
theorem dX3_bestBottom_51 : decode cX3_bestBottom 51 = .ok (.iload_n 3, 1) := by decide +kernel
theorem dX3_bestBottom_52 : decode cX3_bestBottom 52 = .ok (.if_icmp .ge 14, 3) := by decide +kernel
theorem dX3_bestBottom_55 : decode cX3_bestBottom 55 = .ok (.iload 5, 2) := by decide +kernel
theorem dX3_bestBottom_57 : decode cX3_bestBottom 57 = .ok (.istore_n 3, 1) := by decide +kernel
theorem dX3_bestBottom_58 : decode cX3_bestBottom 58 = .ok (.iload 4, 2) := by decide +kernel
theorem dX3_bestBottom_60 : decode cX3_bestBottom 60 = .ok (.iload 5, 2) := by decide +kernel
theorem dX3_bestBottom_62 : decode cX3_bestBottom 62 = .ok (.invokestatic 194, 3) := by decide +kernel
theorem dX3_bestBottom_65 : decode cX3_bestBottom 65 = .ok (.istore_n 2, 1) := by decide +kernel
theorem dX3_bestBottom_66 : decode cX3_bestBottom 66 = .ok (.iinc 4 1, 3) := by decide +kernel
theorem dX3_bestBottom_69 : decode cX3_bestBottom 69 = .ok (.goto (-61), 3) := by decide +kernel
theorem dX3_bestBottom_72 : decode cX3_bestBottom 72 = .ok (.iload_n 2, 1) := by decide +kernel
theorem dX3_bestBottom_73 : decode cX3_bestBottom 73 = .ok (.ireturn, 1) := by decide +kernel
set_option maxRecDepth 20000 in
theorem ggX3_leastNeeded_X2_isOut : GoodIn wsX3_leastNeeded wsX2_isOut := goodIn_r _ [10, 11, 83, 84, 85, 86, 87, 88, 89, 90, 91, 92, 93, 94, 95, 96] (by decide +kernel) (by decide +kernel)
set_option maxRecDepth 20000 in
theorem gX3_leastNeeded_X2_isOut : GoodIn wsX3_leastNeeded (wsV RX3 98 RX2 yX2_isOut wsX2_isOut) := goodIn_app (goodIn_of _ (by decide +kernel)) ggX3_leastNeeded_X2_isOut
set_option maxRecDepth 20000 in
theorem ggX3_leastNeeded_X2_becomeLike : GoodIn wsX3_leastNeeded wsX2_becomeLike := goodIn_r _ [15, 16, 17, 18, 11, 19, 20, 21, 22, 23, 24, 25, 26, 27, 28, 83, 84, 85, 86, 87, 88, 89, 90, 91, 92, 93, 94, 95, 96] (by decide +kernel) (by decide +kernel)
set_option maxRecDepth 20000 in
theorem gX3_leastNeeded_X2_becomeLike : GoodIn wsX3_leastNeeded (wsV RX3 177 RX2 yX2_becomeLike wsX2_becomeLike) := goodIn_app (goodIn_of _ (by decide +kernel)) ggX3_leastNeeded_X2_becomeLike
set_option maxRecDepth 20000 in
theorem ggX3_leastNeeded_X2_drawnBy : GoodIn wsX3_leastNeeded wsX2_drawnBy := goodIn_r _ [32, 17, 33, 34, 35, 36, 9, 37, 38, 16, 39, 28, 40, 41, 42, 43, 44, 45, 46, 47, 18, 48, 7, 8, 10, 11, 49, 50, 51, 52, 19, 26, 53, 54, 55, 56, 24, 57, 58, 59, 60, 61, 27, 62, 63, 64, 65, 83, 84, 85, 86, 87, 88, 89, 90, 91, 92, 93, 94, 95, 96] (by decide +kernel) (by decide +kernel)
set_option maxRecDepth 20000 in
theorem gX3_leastNeeded_X2_drawnBy : GoodIn wsX3_leastNeeded (wsV RX3 182 RX2 yX2_drawnBy wsX2_drawnBy) := goodIn_app (goodIn_of _ (by decide +kernel)) ggX3_leastNeeded_X2_drawnBy
set_option maxRecDepth 20000 in
theorem ggX3_leastNeeded_X3_choiceOf : GoodIn wsX3_leastNeeded wsX3_choiceOf := goodIn_r _ [69] (by decide +kernel) (by decide +kernel)
set_option maxRecDepth 20000 in
theorem gX3_leastNeeded_X3_choiceOf : GoodIn wsX3_leastNeeded (va_wsS RX3 194 yX3_choiceOf wsX3_choiceOf) := goodIn_app (goodIn_of _ (by decide +kernel)) ggX3_leastNeeded_X3_choiceOf
theorem dX3_leastNeeded_0 : decode cX3_leastNeeded 0 = .ok (.iconst (-1), 1) := by decide +kernel
theorem dX3_leastNeeded_1 : decode cX3_leastNeeded 1 = .ok (.istore_n 1, 1) := by decide +kernel
theorem dX3_leastNeeded_2 : decode cX3_leastNeeded 2 = .ok (.ldc 181, 2) := by decide +kernel
theorem dX3_leastNeeded_4 : decode cX3_leastNeeded 4 = .ok (.istore_n 2, 1) := by decide +kernel
theorem dX3_leastNeeded_5 : decode cX3_leastNeeded 5 = .ok (.iconst 0, 1) := by decide +kernel
theorem dX3_leastNeeded_6 : decode cX3_leastNeeded 6 = .ok (.istore_n 3, 1) := by decide +kernel
theorem dX3_leastNeeded_7 : decode cX3_leastNeeded 7 = .ok (.iload_n 3, 1) := by decide +kernel
theorem dX3_leastNeeded_8 : decode cX3_leastNeeded 8 = .ok (.aload_n 0, 1) := by decide +kernel
theorem dX3_leastNeeded_9 : decode cX3_leastNeeded 9 = .ok (.getfield 10, 3) := by decide +kernel
theorem dX3_leastNeeded_12 : decode cX3_leastNeeded 12 = .ok (.getfield 48, 3) := by decide +kernel
theorem dX3_leastNeeded_15 : decode cX3_leastNeeded 15 = .ok (.if_icmp .ge 77, 3) := by decide +kernel
theorem dX3_leastNeeded_18 : decode cX3_leastNeeded 18 = .ok (.aload_n 0, 1) := by decide +kernel
theorem dX3_leastNeeded_19 : decode cX3_leastNeeded 19 = .ok (.getfield 10, 3) := by decide +kernel
theorem dX3_leastNeeded_22 : decode cX3_leastNeeded 22 = .ok (.iload_n 3, 1) := by decide +kernel
theorem dX3_leastNeeded_23 : decode cX3_leastNeeded 23 = .ok (.invokevirtual 98, 3) := by decide +kernel
theorem dX3_leastNeeded_26 : decode cX3_leastNeeded 26 = .ok (.ifCond .eq 6, 3) := by decide +kernel
theorem dX3_leastNeeded_29 : decode cX3_leastNeeded 29 = .ok (.goto 57, 3) := by decide +kernel
theorem dX3_leastNeeded_32 : decode cX3_leastNeeded 32 = .ok (.aload_n 0, 1) := by decide +kernel
theorem dX3_leastNeeded_33 : decode cX3_leastNeeded 33 = .ok (.getfield 16, 3) := by decide +kernel
theorem dX3_leastNeeded_36 : decode cX3_leastNeeded 36 = .ok (.aload_n 0, 1) := by decide +kernel
theorem dX3_leastNeeded_37 : decode cX3_leastNeeded 37 = .ok (.getfield 10, 3) := by decide +kernel
theorem dX3_leastNeeded_40 : decode cX3_leastNeeded 40 = .ok (.invokevirtual 177, 3) := by decide +kernel
theorem dX3_leastNeeded_43 : decode cX3_leastNeeded 43 = .ok (.aload_n 0, 1) := by decide +kernel
theorem dX3_leastNeeded_44 : decode cX3_leastNeeded 44 = .ok (.getfield 16, 3) := by decide +kernel
theorem dX3_leastNeeded_47 : decode cX3_leastNeeded 47 = .ok (.dup, 1) := by decide +kernel
theorem dX3_leastNeeded_48 : decode cX3_leastNeeded 48 = .ok (.getfield 58, 3) := by decide +kernel
theorem dX3_leastNeeded_51 : decode cX3_leastNeeded 51 = .ok (.iconst 1, 1) := by decide +kernel
theorem dX3_leastNeeded_52 : decode cX3_leastNeeded 52 = .ok (.iload_n 3, 1) := by decide +kernel
theorem dX3_leastNeeded_53 : decode cX3_leastNeeded 53 = .ok (.ishl, 1) := by decide +kernel
theorem dX3_leastNeeded_54 : decode cX3_leastNeeded 54 = .ok (.ior, 1) := by decide +kernel
theorem dX3_leastNeeded_55 : decode cX3_leastNeeded 55 = .ok (.putfield 58, 3) := by decide +kernel
theorem dX3_leastNeeded_58 : decode cX3_leastNeeded 58 = .ok (.aload_n 0, 1) := by decide +kernel
theorem dX3_leastNeeded_59 : decode cX3_leastNeeded 59 = .ok (.getfield 16, 3) := by decide +kernel
theorem dX3_leastNeeded_62 : decode cX3_leastNeeded 62 = .ok (.bipush 10, 2) := by decide +kernel
theorem dX3_leastNeeded_64 : decode cX3_leastNeeded 64 = .ok (.iload_n 2, 1) := by decide +kernel
theorem dX3_leastNeeded_65 : decode cX3_leastNeeded 65 = .ok (.invokevirtual 182, 3) := by decide +kernel
theorem dX3_leastNeeded_68 : decode cX3_leastNeeded 68 = .ok (.istore 4, 2) := by decide +kernel
theorem dX3_leastNeeded_70 : decode cX3_leastNeeded 70 = .ok (.iload 4, 2) := by decide +kernel
theorem dX3_leastNeeded_72 : decode cX3_leastNeeded 72 = .ok (.iload_n 2, 1) := by decide +kernel
theorem dX3_leastNeeded_73 : decode cX3_leastNeeded 73 = .ok (.if_icmp .ge 13, 3) := by decide +kernel
theorem dX3_leastNeeded_76 : decode cX3_leastNeeded 76 = .ok (.iload 4, 2) := by decide +kernel
theorem dX3_leastNeeded_78 : decode cX3_leastNeeded 78 = .ok (.istore_n 2, 1) := by decide +kernel
theorem dX3_leastNeeded_79 : decode cX3_leastNeeded 79 = .ok (.iload_n 3, 1) := by decide +kernel
theorem dX3_leastNeeded_80 : decode cX3_leastNeeded 80 = .ok (.iload 4, 2) := by decide +kernel
theorem dX3_leastNeeded_82 : decode cX3_leastNeeded 82 = .ok (.invokestatic 194, 3) := by decide +kernel
theorem dX3_leastNeeded_85 : decode cX3_leastNeeded 85 = .ok (.istore_n 1, 1) := by decide +kernel
theorem dX3_leastNeeded_86 : decode cX3_leastNeeded 86 = .ok (.iinc 3 1, 3) := by decide +kernel
theorem dX3_leastNeeded_89 : decode cX3_leastNeeded 89 = .ok (.goto (-82), 3) := by decide +kernel
theorem dX3_leastNeeded_92 : decode cX3_leastNeeded 92 = .ok (.iload_n 1, 1) := by decide +kernel
theorem dX3_leastNeeded_93 : decode cX3_leastNeeded 93 = .ok (.ireturn, 1) := by decide +kernel
set_option maxRecDepth 20000 in
theorem ggX3_sheet_X3_isSheet : GoodIn wsX3_sheet wsX3_isSheet := goodIn_r _ [5] (by decide +kernel) (by decide +kernel)
set_option maxRecDepth 20000 in
theorem gX3_sheet_X3_isSheet : GoodIn wsX3_sheet (va_wsS RX3 68 yX3_isSheet wsX3_isSheet) := goodIn_app (goodIn_of _ (by decide +kernel)) ggX3_sheet_X3_isSheet
set_option maxRecDepth 20000 in
theorem ggX3_sheet_X3_isForm : GoodIn wsX3_sheet wsX3_isForm := goodIn_r _ [8] (by decide +kernel) (by decide +kernel)
set_option maxRecDepth 20000 in
theorem gX3_sheet_X3_isForm : GoodIn wsX3_sheet (va_wsS RX3 197 yX3_isForm wsX3_isForm) := goodIn_app (goodIn_of _ (by decide +kernel)) ggX3_sheet_X3_isForm
set_option maxRecDepth 20000 in
theorem ggX3_sheet_X3_found : GoodIn wsX3_sheet wsX3_found := goodIn_r _ [12, 13, 27, 28, 29, 30, 31, 32, 33, 34, 35, 36, 37, 38, 39] (by decide +kernel) (by decide +kernel)
set_option maxRecDepth 20000 in
theorem gX3_sheet_X3_found : GoodIn wsX3_sheet (wsV RX3 75 RX3 yX3_found wsX3_found) := goodIn_app (goodIn_of _ (by decide +kernel)) ggX3_sheet_X3_found
set_option maxRecDepth 20000 in
theorem ggX3_sheet_X1_renew : GoodIn wsX3_sheet wsX1_renew := goodIn_r _ [18, 19, 20, 21, 22, 23, 24, 25, 26, 40, 41, 42, 43] (by decide +kernel) (by decide +kernel)
set_option maxRecDepth 20000 in
theorem gX3_sheet_X1_renew : GoodIn wsX3_sheet (wsV RX3 200 RX1 yX1_renew wsX1_renew) := goodIn_app (goodIn_of _ (by decide +kernel)) ggX3_sheet_X1_renew
theorem dX3_sheet_0 : decode cX3_sheet 0 = .ok (.iload_n 1, 1) := by decide +kernel
theorem dX3_sheet_1 : decode cX3_sheet 1 = .ok (.invokestatic 68, 3) := by decide +kernel
theorem dX3_sheet_4 : decode cX3_sheet 4 = .ok (.ifCond .eq 16, 3) := by decide +kernel
theorem dX3_sheet_7 : decode cX3_sheet 7 = .ok (.iload_n 2, 1) := by decide +kernel
theorem dX3_sheet_8 : decode cX3_sheet 8 = .ok (.invokestatic 197, 3) := by decide +kernel
theorem dX3_sheet_11 : decode cX3_sheet 11 = .ok (.ifCond .eq 9, 3) := by decide +kernel
theorem dX3_sheet_14 : decode cX3_sheet 14 = .ok (.iload_n 3, 1) := by decide +kernel
theorem dX3_sheet_15 : decode cX3_sheet 15 = .ok (.bipush 60, 2) := by decide +kernel
theorem dX3_sheet_17 : decode cX3_sheet 17 = .ok (.if_icmp .le 6, 3) := by decide +kernel
theorem dX3_sheet_20 : decode cX3_sheet 20 = .ok (.bipush (-2), 2) := by decide +kernel
theorem dX3_sheet_22 : decode cX3_sheet 22 = .ok (.ireturn, 1) := by decide +kernel
theorem dX3_sheet_23 : decode cX3_sheet 23 = .ok (.iload_n 3, 1) := by decide +kernel
theorem dX3_sheet_24 : decode cX3_sheet 24 = .ok (.ifCond .ge 9, 3) := by decide +kernel
theorem dX3_sheet_27 : decode cX3_sheet 27 = .ok (.aload_n 0, 1) := by decide +kernel
theorem dX3_sheet_28 : decode cX3_sheet 28 = .ok (.iconst 5, 1) := by decide +kernel
theorem dX3_sheet_29 : decode cX3_sheet 29 = .ok (.invokevirtual 75, 3) := by decide +kernel
theorem dX3_sheet_32 : decode cX3_sheet 32 = .ok (.ireturn, 1) := by decide +kernel
theorem dX3_sheet_33 : decode cX3_sheet 33 = .ok (.aload_n 0, 1) := by decide +kernel
theorem dX3_sheet_34 : decode cX3_sheet 34 = .ok (.getfield 27, 3) := by decide +kernel
theorem dX3_sheet_37 : decode cX3_sheet 37 = .ok (.iload_n 1, 1) := by decide +kernel
theorem dX3_sheet_38 : decode cX3_sheet 38 = .ok (.aaload, 1) := by decide +kernel
theorem dX3_sheet_39 : decode cX3_sheet 39 = .ok (.iload_n 2, 1) := by decide +kernel
theorem dX3_sheet_40 : decode cX3_sheet 40 = .ok (.iload_n 3, 1) := by decide +kernel
theorem dX3_sheet_41 : decode cX3_sheet 41 = .ok (.invokevirtual 200, 3) := by decide +kernel
theorem dX3_sheet_44 : decode cX3_sheet 44 = .ok (.iload_n 3, 1) := by decide +kernel
theorem dX3_sheet_45 : decode cX3_sheet 45 = .ok (.ireturn, 1) := by decide +kernel
set_option maxRecDepth 20000 in
theorem ggX3_lose_X3_isSheet : GoodIn wsX3_lose wsX3_isSheet := goodIn_r _ [7] (by decide +kernel) (by decide +kernel)
set_option maxRecDepth 20000 in
theorem gX3_lose_X3_isSheet : GoodIn wsX3_lose (va_wsS RX3 68 yX3_isSheet wsX3_isSheet) := goodIn_app (goodIn_of _ (by decide +kernel)) ggX3_lose_X3_isSheet
set_option maxRecDepth 20000 in
theorem ggX3_lose_X3_found : GoodIn wsX3_lose wsX3_found := goodIn_r _ [11, 12, 13, 14, 15, 16, 17, 18, 19, 20, 21, 22, 23, 24, 25] (by decide +kernel) (by decide +kernel)
set_option maxRecDepth 20000 in
theorem gX3_lose_X3_found : GoodIn wsX3_lose (wsV RX3 75 RX3 yX3_found wsX3_found) := goodIn_app (goodIn_of _ (by decide +kernel)) ggX3_lose_X3_found
theorem dX3_lose_0 : decode cX3_lose 0 = .ok (.iload_n 1, 1) := by decide +kernel
theorem dX3_lose_1 : decode cX3_lose 1 = .ok (.invokestatic 68, 3) := by decide +kernel
theorem dX3_lose_4 : decode cX3_lose 4 = .ok (.ifCond .ne 6, 3) := by decide +kernel
theorem dX3_lose_7 : decode cX3_lose 7 = .ok (.bipush (-2), 2) := by decide +kernel
theorem dX3_lose_9 : decode cX3_lose 9 = .ok (.ireturn, 1) := by decide +kernel
theorem dX3_lose_10 : decode cX3_lose 10 = .ok (.aload_n 0, 1) := by decide +kernel
theorem dX3_lose_11 : decode cX3_lose 11 = .ok (.getfield 27, 3) := by decide +kernel
theorem dX3_lose_14 : decode cX3_lose 14 = .ok (.iload_n 1, 1) := by decide +kernel
theorem dX3_lose_15 : decode cX3_lose 15 = .ok (.aaload, 1) := by decide +kernel
theorem dX3_lose_16 : decode cX3_lose 16 = .ok (.getfield 71, 3) := by decide +kernel
theorem dX3_lose_19 : decode cX3_lose 19 = .ok (.ifCond .eq 9, 3) := by decide +kernel
theorem dX3_lose_22 : decode cX3_lose 22 = .ok (.aload_n 0, 1) := by decide +kernel
theorem dX3_lose_23 : decode cX3_lose 23 = .ok (.iconst 1, 1) := by decide +kernel
theorem dX3_lose_24 : decode cX3_lose 24 = .ok (.invokevirtual 75, 3) := by decide +kernel
theorem dX3_lose_27 : decode cX3_lose 27 = .ok (.ireturn, 1) := by decide +kernel
theorem dX3_lose_28 : decode cX3_lose 28 = .ok (.aload_n 0, 1) := by decide +kernel
theorem dX3_lose_29 : decode cX3_lose 29 = .ok (.getfield 27, 3) := by decide +kernel
theorem dX3_lose_32 : decode cX3_lose 32 = .ok (.iload_n 1, 1) := by decide +kernel
theorem dX3_lose_33 : decode cX3_lose 33 = .ok (.aaload, 1) := by decide +kernel
theorem dX3_lose_34 : decode cX3_lose 34 = .ok (.iconst 1, 1) := by decide +kernel
theorem dX3_lose_35 : decode cX3_lose 35 = .ok (.putfield 71, 3) := by decide +kernel
theorem dX3_lose_38 : decode cX3_lose 38 = .ok (.aload_n 0, 1) := by decide +kernel
theorem dX3_lose_39 : decode cX3_lose 39 = .ok (.getfield 27, 3) := by decide +kernel
theorem dX3_lose_42 : decode cX3_lose 42 = .ok (.iload_n 1, 1) := by decide +kernel
theorem dX3_lose_43 : decode cX3_lose 43 = .ok (.aaload, 1) := by decide +kernel
theorem dX3_lose_44 : decode cX3_lose 44 = .ok (.getfield 79, 3) := by decide +kernel
theorem dX3_lose_47 : decode cX3_lose 47 = .ok (.ireturn, 1) := by decide +kernel
set_option maxRecDepth 20000 in
theorem ggX3_lay_X3_isSheet : GoodIn wsX3_lay wsX3_isSheet := goodIn_r _ [5] (by decide +kernel) (by decide +kernel)
set_option maxRecDepth 20000 in
theorem gX3_lay_X3_isSheet : GoodIn wsX3_lay (va_wsS RX3 68 yX3_isSheet wsX3_isSheet) := goodIn_app (goodIn_of _ (by decide +kernel)) ggX3_lay_X3_isSheet
set_option maxRecDepth 20000 in
theorem ggX3_lay_X3_isForm : GoodIn wsX3_lay wsX3_isForm := goodIn_r _ [8] (by decide +kernel) (by decide +kernel)
set_option maxRecDepth 20000 in
theorem gX3_lay_X3_isForm : GoodIn wsX3_lay (va_wsS RX3 197 yX3_isForm wsX3_isForm) := goodIn_app (goodIn_of _ (by decide +kernel)) ggX3_lay_X3_isForm
set_option maxRecDepth 20000 in
theorem ggX3_lay_X1_faultAt : GoodIn wsX3_lay wsX1_faultAt := goodIn_r _ [13, 14, 15, 16, 40, 41, 42, 43] (by decide +kernel) (by decide +kernel)
set_option maxRecDepth 20000 in
theorem gX3_lay_X1_faultAt : GoodIn wsX3_lay (wsV RX3 204 RX1 yX1_faultAt wsX1_faultAt) := goodIn_app (goodIn_of _ (by decide +kernel)) ggX3_lay_X1_faultAt
set_option maxRecDepth 20000 in
theorem ggX3_lay_X3_found : GoodIn wsX3_lay wsX3_found := goodIn_r _ [20, 21, 27, 28, 29, 30, 31, 32, 33, 34, 35, 36, 37, 38, 39] (by decide +kernel) (by decide +kernel)
set_option maxRecDepth 20000 in
theorem gX3_lay_X3_found : GoodIn wsX3_lay (wsV RX3 75 RX3 yX3_found wsX3_found) := goodIn_app (goodIn_of _ (by decide +kernel)) ggX3_lay_X3_found
set_option maxRecDepth 20000 in
theorem ggX3_lay_X1_put : GoodIn wsX3_lay wsX1_put := goodIn_r _ [25, 15, 26, 40, 41, 42, 43] (by decide +kernel) (by decide +kernel)
set_option maxRecDepth 20000 in
theorem gX3_lay_X1_put : GoodIn wsX3_lay (wsV RX3 207 RX1 yX1_put wsX1_put) := goodIn_app (goodIn_of _ (by decide +kernel)) ggX3_lay_X1_put
theorem dX3_lay_0 : decode cX3_lay 0 = .ok (.iload_n 1, 1) := by decide +kernel
theorem dX3_lay_1 : decode cX3_lay 1 = .ok (.invokestatic 68, 3) := by decide +kernel
theorem dX3_lay_4 : decode cX3_lay 4 = .ok (.ifCond .eq 10, 3) := by decide +kernel
theorem dX3_lay_7 : decode cX3_lay 7 = .ok (.iload_n 2, 1) := by decide +kernel
theorem dX3_lay_8 : decode cX3_lay 8 = .ok (.invokestatic 197, 3) := by decide +kernel
theorem dX3_lay_11 : decode cX3_lay 11 = .ok (.ifCond .ne 6, 3) := by decide +kernel
theorem dX3_lay_14 : decode cX3_lay 14 = .ok (.bipush (-2), 2) := by decide +kernel
theorem dX3_lay_16 : decode cX3_lay 16 = .ok (.ireturn, 1) := by decide +kernel
theorem dX3_lay_17 : decode cX3_lay 17 = .ok (.aload_n 0, 1) := by decide +kernel
theorem dX3_lay_18 : decode cX3_lay 18 = .ok (.getfield 27, 3) := by decide +kernel
theorem dX3_lay_21 : decode cX3_lay 21 = .ok (.iload_n 1, 1) := by decide +kernel
theorem dX3_lay_22 : decode cX3_lay 22 = .ok (.aaload, 1) := by decide +kernel
theorem dX3_lay_23 : decode cX3_lay 23 = .ok (.iload_n 2, 1) := by decide +kernel
theorem dX3_lay_24 : decode cX3_lay 24 = .ok (.iload_n 3, 1) := by decide +kernel
theorem dX3_lay_25 : decode cX3_lay 25 = .ok (.invokevirtual 204, 3) := by decide +kernel
theorem dX3_lay_28 : decode cX3_lay 28 = .ok (.istore 5, 2) := by decide +kernel
theorem dX3_lay_30 : decode cX3_lay 30 = .ok (.iload 5, 2) := by decide +kernel
theorem dX3_lay_32 : decode cX3_lay 32 = .ok (.ifCond .eq 10, 3) := by decide +kernel
theorem dX3_lay_35 : decode cX3_lay 35 = .ok (.aload_n 0, 1) := by decide +kernel
theorem dX3_lay_36 : decode cX3_lay 36 = .ok (.iload 5, 2) := by decide +kernel
theorem dX3_lay_38 : decode cX3_lay 38 = .ok (.invokevirtual 75, 3) := by decide +kernel
theorem dX3_lay_41 : decode cX3_lay 41 = .ok (.ireturn, 1) := by decide +kernel
theorem dX3_lay_42 : decode cX3_lay 42 = .ok (.aload_n 0, 1) := by decide +kernel
theorem dX3_lay_43 : decode cX3_lay 43 = .ok (.getfield 27, 3) := by decide +kernel
theorem dX3_lay_46 : decode cX3_lay 46 = .ok (.iload_n 1, 1) := by decide +kernel
theorem dX3_lay_47 : decode cX3_lay 47 = .ok (.aaload, 1) := by decide +kernel
theorem dX3_lay_48 : decode cX3_lay 48 = .ok (.iload_n 3, 1) := by decide +kernel
theorem dX3_lay_49 : decode cX3_lay 49 = .ok (.iload 4, 2) := by decide +kernel
theorem dX3_lay_51 : decode cX3_lay 51 = .ok (.invokevirtual 207, 3) := by decide +kernel
theorem dX3_lay_54 : decode cX3_lay 54 = .ok (.iconst 1, 1) := by decide +kernel
theorem dX3_lay_55 : decode cX3_lay 55 = .ok (.ireturn, 1) := by decide +kernel
set_option maxRecDepth 20000 in
theorem ggX3_get_X3_isSheet : GoodIn wsX3_get wsX3_isSheet := goodIn_r _ [7] (by decide +kernel) (by decide +kernel)
set_option maxRecDepth 20000 in
theorem gX3_get_X3_isSheet : GoodIn wsX3_get (va_wsS RX3 68 yX3_isSheet wsX3_isSheet) := goodIn_app (goodIn_of _ (by decide +kernel)) ggX3_get_X3_isSheet
set_option maxRecDepth 20000 in
theorem ggX3_get_X3_isForm : GoodIn wsX3_get wsX3_isForm := goodIn_r _ [10] (by decide +kernel) (by decide +kernel)
set_option maxRecDepth 20000 in
theorem gX3_get_X3_isForm : GoodIn wsX3_get (va_wsS RX3 197 yX3_isForm wsX3_isForm) := goodIn_app (goodIn_of _ (by decide +kernel)) ggX3_get_X3_isForm
set_option maxRecDepth 20000 in
theorem ggX3_get_X1_faultAt : GoodIn wsX3_get wsX1_faultAt := goodIn_r _ [15, 16, 17, 18, 37, 38, 39, 40] (by decide +kernel) (by decide +kernel)
set_option maxRecDepth 20000 in
theorem gX3_get_X1_faultAt : GoodIn wsX3_get (wsV RX3 204 RX1 yX1_faultAt wsX1_faultAt) := goodIn_app (goodIn_of _ (by decide +kernel)) ggX3_get_X1_faultAt
set_option maxRecDepth 20000 in
theorem ggX3_get_X3_found : GoodIn wsX3_get wsX3_found := goodIn_r _ [22, 23, 24, 25, 26, 27, 28, 29, 30, 31, 32, 33, 34, 35, 36] (by decide +kernel) (by decide +kernel)
set_option maxRecDepth 20000 in
theorem gX3_get_X3_found : GoodIn wsX3_get (wsV RX3 75 RX3 yX3_found wsX3_found) := goodIn_app (goodIn_of _ (by decide +kernel)) ggX3_get_X3_found
theorem dX3_get_0 : decode cX3_get 0 = .ok (.iload_n 1, 1) := by decide +kernel
theorem dX3_get_1 : decode cX3_get 1 = .ok (.invokestatic 68, 3) := by decide +kernel
theorem dX3_get_4 : decode cX3_get 4 = .ok (.ifCond .eq 10, 3) := by decide +kernel
theorem dX3_get_7 : decode cX3_get 7 = .ok (.iload_n 2, 1) := by decide +kernel
theorem dX3_get_8 : decode cX3_get 8 = .ok (.invokestatic 197, 3) := by decide +kernel
theorem dX3_get_11 : decode cX3_get 11 = .ok (.ifCond .ne 6, 3) := by decide +kernel
theorem dX3_get_14 : decode cX3_get 14 = .ok (.ldc 210, 2) := by decide +kernel
theorem dX3_get_16 : decode cX3_get 16 = .ok (.ireturn, 1) := by decide +kernel
theorem dX3_get_17 : decode cX3_get 17 = .ok (.aload_n 0, 1) := by decide +kernel
theorem dX3_get_18 : decode cX3_get 18 = .ok (.getfield 27, 3) := by decide +kernel
theorem dX3_get_21 : decode cX3_get 21 = .ok (.iload_n 1, 1) := by decide +kernel
theorem dX3_get_22 : decode cX3_get 22 = .ok (.aaload, 1) := by decide +kernel
theorem dX3_get_23 : decode cX3_get 23 = .ok (.iload_n 2, 1) := by decide +kernel
theorem dX3_get_24 : decode cX3_get 24 = .ok (.iload_n 3, 1) := by decide +kernel
theorem dX3_get_25 : decode cX3_get 25 = .ok (.invokevirtual 204, 3) := by decide +kernel
theorem dX3_get_28 : decode cX3_get 28 = .ok (.istore 4, 2) := by decide +kernel
theorem dX3_get_30 : decode cX3_get 30 = .ok (.iload 4, 2) := by decide +kernel
theorem dX3_get_32 : decode cX3_get 32 = .ok (.ifCond .eq 13, 3) := by decide +kernel
theorem dX3_get_35 : decode cX3_get 35 = .ok (.aload_n 0, 1) := by decide +kernel
theorem dX3_get_36 : decode cX3_get 36 = .ok (.iload 4, 2) := by decide +kernel
theorem dX3_get_38 : decode cX3_get 38 = .ok (.invokevirtual 75, 3) := by decide +kernel
theorem dX3_get_41 : decode cX3_get 41 = .ok (.pop, 1) := by decide +kernel
theorem dX3_get_42 : decode cX3_get 42 = .ok (.ldc 210, 2) := by decide +kernel
theorem dX3_get_44 : decode cX3_get 44 = .ok (.ireturn, 1) := by decide +kernel
theorem dX3_get_45 : decode cX3_get 45 = .ok (.aload_n 0, 1) := by decide +kernel
theorem dX3_get_46 : decode cX3_get 46 = .ok (.getfield 27, 3) := by decide +kernel
theorem dX3_get_49 : decode cX3_get 49 = .ok (.iload_n 1, 1) := by decide +kernel
theorem dX3_get_50 : decode cX3_get 50 = .ok (.aaload, 1) := by decide +kernel
theorem dX3_get_51 : decode cX3_get 51 = .ok (.getfield 82, 3) := by decide +kernel
theorem dX3_get_54 : decode cX3_get 54 = .ok (.iload_n 3, 1) := by decide +kernel
theorem dX3_get_55 : decode cX3_get 55 = .ok (.iaload, 1) := by decide +kernel
theorem dX3_get_56 : decode cX3_get 56 = .ok (.ireturn, 1) := by decide +kernel
set_option maxRecDepth 20000 in
theorem ggX3_copy_X3_isSheet : GoodIn wsX3_copy wsX3_isSheet := goodIn_r _ [12] (by decide +kernel) (by decide +kernel)
set_option maxRecDepth 20000 in
theorem gX3_copy_X3_isSheet : GoodIn wsX3_copy (va_wsS RX3 68 yX3_isSheet wsX3_isSheet) := goodIn_app (goodIn_of _ (by decide +kernel)) ggX3_copy_X3_isSheet
set_option maxRecDepth 20000 in
theorem ggX3_copy_X3_found : GoodIn wsX3_copy wsX3_found := goodIn_r _ [16, 17, 24, 25, 26, 27, 28, 29, 30, 31, 32, 33, 34, 35, 36] (by decide +kernel) (by decide +kernel)
set_option maxRecDepth 20000 in
theorem gX3_copy_X3_found : GoodIn wsX3_copy (wsV RX3 75 RX3 yX3_found wsX3_found) := goodIn_app (goodIn_of _ (by decide +kernel)) ggX3_copy_X3_found
set_option maxRecDepth 20000 in
theorem ggX3_copy_X1_hasSpan : GoodIn wsX3_copy wsX1_hasSpan := goodIn_r _ [22, 23, 37, 38, 39, 40] (by decide +kernel) (by decide +kernel)
set_option maxRecDepth 20000 in
theorem gX3_copy_X1_hasSpan : GoodIn wsX3_copy (wsV RX3 214 RX1 yX1_hasSpan wsX1_hasSpan) := goodIn_app (goodIn_of _ (by decide +kernel)) ggX3_copy_X1_hasSpan
theorem dX3_copy_0 : decode cX3_copy 0 = .ok (.iload_n 1, 1) := by decide +kernel
theorem dX3_copy_1 : decode cX3_copy 1 = .ok (.invokestatic 68, 3) := by decide +kernel
theorem dX3_copy_4 : decode cX3_copy 4 = .ok (.ifCond .eq 10, 3) := by decide +kernel
theorem dX3_copy_7 : decode cX3_copy 7 = .ok (.iload_n 3, 1) := by decide +kernel
theorem dX3_copy_8 : decode cX3_copy 8 = .ok (.invokestatic 68, 3) := by decide +kernel
theorem dX3_copy_11 : decode cX3_copy 11 = .ok (.ifCond .ne 6, 3) := by decide +kernel
theorem dX3_copy_14 : decode cX3_copy 14 = .ok (.bipush (-2), 2) := by decide +kernel
theorem dX3_copy_16 : decode cX3_copy 16 = .ok (.ireturn, 1) := by decide +kernel
theorem dX3_copy_17 : decode cX3_copy 17 = .ok (.aload_n 0, 1) := by decide +kernel
theorem dX3_copy_18 : decode cX3_copy 18 = .ok (.getfield 27, 3) := by decide +kernel
theorem dX3_copy_21 : decode cX3_copy 21 = .ok (.iload_n 1, 1) := by decide +kernel
theorem dX3_copy_22 : decode cX3_copy 22 = .ok (.aaload, 1) := by decide +kernel
theorem dX3_copy_23 : decode cX3_copy 23 = .ok (.astore 6, 2) := by decide +kernel
theorem dX3_copy_25 : decode cX3_copy 25 = .ok (.aload_n 0, 1) := by decide +kernel
theorem dX3_copy_26 : decode cX3_copy 26 = .ok (.getfield 27, 3) := by decide +kernel
theorem dX3_copy_29 : decode cX3_copy 29 = .ok (.iload_n 3, 1) := by decide +kernel
theorem dX3_copy_30 : decode cX3_copy 30 = .ok (.aaload, 1) := by decide +kernel
theorem dX3_copy_31 : decode cX3_copy 31 = .ok (.astore 7, 2) := by decide +kernel
theorem dX3_copy_33 : decode cX3_copy 33 = .ok (.aload 6, 2) := by decide +kernel
theorem dX3_copy_35 : decode cX3_copy 35 = .ok (.getfield 71, 3) := by decide +kernel
theorem dX3_copy_38 : decode cX3_copy 38 = .ok (.ifCond .ne 11, 3) := by decide +kernel
theorem dX3_copy_41 : decode cX3_copy 41 = .ok (.aload 7, 2) := by decide +kernel
theorem dX3_copy_43 : decode cX3_copy 43 = .ok (.getfield 71, 3) := by decide +kernel
theorem dX3_copy_46 : decode cX3_copy 46 = .ok (.ifCond .eq 9, 3) := by decide +kernel
theorem dX3_copy_49 : decode cX3_copy 49 = .ok (.aload_n 0, 1) := by decide +kernel
theorem dX3_copy_50 : decode cX3_copy 50 = .ok (.iconst 1, 1) := by decide +kernel
theorem dX3_copy_51 : decode cX3_copy 51 = .ok (.invokevirtual 75, 3) := by decide +kernel
theorem dX3_copy_54 : decode cX3_copy 54 = .ok (.ireturn, 1) := by decide +kernel
theorem dX3_copy_55 : decode cX3_copy 55 = .ok (.aload 6, 2) := by decide +kernel
theorem dX3_copy_57 : decode cX3_copy 57 = .ok (.getfield 211, 3) := by decide +kernel
theorem dX3_copy_60 : decode cX3_copy 60 = .ok (.aload 7, 2) := by decide +kernel
theorem dX3_copy_62 : decode cX3_copy 62 = .ok (.getfield 211, 3) := by decide +kernel
theorem dX3_copy_65 : decode cX3_copy 65 = .ok (.if_icmp .eq 9, 3) := by decide +kernel
theorem dX3_copy_68 : decode cX3_copy 68 = .ok (.aload_n 0, 1) := by decide +kernel
theorem dX3_copy_69 : decode cX3_copy 69 = .ok (.iconst 4, 1) := by decide +kernel
theorem dX3_copy_70 : decode cX3_copy 70 = .ok (.invokevirtual 75, 3) := by decide +kernel
theorem dX3_copy_73 : decode cX3_copy 73 = .ok (.ireturn, 1) := by decide +kernel
theorem dX3_copy_74 : decode cX3_copy 74 = .ok (.aload 6, 2) := by decide +kernel
theorem dX3_copy_76 : decode cX3_copy 76 = .ok (.iload_n 2, 1) := by decide +kernel
theorem dX3_copy_77 : decode cX3_copy 77 = .ok (.iload 5, 2) := by decide +kernel
theorem dX3_copy_79 : decode cX3_copy 79 = .ok (.invokevirtual 214, 3) := by decide +kernel
theorem dX3_copy_82 : decode cX3_copy 82 = .ok (.ifCond .eq 15, 3) := by decide +kernel
theorem dX3_copy_85 : decode cX3_copy 85 = .ok (.aload 7, 2) := by decide +kernel
theorem dX3_copy_87 : decode cX3_copy 87 = .ok (.iload 4, 2) := by decide +kernel
theorem dX3_copy_89 : decode cX3_copy 89 = .ok (.iload 5, 2) := by decide +kernel
theorem dX3_copy_91 : decode cX3_copy 91 = .ok (.invokevirtual 214, 3) := by decide +kernel
theorem dX3_copy_94 : decode cX3_copy 94 = .ok (.ifCond .ne 9, 3) := by decide +kernel
theorem dX3_copy_97 : decode cX3_copy 97 = .ok (.aload_n 0, 1) := by decide +kernel
theorem dX3_copy_98 : decode cX3_copy 98 = .ok (.iconst 2, 1) := by decide +kernel
theorem dX3_copy_99 : decode cX3_copy 99 = .ok (.invokevirtual 75, 3) := by decide +kernel
theorem dX3_copy_102 : decode cX3_copy 102 = .ok (.ireturn, 1) := by decide +kernel
theorem dX3_copy_103 : decode cX3_copy 103 = .ok (.aload 6, 2) := by decide +kernel
theorem dX3_copy_105 : decode cX3_copy 105 = .ok (.getfield 82, 3) := by decide +kernel
theorem dX3_copy_108 : decode cX3_copy 108 = .ok (.iload_n 2, 1) := by decide +kernel
theorem dX3_copy_109 : decode cX3_copy 109 = .ok (.aload 7, 2) := by decide +kernel
theorem dX3_copy_111 : decode cX3_copy 111 = .ok (.getfield 82, 3) := by decide +kernel
theorem dX3_copy_114 : decode cX3_copy 114 = .ok (.iload 4, 2) := by decide +kernel
theorem dX3_copy_116 : decode cX3_copy 116 = .ok (.iload 5, 2) := by decide +kernel
theorem dX3_copy_118 : decode cX3_copy 118 = .ok (.invokestatic 218, 3) := by decide +kernel
theorem dX3_copy_121 : decode cX3_copy 121 = .ok (.iconst 1, 1) := by decide +kernel
theorem dX3_copy_122 : decode cX3_copy 122 = .ok (.ireturn, 1) := by decide +kernel
set_option maxRecDepth 20000 in
theorem ggX3_write_X3_isSheet : GoodIn wsX3_write wsX3_isSheet := goodIn_r _ [15] (by decide +kernel) (by decide +kernel)
set_option maxRecDepth 20000 in
theorem gX3_write_X3_isSheet : GoodIn wsX3_write (va_wsS RX3 68 yX3_isSheet wsX3_isSheet) := goodIn_app (goodIn_of _ (by decide +kernel)) ggX3_write_X3_isSheet
set_option maxRecDepth 20000 in
theorem ggX3_write_X3_found : GoodIn wsX3_write wsX3_found := goodIn_r _ [19, 20, 84, 85, 86, 87, 88, 89, 90, 91, 92, 93, 94, 95, 96] (by decide +kernel) (by decide +kernel)
set_option maxRecDepth 20000 in
theorem gX3_write_X3_found : GoodIn wsX3_write (wsV RX3 75 RX3 yX3_found wsX3_found) := goodIn_app (goodIn_of _ (by decide +kernel)) ggX3_write_X3_found
set_option maxRecDepth 20000 in
theorem ggX3_write_X3_tryTurn : GoodIn wsX3_write wsX3_tryTurn := goodIn_r _ [24, 10, 4, 25, 26, 27, 28, 29, 30, 31, 32, 33, 34, 35, 36, 37, 38, 39, 40, 41, 42, 43, 44, 45, 46, 47, 48, 49, 50, 51, 52, 53, 54, 55, 56, 57, 58, 59, 60, 61, 62, 63, 64, 65, 66, 67, 68, 69, 70, 71, 72, 73, 74, 75, 76, 7, 8, 9, 84, 85, 86, 87, 88, 89, 90, 91, 92, 93, 94, 95, 96, 101, 102, 103, 104, 105, 106, 107, 108, 109, 110, 111, 112, 113, 114] (by decide +kernel) (by decide +kernel)
set_option maxRecDepth 20000 in
theorem gX3_write_X3_tryTurn : GoodIn wsX3_write (wsV RX3 171 RX3 yX3_tryTurn wsX3_tryTurn) := goodIn_app (goodIn_of _ (by decide +kernel)) ggX3_write_X3_tryTurn
set_option maxRecDepth 20000 in
theorem ggX3_write_X1_put : GoodIn wsX3_write wsX1_put := goodIn_r _ [81, 82, 83, 97, 98, 99, 100] (by decide +kernel) (by decide +kernel)
set_option maxRecDepth 20000 in
theorem gX3_write_X1_put : GoodIn wsX3_write (wsV RX3 207 RX1 yX1_put wsX1_put) := goodIn_app (goodIn_of _ (by decide +kernel)) ggX3_write_X1_put
theorem dX3_write_0 : decode cX3_write 0 = .ok (.iload_n 1, 1) := by decide +kernel
theorem dX3_write_1 : decode cX3_write 1 = .ok (.invokestatic 68, 3) := by decide +kernel
theorem dX3_write_4 : decode cX3_write 4 = .ok (.ifCond .ne 6, 3) := by decide +kernel
theorem dX3_write_7 : decode cX3_write 7 = .ok (.bipush (-2), 2) := by decide +kernel
theorem dX3_write_9 : decode cX3_write 9 = .ok (.ireturn, 1) := by decide +kernel
theorem dX3_write_10 : decode cX3_write 10 = .ok (.aload_n 0, 1) := by decide +kernel
theorem dX3_write_11 : decode cX3_write 11 = .ok (.getfield 27, 3) := by decide +kernel
theorem dX3_write_14 : decode cX3_write 14 = .ok (.iload_n 1, 1) := by decide +kernel
theorem dX3_write_15 : decode cX3_write 15 = .ok (.aaload, 1) := by decide +kernel
theorem dX3_write_16 : decode cX3_write 16 = .ok (.astore_n 2, 1) := by decide +kernel
theorem dX3_write_17 : decode cX3_write 17 = .ok (.aload_n 2, 1) := by decide +kernel
theorem dX3_write_18 : decode cX3_write 18 = .ok (.getfield 71, 3) := by decide +kernel
theorem dX3_write_21 : decode cX3_write 21 = .ok (.ifCond .eq 9, 3) := by decide +kernel
theorem dX3_write_24 : decode cX3_write 24 = .ok (.aload_n 0, 1) := by decide +kernel
theorem dX3_write_25 : decode cX3_write 25 = .ok (.iconst 1, 1) := by decide +kernel
theorem dX3_write_26 : decode cX3_write 26 = .ok (.invokevirtual 75, 3) := by decide +kernel
theorem dX3_write_29 : decode cX3_write 29 = .ok (.ireturn, 1) := by decide +kernel
theorem dX3_write_30 : decode cX3_write 30 = .ok (.aload_n 0, 1) := by decide +kernel
theorem dX3_write_31 : decode cX3_write 31 = .ok (.invokevirtual 171, 3) := by decide +kernel
theorem dX3_write_34 : decode cX3_write 34 = .ok (.aload_n 2, 1) := by decide +kernel
theorem dX3_write_35 : decode cX3_write 35 = .ok (.getfield 79, 3) := by decide +kernel
theorem dX3_write_38 : decode cX3_write 38 = .ok (.aload_n 0, 1) := by decide +kernel
theorem dX3_write_39 : decode cX3_write 39 = .ok (.getfield 10, 3) := by decide +kernel
theorem dX3_write_42 : decode cX3_write 42 = .ok (.getfield 41, 3) := by decide +kernel
theorem dX3_write_45 : decode cX3_write 45 = .ok (.invokestatic 224, 3) := by decide +kernel
theorem dX3_write_48 : decode cX3_write 48 = .ok (.istore_n 3, 1) := by decide +kernel
theorem dX3_write_49 : decode cX3_write 49 = .ok (.iconst 0, 1) := by decide +kernel
theorem dX3_write_50 : decode cX3_write 50 = .ok (.istore 4, 2) := by decide +kernel
theorem dX3_write_52 : decode cX3_write 52 = .ok (.iload 4, 2) := by decide +kernel
theorem dX3_write_54 : decode cX3_write 54 = .ok (.iload_n 3, 1) := by decide +kernel
theorem dX3_write_55 : decode cX3_write 55 = .ok (.if_icmp .ge 25, 3) := by decide +kernel
theorem dX3_write_58 : decode cX3_write 58 = .ok (.aload_n 2, 1) := by decide +kernel
theorem dX3_write_59 : decode cX3_write 59 = .ok (.iload 4, 2) := by decide +kernel
theorem dX3_write_61 : decode cX3_write 61 = .ok (.aload_n 0, 1) := by decide +kernel
theorem dX3_write_62 : decode cX3_write 62 = .ok (.getfield 16, 3) := by decide +kernel
theorem dX3_write_65 : decode cX3_write 65 = .ok (.getfield 174, 3) := by decide +kernel
theorem dX3_write_68 : decode cX3_write 68 = .ok (.iload 4, 2) := by decide +kernel
theorem dX3_write_70 : decode cX3_write 70 = .ok (.iaload, 1) := by decide +kernel
theorem dX3_write_71 : decode cX3_write 71 = .ok (.invokevirtual 207, 3) := by decide +kernel
theorem dX3_write_74 : decode cX3_write 74 = .ok (.iinc 4 1, 3) := by decide +kernel
theorem dX3_write_77 : decode cX3_write 77 = .ok (.goto (-25), 3) := by decide +kernel
theorem dX3_write_80 : decode cX3_write 80 = .ok (.iload_n 3, 1) := by decide +kernel
theorem dX3_write_81 : decode cX3_write 81 = .ok (.ireturn, 1) := by decide +kernel
set_option maxRecDepth 20000 in
theorem ggX3_count_X2_heldInAll : GoodIn wsX3_count wsX2_heldInAll := goodIn_r _ [15, 16, 17, 31, 32, 33, 34, 35, 36, 37, 38, 39, 40, 41, 42, 43, 44] (by decide +kernel) (by decide +kernel)
set_option maxRecDepth 20000 in
theorem gX3_count_X2_heldInAll : GoodIn wsX3_count (wsV RX3 152 RX2 yX2_heldInAll wsX2_heldInAll) := goodIn_app (goodIn_of _ (by decide +kernel)) ggX3_count_X2_heldInAll
theorem dX3_count_0 : decode cX3_count 0 = .ok (.iload_n 1, 1) := by decide +kernel
theorem dX3_count_1 : decode cX3_count 1 = .ok (.tableswitch 120 0 8 #[51, 59, 79, 84, 92, 100, 105, 110, 115], 51) := by decide +kernel
theorem dX3_count_52 : decode cX3_count 52 = .ok (.aload_n 0, 1) := by decide +kernel
theorem dX3_count_53 : decode cX3_count 53 = .ok (.getfield 10, 3) := by decide +kernel
theorem dX3_count_56 : decode cX3_count 56 = .ok (.getfield 48, 3) := by decide +kernel
theorem dX3_count_59 : decode cX3_count 59 = .ok (.ireturn, 1) := by decide +kernel
theorem dX3_count_60 : decode cX3_count 60 = .ok (.aload_n 0, 1) := by decide +kernel
theorem dX3_count_61 : decode cX3_count 61 = .ok (.getfield 21, 3) := by decide +kernel
theorem dX3_count_64 : decode cX3_count 64 = .ok (.iconst 0, 1) := by decide +kernel
theorem dX3_count_65 : decode cX3_count 65 = .ok (.aaload, 1) := by decide +kernel
theorem dX3_count_66 : decode cX3_count 66 = .ok (.getfield 104, 3) := by decide +kernel
theorem dX3_count_69 : decode cX3_count 69 = .ok (.aload_n 0, 1) := by decide +kernel
theorem dX3_count_70 : decode cX3_count 70 = .ok (.getfield 21, 3) := by decide +kernel
theorem dX3_count_73 : decode cX3_count 73 = .ok (.iconst 1, 1) := by decide +kernel
theorem dX3_count_74 : decode cX3_count 74 = .ok (.aaload, 1) := by decide +kernel
theorem dX3_count_75 : decode cX3_count 75 = .ok (.getfield 104, 3) := by decide +kernel
theorem dX3_count_78 : decode cX3_count 78 = .ok (.iadd, 1) := by decide +kernel
theorem dX3_count_79 : decode cX3_count 79 = .ok (.ireturn, 1) := by decide +kernel
theorem dX3_count_80 : decode cX3_count 80 = .ok (.aload_n 0, 1) := by decide +kernel
theorem dX3_count_81 : decode cX3_count 81 = .ok (.getfield 131, 3) := by decide +kernel
theorem dX3_count_84 : decode cX3_count 84 = .ok (.ireturn, 1) := by decide +kernel
theorem dX3_count_85 : decode cX3_count 85 = .ok (.aload_n 0, 1) := by decide +kernel
theorem dX3_count_86 : decode cX3_count 86 = .ok (.getfield 10, 3) := by decide +kernel
theorem dX3_count_89 : decode cX3_count 89 = .ok (.getfield 37, 3) := by decide +kernel
theorem dX3_count_92 : decode cX3_count 92 = .ok (.ireturn, 1) := by decide +kernel
theorem dX3_count_93 : decode cX3_count 93 = .ok (.aload_n 0, 1) := by decide +kernel
theorem dX3_count_94 : decode cX3_count 94 = .ok (.getfield 10, 3) := by decide +kernel
theorem dX3_count_97 : decode cX3_count 97 = .ok (.invokevirtual 152, 3) := by decide +kernel
theorem dX3_count_100 : decode cX3_count 100 = .ok (.ireturn, 1) := by decide +kernel
theorem dX3_count_101 : decode cX3_count 101 = .ok (.aload_n 0, 1) := by decide +kernel
theorem dX3_count_102 : decode cX3_count 102 = .ok (.getfield 143, 3) := by decide +kernel
theorem dX3_count_105 : decode cX3_count 105 = .ok (.ireturn, 1) := by decide +kernel
theorem dX3_count_106 : decode cX3_count 106 = .ok (.aload_n 0, 1) := by decide +kernel
theorem dX3_count_107 : decode cX3_count 107 = .ok (.getfield 146, 3) := by decide +kernel
theorem dX3_count_110 : decode cX3_count 110 = .ok (.ireturn, 1) := by decide +kernel
theorem dX3_count_111 : decode cX3_count 111 = .ok (.aload_n 0, 1) := by decide +kernel
theorem dX3_count_112 : decode cX3_count 112 = .ok (.getfield 105, 3) := by decide +kernel
theorem dX3_count_115 : decode cX3_count 115 = .ok (.ireturn, 1) := by decide +kernel
theorem dX3_count_116 : decode cX3_count 116 = .ok (.aload_n 0, 1) := by decide +kernel
theorem dX3_count_117 : decode cX3_count 117 = .ok (.getfield 229, 3) := by decide +kernel
theorem dX3_count_120 : decode cX3_count 120 = .ok (.ireturn, 1) := by decide +kernel
theorem dX3_count_121 : decode cX3_count 121 = .ok (.bipush (-2), 2) := by decide +kernel
theorem dX3_count_123 : decode cX3_count 123 = .ok (.ireturn, 1) := by decide +kernel
set_option maxRecDepth 20000 in
theorem ggX3_digest_X3_count : GoodIn wsX3_digest wsX3_count := goodIn_r _ [6, 7, 8, 9, 10, 11, 12, 13, 14, 15, 16, 17, 18, 19, 20, 21, 22, 23, 189, 190, 191, 192, 193, 194, 195, 196, 197, 198, 199, 200, 201, 202, 203, 204, 205, 206, 207, 208, 209, 210, 211, 212, 213, 214, 215, 216, 217] (by decide +kernel) (by decide +kernel)
set_option maxRecDepth 20000 in
theorem gX3_digest_X3_count : GoodIn wsX3_digest (wsV RX3 234 RX3 yX3_count wsX3_count) := goodIn_app (goodIn_of _ (by decide +kernel)) ggX3_digest_X3_count
set_option maxRecDepth 20000 in
theorem ggX3_digest_X3_fold : GoodIn wsX3_digest wsX3_fold := goodIn_r _ [26, 27] (by decide +kernel) (by decide +kernel)
set_option maxRecDepth 20000 in
theorem gX3_digest_X3_fold : GoodIn wsX3_digest (va_wsS RX3 237 yX3_fold wsX3_fold) := goodIn_app (goodIn_of _ (by decide +kernel)) ggX3_digest_X3_fold
set_option maxRecDepth 20000 in
theorem ggX3_digest_X3_foldBasins : GoodIn wsX3_digest wsX3_foldBasins := goodIn_r _ [31, 7, 8, 32, 33, 34, 5, 35, 36, 37, 38, 39, 40, 41, 42, 43, 44, 45, 46, 47, 20, 48, 49, 50, 51, 52, 53, 54, 55, 24, 25, 26, 27, 56, 57, 58, 59, 60, 61, 62, 63, 64, 65, 66, 67, 22, 68, 69, 70, 71, 72, 73, 74, 23, 75, 76, 77, 78, 79, 80, 81, 82, 83, 84, 85, 86, 87, 88, 89, 90, 91, 92, 93, 94, 95, 96, 97, 98, 99, 100, 101, 102, 103, 104, 105, 106, 107, 108, 109, 110, 111, 112, 113, 114, 115, 116, 117, 118, 12, 119, 189, 190, 191, 192, 193, 194, 195, 196, 197, 198, 199, 200, 201, 202, 203, 204, 205, 206, 207, 208, 209, 210, 211, 212, 213, 214, 215] (by decide +kernel) (by decide +kernel)
set_option maxRecDepth 20000 in
theorem gX3_digest_X3_foldBasins : GoodIn wsX3_digest (wsV RX3 241 RX3 yX3_foldBasins wsX3_foldBasins) := goodIn_app (goodIn_of _ (by decide +kernel)) ggX3_digest_X3_foldBasins
set_option maxRecDepth 20000 in
theorem ggX3_digest_X3_foldBoats : GoodIn wsX3_digest wsX3_foldBoats := goodIn_r _ [123, 124, 125, 126, 5, 127, 9, 10, 128, 129, 130, 131, 132, 133, 134, 135, 136, 137, 24, 25, 26, 27, 138, 139, 140, 141, 142, 143, 144, 145, 146, 147, 148, 149, 150, 7, 12, 151, 152, 153, 154, 189, 190, 191, 192, 193, 194, 195, 196, 197, 198, 199, 200, 201, 216, 217, 202, 203, 204, 205, 206, 207, 208, 209, 210, 211, 212, 213, 214, 215] (by decide +kernel) (by decide +kernel)
set_option maxRecDepth 20000 in
theorem gX3_digest_X3_foldBoats : GoodIn wsX3_digest (wsV RX3 245 RX3 yX3_foldBoats wsX3_foldBoats) := goodIn_app (goodIn_of _ (by decide +kernel)) ggX3_digest_X3_foldBoats
set_option maxRecDepth 20000 in
theorem ggX3_digest_X3_foldTurns : GoodIn wsX3_digest wsX3_foldTurns := goodIn_r _ [158, 11, 159, 160, 161, 5, 162, 163, 24, 25, 26, 27, 164, 165, 166, 167, 13, 14, 168, 7, 169, 17, 18, 19, 20, 21, 22, 23, 189, 190, 191, 192, 193, 194, 195, 196, 197, 198, 199, 200, 201, 202, 203, 204, 205, 206, 207, 208, 209, 210, 211, 212, 213, 214, 215] (by decide +kernel) (by decide +kernel)
set_option maxRecDepth 20000 in
theorem gX3_digest_X3_foldTurns : GoodIn wsX3_digest (wsV RX3 248 RX3 yX3_foldTurns wsX3_foldTurns) := goodIn_app (goodIn_of _ (by decide +kernel)) ggX3_digest_X3_foldTurns
set_option maxRecDepth 20000 in
theorem ggX3_digest_X3_foldWhatWouldBe : GoodIn wsX3_digest wsX3_foldWhatWouldBe := goodIn_r _ [173, 7, 119, 61, 174, 24, 25, 5, 26, 27, 175, 176, 177, 178, 62, 63, 64, 20, 65, 66, 67, 22, 55, 49, 68, 69, 70, 71, 72, 73, 50, 74, 23, 179, 81, 82, 83, 84, 79, 85, 86, 87, 88, 89, 90, 91, 92, 93, 94, 52, 53, 54, 95, 46, 47, 48, 96, 97, 98, 99, 100, 101, 102, 103, 104, 105, 106, 107, 108, 180, 181, 182, 183, 60, 75, 76, 77, 78, 80, 184, 185, 186, 187, 8, 188, 51, 109, 110, 111, 112, 113, 114, 189, 190, 191, 192, 193, 194, 195, 196, 197, 198, 199, 200, 201, 202, 203, 204, 205, 206, 207, 208, 209, 210, 211, 212, 213, 214, 215] (by decide +kernel) (by decide +kernel)
set_option maxRecDepth 20000 in
theorem gX3_digest_X3_foldWhatWouldBe : GoodIn wsX3_digest (wsV RX3 251 RX3 yX3_foldWhatWouldBe wsX3_foldWhatWouldBe) := goodIn_app (goodIn_of _ (by decide +kernel)) ggX3_digest_X3_foldWhatWouldBe
theorem dX3_digest_0 : decode cX3_digest 0 = .ok (.ldc2_w 232, 3) := by decide +kernel
theorem dX3_digest_3 : decode cX3_digest 3 = .ok (.lstore_n 1, 1) := by decide +kernel
theorem dX3_digest_4 : decode cX3_digest 4 = .ok (.iconst 0, 1) := by decide +kernel
theorem dX3_digest_5 : decode cX3_digest 5 = .ok (.istore_n 3, 1) := by decide +kernel
theorem dX3_digest_6 : decode cX3_digest 6 = .ok (.iload_n 3, 1) := by decide +kernel
theorem dX3_digest_7 : decode cX3_digest 7 = .ok (.bipush 7, 2) := by decide +kernel
theorem dX3_digest_9 : decode cX3_digest 9 = .ok (.if_icmp .gt 19, 3) := by decide +kernel
theorem dX3_digest_12 : decode cX3_digest 12 = .ok (.lload_n 1, 1) := by decide +kernel
theorem dX3_digest_13 : decode cX3_digest 13 = .ok (.aload_n 0, 1) := by decide +kernel
theorem dX3_digest_14 : decode cX3_digest 14 = .ok (.iload_n 3, 1) := by decide +kernel
theorem dX3_digest_15 : decode cX3_digest 15 = .ok (.invokevirtual 234, 3) := by decide +kernel
theorem dX3_digest_18 : decode cX3_digest 18 = .ok (.invokestatic 237, 3) := by decide +kernel
theorem dX3_digest_21 : decode cX3_digest 21 = .ok (.lstore_n 1, 1) := by decide +kernel
theorem dX3_digest_22 : decode cX3_digest 22 = .ok (.iinc 3 1, 3) := by decide +kernel
theorem dX3_digest_25 : decode cX3_digest 25 = .ok (.goto (-19), 3) := by decide +kernel
theorem dX3_digest_28 : decode cX3_digest 28 = .ok (.aload_n 0, 1) := by decide +kernel
theorem dX3_digest_29 : decode cX3_digest 29 = .ok (.lload_n 1, 1) := by decide +kernel
theorem dX3_digest_30 : decode cX3_digest 30 = .ok (.invokevirtual 241, 3) := by decide +kernel
theorem dX3_digest_33 : decode cX3_digest 33 = .ok (.lstore_n 1, 1) := by decide +kernel
theorem dX3_digest_34 : decode cX3_digest 34 = .ok (.aload_n 0, 1) := by decide +kernel
theorem dX3_digest_35 : decode cX3_digest 35 = .ok (.lload_n 1, 1) := by decide +kernel
theorem dX3_digest_36 : decode cX3_digest 36 = .ok (.invokevirtual 245, 3) := by decide +kernel
theorem dX3_digest_39 : decode cX3_digest 39 = .ok (.lstore_n 1, 1) := by decide +kernel
theorem dX3_digest_40 : decode cX3_digest 40 = .ok (.aload_n 0, 1) := by decide +kernel
theorem dX3_digest_41 : decode cX3_digest 41 = .ok (.lload_n 1, 1) := by decide +kernel
theorem dX3_digest_42 : decode cX3_digest 42 = .ok (.invokevirtual 248, 3) := by decide +kernel
theorem dX3_digest_45 : decode cX3_digest 45 = .ok (.lstore_n 1, 1) := by decide +kernel
theorem dX3_digest_46 : decode cX3_digest 46 = .ok (.aload_n 0, 1) := by decide +kernel
theorem dX3_digest_47 : decode cX3_digest 47 = .ok (.lload_n 1, 1) := by decide +kernel
theorem dX3_digest_48 : decode cX3_digest 48 = .ok (.invokevirtual 251, 3) := by decide +kernel
theorem dX3_digest_51 : decode cX3_digest 51 = .ok (.lreturn, 1) := by decide +kernel
theorem dX3_fold_0 : decode cX3_fold 0 = .ok (.ldc2_w 254, 3) := by decide +kernel
theorem dX3_fold_3 : decode cX3_fold 3 = .ok (.lload_n 0, 1) := by decide +kernel
theorem dX3_fold_4 : decode cX3_fold 4 = .ok (.lmul, 1) := by decide +kernel
theorem dX3_fold_5 : decode cX3_fold 5 = .ok (.iload_n 2, 1) := by decide +kernel
theorem dX3_fold_6 : decode cX3_fold 6 = .ok (.i2l, 1) := by decide +kernel
theorem dX3_fold_7 : decode cX3_fold 7 = .ok (.ladd, 1) := by decide +kernel
theorem dX3_fold_8 : decode cX3_fold 8 = .ok (.lreturn, 1) := by decide +kernel
set_option maxRecDepth 20000 in
theorem ggX3_foldBasins_X3_info : GoodIn wsX3_foldBasins wsX3_info := goodIn_r _ [7, 1, 8, 9, 10, 11, 12, 13, 14, 15, 6, 16, 2, 17, 18, 19, 20, 21, 22, 23, 24, 25, 26, 27, 28, 100, 101, 102, 103, 104, 105, 106, 107, 108, 109, 110, 111, 112, 113, 114, 115, 116, 117, 118, 119, 120, 121, 122, 123, 124, 125, 126] (by decide +kernel) (by decide +kernel)
set_option maxRecDepth 20000 in
theorem gX3_foldBasins_X3_info : GoodIn wsX3_foldBasins (wsV RX3 256 RX3 yX3_info wsX3_info) := goodIn_app (goodIn_of _ (by decide +kernel)) ggX3_foldBasins_X3_info
set_option maxRecDepth 20000 in
theorem ggX3_foldBasins_X3_fold : GoodIn wsX3_foldBasins wsX3_fold := goodIn_r _ [31, 32] (by decide +kernel) (by decide +kernel)
set_option maxRecDepth 20000 in
theorem gX3_foldBasins_X3_fold : GoodIn wsX3_foldBasins (va_wsS RX3 237 yX3_fold wsX3_fold) := goodIn_app (goodIn_of _ (by decide +kernel)) ggX3_foldBasins_X3_fold
set_option maxRecDepth 20000 in
theorem ggX3_foldBasins_X3_bestBottom : GoodIn wsX3_foldBasins wsX3_bestBottom := goodIn_r _ [36, 37, 38, 1, 8, 39, 40, 41, 20, 42, 43, 44, 45, 28, 22, 46, 47, 48, 49, 50, 51, 23, 52, 53, 54, 55, 56, 57, 58, 59, 60, 61, 62, 63, 64, 65, 66, 67, 68, 69, 70, 71, 72, 73, 25, 26, 27, 74, 18, 19, 21, 75, 76, 77, 78, 79, 80, 81, 82, 83, 84, 85, 86, 87, 88, 89, 6, 90, 100, 101, 102, 103, 104, 105, 106, 107, 108, 109, 110, 111, 112, 113, 114, 115, 116, 117, 118, 119, 120, 121, 122, 123, 124, 125, 126] (by decide +kernel) (by decide +kernel)
set_option maxRecDepth 20000 in
theorem gX3_foldBasins_X3_bestBottom : GoodIn wsX3_foldBasins (wsV RX3 185 RX3 yX3_bestBottom wsX3_bestBottom) := goodIn_app (goodIn_of _ (by decide +kernel)) ggX3_foldBasins_X3_bestBottom
set_option maxRecDepth 20000 in
theorem ggX3_foldBasins_X3_partOfChoice : GoodIn wsX3_foldBasins wsX3_partOfChoice := goodIn_r _ [93] (by decide +kernel) (by decide +kernel)
set_option maxRecDepth 20000 in
theorem gX3_foldBasins_X3_partOfChoice : GoodIn wsX3_foldBasins (va_wsS RX3 188 yX3_partOfChoice wsX3_partOfChoice) := goodIn_app (goodIn_of _ (by decide +kernel)) ggX3_foldBasins_X3_partOfChoice
set_option maxRecDepth 20000 in
theorem ggX3_foldBasins_X3_chamber : GoodIn wsX3_foldBasins wsX3_chamber := goodIn_r _ [97, 1, 98, 99, 100, 101, 102, 103, 104, 105, 106, 107, 108, 109, 110, 111, 112, 113, 114, 115, 116, 117, 118, 119, 120, 121, 122, 123, 124, 125, 126] (by decide +kernel) (by decide +kernel)
set_option maxRecDepth 20000 in
theorem gX3_foldBasins_X3_chamber : GoodIn wsX3_foldBasins (wsV RX3 259 RX3 yX3_chamber wsX3_chamber) := goodIn_app (goodIn_of _ (by decide +kernel)) ggX3_foldBasins_X3_chamber
theorem dX3_foldBasins_0 : decode cX3_foldBasins 0 = .ok (.lload_n 1, 1) := by decide +kernel
theorem dX3_foldBasins_1 : decode cX3_foldBasins 1 = .ok (.lstore_n 3, 1) := by decide +kernel
theorem dX3_foldBasins_2 : decode cX3_foldBasins 2 = .ok (.iconst 0, 1) := by decide +kernel
theorem dX3_foldBasins_3 : decode cX3_foldBasins 3 = .ok (.istore 5, 2) := by decide +kernel
theorem dX3_foldBasins_5 : decode cX3_foldBasins 5 = .ok (.iload 5, 2) := by decide +kernel
theorem dX3_foldBasins_7 : decode cX3_foldBasins 7 = .ok (.aload_n 0, 1) := by decide +kernel
theorem dX3_foldBasins_8 : decode cX3_foldBasins 8 = .ok (.getfield 10, 3) := by decide +kernel
theorem dX3_foldBasins_11 : decode cX3_foldBasins 11 = .ok (.getfield 48, 3) := by decide +kernel
theorem dX3_foldBasins_14 : decode cX3_foldBasins 14 = .ok (.if_icmp .ge 68, 3) := by decide +kernel
theorem dX3_foldBasins_17 : decode cX3_foldBasins 17 = .ok (.iconst 0, 1) := by decide +kernel
theorem dX3_foldBasins_18 : decode cX3_foldBasins 18 = .ok (.istore 6, 2) := by decide +kernel
theorem dX3_foldBasins_20 : decode cX3_foldBasins 20 = .ok (.iload 6, 2) := by decide +kernel
theorem dX3_foldBasins_22 : decode cX3_foldBasins 22 = .ok (.bipush 6, 2) := by decide +kernel
theorem dX3_foldBasins_24 : decode cX3_foldBasins 24 = .ok (.if_icmp .gt 22, 3) := by decide +kernel
theorem dX3_foldBasins_27 : decode cX3_foldBasins 27 = .ok (.lload_n 3, 1) := by decide +kernel
theorem dX3_foldBasins_28 : decode cX3_foldBasins 28 = .ok (.aload_n 0, 1) := by decide +kernel
theorem dX3_foldBasins_29 : decode cX3_foldBasins 29 = .ok (.iload 5, 2) := by decide +kernel
theorem dX3_foldBasins_31 : decode cX3_foldBasins 31 = .ok (.iload 6, 2) := by decide +kernel
theorem dX3_foldBasins_33 : decode cX3_foldBasins 33 = .ok (.invokevirtual 256, 3) := by decide +kernel
theorem dX3_foldBasins_36 : decode cX3_foldBasins 36 = .ok (.invokestatic 237, 3) := by decide +kernel
theorem dX3_foldBasins_39 : decode cX3_foldBasins 39 = .ok (.lstore_n 3, 1) := by decide +kernel
theorem dX3_foldBasins_40 : decode cX3_foldBasins 40 = .ok (.iinc 6 1, 3) := by decide +kernel
theorem dX3_foldBasins_43 : decode cX3_foldBasins 43 = .ok (.goto (-23), 3) := by decide +kernel
theorem dX3_foldBasins_46 : decode cX3_foldBasins 46 = .ok (.aload_n 0, 1) := by decide +kernel
theorem dX3_foldBasins_47 : decode cX3_foldBasins 47 = .ok (.iload 5, 2) := by decide +kernel
theorem dX3_foldBasins_49 : decode cX3_foldBasins 49 = .ok (.invokevirtual 185, 3) := by decide +kernel
theorem dX3_foldBasins_52 : decode cX3_foldBasins 52 = .ok (.istore 6, 2) := by decide +kernel
theorem dX3_foldBasins_54 : decode cX3_foldBasins 54 = .ok (.lload_n 3, 1) := by decide +kernel
theorem dX3_foldBasins_55 : decode cX3_foldBasins 55 = .ok (.iload 6, 2) := by decide +kernel
theorem dX3_foldBasins_57 : decode cX3_foldBasins 57 = .ok (.iconst 0, 1) := by decide +kernel
theorem dX3_foldBasins_58 : decode cX3_foldBasins 58 = .ok (.invokestatic 188, 3) := by decide +kernel
theorem dX3_foldBasins_61 : decode cX3_foldBasins 61 = .ok (.invokestatic 237, 3) := by decide +kernel
theorem dX3_foldBasins_64 : decode cX3_foldBasins 64 = .ok (.lstore_n 3, 1) := by decide +kernel
theorem dX3_foldBasins_65 : decode cX3_foldBasins 65 = .ok (.lload_n 3, 1) := by decide +kernel
theorem dX3_foldBasins_66 : decode cX3_foldBasins 66 = .ok (.iload 6, 2) := by decide +kernel
theorem dX3_foldBasins_68 : decode cX3_foldBasins 68 = .ok (.iconst 1, 1) := by decide +kernel
theorem dX3_foldBasins_69 : decode cX3_foldBasins 69 = .ok (.invokestatic 188, 3) := by decide +kernel
theorem dX3_foldBasins_72 : decode cX3_foldBasins 72 = .ok (.invokestatic 237, 3) := by decide +kernel
theorem dX3_foldBasins_75 : decode cX3_foldBasins 75 = .ok (.lstore_n 3, 1) := by decide +kernel
theorem dX3_foldBasins_76 : decode cX3_foldBasins 76 = .ok (.iinc 5 1, 3) := by decide +kernel
theorem dX3_foldBasins_79 : decode cX3_foldBasins 79 = .ok (.goto (-74), 3) := by decide +kernel
theorem dX3_foldBasins_82 : decode cX3_foldBasins 82 = .ok (.iconst 0, 1) := by decide +kernel
theorem dX3_foldBasins_83 : decode cX3_foldBasins 83 = .ok (.istore 5, 2) := by decide +kernel
theorem dX3_foldBasins_85 : decode cX3_foldBasins 85 = .ok (.iload 5, 2) := by decide +kernel
theorem dX3_foldBasins_87 : decode cX3_foldBasins 87 = .ok (.iconst 2, 1) := by decide +kernel
theorem dX3_foldBasins_88 : decode cX3_foldBasins 88 = .ok (.if_icmp .gt 20, 3) := by decide +kernel
theorem dX3_foldBasins_91 : decode cX3_foldBasins 91 = .ok (.lload_n 3, 1) := by decide +kernel
theorem dX3_foldBasins_92 : decode cX3_foldBasins 92 = .ok (.aload_n 0, 1) := by decide +kernel
theorem dX3_foldBasins_93 : decode cX3_foldBasins 93 = .ok (.iload 5, 2) := by decide +kernel
theorem dX3_foldBasins_95 : decode cX3_foldBasins 95 = .ok (.invokevirtual 259, 3) := by decide +kernel
theorem dX3_foldBasins_98 : decode cX3_foldBasins 98 = .ok (.invokestatic 237, 3) := by decide +kernel
theorem dX3_foldBasins_101 : decode cX3_foldBasins 101 = .ok (.lstore_n 3, 1) := by decide +kernel
theorem dX3_foldBasins_102 : decode cX3_foldBasins 102 = .ok (.iinc 5 1, 3) := by decide +kernel
theorem dX3_foldBasins_105 : decode cX3_foldBasins 105 = .ok (.goto (-20), 3) := by decide +kernel
theorem dX3_foldBasins_108 : decode cX3_foldBasins 108 = .ok (.lload_n 3, 1) := by decide +kernel
theorem dX3_foldBasins_109 : decode cX3_foldBasins 109 = .ok (.lreturn, 1) := by decide +kernel
set_option maxRecDepth 20000 in
theorem ggX3_foldBoats_X3_waits : GoodIn wsX3_foldBoats wsX3_waits := goodIn_r _ [5, 6, 7, 8, 9, 4, 10, 11, 12, 13, 14, 15, 16, 17, 41, 42, 43, 44, 45, 46, 47, 48, 49, 50, 51, 52, 53, 54, 55] (by decide +kernel) (by decide +kernel)
set_option maxRecDepth 20000 in
theorem gX3_foldBoats_X3_waits : GoodIn wsX3_foldBoats (wsV RX3 262 RX3 yX3_waits wsX3_waits) := goodIn_app (goodIn_of _ (by decide +kernel)) ggX3_foldBoats_X3_waits
set_option maxRecDepth 20000 in
theorem ggX3_foldBoats_X3_fold : GoodIn wsX3_foldBoats wsX3_fold := goodIn_r _ [20, 21] (by decide +kernel) (by decide +kernel)
set_option maxRecDepth 20000 in
theorem gX3_foldBoats_X3_fold : GoodIn wsX3_foldBoats (va_wsS RX3 237 yX3_fold wsX3_fold) := goodIn_app (goodIn_of _ (by decide +kernel)) ggX3_foldBoats_X3_fold
set_option maxRecDepth 20000 in
theorem ggX3_foldBoats_X3_next : GoodIn wsX3_foldBoats wsX3_next := goodIn_r _ [25, 6, 26, 27, 28, 4, 29, 30, 11, 12, 13, 14, 15, 16, 17, 31, 32, 33, 34, 35, 36, 37, 38, 39, 40, 41, 42, 43, 44, 45, 46, 47, 48, 49, 50, 51, 52, 53, 54, 55, 56, 57, 58, 59, 60, 61, 62, 63, 64, 65, 66, 67, 68, 69] (by decide +kernel) (by decide +kernel)
set_option maxRecDepth 20000 in
theorem gX3_foldBoats_X3_next : GoodIn wsX3_foldBoats (wsV RX3 265 RX3 yX3_next wsX3_next) := goodIn_app (goodIn_of _ (by decide +kernel)) ggX3_foldBoats_X3_next
theorem dX3_foldBoats_0 : decode cX3_foldBoats 0 = .ok (.lload_n 1, 1) := by decide +kernel
theorem dX3_foldBoats_1 : decode cX3_foldBoats 1 = .ok (.lstore_n 3, 1) := by decide +kernel
theorem dX3_foldBoats_2 : decode cX3_foldBoats 2 = .ok (.iconst 0, 1) := by decide +kernel
theorem dX3_foldBoats_3 : decode cX3_foldBoats 3 = .ok (.istore 5, 2) := by decide +kernel
theorem dX3_foldBoats_5 : decode cX3_foldBoats 5 = .ok (.iload 5, 2) := by decide +kernel
theorem dX3_foldBoats_7 : decode cX3_foldBoats 7 = .ok (.iconst 1, 1) := by decide +kernel
theorem dX3_foldBoats_8 : decode cX3_foldBoats 8 = .ok (.if_icmp .gt 45, 3) := by decide +kernel
theorem dX3_foldBoats_11 : decode cX3_foldBoats 11 = .ok (.lload_n 3, 1) := by decide +kernel
theorem dX3_foldBoats_12 : decode cX3_foldBoats 12 = .ok (.aload_n 0, 1) := by decide +kernel
theorem dX3_foldBoats_13 : decode cX3_foldBoats 13 = .ok (.iload 5, 2) := by decide +kernel
theorem dX3_foldBoats_15 : decode cX3_foldBoats 15 = .ok (.iconst (-1), 1) := by decide +kernel
theorem dX3_foldBoats_16 : decode cX3_foldBoats 16 = .ok (.invokevirtual 262, 3) := by decide +kernel
theorem dX3_foldBoats_19 : decode cX3_foldBoats 19 = .ok (.invokestatic 237, 3) := by decide +kernel
theorem dX3_foldBoats_22 : decode cX3_foldBoats 22 = .ok (.lstore_n 3, 1) := by decide +kernel
theorem dX3_foldBoats_23 : decode cX3_foldBoats 23 = .ok (.lload_n 3, 1) := by decide +kernel
theorem dX3_foldBoats_24 : decode cX3_foldBoats 24 = .ok (.aload_n 0, 1) := by decide +kernel
theorem dX3_foldBoats_25 : decode cX3_foldBoats 25 = .ok (.iload 5, 2) := by decide +kernel
theorem dX3_foldBoats_27 : decode cX3_foldBoats 27 = .ok (.iconst 0, 1) := by decide +kernel
theorem dX3_foldBoats_28 : decode cX3_foldBoats 28 = .ok (.invokevirtual 262, 3) := by decide +kernel
theorem dX3_foldBoats_31 : decode cX3_foldBoats 31 = .ok (.invokestatic 237, 3) := by decide +kernel
theorem dX3_foldBoats_34 : decode cX3_foldBoats 34 = .ok (.lstore_n 3, 1) := by decide +kernel
theorem dX3_foldBoats_35 : decode cX3_foldBoats 35 = .ok (.lload_n 3, 1) := by decide +kernel
theorem dX3_foldBoats_36 : decode cX3_foldBoats 36 = .ok (.aload_n 0, 1) := by decide +kernel
theorem dX3_foldBoats_37 : decode cX3_foldBoats 37 = .ok (.iload 5, 2) := by decide +kernel
theorem dX3_foldBoats_39 : decode cX3_foldBoats 39 = .ok (.iconst 3, 1) := by decide +kernel
theorem dX3_foldBoats_40 : decode cX3_foldBoats 40 = .ok (.invokevirtual 262, 3) := by decide +kernel
theorem dX3_foldBoats_43 : decode cX3_foldBoats 43 = .ok (.invokestatic 237, 3) := by decide +kernel
theorem dX3_foldBoats_46 : decode cX3_foldBoats 46 = .ok (.lstore_n 3, 1) := by decide +kernel
theorem dX3_foldBoats_47 : decode cX3_foldBoats 47 = .ok (.iinc 5 1, 3) := by decide +kernel
theorem dX3_foldBoats_50 : decode cX3_foldBoats 50 = .ok (.goto (-45), 3) := by decide +kernel
theorem dX3_foldBoats_53 : decode cX3_foldBoats 53 = .ok (.lload_n 3, 1) := by decide +kernel
theorem dX3_foldBoats_54 : decode cX3_foldBoats 54 = .ok (.aload_n 0, 1) := by decide +kernel
theorem dX3_foldBoats_55 : decode cX3_foldBoats 55 = .ok (.iconst 0, 1) := by decide +kernel
theorem dX3_foldBoats_56 : decode cX3_foldBoats 56 = .ok (.invokevirtual 265, 3) := by decide +kernel
theorem dX3_foldBoats_59 : decode cX3_foldBoats 59 = .ok (.invokestatic 237, 3) := by decide +kernel
theorem dX3_foldBoats_62 : decode cX3_foldBoats 62 = .ok (.lstore_n 3, 1) := by decide +kernel
theorem dX3_foldBoats_63 : decode cX3_foldBoats 63 = .ok (.lload_n 3, 1) := by decide +kernel
theorem dX3_foldBoats_64 : decode cX3_foldBoats 64 = .ok (.aload_n 0, 1) := by decide +kernel
theorem dX3_foldBoats_65 : decode cX3_foldBoats 65 = .ok (.iconst 1, 1) := by decide +kernel
theorem dX3_foldBoats_66 : decode cX3_foldBoats 66 = .ok (.invokevirtual 265, 3) := by decide +kernel
theorem dX3_foldBoats_69 : decode cX3_foldBoats 69 = .ok (.invokestatic 237, 3) := by decide +kernel
theorem dX3_foldBoats_72 : decode cX3_foldBoats 72 = .ok (.lreturn, 1) := by decide +kernel
set_option maxRecDepth 20000 in
theorem ggX3_foldTurns_X3_ledger : GoodIn wsX3_foldTurns wsX3_ledger := goodIn_r _ [6, 1, 7, 28, 29, 30, 31, 32, 33, 34, 35, 36, 37, 38, 39, 40] (by decide +kernel) (by decide +kernel)
set_option maxRecDepth 20000 in
theorem gX3_foldTurns_X3_ledger : GoodIn wsX3_foldTurns (wsV RX3 268 RX3 yX3_ledger wsX3_ledger) := goodIn_app (goodIn_of _ (by decide +kernel)) ggX3_foldTurns_X3_ledger
set_option maxRecDepth 20000 in
theorem ggX3_foldTurns_X3_fold : GoodIn wsX3_foldTurns wsX3_fold := goodIn_r _ [10, 11] (by decide +kernel) (by decide +kernel)
set_option maxRecDepth 20000 in
theorem gX3_foldTurns_X3_fold : GoodIn wsX3_foldTurns (va_wsS RX3 237 yX3_fold wsX3_fold) := goodIn_app (goodIn_of _ (by decide +kernel)) ggX3_foldTurns_X3_fold
set_option maxRecDepth 20000 in
theorem ggX3_foldTurns_X3_total : GoodIn wsX3_foldTurns wsX3_total := goodIn_r _ [15, 16, 17, 18, 19, 20, 21, 22, 23, 24, 25, 26, 27, 28, 29, 30, 31, 32, 33, 34, 35, 36, 37, 38, 39, 40, 41, 42, 43, 44, 45, 46, 47, 48, 49, 50, 51, 52, 53, 54] (by decide +kernel) (by decide +kernel)
set_option maxRecDepth 20000 in
theorem gX3_foldTurns_X3_total : GoodIn wsX3_foldTurns (wsV RX3 271 RX3 yX3_total wsX3_total) := goodIn_app (goodIn_of _ (by decide +kernel)) ggX3_foldTurns_X3_total
theorem dX3_foldTurns_0 : decode cX3_foldTurns 0 = .ok (.lload_n 1, 1) := by decide +kernel
theorem dX3_foldTurns_1 : decode cX3_foldTurns 1 = .ok (.lstore_n 3, 1) := by decide +kernel
theorem dX3_foldTurns_2 : decode cX3_foldTurns 2 = .ok (.iconst 0, 1) := by decide +kernel
theorem dX3_foldTurns_3 : decode cX3_foldTurns 3 = .ok (.istore 5, 2) := by decide +kernel
theorem dX3_foldTurns_5 : decode cX3_foldTurns 5 = .ok (.iload 5, 2) := by decide +kernel
theorem dX3_foldTurns_7 : decode cX3_foldTurns 7 = .ok (.aload_n 0, 1) := by decide +kernel
theorem dX3_foldTurns_8 : decode cX3_foldTurns 8 = .ok (.getfield 131, 3) := by decide +kernel
theorem dX3_foldTurns_11 : decode cX3_foldTurns 11 = .ok (.if_icmp .ge 38, 3) := by decide +kernel
theorem dX3_foldTurns_14 : decode cX3_foldTurns 14 = .ok (.iconst 0, 1) := by decide +kernel
theorem dX3_foldTurns_15 : decode cX3_foldTurns 15 = .ok (.istore 6, 2) := by decide +kernel
theorem dX3_foldTurns_17 : decode cX3_foldTurns 17 = .ok (.iload 6, 2) := by decide +kernel
theorem dX3_foldTurns_19 : decode cX3_foldTurns 19 = .ok (.bipush 9, 2) := by decide +kernel
theorem dX3_foldTurns_21 : decode cX3_foldTurns 21 = .ok (.if_icmp .ge 22, 3) := by decide +kernel
theorem dX3_foldTurns_24 : decode cX3_foldTurns 24 = .ok (.lload_n 3, 1) := by decide +kernel
theorem dX3_foldTurns_25 : decode cX3_foldTurns 25 = .ok (.aload_n 0, 1) := by decide +kernel
theorem dX3_foldTurns_26 : decode cX3_foldTurns 26 = .ok (.iload 5, 2) := by decide +kernel
theorem dX3_foldTurns_28 : decode cX3_foldTurns 28 = .ok (.iload 6, 2) := by decide +kernel
theorem dX3_foldTurns_30 : decode cX3_foldTurns 30 = .ok (.invokevirtual 268, 3) := by decide +kernel
theorem dX3_foldTurns_33 : decode cX3_foldTurns 33 = .ok (.invokestatic 237, 3) := by decide +kernel
theorem dX3_foldTurns_36 : decode cX3_foldTurns 36 = .ok (.lstore_n 3, 1) := by decide +kernel
theorem dX3_foldTurns_37 : decode cX3_foldTurns 37 = .ok (.iinc 6 1, 3) := by decide +kernel
theorem dX3_foldTurns_40 : decode cX3_foldTurns 40 = .ok (.goto (-23), 3) := by decide +kernel
theorem dX3_foldTurns_43 : decode cX3_foldTurns 43 = .ok (.iinc 5 1, 3) := by decide +kernel
theorem dX3_foldTurns_46 : decode cX3_foldTurns 46 = .ok (.goto (-41), 3) := by decide +kernel
theorem dX3_foldTurns_49 : decode cX3_foldTurns 49 = .ok (.iconst 0, 1) := by decide +kernel
theorem dX3_foldTurns_50 : decode cX3_foldTurns 50 = .ok (.istore 5, 2) := by decide +kernel
theorem dX3_foldTurns_52 : decode cX3_foldTurns 52 = .ok (.iload 5, 2) := by decide +kernel
theorem dX3_foldTurns_54 : decode cX3_foldTurns 54 = .ok (.iconst 4, 1) := by decide +kernel
theorem dX3_foldTurns_55 : decode cX3_foldTurns 55 = .ok (.if_icmp .gt 20, 3) := by decide +kernel
theorem dX3_foldTurns_58 : decode cX3_foldTurns 58 = .ok (.lload_n 3, 1) := by decide +kernel
theorem dX3_foldTurns_59 : decode cX3_foldTurns 59 = .ok (.aload_n 0, 1) := by decide +kernel
theorem dX3_foldTurns_60 : decode cX3_foldTurns 60 = .ok (.iload 5, 2) := by decide +kernel
theorem dX3_foldTurns_62 : decode cX3_foldTurns 62 = .ok (.invokevirtual 271, 3) := by decide +kernel
theorem dX3_foldTurns_65 : decode cX3_foldTurns 65 = .ok (.invokestatic 237, 3) := by decide +kernel
theorem dX3_foldTurns_68 : decode cX3_foldTurns 68 = .ok (.lstore_n 3, 1) := by decide +kernel
theorem dX3_foldTurns_69 : decode cX3_foldTurns 69 = .ok (.iinc 5 1, 3) := by decide +kernel
theorem dX3_foldTurns_72 : decode cX3_foldTurns 72 = .ok (.goto (-20), 3) := by decide +kernel
theorem dX3_foldTurns_75 : decode cX3_foldTurns 75 = .ok (.lload_n 3, 1) := by decide +kernel
theorem dX3_foldTurns_76 : decode cX3_foldTurns 76 = .ok (.lreturn, 1) := by decide +kernel
set_option maxRecDepth 20000 in
theorem ggX3_foldWhatWouldBe_X3_fold : GoodIn wsX3_foldWhatWouldBe wsX3_fold := goodIn_r _ [8, 9] (by decide +kernel) (by decide +kernel)
set_option maxRecDepth 20000 in
theorem gX3_foldWhatWouldBe_X3_fold : GoodIn wsX3_foldWhatWouldBe (va_wsS RX3 237 yX3_fold wsX3_fold) := goodIn_app (goodIn_of _ (by decide +kernel)) ggX3_foldWhatWouldBe_X3_fold
set_option maxRecDepth 20000 in
theorem ggX3_foldWhatWouldBe_X3_tryTurn : GoodIn wsX3_foldWhatWouldBe wsX3_tryTurn := goodIn_r _ [13, 3, 1, 14, 15, 16, 17, 18, 19, 20, 21, 22, 23, 24, 25, 26, 27, 28, 29, 30, 31, 32, 33, 34, 35, 36, 37, 38, 39, 40, 41, 42, 43, 44, 45, 46, 47, 48, 49, 50, 51, 52, 53, 54, 55, 56, 57, 58, 59, 60, 61, 62, 63, 64, 65, 66, 67, 68, 92, 93, 94, 95, 96, 97, 98, 99, 100, 101, 102, 103, 104, 105, 106, 107, 108, 109, 110, 111, 112, 113, 114, 115, 116, 117, 118] (by decide +kernel) (by decide +kernel)
set_option maxRecDepth 20000 in
theorem gX3_foldWhatWouldBe_X3_tryTurn : GoodIn wsX3_foldWhatWouldBe (wsV RX3 171 RX3 yX3_tryTurn wsX3_tryTurn) := goodIn_app (goodIn_of _ (by decide +kernel)) ggX3_foldWhatWouldBe_X3_tryTurn
set_option maxRecDepth 20000 in
theorem ggX3_foldWhatWouldBe_X3_ahead : GoodIn wsX3_foldWhatWouldBe wsX3_ahead := goodIn_r _ [72, 3, 1, 73, 14, 15, 16, 17, 18, 19, 20, 21, 22, 23, 24, 25, 26, 27, 28, 29, 30, 31, 32, 74, 75, 76, 77, 38, 78, 34, 35, 36, 37, 39, 40, 41, 42, 43, 44, 45, 46, 47, 48, 49, 50, 51, 52, 53, 54, 55, 56, 57, 58, 59, 60, 61, 62, 63, 64, 65, 66, 67, 68, 92, 93, 94, 95, 96, 97, 98, 99, 100, 101, 102, 103, 104, 105, 106, 107, 108, 109, 110, 111, 112, 113, 114, 115, 116, 117, 118] (by decide +kernel) (by decide +kernel)
set_option maxRecDepth 20000 in
theorem gX3_foldWhatWouldBe_X3_ahead : GoodIn wsX3_foldWhatWouldBe (wsV RX3 274 RX3 yX3_ahead wsX3_ahead) := goodIn_app (goodIn_of _ (by decide +kernel)) ggX3_foldWhatWouldBe_X3_ahead
set_option maxRecDepth 20000 in
theorem ggX3_foldWhatWouldBe_X3_leastNeeded : GoodIn wsX3_foldWhatWouldBe wsX3_leastNeeded := goodIn_r _ [82, 73, 1, 83, 3, 84, 85, 49, 50, 17, 51, 22, 14, 15, 16, 18, 19, 20, 21, 23, 24, 25, 26, 27, 28, 29, 30, 31, 32, 74, 75, 76, 77, 38, 78, 34, 35, 36, 37, 39, 40, 41, 42, 43, 44, 45, 46, 47, 48, 52, 53, 54, 55, 56, 57, 58, 59, 60, 61, 62, 63, 64, 65, 66, 67, 68, 86, 87, 7, 88, 92, 93, 94, 95, 96, 97, 98, 99, 100, 101, 102, 103, 104, 105, 106, 107, 108, 109, 110, 111, 112, 113, 114, 115, 116, 117, 118] (by decide +kernel) (by decide +kernel)
set_option maxRecDepth 20000 in
theorem gX3_foldWhatWouldBe_X3_leastNeeded : GoodIn wsX3_foldWhatWouldBe (wsV RX3 191 RX3 yX3_leastNeeded wsX3_leastNeeded) := goodIn_app (goodIn_of _ (by decide +kernel)) ggX3_foldWhatWouldBe_X3_leastNeeded
set_option maxRecDepth 20000 in
theorem ggX3_foldWhatWouldBe_X3_partOfChoice : GoodIn wsX3_foldWhatWouldBe wsX3_partOfChoice := goodIn_r _ [91] (by decide +kernel) (by decide +kernel)
set_option maxRecDepth 20000 in
theorem gX3_foldWhatWouldBe_X3_partOfChoice : GoodIn wsX3_foldWhatWouldBe (va_wsS RX3 188 yX3_partOfChoice wsX3_partOfChoice) := goodIn_app (goodIn_of _ (by decide +kernel)) ggX3_foldWhatWouldBe_X3_partOfChoice
theorem dX3_foldWhatWouldBe_0 : decode cX3_foldWhatWouldBe 0 = .ok (.lload_n 1, 1) := by decide +kernel
theorem dX3_foldWhatWouldBe_1 : decode cX3_foldWhatWouldBe 1 = .ok (.aload_n 0, 1) := by decide +kernel
theorem dX3_foldWhatWouldBe_2 : decode cX3_foldWhatWouldBe 2 = .ok (.getfield 10, 3) := by decide +kernel
theorem dX3_foldWhatWouldBe_5 : decode cX3_foldWhatWouldBe 5 = .ok (.getfield 41, 3) := by decide +kernel
theorem dX3_foldWhatWouldBe_8 : decode cX3_foldWhatWouldBe 8 = .ok (.invokestatic 237, 3) := by decide +kernel
theorem dX3_foldWhatWouldBe_11 : decode cX3_foldWhatWouldBe 11 = .ok (.lstore_n 3, 1) := by decide +kernel
theorem dX3_foldWhatWouldBe_12 : decode cX3_foldWhatWouldBe 12 = .ok (.aload_n 0, 1) := by decide +kernel
theorem dX3_foldWhatWouldBe_13 : decode cX3_foldWhatWouldBe 13 = .ok (.invokevirtual 171, 3) := by decide +kernel
theorem dX3_foldWhatWouldBe_16 : decode cX3_foldWhatWouldBe 16 = .ok (.iconst 0, 1) := by decide +kernel
theorem dX3_foldWhatWouldBe_17 : decode cX3_foldWhatWouldBe 17 = .ok (.istore 5, 2) := by decide +kernel
theorem dX3_foldWhatWouldBe_19 : decode cX3_foldWhatWouldBe 19 = .ok (.iload 5, 2) := by decide +kernel
theorem dX3_foldWhatWouldBe_21 : decode cX3_foldWhatWouldBe 21 = .ok (.bipush 40, 2) := by decide +kernel
theorem dX3_foldWhatWouldBe_23 : decode cX3_foldWhatWouldBe 23 = .ok (.if_icmp .gt 40, 3) := by decide +kernel
theorem dX3_foldWhatWouldBe_26 : decode cX3_foldWhatWouldBe 26 = .ok (.lload_n 3, 1) := by decide +kernel
theorem dX3_foldWhatWouldBe_27 : decode cX3_foldWhatWouldBe 27 = .ok (.iload 5, 2) := by decide +kernel
theorem dX3_foldWhatWouldBe_29 : decode cX3_foldWhatWouldBe 29 = .ok (.aload_n 0, 1) := by decide +kernel
theorem dX3_foldWhatWouldBe_30 : decode cX3_foldWhatWouldBe 30 = .ok (.getfield 10, 3) := by decide +kernel
theorem dX3_foldWhatWouldBe_33 : decode cX3_foldWhatWouldBe 33 = .ok (.getfield 41, 3) := by decide +kernel
theorem dX3_foldWhatWouldBe_36 : decode cX3_foldWhatWouldBe 36 = .ok (.if_icmp .ge 16, 3) := by decide +kernel
theorem dX3_foldWhatWouldBe_39 : decode cX3_foldWhatWouldBe 39 = .ok (.aload_n 0, 1) := by decide +kernel
theorem dX3_foldWhatWouldBe_40 : decode cX3_foldWhatWouldBe 40 = .ok (.getfield 16, 3) := by decide +kernel
theorem dX3_foldWhatWouldBe_43 : decode cX3_foldWhatWouldBe 43 = .ok (.getfield 174, 3) := by decide +kernel
theorem dX3_foldWhatWouldBe_46 : decode cX3_foldWhatWouldBe 46 = .ok (.iload 5, 2) := by decide +kernel
theorem dX3_foldWhatWouldBe_48 : decode cX3_foldWhatWouldBe 48 = .ok (.iaload, 1) := by decide +kernel
theorem dX3_foldWhatWouldBe_49 : decode cX3_foldWhatWouldBe 49 = .ok (.goto 4, 3) := by decide +kernel
theorem dX3_foldWhatWouldBe_52 : decode cX3_foldWhatWouldBe 52 = .ok (.iconst (-1), 1) := by decide +kernel
theorem dX3_foldWhatWouldBe_53 : decode cX3_foldWhatWouldBe 53 = .ok (.invokestatic 237, 3) := by decide +kernel
theorem dX3_foldWhatWouldBe_56 : decode cX3_foldWhatWouldBe 56 = .ok (.lstore_n 3, 1) := by decide +kernel
theorem dX3_foldWhatWouldBe_57 : decode cX3_foldWhatWouldBe 57 = .ok (.iinc 5 1, 3) := by decide +kernel
theorem dX3_foldWhatWouldBe_60 : decode cX3_foldWhatWouldBe 60 = .ok (.goto (-41), 3) := by decide +kernel
theorem dX3_foldWhatWouldBe_63 : decode cX3_foldWhatWouldBe 63 = .ok (.lload_n 3, 1) := by decide +kernel
theorem dX3_foldWhatWouldBe_64 : decode cX3_foldWhatWouldBe 64 = .ok (.aload_n 0, 1) := by decide +kernel
theorem dX3_foldWhatWouldBe_65 : decode cX3_foldWhatWouldBe 65 = .ok (.iconst 1, 1) := by decide +kernel
theorem dX3_foldWhatWouldBe_66 : decode cX3_foldWhatWouldBe 66 = .ok (.invokevirtual 274, 3) := by decide +kernel
theorem dX3_foldWhatWouldBe_69 : decode cX3_foldWhatWouldBe 69 = .ok (.invokestatic 237, 3) := by decide +kernel
theorem dX3_foldWhatWouldBe_72 : decode cX3_foldWhatWouldBe 72 = .ok (.lstore_n 3, 1) := by decide +kernel
theorem dX3_foldWhatWouldBe_73 : decode cX3_foldWhatWouldBe 73 = .ok (.lload_n 3, 1) := by decide +kernel
theorem dX3_foldWhatWouldBe_74 : decode cX3_foldWhatWouldBe 74 = .ok (.aload_n 0, 1) := by decide +kernel
theorem dX3_foldWhatWouldBe_75 : decode cX3_foldWhatWouldBe 75 = .ok (.iconst 2, 1) := by decide +kernel
theorem dX3_foldWhatWouldBe_76 : decode cX3_foldWhatWouldBe 76 = .ok (.invokevirtual 274, 3) := by decide +kernel
theorem dX3_foldWhatWouldBe_79 : decode cX3_foldWhatWouldBe 79 = .ok (.invokestatic 237, 3) := by decide +kernel
theorem dX3_foldWhatWouldBe_82 : decode cX3_foldWhatWouldBe 82 = .ok (.lstore_n 3, 1) := by decide +kernel
theorem dX3_foldWhatWouldBe_83 : decode cX3_foldWhatWouldBe 83 = .ok (.lload_n 3, 1) := by decide +kernel
theorem dX3_foldWhatWouldBe_84 : decode cX3_foldWhatWouldBe 84 = .ok (.aload_n 0, 1) := by decide +kernel
theorem dX3_foldWhatWouldBe_85 : decode cX3_foldWhatWouldBe 85 = .ok (.bipush 10, 2) := by decide +kernel
theorem dX3_foldWhatWouldBe_87 : decode cX3_foldWhatWouldBe 87 = .ok (.invokevirtual 274, 3) := by decide +kernel
theorem dX3_foldWhatWouldBe_90 : decode cX3_foldWhatWouldBe 90 = .ok (.invokestatic 237, 3) := by decide +kernel
theorem dX3_foldWhatWouldBe_93 : decode cX3_foldWhatWouldBe 93 = .ok (.lstore_n 3, 1) := by decide +kernel
theorem dX3_foldWhatWouldBe_94 : decode cX3_foldWhatWouldBe 94 = .ok (.aload_n 0, 1) := by decide +kernel
theorem dX3_foldWhatWouldBe_95 : decode cX3_foldWhatWouldBe 95 = .ok (.invokevirtual 191, 3) := by decide +kernel
theorem dX3_foldWhatWouldBe_98 : decode cX3_foldWhatWouldBe 98 = .ok (.istore 5, 2) := by decide +kernel
theorem dX3_foldWhatWouldBe_100 : decode cX3_foldWhatWouldBe 100 = .ok (.lload_n 3, 1) := by decide +kernel
theorem dX3_foldWhatWouldBe_101 : decode cX3_foldWhatWouldBe 101 = .ok (.iload 5, 2) := by decide +kernel
theorem dX3_foldWhatWouldBe_103 : decode cX3_foldWhatWouldBe 103 = .ok (.iconst 0, 1) := by decide +kernel
theorem dX3_foldWhatWouldBe_104 : decode cX3_foldWhatWouldBe 104 = .ok (.invokestatic 188, 3) := by decide +kernel
theorem dX3_foldWhatWouldBe_107 : decode cX3_foldWhatWouldBe 107 = .ok (.invokestatic 237, 3) := by decide +kernel
theorem dX3_foldWhatWouldBe_110 : decode cX3_foldWhatWouldBe 110 = .ok (.lstore_n 3, 1) := by decide +kernel
theorem dX3_foldWhatWouldBe_111 : decode cX3_foldWhatWouldBe 111 = .ok (.lload_n 3, 1) := by decide +kernel
theorem dX3_foldWhatWouldBe_112 : decode cX3_foldWhatWouldBe 112 = .ok (.iload 5, 2) := by decide +kernel
theorem dX3_foldWhatWouldBe_114 : decode cX3_foldWhatWouldBe 114 = .ok (.iconst 1, 1) := by decide +kernel
theorem dX3_foldWhatWouldBe_115 : decode cX3_foldWhatWouldBe 115 = .ok (.invokestatic 188, 3) := by decide +kernel
theorem dX3_foldWhatWouldBe_118 : decode cX3_foldWhatWouldBe 118 = .ok (.invokestatic 237, 3) := by decide +kernel
theorem dX3_foldWhatWouldBe_121 : decode cX3_foldWhatWouldBe 121 = .ok (.lreturn, 1) := by decide +kernel
theorem dX3_isSheet_0 : decode cX3_isSheet 0 = .ok (.iload_n 0, 1) := by decide +kernel
theorem dX3_isSheet_1 : decode cX3_isSheet 1 = .ok (.ifCond .lt 12, 3) := by decide +kernel
theorem dX3_isSheet_4 : decode cX3_isSheet 4 = .ok (.iload_n 0, 1) := by decide +kernel
theorem dX3_isSheet_5 : decode cX3_isSheet 5 = .ok (.iconst 4, 1) := by decide +kernel
theorem dX3_isSheet_6 : decode cX3_isSheet 6 = .ok (.if_icmp .ge 7, 3) := by decide +kernel
theorem dX3_isSheet_9 : decode cX3_isSheet 9 = .ok (.iconst 1, 1) := by decide +kernel
theorem dX3_isSheet_10 : decode cX3_isSheet 10 = .ok (.goto 4, 3) := by decide +kernel
theorem dX3_isSheet_13 : decode cX3_isSheet 13 = .ok (.iconst 0, 1) := by decide +kernel
theorem dX3_isSheet_14 : decode cX3_isSheet 14 = .ok (.ireturn, 1) := by decide +kernel
theorem dX3_isForm_0 : decode cX3_isForm 0 = .ok (.iload_n 0, 1) := by decide +kernel
theorem dX3_isForm_1 : decode cX3_isForm 1 = .ok (.ifCond .lt 12, 3) := by decide +kernel
theorem dX3_isForm_4 : decode cX3_isForm 4 = .ok (.iload_n 0, 1) := by decide +kernel
theorem dX3_isForm_5 : decode cX3_isForm 5 = .ok (.iconst 3, 1) := by decide +kernel
theorem dX3_isForm_6 : decode cX3_isForm 6 = .ok (.if_icmp .ge 7, 3) := by decide +kernel
theorem dX3_isForm_9 : decode cX3_isForm 9 = .ok (.iconst 1, 1) := by decide +kernel
theorem dX3_isForm_10 : decode cX3_isForm 10 = .ok (.goto 4, 3) := by decide +kernel
theorem dX3_isForm_13 : decode cX3_isForm 13 = .ok (.iconst 0, 1) := by decide +kernel
theorem dX3_isForm_14 : decode cX3_isForm 14 = .ok (.ireturn, 1) := by decide +kernel
theorem dX3_found_0 : decode cX3_found 0 = .ok (.aload_n 0, 1) := by decide +kernel
theorem dX3_found_1 : decode cX3_found 1 = .ok (.iload_n 1, 1) := by decide +kernel
theorem dX3_found_2 : decode cX3_found 2 = .ok (.putfield 229, 3) := by decide +kernel
theorem dX3_found_5 : decode cX3_found 5 = .ok (.bipush (-10), 2) := by decide +kernel
theorem dX3_found_7 : decode cX3_found 7 = .ok (.iload_n 1, 1) := by decide +kernel
theorem dX3_found_8 : decode cX3_found 8 = .ok (.isub, 1) := by decide +kernel
theorem dX3_found_9 : decode cX3_found 9 = .ok (.ireturn, 1) := by decide +kernel
theorem dX4_init_0 : decode cX4_init 0 = .ok (.aload_n 0, 1) := by decide +kernel
theorem dX4_init_1 : decode cX4_init 1 = .ok (.invokespecial 1, 3) := by decide +kernel
theorem dX4_init_4 : decode cX4_init 4 = .ok (.aload_n 0, 1) := by decide +kernel
theorem dX4_init_5 : decode cX4_init 5 = .ok (.iconst 4, 1) := by decide +kernel
theorem dX4_init_6 : decode cX4_init 6 = .ok (.newarray .int, 2) := by decide +kernel
theorem dX4_init_8 : decode cX4_init 8 = .ok (.putfield 7, 3) := by decide +kernel
theorem dX4_init_11 : decode cX4_init 11 = .ok (.aload_n 0, 1) := by decide +kernel
theorem dX4_init_12 : decode cX4_init 12 = .ok (.iconst 4, 1) := by decide +kernel
theorem dX4_init_13 : decode cX4_init 13 = .ok (.newarray .int, 2) := by decide +kernel
theorem dX4_init_15 : decode cX4_init 15 = .ok (.putfield 13, 3) := by decide +kernel
theorem dX4_init_18 : decode cX4_init 18 = .ok (.aload_n 0, 1) := by decide +kernel
theorem dX4_init_19 : decode cX4_init 19 = .ok (.sipush 240, 3) := by decide +kernel
theorem dX4_init_22 : decode cX4_init 22 = .ok (.newarray .int, 2) := by decide +kernel
theorem dX4_init_24 : decode cX4_init 24 = .ok (.putfield 16, 3) := by decide +kernel
theorem dX4_init_27 : decode cX4_init 27 = .ok (.aload_n 0, 1) := by decide +kernel
theorem dX4_init_28 : decode cX4_init 28 = .ok (.bipush 60, 2) := by decide +kernel
theorem dX4_init_30 : decode cX4_init 30 = .ok (.newarray .int, 2) := by decide +kernel
theorem dX4_init_32 : decode cX4_init 32 = .ok (.putfield 19, 3) := by decide +kernel
theorem dX4_init_35 : decode cX4_init 35 = .ok (.aload_n 0, 1) := by decide +kernel
theorem dX4_init_36 : decode cX4_init 36 = .ok (.iconst 4, 1) := by decide +kernel
theorem dX4_init_37 : decode cX4_init 37 = .ok (.newarray .int, 2) := by decide +kernel
theorem dX4_init_39 : decode cX4_init 39 = .ok (.putfield 22, 3) := by decide +kernel
theorem dX4_init_42 : decode cX4_init 42 = .ok (.aload_n 0, 1) := by decide +kernel
theorem dX4_init_43 : decode cX4_init 43 = .ok (.iconst 4, 1) := by decide +kernel
theorem dX4_init_44 : decode cX4_init 44 = .ok (.newarray .int, 2) := by decide +kernel
theorem dX4_init_46 : decode cX4_init 46 = .ok (.putfield 25, 3) := by decide +kernel
theorem dX4_init_49 : decode cX4_init 49 = .ok (.aload_n 0, 1) := by decide +kernel
theorem dX4_init_50 : decode cX4_init 50 = .ok (.iconst 4, 1) := by decide +kernel
theorem dX4_init_51 : decode cX4_init 51 = .ok (.newarray .int, 2) := by decide +kernel
theorem dX4_init_53 : decode cX4_init 53 = .ok (.putfield 28, 3) := by decide +kernel
theorem dX4_init_56 : decode cX4_init 56 = .ok (.aload_n 0, 1) := by decide +kernel
theorem dX4_init_57 : decode cX4_init 57 = .ok (.iconst 4, 1) := by decide +kernel
theorem dX4_init_58 : decode cX4_init 58 = .ok (.newarray .int, 2) := by decide +kernel
theorem dX4_init_60 : decode cX4_init 60 = .ok (.putfield 31, 3) := by decide +kernel
theorem dX4_init_63 : decode cX4_init 63 = .ok (.aload_n 0, 1) := by decide +kernel
theorem dX4_init_64 : decode cX4_init 64 = .ok (.iconst 4, 1) := by decide +kernel
theorem dX4_init_65 : decode cX4_init 65 = .ok (.newarray .int, 2) := by decide +kernel
theorem dX4_init_67 : decode cX4_init 67 = .ok (.putfield 34, 3) := by decide +kernel
theorem dX4_init_70 : decode cX4_init 70 = .ok (.aload_n 0, 1) := by decide +kernel
theorem dX4_init_71 : decode cX4_init 71 = .ok (.bipush 100, 2) := by decide +kernel
theorem dX4_init_73 : decode cX4_init 73 = .ok (.newarray .int, 2) := by decide +kernel
theorem dX4_init_75 : decode cX4_init 75 = .ok (.putfield 37, 3) := by decide +kernel
theorem dX4_init_78 : decode cX4_init 78 = .ok (.aload_n 0, 1) := by decide +kernel
theorem dX4_init_79 : decode cX4_init 79 = .ok (.bipush 100, 2) := by decide +kernel
theorem dX4_init_81 : decode cX4_init 81 = .ok (.newarray .boolean, 2) := by decide +kernel
theorem dX4_init_83 : decode cX4_init 83 = .ok (.putfield 40, 3) := by decide +kernel
theorem dX4_init_86 : decode cX4_init 86 = .ok (.aload_n 0, 1) := by decide +kernel
theorem dX4_init_87 : decode cX4_init 87 = .ok (.bipush 60, 2) := by decide +kernel
theorem dX4_init_89 : decode cX4_init 89 = .ok (.newarray .int, 2) := by decide +kernel
theorem dX4_init_91 : decode cX4_init 91 = .ok (.putfield 44, 3) := by decide +kernel
theorem dX4_init_94 : decode cX4_init 94 = .ok (.aload_n 0, 1) := by decide +kernel
theorem dX4_init_95 : decode cX4_init 95 = .ok (.iconst 4, 1) := by decide +kernel
theorem dX4_init_96 : decode cX4_init 96 = .ok (.newarray .int, 2) := by decide +kernel
theorem dX4_init_98 : decode cX4_init 98 = .ok (.putfield 47, 3) := by decide +kernel
theorem dX4_init_101 : decode cX4_init 101 = .ok (.aload_n 0, 1) := by decide +kernel
theorem dX4_init_102 : decode cX4_init 102 = .ok (.iconst 4, 1) := by decide +kernel
theorem dX4_init_103 : decode cX4_init 103 = .ok (.newarray .int, 2) := by decide +kernel
theorem dX4_init_105 : decode cX4_init 105 = .ok (.putfield 50, 3) := by decide +kernel
theorem dX4_init_108 : decode cX4_init 108 = .ok (.aload_n 0, 1) := by decide +kernel
theorem dX4_init_109 : decode cX4_init 109 = .ok (.sipush 540, 3) := by decide +kernel
theorem dX4_init_112 : decode cX4_init 112 = .ok (.newarray .int, 2) := by decide +kernel
theorem dX4_init_114 : decode cX4_init 114 = .ok (.putfield 53, 3) := by decide +kernel
theorem dX4_init_117 : decode cX4_init 117 = .ok (.iconst 0, 1) := by decide +kernel
theorem dX4_init_118 : decode cX4_init 118 = .ok (.istore_n 1, 1) := by decide +kernel
theorem dX4_init_119 : decode cX4_init 119 = .ok (.iload_n 1, 1) := by decide +kernel
theorem dX4_init_120 : decode cX4_init 120 = .ok (.iconst 4, 1) := by decide +kernel
theorem dX4_init_121 : decode cX4_init 121 = .ok (.if_icmp .ge 16, 3) := by decide +kernel
theorem dX4_init_124 : decode cX4_init 124 = .ok (.aload_n 0, 1) := by decide +kernel
theorem dX4_init_125 : decode cX4_init 125 = .ok (.getfield 7, 3) := by decide +kernel
theorem dX4_init_128 : decode cX4_init 128 = .ok (.iload_n 1, 1) := by decide +kernel
theorem dX4_init_129 : decode cX4_init 129 = .ok (.iconst (-1), 1) := by decide +kernel
theorem dX4_init_130 : decode cX4_init 130 = .ok (.iastore, 1) := by decide +kernel
theorem dX4_init_131 : decode cX4_init 131 = .ok (.iinc 1 1, 3) := by decide +kernel
theorem dX4_init_134 : decode cX4_init 134 = .ok (.goto (-15), 3) := by decide +kernel
theorem dX4_init_137 : decode cX4_init 137 = .ok (.aload_n 0, 1) := by decide +kernel
theorem dX4_init_138 : decode cX4_init 138 = .ok (.bipush 30, 2) := by decide +kernel
theorem dX4_init_140 : decode cX4_init 140 = .ok (.putfield 56, 3) := by decide +kernel
theorem dX4_init_143 : decode cX4_init 143 = .ok (.return_, 1) := by decide +kernel
theorem dX4_in_0 : decode cX4_in 0 = .ok (.lload_n 0, 1) := by decide +kernel
theorem dX4_in_1 : decode cX4_in 1 = .ok (.lload_n 2, 1) := by decide +kernel
theorem dX4_in_2 : decode cX4_in 2 = .ok (.lcmp, 1) := by decide +kernel
theorem dX4_in_3 : decode cX4_in 3 = .ok (.ifCond .lt 14, 3) := by decide +kernel
theorem dX4_in_6 : decode cX4_in 6 = .ok (.lload_n 0, 1) := by decide +kernel
theorem dX4_in_7 : decode cX4_in 7 = .ok (.lload 4, 2) := by decide +kernel
theorem dX4_in_9 : decode cX4_in 9 = .ok (.lcmp, 1) := by decide +kernel
theorem dX4_in_10 : decode cX4_in 10 = .ok (.ifCond .gt 7, 3) := by decide +kernel
theorem dX4_in_13 : decode cX4_in 13 = .ok (.iconst 1, 1) := by decide +kernel
theorem dX4_in_14 : decode cX4_in 14 = .ok (.goto 4, 3) := by decide +kernel
theorem dX4_in_17 : decode cX4_in 17 = .ok (.iconst 0, 1) := by decide +kernel
theorem dX4_in_18 : decode cX4_in 18 = .ok (.ireturn, 1) := by decide +kernel
set_option maxRecDepth 20000 in
theorem ggX4_isTwo_X4_in : GoodIn wsX4_isTwo wsX4_in := goodIn_r _ [4] (by decide +kernel) (by decide +kernel)
set_option maxRecDepth 20000 in
theorem gX4_isTwo_X4_in : GoodIn wsX4_isTwo (va_wsS RX4 60 yX4_in wsX4_in) := goodIn_app (goodIn_of _ (by decide +kernel)) ggX4_isTwo_X4_in
theorem dX4_isTwo_0 : decode cX4_isTwo 0 = .ok (.iload_n 0, 1) := by decide +kernel
theorem dX4_isTwo_1 : decode cX4_isTwo 1 = .ok (.i2l, 1) := by decide +kernel
theorem dX4_isTwo_2 : decode cX4_isTwo 2 = .ok (.lconst 0, 1) := by decide +kernel
theorem dX4_isTwo_3 : decode cX4_isTwo 3 = .ok (.lconst 1, 1) := by decide +kernel
theorem dX4_isTwo_4 : decode cX4_isTwo 4 = .ok (.invokestatic 60, 3) := by decide +kernel
theorem dX4_isTwo_7 : decode cX4_isTwo 7 = .ok (.ireturn, 1) := by decide +kernel
theorem dX4_isIn_0 : decode cX4_isIn 0 = .ok (.iload_n 0, 1) := by decide +kernel
theorem dX4_isIn_1 : decode cX4_isIn 1 = .ok (.iload_n 1, 1) := by decide +kernel
theorem dX4_isIn_2 : decode cX4_isIn 2 = .ok (.ishr, 1) := by decide +kernel
theorem dX4_isIn_3 : decode cX4_isIn 3 = .ok (.iconst 1, 1) := by decide +kernel
theorem dX4_isIn_4 : decode cX4_isIn 4 = .ok (.iand, 1) := by decide +kernel
theorem dX4_isIn_5 : decode cX4_isIn 5 = .ok (.iconst 1, 1) := by decide +kernel
theorem dX4_isIn_6 : decode cX4_isIn 6 = .ok (.if_icmp .ne 7, 3) := by decide +kernel
theorem dX4_isIn_9 : decode cX4_isIn 9 = .ok (.iconst 1, 1) := by decide +kernel
theorem dX4_isIn_10 : decode cX4_isIn 10 = .ok (.goto 4, 3) := by decide +kernel
theorem dX4_isIn_13 : decode cX4_isIn 13 = .ok (.iconst 0, 1) := by decide +kernel
theorem dX4_isIn_14 : decode cX4_isIn 14 = .ok (.ireturn, 1) := by decide +kernel
theorem dX4_lesser_0 : decode cX4_lesser 0 = .ok (.iload_n 0, 1) := by decide +kernel
theorem dX4_lesser_1 : decode cX4_lesser 1 = .ok (.iload_n 1, 1) := by decide +kernel
theorem dX4_lesser_2 : decode cX4_lesser 2 = .ok (.if_icmp .ge 7, 3) := by decide +kernel
theorem dX4_lesser_5 : decode cX4_lesser 5 = .ok (.iload_n 0, 1) := by decide +kernel
theorem dX4_lesser_6 : decode cX4_lesser 6 = .ok (.goto 4, 3) := by decide +kernel
theorem dX4_lesser_9 : decode cX4_lesser 9 = .ok (.iload_n 1, 1) := by decide +kernel
theorem dX4_lesser_10 : decode cX4_lesser 10 = .ok (.ireturn, 1) := by decide +kernel
theorem dX4_greater_0 : decode cX4_greater 0 = .ok (.iload_n 0, 1) := by decide +kernel
theorem dX4_greater_1 : decode cX4_greater 1 = .ok (.iload_n 1, 1) := by decide +kernel
theorem dX4_greater_2 : decode cX4_greater 2 = .ok (.if_icmp .le 7, 3) := by decide +kernel
theorem dX4_greater_5 : decode cX4_greater 5 = .ok (.iload_n 0, 1) := by decide +kernel
theorem dX4_greater_6 : decode cX4_greater 6 = .ok (.goto 4, 3) := by decide +kernel
theorem dX4_greater_9 : decode cX4_greater 9 = .ok (.iload_n 1, 1) := by decide +kernel
theorem dX4_greater_10 : decode cX4_greater 10 = .ok (.ireturn, 1) := by decide +kernel
theorem dX4_finds_0 : decode cX4_finds 0 = .ok (.aload_n 0, 1) := by decide +kernel
theorem dX4_finds_1 : decode cX4_finds 1 = .ok (.iload_n 1, 1) := by decide +kernel
theorem dX4_finds_2 : decode cX4_finds 2 = .ok (.putfield 64, 3) := by decide +kernel
theorem dX4_finds_5 : decode cX4_finds 5 = .ok (.bipush (-10), 2) := by decide +kernel
theorem dX4_finds_7 : decode cX4_finds 7 = .ok (.iload_n 1, 1) := by decide +kernel
theorem dX4_finds_8 : decode cX4_finds 8 = .ok (.isub, 1) := by decide +kernel
theorem dX4_finds_9 : decode cX4_finds 9 = .ok (.ireturn, 1) := by decide +kernel
set_option maxRecDepth 20000 in
theorem ggX4_isSheet_X4_in : GoodIn wsX4_isSheet wsX4_in := goodIn_r _ [5] (by decide +kernel) (by decide +kernel)
set_option maxRecDepth 20000 in
theorem gX4_isSheet_X4_in : GoodIn wsX4_isSheet (va_wsS RX4 60 yX4_in wsX4_in) := goodIn_app (goodIn_of _ (by decide +kernel)) ggX4_isSheet_X4_in
theorem dX4_isSheet_0 : decode cX4_isSheet 0 = .ok (.iload_n 0, 1) := by decide +kernel
theorem dX4_isSheet_1 : decode cX4_isSheet 1 = .ok (.i2l, 1) := by decide +kernel
theorem dX4_isSheet_2 : decode cX4_isSheet 2 = .ok (.lconst 0, 1) := by decide +kernel
theorem dX4_isSheet_3 : decode cX4_isSheet 3 = .ok (.ldc2_w 67, 3) := by decide +kernel
theorem dX4_isSheet_6 : decode cX4_isSheet 6 = .ok (.invokestatic 60, 3) := by decide +kernel
theorem dX4_isSheet_9 : decode cX4_isSheet 9 = .ok (.ireturn, 1) := by decide +kernel
set_option maxRecDepth 20000 in
theorem ggX4_sheet_X4_isSheet : GoodIn wsX4_sheet wsX4_isSheet := goodIn_r _ [8, 9, 10, 11, 7, 12] (by decide +kernel) (by decide +kernel)
set_option maxRecDepth 20000 in
theorem gX4_sheet_X4_isSheet : GoodIn wsX4_sheet (va_wsS RX4 69 yX4_isSheet wsX4_isSheet) := goodIn_app (goodIn_of _ (by decide +kernel)) ggX4_sheet_X4_isSheet
set_option maxRecDepth 20000 in
theorem ggX4_sheet_X4_in : GoodIn wsX4_sheet wsX4_in := goodIn_r _ [12] (by decide +kernel) (by decide +kernel)
set_option maxRecDepth 20000 in
theorem gX4_sheet_X4_in : GoodIn wsX4_sheet (va_wsS RX4 60 yX4_in wsX4_in) := goodIn_app (goodIn_of _ (by decide +kernel)) ggX4_sheet_X4_in
set_option maxRecDepth 20000 in
theorem ggX4_sheet_X4_finds : GoodIn wsX4_sheet wsX4_finds := goodIn_r _ [16, 17, 18, 19, 20, 21, 22, 23, 24, 25, 26, 27, 28, 29, 30, 31, 32, 33, 34, 35, 36, 37, 38, 39, 40, 41, 42, 43, 44, 45, 46, 47] (by decide +kernel) (by decide +kernel)
set_option maxRecDepth 20000 in
theorem gX4_sheet_X4_finds : GoodIn wsX4_sheet (wsV RX4 75 RX4 yX4_finds wsX4_finds) := goodIn_app (goodIn_of _ (by decide +kernel)) ggX4_sheet_X4_finds
theorem dX4_sheet_0 : decode cX4_sheet 0 = .ok (.iload_n 1, 1) := by decide +kernel
theorem dX4_sheet_1 : decode cX4_sheet 1 = .ok (.invokestatic 69, 3) := by decide +kernel
theorem dX4_sheet_4 : decode cX4_sheet 4 = .ok (.ifCond .eq 21, 3) := by decide +kernel
theorem dX4_sheet_7 : decode cX4_sheet 7 = .ok (.iload_n 2, 1) := by decide +kernel
theorem dX4_sheet_8 : decode cX4_sheet 8 = .ok (.i2l, 1) := by decide +kernel
theorem dX4_sheet_9 : decode cX4_sheet 9 = .ok (.lconst 0, 1) := by decide +kernel
theorem dX4_sheet_10 : decode cX4_sheet 10 = .ok (.ldc2_w 73, 3) := by decide +kernel
theorem dX4_sheet_13 : decode cX4_sheet 13 = .ok (.invokestatic 60, 3) := by decide +kernel
theorem dX4_sheet_16 : decode cX4_sheet 16 = .ok (.ifCond .eq 9, 3) := by decide +kernel
theorem dX4_sheet_19 : decode cX4_sheet 19 = .ok (.iload_n 3, 1) := by decide +kernel
theorem dX4_sheet_20 : decode cX4_sheet 20 = .ok (.bipush 60, 2) := by decide +kernel
theorem dX4_sheet_22 : decode cX4_sheet 22 = .ok (.if_icmp .le 6, 3) := by decide +kernel
theorem dX4_sheet_25 : decode cX4_sheet 25 = .ok (.bipush (-2), 2) := by decide +kernel
theorem dX4_sheet_27 : decode cX4_sheet 27 = .ok (.ireturn, 1) := by decide +kernel
theorem dX4_sheet_28 : decode cX4_sheet 28 = .ok (.iload_n 3, 1) := by decide +kernel
theorem dX4_sheet_29 : decode cX4_sheet 29 = .ok (.ifCond .ge 9, 3) := by decide +kernel
theorem dX4_sheet_32 : decode cX4_sheet 32 = .ok (.aload_n 0, 1) := by decide +kernel
theorem dX4_sheet_33 : decode cX4_sheet 33 = .ok (.iconst 5, 1) := by decide +kernel
theorem dX4_sheet_34 : decode cX4_sheet 34 = .ok (.invokevirtual 75, 3) := by decide +kernel
theorem dX4_sheet_37 : decode cX4_sheet 37 = .ok (.ireturn, 1) := by decide +kernel
theorem dX4_sheet_38 : decode cX4_sheet 38 = .ok (.aload_n 0, 1) := by decide +kernel
theorem dX4_sheet_39 : decode cX4_sheet 39 = .ok (.getfield 7, 3) := by decide +kernel
theorem dX4_sheet_42 : decode cX4_sheet 42 = .ok (.iload_n 1, 1) := by decide +kernel
theorem dX4_sheet_43 : decode cX4_sheet 43 = .ok (.iload_n 2, 1) := by decide +kernel
theorem dX4_sheet_44 : decode cX4_sheet 44 = .ok (.iastore, 1) := by decide +kernel
theorem dX4_sheet_45 : decode cX4_sheet 45 = .ok (.aload_n 0, 1) := by decide +kernel
theorem dX4_sheet_46 : decode cX4_sheet 46 = .ok (.getfield 13, 3) := by decide +kernel
theorem dX4_sheet_49 : decode cX4_sheet 49 = .ok (.iload_n 1, 1) := by decide +kernel
theorem dX4_sheet_50 : decode cX4_sheet 50 = .ok (.iload_n 3, 1) := by decide +kernel
theorem dX4_sheet_51 : decode cX4_sheet 51 = .ok (.iastore, 1) := by decide +kernel
theorem dX4_sheet_52 : decode cX4_sheet 52 = .ok (.iconst 0, 1) := by decide +kernel
theorem dX4_sheet_53 : decode cX4_sheet 53 = .ok (.istore 4, 2) := by decide +kernel
theorem dX4_sheet_55 : decode cX4_sheet 55 = .ok (.iload 4, 2) := by decide +kernel
theorem dX4_sheet_57 : decode cX4_sheet 57 = .ok (.iload_n 3, 1) := by decide +kernel
theorem dX4_sheet_58 : decode cX4_sheet 58 = .ok (.if_icmp .ge 22, 3) := by decide +kernel
theorem dX4_sheet_61 : decode cX4_sheet 61 = .ok (.aload_n 0, 1) := by decide +kernel
theorem dX4_sheet_62 : decode cX4_sheet 62 = .ok (.getfield 16, 3) := by decide +kernel
theorem dX4_sheet_65 : decode cX4_sheet 65 = .ok (.bipush 60, 2) := by decide +kernel
theorem dX4_sheet_67 : decode cX4_sheet 67 = .ok (.iload_n 1, 1) := by decide +kernel
theorem dX4_sheet_68 : decode cX4_sheet 68 = .ok (.imul, 1) := by decide +kernel
theorem dX4_sheet_69 : decode cX4_sheet 69 = .ok (.iload 4, 2) := by decide +kernel
theorem dX4_sheet_71 : decode cX4_sheet 71 = .ok (.iadd, 1) := by decide +kernel
theorem dX4_sheet_72 : decode cX4_sheet 72 = .ok (.iconst 0, 1) := by decide +kernel
theorem dX4_sheet_73 : decode cX4_sheet 73 = .ok (.iastore, 1) := by decide +kernel
theorem dX4_sheet_74 : decode cX4_sheet 74 = .ok (.iinc 4 1, 3) := by decide +kernel
theorem dX4_sheet_77 : decode cX4_sheet 77 = .ok (.goto (-22), 3) := by decide +kernel
theorem dX4_sheet_80 : decode cX4_sheet 80 = .ok (.iload_n 3, 1) := by decide +kernel
theorem dX4_sheet_81 : decode cX4_sheet 81 = .ok (.ireturn, 1) := by decide +kernel
set_option maxRecDepth 20000 in
theorem ggX4_lose_X4_isSheet : GoodIn wsX4_lose wsX4_isSheet := goodIn_r _ [6, 7, 8, 9, 5, 10] (by decide +kernel) (by decide +kernel)
set_option maxRecDepth 20000 in
theorem gX4_lose_X4_isSheet : GoodIn wsX4_lose (va_wsS RX4 69 yX4_isSheet wsX4_isSheet) := goodIn_app (goodIn_of _ (by decide +kernel)) ggX4_lose_X4_isSheet
set_option maxRecDepth 20000 in
theorem ggX4_lose_X4_finds : GoodIn wsX4_lose wsX4_finds := goodIn_r _ [14, 15, 16, 17, 18, 19, 20, 21, 22, 23, 24, 25, 26, 27, 28, 29, 30, 31, 32, 33, 34, 35, 36, 37, 38, 39, 40, 41, 42, 43, 44, 45] (by decide +kernel) (by decide +kernel)
set_option maxRecDepth 20000 in
theorem gX4_lose_X4_finds : GoodIn wsX4_lose (wsV RX4 75 RX4 yX4_finds wsX4_finds) := goodIn_app (goodIn_of _ (by decide +kernel)) ggX4_lose_X4_finds
theorem dX4_lose_0 : decode cX4_lose 0 = .ok (.iload_n 1, 1) := by decide +kernel
theorem dX4_lose_1 : decode cX4_lose 1 = .ok (.invokestatic 69, 3) := by decide +kernel
theorem dX4_lose_4 : decode cX4_lose 4 = .ok (.ifCond .ne 6, 3) := by decide +kernel
theorem dX4_lose_7 : decode cX4_lose 7 = .ok (.bipush (-2), 2) := by decide +kernel
theorem dX4_lose_9 : decode cX4_lose 9 = .ok (.ireturn, 1) := by decide +kernel
theorem dX4_lose_10 : decode cX4_lose 10 = .ok (.aload_n 0, 1) := by decide +kernel
theorem dX4_lose_11 : decode cX4_lose 11 = .ok (.getfield 7, 3) := by decide +kernel
theorem dX4_lose_14 : decode cX4_lose 14 = .ok (.iload_n 1, 1) := by decide +kernel
theorem dX4_lose_15 : decode cX4_lose 15 = .ok (.iaload, 1) := by decide +kernel
theorem dX4_lose_16 : decode cX4_lose 16 = .ok (.ifCond .ge 9, 3) := by decide +kernel
theorem dX4_lose_19 : decode cX4_lose 19 = .ok (.aload_n 0, 1) := by decide +kernel
theorem dX4_lose_20 : decode cX4_lose 20 = .ok (.iconst 1, 1) := by decide +kernel
theorem dX4_lose_21 : decode cX4_lose 21 = .ok (.invokevirtual 75, 3) := by decide +kernel
theorem dX4_lose_24 : decode cX4_lose 24 = .ok (.ireturn, 1) := by decide +kernel
theorem dX4_lose_25 : decode cX4_lose 25 = .ok (.aload_n 0, 1) := by decide +kernel
theorem dX4_lose_26 : decode cX4_lose 26 = .ok (.getfield 7, 3) := by decide +kernel
theorem dX4_lose_29 : decode cX4_lose 29 = .ok (.iload_n 1, 1) := by decide +kernel
theorem dX4_lose_30 : decode cX4_lose 30 = .ok (.iconst (-1), 1) := by decide +kernel
theorem dX4_lose_31 : decode cX4_lose 31 = .ok (.iastore, 1) := by decide +kernel
theorem dX4_lose_32 : decode cX4_lose 32 = .ok (.aload_n 0, 1) := by decide +kernel
theorem dX4_lose_33 : decode cX4_lose 33 = .ok (.getfield 13, 3) := by decide +kernel
theorem dX4_lose_36 : decode cX4_lose 36 = .ok (.iload_n 1, 1) := by decide +kernel
theorem dX4_lose_37 : decode cX4_lose 37 = .ok (.iaload, 1) := by decide +kernel
theorem dX4_lose_38 : decode cX4_lose 38 = .ok (.ireturn, 1) := by decide +kernel
set_option maxRecDepth 20000 in
theorem ggX4_lacks_X4_finds : GoodIn wsX4_lacks wsX4_finds := goodIn_r _ [7, 8, 12, 13, 14, 15, 16, 17, 18, 19, 20, 21, 22, 23, 24, 25, 26, 27, 28, 29, 30, 31, 32, 33, 34, 35, 36, 37, 38, 39, 40, 41] (by decide +kernel) (by decide +kernel)
set_option maxRecDepth 20000 in
theorem gX4_lacks_X4_finds : GoodIn wsX4_lacks (wsV RX4 75 RX4 yX4_finds wsX4_finds) := goodIn_app (goodIn_of _ (by decide +kernel)) ggX4_lacks_X4_finds
set_option maxRecDepth 20000 in
theorem ggX4_lacks_X4_in : GoodIn wsX4_lacks wsX4_in := goodIn_r _ [11] (by decide +kernel) (by decide +kernel)
set_option maxRecDepth 20000 in
theorem gX4_lacks_X4_in : GoodIn wsX4_lacks (va_wsS RX4 60 yX4_in wsX4_in) := goodIn_app (goodIn_of _ (by decide +kernel)) ggX4_lacks_X4_in
theorem dX4_lacks_0 : decode cX4_lacks 0 = .ok (.aload_n 0, 1) := by decide +kernel
theorem dX4_lacks_1 : decode cX4_lacks 1 = .ok (.getfield 7, 3) := by decide +kernel
theorem dX4_lacks_4 : decode cX4_lacks 4 = .ok (.iload_n 1, 1) := by decide +kernel
theorem dX4_lacks_5 : decode cX4_lacks 5 = .ok (.iaload, 1) := by decide +kernel
theorem dX4_lacks_6 : decode cX4_lacks 6 = .ok (.ifCond .ge 9, 3) := by decide +kernel
theorem dX4_lacks_9 : decode cX4_lacks 9 = .ok (.aload_n 0, 1) := by decide +kernel
theorem dX4_lacks_10 : decode cX4_lacks 10 = .ok (.iconst 1, 1) := by decide +kernel
theorem dX4_lacks_11 : decode cX4_lacks 11 = .ok (.invokevirtual 75, 3) := by decide +kernel
theorem dX4_lacks_14 : decode cX4_lacks 14 = .ok (.ireturn, 1) := by decide +kernel
theorem dX4_lacks_15 : decode cX4_lacks 15 = .ok (.aload_n 0, 1) := by decide +kernel
theorem dX4_lacks_16 : decode cX4_lacks 16 = .ok (.getfield 7, 3) := by decide +kernel
theorem dX4_lacks_19 : decode cX4_lacks 19 = .ok (.iload_n 1, 1) := by decide +kernel
theorem dX4_lacks_20 : decode cX4_lacks 20 = .ok (.iaload, 1) := by decide +kernel
theorem dX4_lacks_21 : decode cX4_lacks 21 = .ok (.iload_n 2, 1) := by decide +kernel
theorem dX4_lacks_22 : decode cX4_lacks 22 = .ok (.if_icmp .eq 9, 3) := by decide +kernel
theorem dX4_lacks_25 : decode cX4_lacks 25 = .ok (.aload_n 0, 1) := by decide +kernel
theorem dX4_lacks_26 : decode cX4_lacks 26 = .ok (.iconst 3, 1) := by decide +kernel
theorem dX4_lacks_27 : decode cX4_lacks 27 = .ok (.invokevirtual 75, 3) := by decide +kernel
theorem dX4_lacks_30 : decode cX4_lacks 30 = .ok (.ireturn, 1) := by decide +kernel
theorem dX4_lacks_31 : decode cX4_lacks 31 = .ok (.iload_n 3, 1) := by decide +kernel
theorem dX4_lacks_32 : decode cX4_lacks 32 = .ok (.i2l, 1) := by decide +kernel
theorem dX4_lacks_33 : decode cX4_lacks 33 = .ok (.lconst 0, 1) := by decide +kernel
theorem dX4_lacks_34 : decode cX4_lacks 34 = .ok (.aload_n 0, 1) := by decide +kernel
theorem dX4_lacks_35 : decode cX4_lacks 35 = .ok (.getfield 13, 3) := by decide +kernel
theorem dX4_lacks_38 : decode cX4_lacks 38 = .ok (.iload_n 1, 1) := by decide +kernel
theorem dX4_lacks_39 : decode cX4_lacks 39 = .ok (.iaload, 1) := by decide +kernel
theorem dX4_lacks_40 : decode cX4_lacks 40 = .ok (.iconst 1, 1) := by decide +kernel
theorem dX4_lacks_41 : decode cX4_lacks 41 = .ok (.isub, 1) := by decide +kernel
theorem dX4_lacks_42 : decode cX4_lacks 42 = .ok (.i2l, 1) := by decide +kernel
theorem dX4_lacks_43 : decode cX4_lacks 43 = .ok (.invokestatic 60, 3) := by decide +kernel
theorem dX4_lacks_46 : decode cX4_lacks 46 = .ok (.ifCond .eq 7, 3) := by decide +kernel
theorem dX4_lacks_49 : decode cX4_lacks 49 = .ok (.iconst 0, 1) := by decide +kernel
theorem dX4_lacks_50 : decode cX4_lacks 50 = .ok (.goto 8, 3) := by decide +kernel
theorem dX4_lacks_53 : decode cX4_lacks 53 = .ok (.aload_n 0, 1) := by decide +kernel
theorem dX4_lacks_54 : decode cX4_lacks 54 = .ok (.iconst 2, 1) := by decide +kernel
theorem dX4_lacks_55 : decode cX4_lacks 55 = .ok (.invokevirtual 75, 3) := by decide +kernel
theorem dX4_lacks_58 : decode cX4_lacks 58 = .ok (.ireturn, 1) := by decide +kernel
theorem dX4_cut_0 : decode cX4_cut 0 = .ok (.iload_n 0, 1) := by decide +kernel
theorem dX4_cut_1 : decode cX4_cut 1 = .ok (.ifCond .ne 8, 3) := by decide +kernel
theorem dX4_cut_4 : decode cX4_cut 4 = .ok (.iload_n 1, 1) := by decide +kernel
theorem dX4_cut_5 : decode cX4_cut 5 = .ok (.i2b, 1) := by decide +kernel
theorem dX4_cut_6 : decode cX4_cut 6 = .ok (.goto 14, 3) := by decide +kernel
theorem dX4_cut_9 : decode cX4_cut 9 = .ok (.iload_n 0, 1) := by decide +kernel
theorem dX4_cut_10 : decode cX4_cut 10 = .ok (.iconst 1, 1) := by decide +kernel
theorem dX4_cut_11 : decode cX4_cut 11 = .ok (.if_icmp .ne 8, 3) := by decide +kernel
theorem dX4_cut_14 : decode cX4_cut 14 = .ok (.iload_n 1, 1) := by decide +kernel
theorem dX4_cut_15 : decode cX4_cut 15 = .ok (.i2s, 1) := by decide +kernel
theorem dX4_cut_16 : decode cX4_cut 16 = .ok (.goto 4, 3) := by decide +kernel
theorem dX4_cut_19 : decode cX4_cut 19 = .ok (.iload_n 1, 1) := by decide +kernel
theorem dX4_cut_20 : decode cX4_cut 20 = .ok (.ireturn, 1) := by decide +kernel
set_option maxRecDepth 20000 in
theorem ggX4_lay_X4_isSheet : GoodIn wsX4_lay wsX4_isSheet := goodIn_r _ [6, 7, 8, 9, 5, 10] (by decide +kernel) (by decide +kernel)
set_option maxRecDepth 20000 in
theorem gX4_lay_X4_isSheet : GoodIn wsX4_lay (va_wsS RX4 69 yX4_isSheet wsX4_isSheet) := goodIn_app (goodIn_of _ (by decide +kernel)) ggX4_lay_X4_isSheet
set_option maxRecDepth 20000 in
theorem ggX4_lay_X4_in : GoodIn wsX4_lay wsX4_in := goodIn_r _ [10] (by decide +kernel) (by decide +kernel)
set_option maxRecDepth 20000 in
theorem gX4_lay_X4_in : GoodIn wsX4_lay (va_wsS RX4 60 yX4_in wsX4_in) := goodIn_app (goodIn_of _ (by decide +kernel)) ggX4_lay_X4_in
set_option maxRecDepth 20000 in
theorem ggX4_lay_X4_lacks : GoodIn wsX4_lay wsX4_lacks := goodIn_r _ [14, 15, 16, 17, 18, 19, 5, 20, 21, 8, 9, 10, 25, 26, 27, 28, 29, 30, 31, 32, 33, 34, 35, 36, 37, 38, 39, 40, 41, 42, 43, 44, 45, 46, 47, 48, 49, 50, 51, 52, 53, 54] (by decide +kernel) (by decide +kernel)
set_option maxRecDepth 20000 in
theorem gX4_lay_X4_lacks : GoodIn wsX4_lay (wsV RX4 79 RX4 yX4_lacks wsX4_lacks) := goodIn_app (goodIn_of _ (by decide +kernel)) ggX4_lay_X4_lacks
set_option maxRecDepth 20000 in
theorem ggX4_lay_X4_cut : GoodIn wsX4_lay wsX4_cut := goodIn_r _ [24] (by decide +kernel) (by decide +kernel)
set_option maxRecDepth 20000 in
theorem gX4_lay_X4_cut : GoodIn wsX4_lay (va_wsS RX4 83 yX4_cut wsX4_cut) := goodIn_app (goodIn_of _ (by decide +kernel)) ggX4_lay_X4_cut
theorem dX4_lay_0 : decode cX4_lay 0 = .ok (.iload_n 1, 1) := by decide +kernel
theorem dX4_lay_1 : decode cX4_lay 1 = .ok (.invokestatic 69, 3) := by decide +kernel
theorem dX4_lay_4 : decode cX4_lay 4 = .ok (.ifCond .eq 15, 3) := by decide +kernel
theorem dX4_lay_7 : decode cX4_lay 7 = .ok (.iload_n 2, 1) := by decide +kernel
theorem dX4_lay_8 : decode cX4_lay 8 = .ok (.i2l, 1) := by decide +kernel
theorem dX4_lay_9 : decode cX4_lay 9 = .ok (.lconst 0, 1) := by decide +kernel
theorem dX4_lay_10 : decode cX4_lay 10 = .ok (.ldc2_w 73, 3) := by decide +kernel
theorem dX4_lay_13 : decode cX4_lay 13 = .ok (.invokestatic 60, 3) := by decide +kernel
theorem dX4_lay_16 : decode cX4_lay 16 = .ok (.ifCond .ne 6, 3) := by decide +kernel
theorem dX4_lay_19 : decode cX4_lay 19 = .ok (.bipush (-2), 2) := by decide +kernel
theorem dX4_lay_21 : decode cX4_lay 21 = .ok (.ireturn, 1) := by decide +kernel
theorem dX4_lay_22 : decode cX4_lay 22 = .ok (.aload_n 0, 1) := by decide +kernel
theorem dX4_lay_23 : decode cX4_lay 23 = .ok (.iload_n 1, 1) := by decide +kernel
theorem dX4_lay_24 : decode cX4_lay 24 = .ok (.iload_n 2, 1) := by decide +kernel
theorem dX4_lay_25 : decode cX4_lay 25 = .ok (.iload_n 3, 1) := by decide +kernel
theorem dX4_lay_26 : decode cX4_lay 26 = .ok (.invokevirtual 79, 3) := by decide +kernel
theorem dX4_lay_29 : decode cX4_lay 29 = .ok (.istore 5, 2) := by decide +kernel
theorem dX4_lay_31 : decode cX4_lay 31 = .ok (.iload 5, 2) := by decide +kernel
theorem dX4_lay_33 : decode cX4_lay 33 = .ok (.ifCond .eq 6, 3) := by decide +kernel
theorem dX4_lay_36 : decode cX4_lay 36 = .ok (.iload 5, 2) := by decide +kernel
theorem dX4_lay_38 : decode cX4_lay 38 = .ok (.ireturn, 1) := by decide +kernel
theorem dX4_lay_39 : decode cX4_lay 39 = .ok (.aload_n 0, 1) := by decide +kernel
theorem dX4_lay_40 : decode cX4_lay 40 = .ok (.getfield 16, 3) := by decide +kernel
theorem dX4_lay_43 : decode cX4_lay 43 = .ok (.bipush 60, 2) := by decide +kernel
theorem dX4_lay_45 : decode cX4_lay 45 = .ok (.iload_n 1, 1) := by decide +kernel
theorem dX4_lay_46 : decode cX4_lay 46 = .ok (.imul, 1) := by decide +kernel
theorem dX4_lay_47 : decode cX4_lay 47 = .ok (.iload_n 3, 1) := by decide +kernel
theorem dX4_lay_48 : decode cX4_lay 48 = .ok (.iadd, 1) := by decide +kernel
theorem dX4_lay_49 : decode cX4_lay 49 = .ok (.iload_n 2, 1) := by decide +kernel
theorem dX4_lay_50 : decode cX4_lay 50 = .ok (.iload 4, 2) := by decide +kernel
theorem dX4_lay_52 : decode cX4_lay 52 = .ok (.invokestatic 83, 3) := by decide +kernel
theorem dX4_lay_55 : decode cX4_lay 55 = .ok (.iastore, 1) := by decide +kernel
theorem dX4_lay_56 : decode cX4_lay 56 = .ok (.iconst 1, 1) := by decide +kernel
theorem dX4_lay_57 : decode cX4_lay 57 = .ok (.ireturn, 1) := by decide +kernel
set_option maxRecDepth 20000 in
theorem ggX4_get_X4_isSheet : GoodIn wsX4_get wsX4_isSheet := goodIn_r _ [7, 8, 9, 10, 6, 11] (by decide +kernel) (by decide +kernel)
set_option maxRecDepth 20000 in
theorem gX4_get_X4_isSheet : GoodIn wsX4_get (va_wsS RX4 69 yX4_isSheet wsX4_isSheet) := goodIn_app (goodIn_of _ (by decide +kernel)) ggX4_get_X4_isSheet
set_option maxRecDepth 20000 in
theorem ggX4_get_X4_in : GoodIn wsX4_get wsX4_in := goodIn_r _ [11] (by decide +kernel) (by decide +kernel)
set_option maxRecDepth 20000 in
theorem gX4_get_X4_in : GoodIn wsX4_get (va_wsS RX4 60 yX4_in wsX4_in) := goodIn_app (goodIn_of _ (by decide +kernel)) ggX4_get_X4_in
set_option maxRecDepth 20000 in
theorem ggX4_get_X4_lacks : GoodIn wsX4_get wsX4_lacks := goodIn_r _ [15, 16, 17, 18, 19, 20, 6, 21, 22, 9, 10, 11, 23, 24, 25, 26, 27, 28, 29, 30, 31, 32, 33, 34, 35, 36, 37, 38, 39, 40, 41, 42, 43, 44, 45, 46, 47, 48, 49, 50, 51, 52] (by decide +kernel) (by decide +kernel)
set_option maxRecDepth 20000 in
theorem gX4_get_X4_lacks : GoodIn wsX4_get (wsV RX4 79 RX4 yX4_lacks wsX4_lacks) := goodIn_app (goodIn_of _ (by decide +kernel)) ggX4_get_X4_lacks
theorem dX4_get_0 : decode cX4_get 0 = .ok (.iload_n 1, 1) := by decide +kernel
theorem dX4_get_1 : decode cX4_get 1 = .ok (.invokestatic 69, 3) := by decide +kernel
theorem dX4_get_4 : decode cX4_get 4 = .ok (.ifCond .eq 25, 3) := by decide +kernel
theorem dX4_get_7 : decode cX4_get 7 = .ok (.iload_n 2, 1) := by decide +kernel
theorem dX4_get_8 : decode cX4_get 8 = .ok (.i2l, 1) := by decide +kernel
theorem dX4_get_9 : decode cX4_get 9 = .ok (.lconst 0, 1) := by decide +kernel
theorem dX4_get_10 : decode cX4_get 10 = .ok (.ldc2_w 73, 3) := by decide +kernel
theorem dX4_get_13 : decode cX4_get 13 = .ok (.invokestatic 60, 3) := by decide +kernel
theorem dX4_get_16 : decode cX4_get 16 = .ok (.ifCond .eq 13, 3) := by decide +kernel
theorem dX4_get_19 : decode cX4_get 19 = .ok (.aload_n 0, 1) := by decide +kernel
theorem dX4_get_20 : decode cX4_get 20 = .ok (.iload_n 1, 1) := by decide +kernel
theorem dX4_get_21 : decode cX4_get 21 = .ok (.iload_n 2, 1) := by decide +kernel
theorem dX4_get_22 : decode cX4_get 22 = .ok (.iload_n 3, 1) := by decide +kernel
theorem dX4_get_23 : decode cX4_get 23 = .ok (.invokevirtual 79, 3) := by decide +kernel
theorem dX4_get_26 : decode cX4_get 26 = .ok (.ifCond .eq 6, 3) := by decide +kernel
theorem dX4_get_29 : decode cX4_get 29 = .ok (.ldc 87, 2) := by decide +kernel
theorem dX4_get_31 : decode cX4_get 31 = .ok (.ireturn, 1) := by decide +kernel
theorem dX4_get_32 : decode cX4_get 32 = .ok (.aload_n 0, 1) := by decide +kernel
theorem dX4_get_33 : decode cX4_get 33 = .ok (.getfield 16, 3) := by decide +kernel
theorem dX4_get_36 : decode cX4_get 36 = .ok (.bipush 60, 2) := by decide +kernel
theorem dX4_get_38 : decode cX4_get 38 = .ok (.iload_n 1, 1) := by decide +kernel
theorem dX4_get_39 : decode cX4_get 39 = .ok (.imul, 1) := by decide +kernel
theorem dX4_get_40 : decode cX4_get 40 = .ok (.iload_n 3, 1) := by decide +kernel
theorem dX4_get_41 : decode cX4_get 41 = .ok (.iadd, 1) := by decide +kernel
theorem dX4_get_42 : decode cX4_get 42 = .ok (.iaload, 1) := by decide +kernel
theorem dX4_get_43 : decode cX4_get 43 = .ok (.ireturn, 1) := by decide +kernel
set_option maxRecDepth 20000 in
theorem ggX4_copy_X4_isSheet : GoodIn wsX4_copy wsX4_isSheet := goodIn_r _ [8, 9, 10, 11, 7, 12] (by decide +kernel) (by decide +kernel)
set_option maxRecDepth 20000 in
theorem gX4_copy_X4_isSheet : GoodIn wsX4_copy (va_wsS RX4 69 yX4_isSheet wsX4_isSheet) := goodIn_app (goodIn_of _ (by decide +kernel)) ggX4_copy_X4_isSheet
set_option maxRecDepth 20000 in
theorem ggX4_copy_X4_finds : GoodIn wsX4_copy wsX4_finds := goodIn_r _ [16, 17, 18, 19, 20, 21, 22, 23, 24, 25, 26, 27, 28, 29, 30, 31, 32, 33, 34, 35, 36, 37, 38, 39, 40, 41, 42, 43, 44, 45, 46, 47] (by decide +kernel) (by decide +kernel)
set_option maxRecDepth 20000 in
theorem gX4_copy_X4_finds : GoodIn wsX4_copy (wsV RX4 75 RX4 yX4_finds wsX4_finds) := goodIn_app (goodIn_of _ (by decide +kernel)) ggX4_copy_X4_finds
theorem dX4_copy_0 : decode cX4_copy 0 = .ok (.iload_n 1, 1) := by decide +kernel
theorem dX4_copy_1 : decode cX4_copy 1 = .ok (.invokestatic 69, 3) := by decide +kernel
theorem dX4_copy_4 : decode cX4_copy 4 = .ok (.ifCond .eq 10, 3) := by decide +kernel
theorem dX4_copy_7 : decode cX4_copy 7 = .ok (.iload_n 3, 1) := by decide +kernel
theorem dX4_copy_8 : decode cX4_copy 8 = .ok (.invokestatic 69, 3) := by decide +kernel
theorem dX4_copy_11 : decode cX4_copy 11 = .ok (.ifCond .ne 6, 3) := by decide +kernel
theorem dX4_copy_14 : decode cX4_copy 14 = .ok (.bipush (-2), 2) := by decide +kernel
theorem dX4_copy_16 : decode cX4_copy 16 = .ok (.ireturn, 1) := by decide +kernel
theorem dX4_copy_17 : decode cX4_copy 17 = .ok (.aload_n 0, 1) := by decide +kernel
theorem dX4_copy_18 : decode cX4_copy 18 = .ok (.getfield 7, 3) := by decide +kernel
theorem dX4_copy_21 : decode cX4_copy 21 = .ok (.iload_n 1, 1) := by decide +kernel
theorem dX4_copy_22 : decode cX4_copy 22 = .ok (.iaload, 1) := by decide +kernel
theorem dX4_copy_23 : decode cX4_copy 23 = .ok (.ifCond .lt 12, 3) := by decide +kernel
theorem dX4_copy_26 : decode cX4_copy 26 = .ok (.aload_n 0, 1) := by decide +kernel
theorem dX4_copy_27 : decode cX4_copy 27 = .ok (.getfield 7, 3) := by decide +kernel
theorem dX4_copy_30 : decode cX4_copy 30 = .ok (.iload_n 3, 1) := by decide +kernel
theorem dX4_copy_31 : decode cX4_copy 31 = .ok (.iaload, 1) := by decide +kernel
theorem dX4_copy_32 : decode cX4_copy 32 = .ok (.ifCond .ge 9, 3) := by decide +kernel
theorem dX4_copy_35 : decode cX4_copy 35 = .ok (.aload_n 0, 1) := by decide +kernel
theorem dX4_copy_36 : decode cX4_copy 36 = .ok (.iconst 1, 1) := by decide +kernel
theorem dX4_copy_37 : decode cX4_copy 37 = .ok (.invokevirtual 75, 3) := by decide +kernel
theorem dX4_copy_40 : decode cX4_copy 40 = .ok (.ireturn, 1) := by decide +kernel
theorem dX4_copy_41 : decode cX4_copy 41 = .ok (.aload_n 0, 1) := by decide +kernel
theorem dX4_copy_42 : decode cX4_copy 42 = .ok (.getfield 7, 3) := by decide +kernel
theorem dX4_copy_45 : decode cX4_copy 45 = .ok (.iload_n 1, 1) := by decide +kernel
theorem dX4_copy_46 : decode cX4_copy 46 = .ok (.iaload, 1) := by decide +kernel
theorem dX4_copy_47 : decode cX4_copy 47 = .ok (.aload_n 0, 1) := by decide +kernel
theorem dX4_copy_48 : decode cX4_copy 48 = .ok (.getfield 7, 3) := by decide +kernel
theorem dX4_copy_51 : decode cX4_copy 51 = .ok (.iload_n 3, 1) := by decide +kernel
theorem dX4_copy_52 : decode cX4_copy 52 = .ok (.iaload, 1) := by decide +kernel
theorem dX4_copy_53 : decode cX4_copy 53 = .ok (.if_icmp .eq 9, 3) := by decide +kernel
theorem dX4_copy_56 : decode cX4_copy 56 = .ok (.aload_n 0, 1) := by decide +kernel
theorem dX4_copy_57 : decode cX4_copy 57 = .ok (.iconst 4, 1) := by decide +kernel
theorem dX4_copy_58 : decode cX4_copy 58 = .ok (.invokevirtual 75, 3) := by decide +kernel
theorem dX4_copy_61 : decode cX4_copy 61 = .ok (.ireturn, 1) := by decide +kernel
theorem dX4_copy_62 : decode cX4_copy 62 = .ok (.iload_n 2, 1) := by decide +kernel
theorem dX4_copy_63 : decode cX4_copy 63 = .ok (.ifCond .lt 48, 3) := by decide +kernel
theorem dX4_copy_66 : decode cX4_copy 66 = .ok (.iload 4, 2) := by decide +kernel
theorem dX4_copy_68 : decode cX4_copy 68 = .ok (.ifCond .lt 43, 3) := by decide +kernel
theorem dX4_copy_71 : decode cX4_copy 71 = .ok (.iload 5, 2) := by decide +kernel
theorem dX4_copy_73 : decode cX4_copy 73 = .ok (.ifCond .lt 38, 3) := by decide +kernel
theorem dX4_copy_76 : decode cX4_copy 76 = .ok (.iload_n 2, 1) := by decide +kernel
theorem dX4_copy_77 : decode cX4_copy 77 = .ok (.i2l, 1) := by decide +kernel
theorem dX4_copy_78 : decode cX4_copy 78 = .ok (.iload 5, 2) := by decide +kernel
theorem dX4_copy_80 : decode cX4_copy 80 = .ok (.i2l, 1) := by decide +kernel
theorem dX4_copy_81 : decode cX4_copy 81 = .ok (.ladd, 1) := by decide +kernel
theorem dX4_copy_82 : decode cX4_copy 82 = .ok (.aload_n 0, 1) := by decide +kernel
theorem dX4_copy_83 : decode cX4_copy 83 = .ok (.getfield 13, 3) := by decide +kernel
theorem dX4_copy_86 : decode cX4_copy 86 = .ok (.iload_n 1, 1) := by decide +kernel
theorem dX4_copy_87 : decode cX4_copy 87 = .ok (.iaload, 1) := by decide +kernel
theorem dX4_copy_88 : decode cX4_copy 88 = .ok (.i2l, 1) := by decide +kernel
theorem dX4_copy_89 : decode cX4_copy 89 = .ok (.lcmp, 1) := by decide +kernel
theorem dX4_copy_90 : decode cX4_copy 90 = .ok (.ifCond .gt 21, 3) := by decide +kernel
theorem dX4_copy_93 : decode cX4_copy 93 = .ok (.iload 4, 2) := by decide +kernel
theorem dX4_copy_95 : decode cX4_copy 95 = .ok (.i2l, 1) := by decide +kernel
theorem dX4_copy_96 : decode cX4_copy 96 = .ok (.iload 5, 2) := by decide +kernel
theorem dX4_copy_98 : decode cX4_copy 98 = .ok (.i2l, 1) := by decide +kernel
theorem dX4_copy_99 : decode cX4_copy 99 = .ok (.ladd, 1) := by decide +kernel
theorem dX4_copy_100 : decode cX4_copy 100 = .ok (.aload_n 0, 1) := by decide +kernel
theorem dX4_copy_101 : decode cX4_copy 101 = .ok (.getfield 13, 3) := by decide +kernel
theorem dX4_copy_104 : decode cX4_copy 104 = .ok (.iload_n 3, 1) := by decide +kernel
theorem dX4_copy_105 : decode cX4_copy 105 = .ok (.iaload, 1) := by decide +kernel
theorem dX4_copy_106 : decode cX4_copy 106 = .ok (.i2l, 1) := by decide +kernel
theorem dX4_copy_107 : decode cX4_copy 107 = .ok (.lcmp, 1) := by decide +kernel
theorem dX4_copy_108 : decode cX4_copy 108 = .ok (.ifCond .le 9, 3) := by decide +kernel
theorem dX4_copy_111 : decode cX4_copy 111 = .ok (.aload_n 0, 1) := by decide +kernel
theorem dX4_copy_112 : decode cX4_copy 112 = .ok (.iconst 2, 1) := by decide +kernel
theorem dX4_copy_113 : decode cX4_copy 113 = .ok (.invokevirtual 75, 3) := by decide +kernel
theorem dX4_copy_116 : decode cX4_copy 116 = .ok (.ireturn, 1) := by decide +kernel
theorem dX4_copy_117 : decode cX4_copy 117 = .ok (.iconst 0, 1) := by decide +kernel
theorem dX4_copy_118 : decode cX4_copy 118 = .ok (.istore 6, 2) := by decide +kernel
theorem dX4_copy_120 : decode cX4_copy 120 = .ok (.iload 6, 2) := by decide +kernel
theorem dX4_copy_122 : decode cX4_copy 122 = .ok (.iload 5, 2) := by decide +kernel
theorem dX4_copy_124 : decode cX4_copy 124 = .ok (.if_icmp .ge 30, 3) := by decide +kernel
theorem dX4_copy_127 : decode cX4_copy 127 = .ok (.aload_n 0, 1) := by decide +kernel
theorem dX4_copy_128 : decode cX4_copy 128 = .ok (.getfield 19, 3) := by decide +kernel
theorem dX4_copy_131 : decode cX4_copy 131 = .ok (.iload 6, 2) := by decide +kernel
theorem dX4_copy_133 : decode cX4_copy 133 = .ok (.aload_n 0, 1) := by decide +kernel
theorem dX4_copy_134 : decode cX4_copy 134 = .ok (.getfield 16, 3) := by decide +kernel
theorem dX4_copy_137 : decode cX4_copy 137 = .ok (.bipush 60, 2) := by decide +kernel
theorem dX4_copy_139 : decode cX4_copy 139 = .ok (.iload_n 1, 1) := by decide +kernel
theorem dX4_copy_140 : decode cX4_copy 140 = .ok (.imul, 1) := by decide +kernel
theorem dX4_copy_141 : decode cX4_copy 141 = .ok (.iload_n 2, 1) := by decide +kernel
theorem dX4_copy_142 : decode cX4_copy 142 = .ok (.iadd, 1) := by decide +kernel
theorem dX4_copy_143 : decode cX4_copy 143 = .ok (.iload 6, 2) := by decide +kernel
theorem dX4_copy_145 : decode cX4_copy 145 = .ok (.iadd, 1) := by decide +kernel
theorem dX4_copy_146 : decode cX4_copy 146 = .ok (.iaload, 1) := by decide +kernel
theorem dX4_copy_147 : decode cX4_copy 147 = .ok (.iastore, 1) := by decide +kernel
theorem dX4_copy_148 : decode cX4_copy 148 = .ok (.iinc 6 1, 3) := by decide +kernel
theorem dX4_copy_151 : decode cX4_copy 151 = .ok (.goto (-31), 3) := by decide +kernel
theorem dX4_copy_154 : decode cX4_copy 154 = .ok (.iconst 0, 1) := by decide +kernel
theorem dX4_copy_155 : decode cX4_copy 155 = .ok (.istore 6, 2) := by decide +kernel
theorem dX4_copy_157 : decode cX4_copy 157 = .ok (.iload 6, 2) := by decide +kernel
theorem dX4_copy_159 : decode cX4_copy 159 = .ok (.iload 5, 2) := by decide +kernel
theorem dX4_copy_161 : decode cX4_copy 161 = .ok (.if_icmp .ge 31, 3) := by decide +kernel
theorem dX4_copy_164 : decode cX4_copy 164 = .ok (.aload_n 0, 1) := by decide +kernel
theorem dX4_copy_165 : decode cX4_copy 165 = .ok (.getfield 16, 3) := by decide +kernel
theorem dX4_copy_168 : decode cX4_copy 168 = .ok (.bipush 60, 2) := by decide +kernel
theorem dX4_copy_170 : decode cX4_copy 170 = .ok (.iload_n 3, 1) := by decide +kernel
theorem dX4_copy_171 : decode cX4_copy 171 = .ok (.imul, 1) := by decide +kernel
theorem dX4_copy_172 : decode cX4_copy 172 = .ok (.iload 4, 2) := by decide +kernel
theorem dX4_copy_174 : decode cX4_copy 174 = .ok (.iadd, 1) := by decide +kernel
theorem dX4_copy_175 : decode cX4_copy 175 = .ok (.iload 6, 2) := by decide +kernel
theorem dX4_copy_177 : decode cX4_copy 177 = .ok (.iadd, 1) := by decide +kernel
theorem dX4_copy_178 : decode cX4_copy 178 = .ok (.aload_n 0, 1) := by decide +kernel
theorem dX4_copy_179 : decode cX4_copy 179 = .ok (.getfield 19, 3) := by decide +kernel
theorem dX4_copy_182 : decode cX4_copy 182 = .ok (.iload 6, 2) := by decide +kernel
theorem dX4_copy_184 : decode cX4_copy 184 = .ok (.iaload, 1) := by decide +kernel
theorem dX4_copy_185 : decode cX4_copy 185 = .ok (.iastore, 1) := by decide +kernel
theorem dX4_copy_186 : decode cX4_copy 186 = .ok (.iinc 6 1, 3) := by decide +kernel
theorem dX4_copy_189 : decode cX4_copy 189 = .ok (.goto (-32), 3) := by decide +kernel
theorem dX4_copy_192 : decode cX4_copy 192 = .ok (.iconst 1, 1) := by decide +kernel
theorem dX4_copy_193 : decode cX4_copy 193 = .ok (.ireturn, 1) := by decide +kernel
set_option maxRecDepth 20000 in
theorem ggX4_head_X4_in : GoodIn wsX4_head wsX4_in := goodIn_r _ [7] (by decide +kernel) (by decide +kernel)
set_option maxRecDepth 20000 in
theorem gX4_head_X4_in : GoodIn wsX4_head (va_wsS RX4 60 yX4_in wsX4_in) := goodIn_app (goodIn_of _ (by decide +kernel)) ggX4_head_X4_in
theorem dX4_head_0 : decode cX4_head 0 = .ok (.iload_n 1, 1) := by decide +kernel
theorem dX4_head_1 : decode cX4_head 1 = .ok (.i2l, 1) := by decide +kernel
theorem dX4_head_2 : decode cX4_head 2 = .ok (.lconst 1, 1) := by decide +kernel
theorem dX4_head_3 : decode cX4_head 3 = .ok (.ldc2_w 88, 3) := by decide +kernel
theorem dX4_head_6 : decode cX4_head 6 = .ok (.invokestatic 60, 3) := by decide +kernel
theorem dX4_head_9 : decode cX4_head 9 = .ok (.ifCond .ne 6, 3) := by decide +kernel
theorem dX4_head_12 : decode cX4_head 12 = .ok (.bipush (-2), 2) := by decide +kernel
theorem dX4_head_14 : decode cX4_head 14 = .ok (.ireturn, 1) := by decide +kernel
theorem dX4_head_15 : decode cX4_head 15 = .ok (.aload_n 0, 1) := by decide +kernel
theorem dX4_head_16 : decode cX4_head 16 = .ok (.getfield 90, 3) := by decide +kernel
theorem dX4_head_19 : decode cX4_head 19 = .ok (.ifCond .eq 6, 3) := by decide +kernel
theorem dX4_head_22 : decode cX4_head 22 = .ok (.bipush (-3), 2) := by decide +kernel
theorem dX4_head_24 : decode cX4_head 24 = .ok (.ireturn, 1) := by decide +kernel
theorem dX4_head_25 : decode cX4_head 25 = .ok (.aload_n 0, 1) := by decide +kernel
theorem dX4_head_26 : decode cX4_head 26 = .ok (.getfield 56, 3) := by decide +kernel
theorem dX4_head_29 : decode cX4_head 29 = .ok (.istore_n 2, 1) := by decide +kernel
theorem dX4_head_30 : decode cX4_head 30 = .ok (.aload_n 0, 1) := by decide +kernel
theorem dX4_head_31 : decode cX4_head 31 = .ok (.iload_n 1, 1) := by decide +kernel
theorem dX4_head_32 : decode cX4_head 32 = .ok (.putfield 56, 3) := by decide +kernel
theorem dX4_head_35 : decode cX4_head 35 = .ok (.iload_n 2, 1) := by decide +kernel
theorem dX4_head_36 : decode cX4_head 36 = .ok (.ireturn, 1) := by decide +kernel
set_option maxRecDepth 20000 in
theorem ggX4_basin_X4_in : GoodIn wsX4_basin wsX4_in := goodIn_r _ [13] (by decide +kernel) (by decide +kernel)
set_option maxRecDepth 20000 in
theorem gX4_basin_X4_in : GoodIn wsX4_basin (va_wsS RX4 60 yX4_in wsX4_in) := goodIn_app (goodIn_of _ (by decide +kernel)) ggX4_basin_X4_in
theorem dX4_basin_0 : decode cX4_basin 0 = .ok (.iload_n 1, 1) := by decide +kernel
theorem dX4_basin_1 : decode cX4_basin 1 = .ok (.i2l, 1) := by decide +kernel
theorem dX4_basin_2 : decode cX4_basin 2 = .ok (.lconst 0, 1) := by decide +kernel
theorem dX4_basin_3 : decode cX4_basin 3 = .ok (.ldc2_w 94, 3) := by decide +kernel
theorem dX4_basin_6 : decode cX4_basin 6 = .ok (.invokestatic 60, 3) := by decide +kernel
theorem dX4_basin_9 : decode cX4_basin 9 = .ok (.ifCond .eq 27, 3) := by decide +kernel
theorem dX4_basin_12 : decode cX4_basin 12 = .ok (.iload_n 2, 1) := by decide +kernel
theorem dX4_basin_13 : decode cX4_basin 13 = .ok (.i2l, 1) := by decide +kernel
theorem dX4_basin_14 : decode cX4_basin 14 = .ok (.lconst 1, 1) := by decide +kernel
theorem dX4_basin_15 : decode cX4_basin 15 = .ok (.ldc2_w 88, 3) := by decide +kernel
theorem dX4_basin_18 : decode cX4_basin 18 = .ok (.invokestatic 60, 3) := by decide +kernel
theorem dX4_basin_21 : decode cX4_basin 21 = .ok (.ifCond .eq 15, 3) := by decide +kernel
theorem dX4_basin_24 : decode cX4_basin 24 = .ok (.iload_n 3, 1) := by decide +kernel
theorem dX4_basin_25 : decode cX4_basin 25 = .ok (.i2l, 1) := by decide +kernel
theorem dX4_basin_26 : decode cX4_basin 26 = .ok (.lconst 1, 1) := by decide +kernel
theorem dX4_basin_27 : decode cX4_basin 27 = .ok (.ldc2_w 67, 3) := by decide +kernel
theorem dX4_basin_30 : decode cX4_basin 30 = .ok (.invokestatic 60, 3) := by decide +kernel
theorem dX4_basin_33 : decode cX4_basin 33 = .ok (.ifCond .ne 6, 3) := by decide +kernel
theorem dX4_basin_36 : decode cX4_basin 36 = .ok (.bipush (-2), 2) := by decide +kernel
theorem dX4_basin_38 : decode cX4_basin 38 = .ok (.ireturn, 1) := by decide +kernel
theorem dX4_basin_39 : decode cX4_basin 39 = .ok (.aload_n 0, 1) := by decide +kernel
theorem dX4_basin_40 : decode cX4_basin 40 = .ok (.getfield 96, 3) := by decide +kernel
theorem dX4_basin_43 : decode cX4_basin 43 = .ok (.iconst 4, 1) := by decide +kernel
theorem dX4_basin_44 : decode cX4_basin 44 = .ok (.if_icmp .ne 6, 3) := by decide +kernel
theorem dX4_basin_47 : decode cX4_basin 47 = .ok (.bipush (-4), 2) := by decide +kernel
theorem dX4_basin_49 : decode cX4_basin 49 = .ok (.ireturn, 1) := by decide +kernel
theorem dX4_basin_50 : decode cX4_basin 50 = .ok (.aload_n 0, 1) := by decide +kernel
theorem dX4_basin_51 : decode cX4_basin 51 = .ok (.getfield 22, 3) := by decide +kernel
theorem dX4_basin_54 : decode cX4_basin 54 = .ok (.aload_n 0, 1) := by decide +kernel
theorem dX4_basin_55 : decode cX4_basin 55 = .ok (.getfield 96, 3) := by decide +kernel
theorem dX4_basin_58 : decode cX4_basin 58 = .ok (.iload_n 1, 1) := by decide +kernel
theorem dX4_basin_59 : decode cX4_basin 59 = .ok (.iastore, 1) := by decide +kernel
theorem dX4_basin_60 : decode cX4_basin 60 = .ok (.aload_n 0, 1) := by decide +kernel
theorem dX4_basin_61 : decode cX4_basin 61 = .ok (.getfield 25, 3) := by decide +kernel
theorem dX4_basin_64 : decode cX4_basin 64 = .ok (.aload_n 0, 1) := by decide +kernel
theorem dX4_basin_65 : decode cX4_basin 65 = .ok (.getfield 96, 3) := by decide +kernel
theorem dX4_basin_68 : decode cX4_basin 68 = .ok (.iload_n 2, 1) := by decide +kernel
theorem dX4_basin_69 : decode cX4_basin 69 = .ok (.iastore, 1) := by decide +kernel
theorem dX4_basin_70 : decode cX4_basin 70 = .ok (.aload_n 0, 1) := by decide +kernel
theorem dX4_basin_71 : decode cX4_basin 71 = .ok (.getfield 28, 3) := by decide +kernel
theorem dX4_basin_74 : decode cX4_basin 74 = .ok (.aload_n 0, 1) := by decide +kernel
theorem dX4_basin_75 : decode cX4_basin 75 = .ok (.getfield 96, 3) := by decide +kernel
theorem dX4_basin_78 : decode cX4_basin 78 = .ok (.iload_n 3, 1) := by decide +kernel
theorem dX4_basin_79 : decode cX4_basin 79 = .ok (.iastore, 1) := by decide +kernel
theorem dX4_basin_80 : decode cX4_basin 80 = .ok (.aload_n 0, 1) := by decide +kernel
theorem dX4_basin_81 : decode cX4_basin 81 = .ok (.getfield 31, 3) := by decide +kernel
theorem dX4_basin_84 : decode cX4_basin 84 = .ok (.aload_n 0, 1) := by decide +kernel
theorem dX4_basin_85 : decode cX4_basin 85 = .ok (.getfield 96, 3) := by decide +kernel
theorem dX4_basin_88 : decode cX4_basin 88 = .ok (.iconst 0, 1) := by decide +kernel
theorem dX4_basin_89 : decode cX4_basin 89 = .ok (.iastore, 1) := by decide +kernel
theorem dX4_basin_90 : decode cX4_basin 90 = .ok (.aload_n 0, 1) := by decide +kernel
theorem dX4_basin_91 : decode cX4_basin 91 = .ok (.getfield 34, 3) := by decide +kernel
theorem dX4_basin_94 : decode cX4_basin 94 = .ok (.aload_n 0, 1) := by decide +kernel
theorem dX4_basin_95 : decode cX4_basin 95 = .ok (.getfield 96, 3) := by decide +kernel
theorem dX4_basin_98 : decode cX4_basin 98 = .ok (.iconst 0, 1) := by decide +kernel
theorem dX4_basin_99 : decode cX4_basin 99 = .ok (.iastore, 1) := by decide +kernel
theorem dX4_basin_100 : decode cX4_basin 100 = .ok (.aload_n 0, 1) := by decide +kernel
theorem dX4_basin_101 : decode cX4_basin 101 = .ok (.dup, 1) := by decide +kernel
theorem dX4_basin_102 : decode cX4_basin 102 = .ok (.getfield 96, 3) := by decide +kernel
theorem dX4_basin_105 : decode cX4_basin 105 = .ok (.iconst 1, 1) := by decide +kernel
theorem dX4_basin_106 : decode cX4_basin 106 = .ok (.iadd, 1) := by decide +kernel
theorem dX4_basin_107 : decode cX4_basin 107 = .ok (.putfield 96, 3) := by decide +kernel
theorem dX4_basin_110 : decode cX4_basin 110 = .ok (.aload_n 0, 1) := by decide +kernel
theorem dX4_basin_111 : decode cX4_basin 111 = .ok (.getfield 96, 3) := by decide +kernel
theorem dX4_basin_114 : decode cX4_basin 114 = .ok (.ireturn, 1) := by decide +kernel
theorem dX4_back_0 : decode cX4_back 0 = .ok (.aload_n 0, 1) := by decide +kernel
theorem dX4_back_1 : decode cX4_back 1 = .ok (.getfield 96, 3) := by decide +kernel
theorem dX4_back_4 : decode cX4_back 4 = .ok (.ifCond .eq 17, 3) := by decide +kernel
theorem dX4_back_7 : decode cX4_back 7 = .ok (.aload_n 0, 1) := by decide +kernel
theorem dX4_back_8 : decode cX4_back 8 = .ok (.getfield 34, 3) := by decide +kernel
theorem dX4_back_11 : decode cX4_back 11 = .ok (.aload_n 0, 1) := by decide +kernel
theorem dX4_back_12 : decode cX4_back 12 = .ok (.getfield 96, 3) := by decide +kernel
theorem dX4_back_15 : decode cX4_back 15 = .ok (.iconst 1, 1) := by decide +kernel
theorem dX4_back_16 : decode cX4_back 16 = .ok (.isub, 1) := by decide +kernel
theorem dX4_back_17 : decode cX4_back 17 = .ok (.iaload, 1) := by decide +kernel
theorem dX4_back_18 : decode cX4_back 18 = .ok (.ifCond .le 6, 3) := by decide +kernel
theorem dX4_back_21 : decode cX4_back 21 = .ok (.bipush (-3), 2) := by decide +kernel
theorem dX4_back_23 : decode cX4_back 23 = .ok (.ireturn, 1) := by decide +kernel
theorem dX4_back_24 : decode cX4_back 24 = .ok (.aload_n 0, 1) := by decide +kernel
theorem dX4_back_25 : decode cX4_back 25 = .ok (.dup, 1) := by decide +kernel
theorem dX4_back_26 : decode cX4_back 26 = .ok (.getfield 96, 3) := by decide +kernel
theorem dX4_back_29 : decode cX4_back 29 = .ok (.iconst 1, 1) := by decide +kernel
theorem dX4_back_30 : decode cX4_back 30 = .ok (.isub, 1) := by decide +kernel
theorem dX4_back_31 : decode cX4_back 31 = .ok (.putfield 96, 3) := by decide +kernel
theorem dX4_back_34 : decode cX4_back 34 = .ok (.aload_n 0, 1) := by decide +kernel
theorem dX4_back_35 : decode cX4_back 35 = .ok (.dup, 1) := by decide +kernel
theorem dX4_back_36 : decode cX4_back 36 = .ok (.getfield 99, 3) := by decide +kernel
theorem dX4_back_39 : decode cX4_back 39 = .ok (.iconst 1, 1) := by decide +kernel
end
section
theorem dX4_back_40 : decode cX4_back 40 = .ok (.aload_n 0, 1) := by decide +kernel
theorem dX4_back_41 : decode cX4_back 41 = .ok (.getfield 96, 3) := by decide +kernel
theorem dX4_back_44 : decode cX4_back 44 = .ok (.ishl, 1) := by decide +kernel
theorem dX4_back_45 : decode cX4_back 45 = .ok (.iconst (-1), 1) := by decide +kernel
theorem dX4_back_46 : decode cX4_back 46 = .ok (.ixor, 1) := by decide +kernel
theorem dX4_back_47 : decode cX4_back 47 = .ok (.iand, 1) := by decide +kernel
theorem dX4_back_48 : decode cX4_back 48 = .ok (.putfield 99, 3) := by decide +kernel
theorem dX4_back_51 : decode cX4_back 51 = .ok (.aload_n 0, 1) := by decide +kernel
theorem dX4_back_52 : decode cX4_back 52 = .ok (.getfield 96, 3) := by decide +kernel
theorem dX4_back_55 : decode cX4_back 55 = .ok (.ireturn, 1) := by decide +kernel
set_option maxRecDepth 20000 in
theorem ggX4_isBasin_X4_in : GoodIn wsX4_isBasin wsX4_in := goodIn_r _ [5] (by decide +kernel) (by decide +kernel)
set_option maxRecDepth 20000 in
theorem gX4_isBasin_X4_in : GoodIn wsX4_isBasin (va_wsS RX4 60 yX4_in wsX4_in) := goodIn_app (goodIn_of _ (by decide +kernel)) ggX4_isBasin_X4_in
theorem dX4_isBasin_0 : decode cX4_isBasin 0 = .ok (.iload_n 1, 1) := by decide +kernel
theorem dX4_isBasin_1 : decode cX4_isBasin 1 = .ok (.i2l, 1) := by decide +kernel
theorem dX4_isBasin_2 : decode cX4_isBasin 2 = .ok (.lconst 0, 1) := by decide +kernel
theorem dX4_isBasin_3 : decode cX4_isBasin 3 = .ok (.aload_n 0, 1) := by decide +kernel
theorem dX4_isBasin_4 : decode cX4_isBasin 4 = .ok (.getfield 96, 3) := by decide +kernel
theorem dX4_isBasin_7 : decode cX4_isBasin 7 = .ok (.iconst 1, 1) := by decide +kernel
theorem dX4_isBasin_8 : decode cX4_isBasin 8 = .ok (.isub, 1) := by decide +kernel
theorem dX4_isBasin_9 : decode cX4_isBasin 9 = .ok (.i2l, 1) := by decide +kernel
theorem dX4_isBasin_10 : decode cX4_isBasin 10 = .ok (.invokestatic 60, 3) := by decide +kernel
theorem dX4_isBasin_13 : decode cX4_isBasin 13 = .ok (.ireturn, 1) := by decide +kernel
set_option maxRecDepth 20000 in
theorem ggX4_out_X4_isBasin : GoodIn wsX4_out wsX4_isBasin := goodIn_r _ [6, 7, 8, 9, 5, 10, 11, 12, 13, 14, 15, 16, 17, 18, 19, 20, 21, 22, 23, 24, 25, 26, 27, 28, 29, 30, 31, 32, 33, 34, 35, 36, 37, 38, 39, 40] (by decide +kernel) (by decide +kernel)
set_option maxRecDepth 20000 in
theorem gX4_out_X4_isBasin : GoodIn wsX4_out (wsV RX4 102 RX4 yX4_isBasin wsX4_isBasin) := goodIn_app (goodIn_of _ (by decide +kernel)) ggX4_out_X4_isBasin
theorem dX4_out_0 : decode cX4_out 0 = .ok (.aload_n 0, 1) := by decide +kernel
theorem dX4_out_1 : decode cX4_out 1 = .ok (.iload_n 1, 1) := by decide +kernel
theorem dX4_out_2 : decode cX4_out 2 = .ok (.invokevirtual 102, 3) := by decide +kernel
theorem dX4_out_5 : decode cX4_out 5 = .ok (.ifCond .ne 6, 3) := by decide +kernel
theorem dX4_out_8 : decode cX4_out 8 = .ok (.bipush (-2), 2) := by decide +kernel
theorem dX4_out_10 : decode cX4_out 10 = .ok (.ireturn, 1) := by decide +kernel
theorem dX4_out_11 : decode cX4_out 11 = .ok (.aload_n 0, 1) := by decide +kernel
theorem dX4_out_12 : decode cX4_out 12 = .ok (.dup, 1) := by decide +kernel
theorem dX4_out_13 : decode cX4_out 13 = .ok (.getfield 99, 3) := by decide +kernel
theorem dX4_out_16 : decode cX4_out 16 = .ok (.iconst 1, 1) := by decide +kernel
theorem dX4_out_17 : decode cX4_out 17 = .ok (.iload_n 1, 1) := by decide +kernel
theorem dX4_out_18 : decode cX4_out 18 = .ok (.ishl, 1) := by decide +kernel
theorem dX4_out_19 : decode cX4_out 19 = .ok (.ixor, 1) := by decide +kernel
theorem dX4_out_20 : decode cX4_out 20 = .ok (.putfield 99, 3) := by decide +kernel
theorem dX4_out_23 : decode cX4_out 23 = .ok (.aload_n 0, 1) := by decide +kernel
theorem dX4_out_24 : decode cX4_out 24 = .ok (.getfield 99, 3) := by decide +kernel
theorem dX4_out_27 : decode cX4_out 27 = .ok (.ireturn, 1) := by decide +kernel
set_option maxRecDepth 20000 in
theorem ggX4_leak_X4_isBasin : GoodIn wsX4_leak wsX4_isBasin := goodIn_r _ [7, 8, 9, 10, 6, 11, 12, 13, 14, 15, 16, 17, 18, 19, 20, 21, 22, 23, 24, 25, 26, 27, 28, 29, 30, 31, 32, 33, 34, 35, 36, 37, 38, 39, 40, 41] (by decide +kernel) (by decide +kernel)
set_option maxRecDepth 20000 in
theorem gX4_leak_X4_isBasin : GoodIn wsX4_leak (wsV RX4 102 RX4 yX4_isBasin wsX4_isBasin) := goodIn_app (goodIn_of _ (by decide +kernel)) ggX4_leak_X4_isBasin
set_option maxRecDepth 20000 in
theorem ggX4_leak_X4_in : GoodIn wsX4_leak wsX4_in := goodIn_r _ [11] (by decide +kernel) (by decide +kernel)
set_option maxRecDepth 20000 in
theorem gX4_leak_X4_in : GoodIn wsX4_leak (va_wsS RX4 60 yX4_in wsX4_in) := goodIn_app (goodIn_of _ (by decide +kernel)) ggX4_leak_X4_in
theorem dX4_leak_0 : decode cX4_leak 0 = .ok (.aload_n 0, 1) := by decide +kernel
theorem dX4_leak_1 : decode cX4_leak 1 = .ok (.iload_n 1, 1) := by decide +kernel
theorem dX4_leak_2 : decode cX4_leak 2 = .ok (.invokevirtual 102, 3) := by decide +kernel
theorem dX4_leak_5 : decode cX4_leak 5 = .ok (.ifCond .eq 15, 3) := by decide +kernel
theorem dX4_leak_8 : decode cX4_leak 8 = .ok (.iload_n 2, 1) := by decide +kernel
theorem dX4_leak_9 : decode cX4_leak 9 = .ok (.i2l, 1) := by decide +kernel
theorem dX4_leak_10 : decode cX4_leak 10 = .ok (.lconst 0, 1) := by decide +kernel
theorem dX4_leak_11 : decode cX4_leak 11 = .ok (.ldc2_w 67, 3) := by decide +kernel
theorem dX4_leak_14 : decode cX4_leak 14 = .ok (.invokestatic 60, 3) := by decide +kernel
theorem dX4_leak_17 : decode cX4_leak 17 = .ok (.ifCond .ne 6, 3) := by decide +kernel
theorem dX4_leak_20 : decode cX4_leak 20 = .ok (.bipush (-2), 2) := by decide +kernel
theorem dX4_leak_22 : decode cX4_leak 22 = .ok (.ireturn, 1) := by decide +kernel
theorem dX4_leak_23 : decode cX4_leak 23 = .ok (.aload_n 0, 1) := by decide +kernel
theorem dX4_leak_24 : decode cX4_leak 24 = .ok (.getfield 31, 3) := by decide +kernel
theorem dX4_leak_27 : decode cX4_leak 27 = .ok (.iload_n 1, 1) := by decide +kernel
theorem dX4_leak_28 : decode cX4_leak 28 = .ok (.iaload, 1) := by decide +kernel
theorem dX4_leak_29 : decode cX4_leak 29 = .ok (.istore_n 3, 1) := by decide +kernel
theorem dX4_leak_30 : decode cX4_leak 30 = .ok (.aload_n 0, 1) := by decide +kernel
theorem dX4_leak_31 : decode cX4_leak 31 = .ok (.getfield 31, 3) := by decide +kernel
theorem dX4_leak_34 : decode cX4_leak 34 = .ok (.iload_n 1, 1) := by decide +kernel
theorem dX4_leak_35 : decode cX4_leak 35 = .ok (.iload_n 2, 1) := by decide +kernel
theorem dX4_leak_36 : decode cX4_leak 36 = .ok (.iastore, 1) := by decide +kernel
theorem dX4_leak_37 : decode cX4_leak 37 = .ok (.iload_n 3, 1) := by decide +kernel
theorem dX4_leak_38 : decode cX4_leak 38 = .ok (.ireturn, 1) := by decide +kernel
set_option maxRecDepth 20000 in
theorem ggX4_read_X4_isSheet : GoodIn wsX4_read wsX4_isSheet := goodIn_r _ [7, 8, 9, 10, 6, 11] (by decide +kernel) (by decide +kernel)
set_option maxRecDepth 20000 in
theorem gX4_read_X4_isSheet : GoodIn wsX4_read (va_wsS RX4 69 yX4_isSheet wsX4_isSheet) := goodIn_app (goodIn_of _ (by decide +kernel)) ggX4_read_X4_isSheet
set_option maxRecDepth 20000 in
theorem ggX4_read_X4_finds : GoodIn wsX4_read wsX4_finds := goodIn_r _ [15, 16, 29, 30, 31, 32, 33, 34, 35, 36, 37, 38, 39, 40, 41, 42, 43, 44, 45, 46, 47, 48, 49, 50, 51, 52, 53, 54, 55, 56, 57, 58] (by decide +kernel) (by decide +kernel)
set_option maxRecDepth 20000 in
theorem gX4_read_X4_finds : GoodIn wsX4_read (wsV RX4 75 RX4 yX4_finds wsX4_finds) := goodIn_app (goodIn_of _ (by decide +kernel)) ggX4_read_X4_finds
set_option maxRecDepth 20000 in
theorem ggX4_read_X4_basin : GoodIn wsX4_read wsX4_basin := goodIn_r _ [20, 21, 22, 8, 23, 24, 25, 26, 27, 28, 9, 10, 6, 11, 29, 30, 31, 32, 33, 34, 35, 36, 37, 38, 39, 40, 41, 42, 43, 44, 45, 46, 47, 48, 49, 50, 51, 52, 53, 54, 55, 56, 57, 58] (by decide +kernel) (by decide +kernel)
set_option maxRecDepth 20000 in
theorem gX4_read_X4_basin : GoodIn wsX4_read (wsV RX4 105 RX4 yX4_basin wsX4_basin) := goodIn_app (goodIn_of _ (by decide +kernel)) ggX4_read_X4_basin
theorem dX4_read_0 : decode cX4_read 0 = .ok (.iload_n 1, 1) := by decide +kernel
theorem dX4_read_1 : decode cX4_read 1 = .ok (.invokestatic 69, 3) := by decide +kernel
theorem dX4_read_4 : decode cX4_read 4 = .ok (.ifCond .ne 6, 3) := by decide +kernel
theorem dX4_read_7 : decode cX4_read 7 = .ok (.bipush (-2), 2) := by decide +kernel
theorem dX4_read_9 : decode cX4_read 9 = .ok (.ireturn, 1) := by decide +kernel
theorem dX4_read_10 : decode cX4_read 10 = .ok (.aload_n 0, 1) := by decide +kernel
theorem dX4_read_11 : decode cX4_read 11 = .ok (.getfield 7, 3) := by decide +kernel
theorem dX4_read_14 : decode cX4_read 14 = .ok (.iload_n 1, 1) := by decide +kernel
theorem dX4_read_15 : decode cX4_read 15 = .ok (.iaload, 1) := by decide +kernel
theorem dX4_read_16 : decode cX4_read 16 = .ok (.ifCond .ge 9, 3) := by decide +kernel
theorem dX4_read_19 : decode cX4_read 19 = .ok (.aload_n 0, 1) := by decide +kernel
theorem dX4_read_20 : decode cX4_read 20 = .ok (.iconst 1, 1) := by decide +kernel
theorem dX4_read_21 : decode cX4_read 21 = .ok (.invokevirtual 75, 3) := by decide +kernel
theorem dX4_read_24 : decode cX4_read 24 = .ok (.ireturn, 1) := by decide +kernel
theorem dX4_read_25 : decode cX4_read 25 = .ok (.iconst 0, 1) := by decide +kernel
theorem dX4_read_26 : decode cX4_read 26 = .ok (.istore_n 2, 1) := by decide +kernel
theorem dX4_read_27 : decode cX4_read 27 = .ok (.iconst 1, 1) := by decide +kernel
theorem dX4_read_28 : decode cX4_read 28 = .ok (.istore_n 3, 1) := by decide +kernel
theorem dX4_read_29 : decode cX4_read 29 = .ok (.iload_n 3, 1) := by decide +kernel
theorem dX4_read_30 : decode cX4_read 30 = .ok (.ifCond .eq 80, 3) := by decide +kernel
theorem dX4_read_33 : decode cX4_read 33 = .ok (.iconst 3, 1) := by decide +kernel
theorem dX4_read_34 : decode cX4_read 34 = .ok (.iload_n 2, 1) := by decide +kernel
theorem dX4_read_35 : decode cX4_read 35 = .ok (.imul, 1) := by decide +kernel
theorem dX4_read_36 : decode cX4_read 36 = .ok (.iconst 3, 1) := by decide +kernel
theorem dX4_read_37 : decode cX4_read 37 = .ok (.iadd, 1) := by decide +kernel
theorem dX4_read_38 : decode cX4_read 38 = .ok (.aload_n 0, 1) := by decide +kernel
theorem dX4_read_39 : decode cX4_read 39 = .ok (.getfield 13, 3) := by decide +kernel
theorem dX4_read_42 : decode cX4_read 42 = .ok (.iload_n 1, 1) := by decide +kernel
theorem dX4_read_43 : decode cX4_read 43 = .ok (.iaload, 1) := by decide +kernel
theorem dX4_read_44 : decode cX4_read 44 = .ok (.if_icmp .gt 66, 3) := by decide +kernel
theorem dX4_read_47 : decode cX4_read 47 = .ok (.bipush 60, 2) := by decide +kernel
theorem dX4_read_49 : decode cX4_read 49 = .ok (.iload_n 1, 1) := by decide +kernel
theorem dX4_read_50 : decode cX4_read 50 = .ok (.imul, 1) := by decide +kernel
theorem dX4_read_51 : decode cX4_read 51 = .ok (.iconst 3, 1) := by decide +kernel
theorem dX4_read_52 : decode cX4_read 52 = .ok (.iload_n 2, 1) := by decide +kernel
theorem dX4_read_53 : decode cX4_read 53 = .ok (.imul, 1) := by decide +kernel
theorem dX4_read_54 : decode cX4_read 54 = .ok (.iadd, 1) := by decide +kernel
theorem dX4_read_55 : decode cX4_read 55 = .ok (.istore 4, 2) := by decide +kernel
theorem dX4_read_57 : decode cX4_read 57 = .ok (.aload_n 0, 1) := by decide +kernel
theorem dX4_read_58 : decode cX4_read 58 = .ok (.aload_n 0, 1) := by decide +kernel
theorem dX4_read_59 : decode cX4_read 59 = .ok (.getfield 16, 3) := by decide +kernel
theorem dX4_read_62 : decode cX4_read 62 = .ok (.iload 4, 2) := by decide +kernel
theorem dX4_read_64 : decode cX4_read 64 = .ok (.iaload, 1) := by decide +kernel
theorem dX4_read_65 : decode cX4_read 65 = .ok (.aload_n 0, 1) := by decide +kernel
theorem dX4_read_66 : decode cX4_read 66 = .ok (.getfield 16, 3) := by decide +kernel
theorem dX4_read_69 : decode cX4_read 69 = .ok (.iload 4, 2) := by decide +kernel
theorem dX4_read_71 : decode cX4_read 71 = .ok (.iconst 1, 1) := by decide +kernel
theorem dX4_read_72 : decode cX4_read 72 = .ok (.iadd, 1) := by decide +kernel
theorem dX4_read_73 : decode cX4_read 73 = .ok (.iaload, 1) := by decide +kernel
theorem dX4_read_74 : decode cX4_read 74 = .ok (.aload_n 0, 1) := by decide +kernel
theorem dX4_read_75 : decode cX4_read 75 = .ok (.getfield 16, 3) := by decide +kernel
theorem dX4_read_78 : decode cX4_read 78 = .ok (.iload 4, 2) := by decide +kernel
theorem dX4_read_80 : decode cX4_read 80 = .ok (.iconst 2, 1) := by decide +kernel
theorem dX4_read_81 : decode cX4_read 81 = .ok (.iadd, 1) := by decide +kernel
theorem dX4_read_82 : decode cX4_read 82 = .ok (.iaload, 1) := by decide +kernel
theorem dX4_read_83 : decode cX4_read 83 = .ok (.invokevirtual 105, 3) := by decide +kernel
theorem dX4_read_86 : decode cX4_read 86 = .ok (.ifCond .lt 7, 3) := by decide +kernel
theorem dX4_read_89 : decode cX4_read 89 = .ok (.iconst 1, 1) := by decide +kernel
theorem dX4_read_90 : decode cX4_read 90 = .ok (.goto 4, 3) := by decide +kernel
theorem dX4_read_93 : decode cX4_read 93 = .ok (.iconst 0, 1) := by decide +kernel
theorem dX4_read_94 : decode cX4_read 94 = .ok (.istore_n 3, 1) := by decide +kernel
theorem dX4_read_95 : decode cX4_read 95 = .ok (.iload_n 2, 1) := by decide +kernel
theorem dX4_read_96 : decode cX4_read 96 = .ok (.iload_n 3, 1) := by decide +kernel
theorem dX4_read_97 : decode cX4_read 97 = .ok (.ifCond .eq 7, 3) := by decide +kernel
theorem dX4_read_100 : decode cX4_read 100 = .ok (.iconst 1, 1) := by decide +kernel
theorem dX4_read_101 : decode cX4_read 101 = .ok (.goto 4, 3) := by decide +kernel
theorem dX4_read_104 : decode cX4_read 104 = .ok (.iconst 0, 1) := by decide +kernel
theorem dX4_read_105 : decode cX4_read 105 = .ok (.iadd, 1) := by decide +kernel
theorem dX4_read_106 : decode cX4_read 106 = .ok (.istore_n 2, 1) := by decide +kernel
theorem dX4_read_107 : decode cX4_read 107 = .ok (.goto (-78), 3) := by decide +kernel
theorem dX4_read_110 : decode cX4_read 110 = .ok (.iload_n 2, 1) := by decide +kernel
theorem dX4_read_111 : decode cX4_read 111 = .ok (.ireturn, 1) := by decide +kernel
theorem dX4_levelOf_0 : decode cX4_levelOf 0 = .ok (.bipush 6, 2) := by decide +kernel
theorem dX4_levelOf_2 : decode cX4_levelOf 2 = .ok (.aload_n 0, 1) := by decide +kernel
theorem dX4_levelOf_3 : decode cX4_levelOf 3 = .ok (.getfield 22, 3) := by decide +kernel
theorem dX4_levelOf_6 : decode cX4_levelOf 6 = .ok (.iload_n 1, 1) := by decide +kernel
theorem dX4_levelOf_7 : decode cX4_levelOf 7 = .ok (.iaload, 1) := by decide +kernel
theorem dX4_levelOf_8 : decode cX4_levelOf 8 = .ok (.imul, 1) := by decide +kernel
theorem dX4_levelOf_9 : decode cX4_levelOf 9 = .ok (.iload_n 2, 1) := by decide +kernel
theorem dX4_levelOf_10 : decode cX4_levelOf 10 = .ok (.bipush 6, 2) := by decide +kernel
theorem dX4_levelOf_12 : decode cX4_levelOf 12 = .ok (.imul, 1) := by decide +kernel
theorem dX4_levelOf_13 : decode cX4_levelOf 13 = .ok (.aload_n 0, 1) := by decide +kernel
theorem dX4_levelOf_14 : decode cX4_levelOf 14 = .ok (.getfield 28, 3) := by decide +kernel
theorem dX4_levelOf_17 : decode cX4_levelOf 17 = .ok (.iload_n 1, 1) := by decide +kernel
theorem dX4_levelOf_18 : decode cX4_levelOf 18 = .ok (.iaload, 1) := by decide +kernel
theorem dX4_levelOf_19 : decode cX4_levelOf 19 = .ok (.idiv, 1) := by decide +kernel
theorem dX4_levelOf_20 : decode cX4_levelOf 20 = .ok (.iadd, 1) := by decide +kernel
theorem dX4_levelOf_21 : decode cX4_levelOf 21 = .ok (.ireturn, 1) := by decide +kernel
set_option maxRecDepth 20000 in
theorem ggX4_infoBy_X4_levelOf : GoodIn wsX4_infoBy wsX4_levelOf := goodIn_r _ [11, 1, 3, 12, 13, 14, 15, 16, 17, 18, 19, 20, 21, 22, 23, 24, 25, 26, 27, 28, 29, 30, 31, 32, 33, 34, 35, 36, 37, 38, 39, 40, 41] (by decide +kernel) (by decide +kernel)
set_option maxRecDepth 20000 in
theorem gX4_infoBy_X4_levelOf : GoodIn wsX4_infoBy (wsV RX4 108 RX4 yX4_levelOf wsX4_levelOf) := goodIn_app (goodIn_of _ (by decide +kernel)) ggX4_infoBy_X4_levelOf
theorem dX4_infoBy_0 : decode cX4_infoBy 0 = .ok (.iload_n 2, 1) := by decide +kernel
theorem dX4_infoBy_1 : decode cX4_infoBy 1 = .ok (.tableswitch 86 0 5 #[39, 46, 53, 60, 67, 74], 39) := by decide +kernel
theorem dX4_infoBy_40 : decode cX4_infoBy 40 = .ok (.aload_n 0, 1) := by decide +kernel
theorem dX4_infoBy_41 : decode cX4_infoBy 41 = .ok (.getfield 22, 3) := by decide +kernel
theorem dX4_infoBy_44 : decode cX4_infoBy 44 = .ok (.iload_n 1, 1) := by decide +kernel
theorem dX4_infoBy_45 : decode cX4_infoBy 45 = .ok (.iaload, 1) := by decide +kernel
theorem dX4_infoBy_46 : decode cX4_infoBy 46 = .ok (.ireturn, 1) := by decide +kernel
theorem dX4_infoBy_47 : decode cX4_infoBy 47 = .ok (.aload_n 0, 1) := by decide +kernel
theorem dX4_infoBy_48 : decode cX4_infoBy 48 = .ok (.getfield 25, 3) := by decide +kernel
theorem dX4_infoBy_51 : decode cX4_infoBy 51 = .ok (.iload_n 1, 1) := by decide +kernel
theorem dX4_infoBy_52 : decode cX4_infoBy 52 = .ok (.iaload, 1) := by decide +kernel
theorem dX4_infoBy_53 : decode cX4_infoBy 53 = .ok (.ireturn, 1) := by decide +kernel
theorem dX4_infoBy_54 : decode cX4_infoBy 54 = .ok (.aload_n 0, 1) := by decide +kernel
theorem dX4_infoBy_55 : decode cX4_infoBy 55 = .ok (.getfield 28, 3) := by decide +kernel
theorem dX4_infoBy_58 : decode cX4_infoBy 58 = .ok (.iload_n 1, 1) := by decide +kernel
theorem dX4_infoBy_59 : decode cX4_infoBy 59 = .ok (.iaload, 1) := by decide +kernel
theorem dX4_infoBy_60 : decode cX4_infoBy 60 = .ok (.ireturn, 1) := by decide +kernel
theorem dX4_infoBy_61 : decode cX4_infoBy 61 = .ok (.aload_n 0, 1) := by decide +kernel
theorem dX4_infoBy_62 : decode cX4_infoBy 62 = .ok (.getfield 31, 3) := by decide +kernel
theorem dX4_infoBy_65 : decode cX4_infoBy 65 = .ok (.iload_n 1, 1) := by decide +kernel
theorem dX4_infoBy_66 : decode cX4_infoBy 66 = .ok (.iaload, 1) := by decide +kernel
theorem dX4_infoBy_67 : decode cX4_infoBy 67 = .ok (.ireturn, 1) := by decide +kernel
theorem dX4_infoBy_68 : decode cX4_infoBy 68 = .ok (.aload_n 0, 1) := by decide +kernel
theorem dX4_infoBy_69 : decode cX4_infoBy 69 = .ok (.getfield 34, 3) := by decide +kernel
theorem dX4_infoBy_72 : decode cX4_infoBy 72 = .ok (.iload_n 1, 1) := by decide +kernel
theorem dX4_infoBy_73 : decode cX4_infoBy 73 = .ok (.iaload, 1) := by decide +kernel
theorem dX4_infoBy_74 : decode cX4_infoBy 74 = .ok (.ireturn, 1) := by decide +kernel
theorem dX4_infoBy_75 : decode cX4_infoBy 75 = .ok (.aload_n 0, 1) := by decide +kernel
theorem dX4_infoBy_76 : decode cX4_infoBy 76 = .ok (.iload_n 1, 1) := by decide +kernel
theorem dX4_infoBy_77 : decode cX4_infoBy 77 = .ok (.aload_n 0, 1) := by decide +kernel
theorem dX4_infoBy_78 : decode cX4_infoBy 78 = .ok (.getfield 34, 3) := by decide +kernel
theorem dX4_infoBy_81 : decode cX4_infoBy 81 = .ok (.iload_n 1, 1) := by decide +kernel
theorem dX4_infoBy_82 : decode cX4_infoBy 82 = .ok (.iaload, 1) := by decide +kernel
theorem dX4_infoBy_83 : decode cX4_infoBy 83 = .ok (.invokevirtual 108, 3) := by decide +kernel
theorem dX4_infoBy_86 : decode cX4_infoBy 86 = .ok (.ireturn, 1) := by decide +kernel
theorem dX4_infoBy_87 : decode cX4_infoBy 87 = .ok (.aload_n 0, 1) := by decide +kernel
theorem dX4_infoBy_88 : decode cX4_infoBy 88 = .ok (.getfield 99, 3) := by decide +kernel
theorem dX4_infoBy_91 : decode cX4_infoBy 91 = .ok (.iload_n 1, 1) := by decide +kernel
theorem dX4_infoBy_92 : decode cX4_infoBy 92 = .ok (.ishr, 1) := by decide +kernel
theorem dX4_infoBy_93 : decode cX4_infoBy 93 = .ok (.iconst 1, 1) := by decide +kernel
theorem dX4_infoBy_94 : decode cX4_infoBy 94 = .ok (.iand, 1) := by decide +kernel
theorem dX4_infoBy_95 : decode cX4_infoBy 95 = .ok (.ireturn, 1) := by decide +kernel
set_option maxRecDepth 20000 in
theorem ggX4_info_X4_isBasin : GoodIn wsX4_info wsX4_isBasin := goodIn_r _ [6, 7, 8, 9, 5, 10, 25, 26, 27, 28, 29, 30, 31, 32, 33, 34, 35, 36, 37, 38, 39, 40, 41, 42, 43, 44, 45, 46, 47, 48, 49, 50, 51, 52, 53, 54] (by decide +kernel) (by decide +kernel)
set_option maxRecDepth 20000 in
theorem gX4_info_X4_isBasin : GoodIn wsX4_info (wsV RX4 102 RX4 yX4_isBasin wsX4_isBasin) := goodIn_app (goodIn_of _ (by decide +kernel)) ggX4_info_X4_isBasin
set_option maxRecDepth 20000 in
theorem ggX4_info_X4_in : GoodIn wsX4_info wsX4_in := goodIn_r _ [10] (by decide +kernel) (by decide +kernel)
set_option maxRecDepth 20000 in
theorem gX4_info_X4_in : GoodIn wsX4_info (va_wsS RX4 60 yX4_in wsX4_in) := goodIn_app (goodIn_of _ (by decide +kernel)) ggX4_info_X4_in
set_option maxRecDepth 20000 in
theorem ggX4_info_X4_infoBy : GoodIn wsX4_info wsX4_infoBy := goodIn_r _ [14, 15, 16, 17, 18, 19, 20, 21, 22, 23, 5, 24, 25, 26, 27, 28, 29, 30, 31, 32, 33, 34, 35, 36, 37, 38, 39, 40, 41, 42, 43, 44, 45, 46, 47, 48, 49, 50, 51, 52, 53, 54] (by decide +kernel) (by decide +kernel)
set_option maxRecDepth 20000 in
theorem gX4_info_X4_infoBy : GoodIn wsX4_info (wsV RX4 113 RX4 yX4_infoBy wsX4_infoBy) := goodIn_app (goodIn_of _ (by decide +kernel)) ggX4_info_X4_infoBy
theorem dX4_info_0 : decode cX4_info 0 = .ok (.aload_n 0, 1) := by decide +kernel
theorem dX4_info_1 : decode cX4_info 1 = .ok (.iload_n 1, 1) := by decide +kernel
theorem dX4_info_2 : decode cX4_info 2 = .ok (.invokevirtual 102, 3) := by decide +kernel
theorem dX4_info_5 : decode cX4_info 5 = .ok (.ifCond .eq 24, 3) := by decide +kernel
theorem dX4_info_8 : decode cX4_info 8 = .ok (.iload_n 2, 1) := by decide +kernel
theorem dX4_info_9 : decode cX4_info 9 = .ok (.i2l, 1) := by decide +kernel
theorem dX4_info_10 : decode cX4_info 10 = .ok (.lconst 0, 1) := by decide +kernel
theorem dX4_info_11 : decode cX4_info 11 = .ok (.ldc2_w 111, 3) := by decide +kernel
theorem dX4_info_14 : decode cX4_info 14 = .ok (.invokestatic 60, 3) := by decide +kernel
theorem dX4_info_17 : decode cX4_info 17 = .ok (.ifCond .eq 12, 3) := by decide +kernel
theorem dX4_info_20 : decode cX4_info 20 = .ok (.aload_n 0, 1) := by decide +kernel
theorem dX4_info_21 : decode cX4_info 21 = .ok (.iload_n 1, 1) := by decide +kernel
theorem dX4_info_22 : decode cX4_info 22 = .ok (.iload_n 2, 1) := by decide +kernel
theorem dX4_info_23 : decode cX4_info 23 = .ok (.invokevirtual 113, 3) := by decide +kernel
theorem dX4_info_26 : decode cX4_info 26 = .ok (.goto 5, 3) := by decide +kernel
theorem dX4_info_29 : decode cX4_info 29 = .ok (.bipush (-2), 2) := by decide +kernel
theorem dX4_info_31 : decode cX4_info 31 = .ok (.ireturn, 1) := by decide +kernel
theorem dX4_chamberBy_0 : decode cX4_chamberBy 0 = .ok (.aload_n 0, 1) := by decide +kernel
theorem dX4_chamberBy_1 : decode cX4_chamberBy 1 = .ok (.getfield 90, 3) := by decide +kernel
theorem dX4_chamberBy_4 : decode cX4_chamberBy 4 = .ok (.ifCond .eq 10, 3) := by decide +kernel
theorem dX4_chamberBy_7 : decode cX4_chamberBy 7 = .ok (.aload_n 0, 1) := by decide +kernel
theorem dX4_chamberBy_8 : decode cX4_chamberBy 8 = .ok (.getfield 56, 3) := by decide +kernel
theorem dX4_chamberBy_11 : decode cX4_chamberBy 11 = .ok (.goto 4, 3) := by decide +kernel
theorem dX4_chamberBy_14 : decode cX4_chamberBy 14 = .ok (.iconst 0, 1) := by decide +kernel
theorem dX4_chamberBy_15 : decode cX4_chamberBy 15 = .ok (.istore_n 2, 1) := by decide +kernel
theorem dX4_chamberBy_16 : decode cX4_chamberBy 16 = .ok (.iload_n 1, 1) := by decide +kernel
theorem dX4_chamberBy_17 : decode cX4_chamberBy 17 = .ok (.ifCond .ne 7, 3) := by decide +kernel
theorem dX4_chamberBy_20 : decode cX4_chamberBy 20 = .ok (.iload_n 2, 1) := by decide +kernel
theorem dX4_chamberBy_21 : decode cX4_chamberBy 21 = .ok (.goto 19, 3) := by decide +kernel
theorem dX4_chamberBy_24 : decode cX4_chamberBy 24 = .ok (.iload_n 1, 1) := by decide +kernel
theorem dX4_chamberBy_25 : decode cX4_chamberBy 25 = .ok (.iconst 1, 1) := by decide +kernel
theorem dX4_chamberBy_26 : decode cX4_chamberBy 26 = .ok (.if_icmp .ne 10, 3) := by decide +kernel
theorem dX4_chamberBy_29 : decode cX4_chamberBy 29 = .ok (.bipush 6, 2) := by decide +kernel
theorem dX4_chamberBy_31 : decode cX4_chamberBy 31 = .ok (.iload_n 2, 1) := by decide +kernel
theorem dX4_chamberBy_32 : decode cX4_chamberBy 32 = .ok (.imul, 1) := by decide +kernel
theorem dX4_chamberBy_33 : decode cX4_chamberBy 33 = .ok (.goto 7, 3) := by decide +kernel
theorem dX4_chamberBy_36 : decode cX4_chamberBy 36 = .ok (.aload_n 0, 1) := by decide +kernel
theorem dX4_chamberBy_37 : decode cX4_chamberBy 37 = .ok (.getfield 56, 3) := by decide +kernel
theorem dX4_chamberBy_40 : decode cX4_chamberBy 40 = .ok (.ireturn, 1) := by decide +kernel
set_option maxRecDepth 20000 in
theorem ggX4_chamber_X4_in : GoodIn wsX4_chamber wsX4_in := goodIn_r _ [5] (by decide +kernel) (by decide +kernel)
set_option maxRecDepth 20000 in
theorem gX4_chamber_X4_in : GoodIn wsX4_chamber (va_wsS RX4 60 yX4_in wsX4_in) := goodIn_app (goodIn_of _ (by decide +kernel)) ggX4_chamber_X4_in
set_option maxRecDepth 20000 in
theorem ggX4_chamber_X4_chamberBy : GoodIn wsX4_chamber wsX4_chamberBy := goodIn_r _ [9, 10, 11, 12, 13, 14, 15, 16, 17, 18, 19, 20, 21, 22, 23, 24, 25, 26, 27, 28, 29, 30, 31, 32, 33, 34, 35, 36, 37, 38, 39, 40, 41] (by decide +kernel) (by decide +kernel)
set_option maxRecDepth 20000 in
theorem gX4_chamber_X4_chamberBy : GoodIn wsX4_chamber (wsV RX4 116 RX4 yX4_chamberBy wsX4_chamberBy) := goodIn_app (goodIn_of _ (by decide +kernel)) ggX4_chamber_X4_chamberBy
theorem dX4_chamber_0 : decode cX4_chamber 0 = .ok (.iload_n 1, 1) := by decide +kernel
theorem dX4_chamber_1 : decode cX4_chamber 1 = .ok (.i2l, 1) := by decide +kernel
theorem dX4_chamber_2 : decode cX4_chamber 2 = .ok (.lconst 0, 1) := by decide +kernel
theorem dX4_chamber_3 : decode cX4_chamber 3 = .ok (.ldc2_w 73, 3) := by decide +kernel
theorem dX4_chamber_6 : decode cX4_chamber 6 = .ok (.invokestatic 60, 3) := by decide +kernel
theorem dX4_chamber_9 : decode cX4_chamber 9 = .ok (.ifCond .eq 11, 3) := by decide +kernel
theorem dX4_chamber_12 : decode cX4_chamber 12 = .ok (.aload_n 0, 1) := by decide +kernel
theorem dX4_chamber_13 : decode cX4_chamber 13 = .ok (.iload_n 1, 1) := by decide +kernel
theorem dX4_chamber_14 : decode cX4_chamber 14 = .ok (.invokevirtual 116, 3) := by decide +kernel
theorem dX4_chamber_17 : decode cX4_chamber 17 = .ok (.goto 5, 3) := by decide +kernel
theorem dX4_chamber_20 : decode cX4_chamber 20 = .ok (.bipush (-2), 2) := by decide +kernel
theorem dX4_chamber_22 : decode cX4_chamber 22 = .ok (.ireturn, 1) := by decide +kernel
theorem dX4_manyWait_0 : decode cX4_manyWait 0 = .ok (.iconst 0, 1) := by decide +kernel
theorem dX4_manyWait_1 : decode cX4_manyWait 1 = .ok (.istore_n 2, 1) := by decide +kernel
theorem dX4_manyWait_2 : decode cX4_manyWait 2 = .ok (.iconst 0, 1) := by decide +kernel
theorem dX4_manyWait_3 : decode cX4_manyWait 3 = .ok (.istore_n 3, 1) := by decide +kernel
theorem dX4_manyWait_4 : decode cX4_manyWait 4 = .ok (.iload_n 3, 1) := by decide +kernel
theorem dX4_manyWait_5 : decode cX4_manyWait 5 = .ok (.aload_n 0, 1) := by decide +kernel
theorem dX4_manyWait_6 : decode cX4_manyWait 6 = .ok (.getfield 119, 3) := by decide +kernel
theorem dX4_manyWait_9 : decode cX4_manyWait 9 = .ok (.if_icmp .ge 36, 3) := by decide +kernel
theorem dX4_manyWait_12 : decode cX4_manyWait 12 = .ok (.iload_n 2, 1) := by decide +kernel
theorem dX4_manyWait_13 : decode cX4_manyWait 13 = .ok (.aload_n 0, 1) := by decide +kernel
theorem dX4_manyWait_14 : decode cX4_manyWait 14 = .ok (.getfield 40, 3) := by decide +kernel
theorem dX4_manyWait_17 : decode cX4_manyWait 17 = .ok (.iload_n 3, 1) := by decide +kernel
theorem dX4_manyWait_18 : decode cX4_manyWait 18 = .ok (.baload, 1) := by decide +kernel
theorem dX4_manyWait_19 : decode cX4_manyWait 19 = .ok (.ifCond .eq 17, 3) := by decide +kernel
theorem dX4_manyWait_22 : decode cX4_manyWait 22 = .ok (.aload_n 0, 1) := by decide +kernel
theorem dX4_manyWait_23 : decode cX4_manyWait 23 = .ok (.getfield 37, 3) := by decide +kernel
theorem dX4_manyWait_26 : decode cX4_manyWait 26 = .ok (.iload_n 3, 1) := by decide +kernel
theorem dX4_manyWait_27 : decode cX4_manyWait 27 = .ok (.iaload, 1) := by decide +kernel
theorem dX4_manyWait_28 : decode cX4_manyWait 28 = .ok (.iload_n 1, 1) := by decide +kernel
theorem dX4_manyWait_29 : decode cX4_manyWait 29 = .ok (.if_icmp .ne 7, 3) := by decide +kernel
theorem dX4_manyWait_32 : decode cX4_manyWait 32 = .ok (.iconst 1, 1) := by decide +kernel
theorem dX4_manyWait_33 : decode cX4_manyWait 33 = .ok (.goto 4, 3) := by decide +kernel
theorem dX4_manyWait_36 : decode cX4_manyWait 36 = .ok (.iconst 0, 1) := by decide +kernel
theorem dX4_manyWait_37 : decode cX4_manyWait 37 = .ok (.iadd, 1) := by decide +kernel
theorem dX4_manyWait_38 : decode cX4_manyWait 38 = .ok (.istore_n 2, 1) := by decide +kernel
theorem dX4_manyWait_39 : decode cX4_manyWait 39 = .ok (.iinc 3 1, 3) := by decide +kernel
theorem dX4_manyWait_42 : decode cX4_manyWait 42 = .ok (.goto (-38), 3) := by decide +kernel
theorem dX4_manyWait_45 : decode cX4_manyWait 45 = .ok (.iload_n 2, 1) := by decide +kernel
theorem dX4_manyWait_46 : decode cX4_manyWait 46 = .ok (.ireturn, 1) := by decide +kernel
set_option maxRecDepth 20000 in
theorem ggX4_boat_X4_isTwo : GoodIn wsX4_boat wsX4_isTwo := goodIn_r _ [7, 8, 9, 6, 10] (by decide +kernel) (by decide +kernel)
set_option maxRecDepth 20000 in
theorem gX4_boat_X4_isTwo : GoodIn wsX4_boat (va_wsS RX4 122 yX4_isTwo wsX4_isTwo) := goodIn_app (goodIn_of _ (by decide +kernel)) ggX4_boat_X4_isTwo
set_option maxRecDepth 20000 in
theorem ggX4_boat_X4_manyWait : GoodIn wsX4_boat wsX4_manyWait := goodIn_r _ [14, 1, 3, 2, 15, 16, 17, 18, 19, 20, 21, 22, 23, 24, 25, 26, 27, 28, 29, 30, 31, 32, 33, 34, 35, 36, 37, 38, 39, 40, 41, 42, 43, 44] (by decide +kernel) (by decide +kernel)
set_option maxRecDepth 20000 in
theorem gX4_boat_X4_manyWait : GoodIn wsX4_boat (wsV RX4 125 RX4 yX4_manyWait wsX4_manyWait) := goodIn_app (goodIn_of _ (by decide +kernel)) ggX4_boat_X4_manyWait
theorem dX4_boat_0 : decode cX4_boat 0 = .ok (.iload_n 1, 1) := by decide +kernel
theorem dX4_boat_1 : decode cX4_boat 1 = .ok (.invokestatic 122, 3) := by decide +kernel
theorem dX4_boat_4 : decode cX4_boat 4 = .ok (.ifCond .ne 6, 3) := by decide +kernel
theorem dX4_boat_7 : decode cX4_boat 7 = .ok (.bipush (-2), 2) := by decide +kernel
theorem dX4_boat_9 : decode cX4_boat 9 = .ok (.ireturn, 1) := by decide +kernel
theorem dX4_boat_10 : decode cX4_boat 10 = .ok (.aload_n 0, 1) := by decide +kernel
theorem dX4_boat_11 : decode cX4_boat 11 = .ok (.getfield 119, 3) := by decide +kernel
theorem dX4_boat_14 : decode cX4_boat 14 = .ok (.bipush 100, 2) := by decide +kernel
theorem dX4_boat_16 : decode cX4_boat 16 = .ok (.if_icmp .eq 13, 3) := by decide +kernel
theorem dX4_boat_19 : decode cX4_boat 19 = .ok (.aload_n 0, 1) := by decide +kernel
theorem dX4_boat_20 : decode cX4_boat 20 = .ok (.iload_n 1, 1) := by decide +kernel
theorem dX4_boat_21 : decode cX4_boat 21 = .ok (.invokevirtual 125, 3) := by decide +kernel
theorem dX4_boat_24 : decode cX4_boat 24 = .ok (.bipush 16, 2) := by decide +kernel
theorem dX4_boat_26 : decode cX4_boat 26 = .ok (.if_icmp .ne 6, 3) := by decide +kernel
theorem dX4_boat_29 : decode cX4_boat 29 = .ok (.bipush (-4), 2) := by decide +kernel
theorem dX4_boat_31 : decode cX4_boat 31 = .ok (.ireturn, 1) := by decide +kernel
theorem dX4_boat_32 : decode cX4_boat 32 = .ok (.aload_n 0, 1) := by decide +kernel
theorem dX4_boat_33 : decode cX4_boat 33 = .ok (.getfield 37, 3) := by decide +kernel
theorem dX4_boat_36 : decode cX4_boat 36 = .ok (.aload_n 0, 1) := by decide +kernel
theorem dX4_boat_37 : decode cX4_boat 37 = .ok (.getfield 119, 3) := by decide +kernel
theorem dX4_boat_40 : decode cX4_boat 40 = .ok (.iload_n 1, 1) := by decide +kernel
theorem dX4_boat_41 : decode cX4_boat 41 = .ok (.iastore, 1) := by decide +kernel
theorem dX4_boat_42 : decode cX4_boat 42 = .ok (.aload_n 0, 1) := by decide +kernel
theorem dX4_boat_43 : decode cX4_boat 43 = .ok (.getfield 40, 3) := by decide +kernel
theorem dX4_boat_46 : decode cX4_boat 46 = .ok (.aload_n 0, 1) := by decide +kernel
theorem dX4_boat_47 : decode cX4_boat 47 = .ok (.getfield 119, 3) := by decide +kernel
theorem dX4_boat_50 : decode cX4_boat 50 = .ok (.iconst 1, 1) := by decide +kernel
theorem dX4_boat_51 : decode cX4_boat 51 = .ok (.bastore, 1) := by decide +kernel
theorem dX4_boat_52 : decode cX4_boat 52 = .ok (.aload_n 0, 1) := by decide +kernel
theorem dX4_boat_53 : decode cX4_boat 53 = .ok (.dup, 1) := by decide +kernel
theorem dX4_boat_54 : decode cX4_boat 54 = .ok (.getfield 119, 3) := by decide +kernel
theorem dX4_boat_57 : decode cX4_boat 57 = .ok (.iconst 1, 1) := by decide +kernel
theorem dX4_boat_58 : decode cX4_boat 58 = .ok (.iadd, 1) := by decide +kernel
theorem dX4_boat_59 : decode cX4_boat 59 = .ok (.putfield 119, 3) := by decide +kernel
theorem dX4_boat_62 : decode cX4_boat 62 = .ok (.aload_n 0, 1) := by decide +kernel
theorem dX4_boat_63 : decode cX4_boat 63 = .ok (.getfield 119, 3) := by decide +kernel
theorem dX4_boat_66 : decode cX4_boat 66 = .ok (.iconst 1, 1) := by decide +kernel
theorem dX4_boat_67 : decode cX4_boat 67 = .ok (.isub, 1) := by decide +kernel
theorem dX4_boat_68 : decode cX4_boat 68 = .ok (.ireturn, 1) := by decide +kernel
set_option maxRecDepth 20000 in
theorem ggX4_leave_X4_manyWait : GoodIn wsX4_leave wsX4_manyWait := goodIn_r _ [8, 1, 2, 3, 9, 10, 11, 12, 13, 14, 15, 16, 17, 18, 19, 20, 21, 22, 23, 24, 25, 26, 27, 28, 29, 30, 31, 32, 33, 34, 35, 36, 37, 38] (by decide +kernel) (by decide +kernel)
set_option maxRecDepth 20000 in
theorem gX4_leave_X4_manyWait : GoodIn wsX4_leave (wsV RX4 125 RX4 yX4_manyWait wsX4_manyWait) := goodIn_app (goodIn_of _ (by decide +kernel)) ggX4_leave_X4_manyWait
theorem dX4_leave_0 : decode cX4_leave 0 = .ok (.iload_n 1, 1) := by decide +kernel
theorem dX4_leave_1 : decode cX4_leave 1 = .ok (.ifCond .ge 6, 3) := by decide +kernel
theorem dX4_leave_4 : decode cX4_leave 4 = .ok (.bipush (-2), 2) := by decide +kernel
theorem dX4_leave_6 : decode cX4_leave 6 = .ok (.ireturn, 1) := by decide +kernel
theorem dX4_leave_7 : decode cX4_leave 7 = .ok (.iload_n 1, 1) := by decide +kernel
theorem dX4_leave_8 : decode cX4_leave 8 = .ok (.aload_n 0, 1) := by decide +kernel
theorem dX4_leave_9 : decode cX4_leave 9 = .ok (.getfield 119, 3) := by decide +kernel
theorem dX4_leave_12 : decode cX4_leave 12 = .ok (.if_icmp .ge 12, 3) := by decide +kernel
theorem dX4_leave_15 : decode cX4_leave 15 = .ok (.aload_n 0, 1) := by decide +kernel
theorem dX4_leave_16 : decode cX4_leave 16 = .ok (.getfield 40, 3) := by decide +kernel
theorem dX4_leave_19 : decode cX4_leave 19 = .ok (.iload_n 1, 1) := by decide +kernel
theorem dX4_leave_20 : decode cX4_leave 20 = .ok (.baload, 1) := by decide +kernel
theorem dX4_leave_21 : decode cX4_leave 21 = .ok (.ifCond .ne 6, 3) := by decide +kernel
theorem dX4_leave_24 : decode cX4_leave 24 = .ok (.bipush (-3), 2) := by decide +kernel
theorem dX4_leave_26 : decode cX4_leave 26 = .ok (.ireturn, 1) := by decide +kernel
theorem dX4_leave_27 : decode cX4_leave 27 = .ok (.aload_n 0, 1) := by decide +kernel
theorem dX4_leave_28 : decode cX4_leave 28 = .ok (.getfield 40, 3) := by decide +kernel
theorem dX4_leave_31 : decode cX4_leave 31 = .ok (.iload_n 1, 1) := by decide +kernel
theorem dX4_leave_32 : decode cX4_leave 32 = .ok (.iconst 0, 1) := by decide +kernel
theorem dX4_leave_33 : decode cX4_leave 33 = .ok (.bastore, 1) := by decide +kernel
theorem dX4_leave_34 : decode cX4_leave 34 = .ok (.aload_n 0, 1) := by decide +kernel
theorem dX4_leave_35 : decode cX4_leave 35 = .ok (.aload_n 0, 1) := by decide +kernel
theorem dX4_leave_36 : decode cX4_leave 36 = .ok (.getfield 37, 3) := by decide +kernel
theorem dX4_leave_39 : decode cX4_leave 39 = .ok (.iload_n 1, 1) := by decide +kernel
theorem dX4_leave_40 : decode cX4_leave 40 = .ok (.iaload, 1) := by decide +kernel
theorem dX4_leave_41 : decode cX4_leave 41 = .ok (.invokevirtual 125, 3) := by decide +kernel
theorem dX4_leave_44 : decode cX4_leave 44 = .ok (.ireturn, 1) := by decide +kernel
theorem dX4_waitsBy_0 : decode cX4_waitsBy 0 = .ok (.iconst 0, 1) := by decide +kernel
theorem dX4_waitsBy_1 : decode cX4_waitsBy 1 = .ok (.istore_n 3, 1) := by decide +kernel
theorem dX4_waitsBy_2 : decode cX4_waitsBy 2 = .ok (.iconst (-1), 1) := by decide +kernel
theorem dX4_waitsBy_3 : decode cX4_waitsBy 3 = .ok (.istore 4, 2) := by decide +kernel
theorem dX4_waitsBy_5 : decode cX4_waitsBy 5 = .ok (.iconst 0, 1) := by decide +kernel
theorem dX4_waitsBy_6 : decode cX4_waitsBy 6 = .ok (.istore 5, 2) := by decide +kernel
theorem dX4_waitsBy_8 : decode cX4_waitsBy 8 = .ok (.iload 5, 2) := by decide +kernel
theorem dX4_waitsBy_10 : decode cX4_waitsBy 10 = .ok (.aload_n 0, 1) := by decide +kernel
theorem dX4_waitsBy_11 : decode cX4_waitsBy 11 = .ok (.getfield 119, 3) := by decide +kernel
theorem dX4_waitsBy_14 : decode cX4_waitsBy 14 = .ok (.if_icmp .ge 47, 3) := by decide +kernel
theorem dX4_waitsBy_17 : decode cX4_waitsBy 17 = .ok (.aload_n 0, 1) := by decide +kernel
theorem dX4_waitsBy_18 : decode cX4_waitsBy 18 = .ok (.getfield 40, 3) := by decide +kernel
theorem dX4_waitsBy_21 : decode cX4_waitsBy 21 = .ok (.iload 5, 2) := by decide +kernel
theorem dX4_waitsBy_23 : decode cX4_waitsBy 23 = .ok (.baload, 1) := by decide +kernel
theorem dX4_waitsBy_24 : decode cX4_waitsBy 24 = .ok (.ifCond .eq 31, 3) := by decide +kernel
theorem dX4_waitsBy_27 : decode cX4_waitsBy 27 = .ok (.aload_n 0, 1) := by decide +kernel
theorem dX4_waitsBy_28 : decode cX4_waitsBy 28 = .ok (.getfield 37, 3) := by decide +kernel
theorem dX4_waitsBy_31 : decode cX4_waitsBy 31 = .ok (.iload 5, 2) := by decide +kernel
theorem dX4_waitsBy_33 : decode cX4_waitsBy 33 = .ok (.iaload, 1) := by decide +kernel
theorem dX4_waitsBy_34 : decode cX4_waitsBy 34 = .ok (.iload_n 1, 1) := by decide +kernel
theorem dX4_waitsBy_35 : decode cX4_waitsBy 35 = .ok (.if_icmp .ne 20, 3) := by decide +kernel
theorem dX4_waitsBy_38 : decode cX4_waitsBy 38 = .ok (.iload_n 3, 1) := by decide +kernel
theorem dX4_waitsBy_39 : decode cX4_waitsBy 39 = .ok (.iload_n 2, 1) := by decide +kernel
theorem dX4_waitsBy_40 : decode cX4_waitsBy 40 = .ok (.if_icmp .ne 8, 3) := by decide +kernel
theorem dX4_waitsBy_43 : decode cX4_waitsBy 43 = .ok (.iload 5, 2) := by decide +kernel
theorem dX4_waitsBy_45 : decode cX4_waitsBy 45 = .ok (.goto 5, 3) := by decide +kernel
theorem dX4_waitsBy_48 : decode cX4_waitsBy 48 = .ok (.iload 4, 2) := by decide +kernel
theorem dX4_waitsBy_50 : decode cX4_waitsBy 50 = .ok (.istore 4, 2) := by decide +kernel
theorem dX4_waitsBy_52 : decode cX4_waitsBy 52 = .ok (.iinc 3 1, 3) := by decide +kernel
theorem dX4_waitsBy_55 : decode cX4_waitsBy 55 = .ok (.iinc 5 1, 3) := by decide +kernel
theorem dX4_waitsBy_58 : decode cX4_waitsBy 58 = .ok (.goto (-50), 3) := by decide +kernel
theorem dX4_waitsBy_61 : decode cX4_waitsBy 61 = .ok (.iload_n 2, 1) := by decide +kernel
theorem dX4_waitsBy_62 : decode cX4_waitsBy 62 = .ok (.iconst (-1), 1) := by decide +kernel
theorem dX4_waitsBy_63 : decode cX4_waitsBy 63 = .ok (.if_icmp .ne 7, 3) := by decide +kernel
theorem dX4_waitsBy_66 : decode cX4_waitsBy 66 = .ok (.iload_n 3, 1) := by decide +kernel
theorem dX4_waitsBy_67 : decode cX4_waitsBy 67 = .ok (.goto 5, 3) := by decide +kernel
theorem dX4_waitsBy_70 : decode cX4_waitsBy 70 = .ok (.iload 4, 2) := by decide +kernel
theorem dX4_waitsBy_72 : decode cX4_waitsBy 72 = .ok (.ireturn, 1) := by decide +kernel
set_option maxRecDepth 20000 in
theorem ggX4_waits_X4_isTwo : GoodIn wsX4_waits wsX4_isTwo := goodIn_r _ [6, 7, 8, 5, 9] (by decide +kernel) (by decide +kernel)
set_option maxRecDepth 20000 in
theorem gX4_waits_X4_isTwo : GoodIn wsX4_waits (va_wsS RX4 122 yX4_isTwo wsX4_isTwo) := goodIn_app (goodIn_of _ (by decide +kernel)) ggX4_waits_X4_isTwo
set_option maxRecDepth 20000 in
theorem ggX4_waits_X4_in : GoodIn wsX4_waits wsX4_in := goodIn_r _ [9] (by decide +kernel) (by decide +kernel)
set_option maxRecDepth 20000 in
theorem gX4_waits_X4_in : GoodIn wsX4_waits (va_wsS RX4 60 yX4_in wsX4_in) := goodIn_app (goodIn_of _ (by decide +kernel)) ggX4_waits_X4_in
set_option maxRecDepth 20000 in
theorem ggX4_waits_X4_waitsBy : GoodIn wsX4_waits wsX4_waitsBy := goodIn_r _ [13, 14, 15, 16, 17, 18, 19, 20, 21, 22, 23, 24, 25, 26, 27, 28, 29, 30, 31, 32, 33, 34, 35, 36, 37, 38, 39, 40, 41, 42, 43, 44, 45, 46] (by decide +kernel) (by decide +kernel)
set_option maxRecDepth 20000 in
theorem gX4_waits_X4_waitsBy : GoodIn wsX4_waits (wsV RX4 132 RX4 yX4_waitsBy wsX4_waitsBy) := goodIn_app (goodIn_of _ (by decide +kernel)) ggX4_waits_X4_waitsBy
theorem dX4_waits_0 : decode cX4_waits 0 = .ok (.iload_n 1, 1) := by decide +kernel
theorem dX4_waits_1 : decode cX4_waits 1 = .ok (.invokestatic 122, 3) := by decide +kernel
theorem dX4_waits_4 : decode cX4_waits 4 = .ok (.ifCond .eq 26, 3) := by decide +kernel
theorem dX4_waits_7 : decode cX4_waits 7 = .ok (.iload_n 2, 1) := by decide +kernel
theorem dX4_waits_8 : decode cX4_waits 8 = .ok (.i2l, 1) := by decide +kernel
theorem dX4_waits_9 : decode cX4_waits 9 = .ok (.ldc2_w 128, 3) := by decide +kernel
theorem dX4_waits_12 : decode cX4_waits 12 = .ok (.ldc2_w 130, 3) := by decide +kernel
theorem dX4_waits_15 : decode cX4_waits 15 = .ok (.invokestatic 60, 3) := by decide +kernel
theorem dX4_waits_18 : decode cX4_waits 18 = .ok (.ifCond .eq 12, 3) := by decide +kernel
theorem dX4_waits_21 : decode cX4_waits 21 = .ok (.aload_n 0, 1) := by decide +kernel
theorem dX4_waits_22 : decode cX4_waits 22 = .ok (.iload_n 1, 1) := by decide +kernel
theorem dX4_waits_23 : decode cX4_waits 23 = .ok (.iload_n 2, 1) := by decide +kernel
theorem dX4_waits_24 : decode cX4_waits 24 = .ok (.invokevirtual 132, 3) := by decide +kernel
theorem dX4_waits_27 : decode cX4_waits 27 = .ok (.goto 5, 3) := by decide +kernel
theorem dX4_waits_30 : decode cX4_waits 30 = .ok (.bipush (-2), 2) := by decide +kernel
theorem dX4_waits_32 : decode cX4_waits 32 = .ok (.ireturn, 1) := by decide +kernel
set_option maxRecDepth 20000 in
theorem ggX4_rule_X4_isTwo : GoodIn wsX4_rule wsX4_isTwo := goodIn_r _ [5, 6, 7, 4, 8] (by decide +kernel) (by decide +kernel)
set_option maxRecDepth 20000 in
theorem gX4_rule_X4_isTwo : GoodIn wsX4_rule (va_wsS RX4 122 yX4_isTwo wsX4_isTwo) := goodIn_app (goodIn_of _ (by decide +kernel)) ggX4_rule_X4_isTwo
theorem dX4_rule_0 : decode cX4_rule 0 = .ok (.iload_n 1, 1) := by decide +kernel
theorem dX4_rule_1 : decode cX4_rule 1 = .ok (.invokestatic 122, 3) := by decide +kernel
theorem dX4_rule_4 : decode cX4_rule 4 = .ok (.ifCond .ne 6, 3) := by decide +kernel
theorem dX4_rule_7 : decode cX4_rule 7 = .ok (.bipush (-2), 2) := by decide +kernel
theorem dX4_rule_9 : decode cX4_rule 9 = .ok (.ireturn, 1) := by decide +kernel
theorem dX4_rule_10 : decode cX4_rule 10 = .ok (.aload_n 0, 1) := by decide +kernel
theorem dX4_rule_11 : decode cX4_rule 11 = .ok (.getfield 135, 3) := by decide +kernel
theorem dX4_rule_14 : decode cX4_rule 14 = .ok (.istore_n 2, 1) := by decide +kernel
theorem dX4_rule_15 : decode cX4_rule 15 = .ok (.aload_n 0, 1) := by decide +kernel
theorem dX4_rule_16 : decode cX4_rule 16 = .ok (.iload_n 1, 1) := by decide +kernel
theorem dX4_rule_17 : decode cX4_rule 17 = .ok (.putfield 135, 3) := by decide +kernel
theorem dX4_rule_20 : decode cX4_rule 20 = .ok (.iload_n 2, 1) := by decide +kernel
theorem dX4_rule_21 : decode cX4_rule 21 = .ok (.ireturn, 1) := by decide +kernel
theorem dX4_isSide_0 : decode cX4_isSide 0 = .ok (.aload_n 0, 1) := by decide +kernel
theorem dX4_isSide_1 : decode cX4_isSide 1 = .ok (.getfield 90, 3) := by decide +kernel
theorem dX4_isSide_4 : decode cX4_isSide 4 = .ok (.iload_n 1, 1) := by decide +kernel
theorem dX4_isSide_5 : decode cX4_isSide 5 = .ok (.ifCond .ne 7, 3) := by decide +kernel
theorem dX4_isSide_8 : decode cX4_isSide 8 = .ok (.iconst 1, 1) := by decide +kernel
theorem dX4_isSide_9 : decode cX4_isSide 9 = .ok (.goto 4, 3) := by decide +kernel
theorem dX4_isSide_12 : decode cX4_isSide 12 = .ok (.iconst 0, 1) := by decide +kernel
theorem dX4_isSide_13 : decode cX4_isSide 13 = .ok (.if_icmp .ne 7, 3) := by decide +kernel
theorem dX4_isSide_16 : decode cX4_isSide 16 = .ok (.iconst 1, 1) := by decide +kernel
theorem dX4_isSide_17 : decode cX4_isSide 17 = .ok (.goto 4, 3) := by decide +kernel
theorem dX4_isSide_20 : decode cX4_isSide 20 = .ok (.iconst 0, 1) := by decide +kernel
theorem dX4_isSide_21 : decode cX4_isSide 21 = .ok (.ireturn, 1) := by decide +kernel
set_option maxRecDepth 20000 in
theorem ggX4_nextBoat_X4_isSide : GoodIn wsX4_nextBoat wsX4_isSide := goodIn_r _ [9, 10, 11, 12, 13, 14, 15, 16, 17, 18, 19, 20, 21, 22, 23, 24, 25, 26, 27, 28, 29, 30, 31, 32, 33, 34, 35, 36, 37, 38, 39, 40] (by decide +kernel) (by decide +kernel)
set_option maxRecDepth 20000 in
theorem gX4_nextBoat_X4_isSide : GoodIn wsX4_nextBoat (wsV RX4 138 RX4 yX4_isSide wsX4_isSide) := goodIn_app (goodIn_of _ (by decide +kernel)) ggX4_nextBoat_X4_isSide
theorem dX4_nextBoat_0 : decode cX4_nextBoat 0 = .ok (.iconst (-1), 1) := by decide +kernel
theorem dX4_nextBoat_1 : decode cX4_nextBoat 1 = .ok (.istore_n 1, 1) := by decide +kernel
theorem dX4_nextBoat_2 : decode cX4_nextBoat 2 = .ok (.iconst (-1), 1) := by decide +kernel
theorem dX4_nextBoat_3 : decode cX4_nextBoat 3 = .ok (.istore_n 2, 1) := by decide +kernel
theorem dX4_nextBoat_4 : decode cX4_nextBoat 4 = .ok (.aload_n 0, 1) := by decide +kernel
theorem dX4_nextBoat_5 : decode cX4_nextBoat 5 = .ok (.getfield 119, 3) := by decide +kernel
theorem dX4_nextBoat_8 : decode cX4_nextBoat 8 = .ok (.iconst 1, 1) := by decide +kernel
theorem dX4_nextBoat_9 : decode cX4_nextBoat 9 = .ok (.isub, 1) := by decide +kernel
theorem dX4_nextBoat_10 : decode cX4_nextBoat 10 = .ok (.istore_n 3, 1) := by decide +kernel
theorem dX4_nextBoat_11 : decode cX4_nextBoat 11 = .ok (.iload_n 3, 1) := by decide +kernel
theorem dX4_nextBoat_12 : decode cX4_nextBoat 12 = .ok (.ifCond .lt 52, 3) := by decide +kernel
theorem dX4_nextBoat_15 : decode cX4_nextBoat 15 = .ok (.aload_n 0, 1) := by decide +kernel
theorem dX4_nextBoat_16 : decode cX4_nextBoat 16 = .ok (.getfield 40, 3) := by decide +kernel
theorem dX4_nextBoat_19 : decode cX4_nextBoat 19 = .ok (.iload_n 3, 1) := by decide +kernel
theorem dX4_nextBoat_20 : decode cX4_nextBoat 20 = .ok (.baload, 1) := by decide +kernel
theorem dX4_nextBoat_21 : decode cX4_nextBoat 21 = .ok (.ifCond .eq 7, 3) := by decide +kernel
theorem dX4_nextBoat_24 : decode cX4_nextBoat 24 = .ok (.iload_n 3, 1) := by decide +kernel
theorem dX4_nextBoat_25 : decode cX4_nextBoat 25 = .ok (.goto 4, 3) := by decide +kernel
theorem dX4_nextBoat_28 : decode cX4_nextBoat 28 = .ok (.iload_n 1, 1) := by decide +kernel
theorem dX4_nextBoat_29 : decode cX4_nextBoat 29 = .ok (.istore_n 1, 1) := by decide +kernel
theorem dX4_nextBoat_30 : decode cX4_nextBoat 30 = .ok (.aload_n 0, 1) := by decide +kernel
theorem dX4_nextBoat_31 : decode cX4_nextBoat 31 = .ok (.getfield 40, 3) := by decide +kernel
theorem dX4_nextBoat_34 : decode cX4_nextBoat 34 = .ok (.iload_n 3, 1) := by decide +kernel
theorem dX4_nextBoat_35 : decode cX4_nextBoat 35 = .ok (.baload, 1) := by decide +kernel
theorem dX4_nextBoat_36 : decode cX4_nextBoat 36 = .ok (.ifCond .eq 20, 3) := by decide +kernel
theorem dX4_nextBoat_39 : decode cX4_nextBoat 39 = .ok (.aload_n 0, 1) := by decide +kernel
theorem dX4_nextBoat_40 : decode cX4_nextBoat 40 = .ok (.aload_n 0, 1) := by decide +kernel
theorem dX4_nextBoat_41 : decode cX4_nextBoat 41 = .ok (.getfield 37, 3) := by decide +kernel
theorem dX4_nextBoat_44 : decode cX4_nextBoat 44 = .ok (.iload_n 3, 1) := by decide +kernel
theorem dX4_nextBoat_45 : decode cX4_nextBoat 45 = .ok (.iaload, 1) := by decide +kernel
theorem dX4_nextBoat_46 : decode cX4_nextBoat 46 = .ok (.invokevirtual 138, 3) := by decide +kernel
theorem dX4_nextBoat_49 : decode cX4_nextBoat 49 = .ok (.ifCond .eq 7, 3) := by decide +kernel
theorem dX4_nextBoat_52 : decode cX4_nextBoat 52 = .ok (.iload_n 3, 1) := by decide +kernel
theorem dX4_nextBoat_53 : decode cX4_nextBoat 53 = .ok (.goto 4, 3) := by decide +kernel
theorem dX4_nextBoat_56 : decode cX4_nextBoat 56 = .ok (.iload_n 2, 1) := by decide +kernel
theorem dX4_nextBoat_57 : decode cX4_nextBoat 57 = .ok (.istore_n 2, 1) := by decide +kernel
theorem dX4_nextBoat_58 : decode cX4_nextBoat 58 = .ok (.iinc 3 (-1), 3) := by decide +kernel
theorem dX4_nextBoat_61 : decode cX4_nextBoat 61 = .ok (.goto (-50), 3) := by decide +kernel
theorem dX4_nextBoat_64 : decode cX4_nextBoat 64 = .ok (.aload_n 0, 1) := by decide +kernel
theorem dX4_nextBoat_65 : decode cX4_nextBoat 65 = .ok (.getfield 135, 3) := by decide +kernel
theorem dX4_nextBoat_68 : decode cX4_nextBoat 68 = .ok (.iconst 1, 1) := by decide +kernel
theorem dX4_nextBoat_69 : decode cX4_nextBoat 69 = .ok (.if_icmp .ne 12, 3) := by decide +kernel
theorem dX4_nextBoat_72 : decode cX4_nextBoat 72 = .ok (.iload_n 2, 1) := by decide +kernel
theorem dX4_nextBoat_73 : decode cX4_nextBoat 73 = .ok (.iconst (-1), 1) := by decide +kernel
theorem dX4_nextBoat_74 : decode cX4_nextBoat 74 = .ok (.if_icmp .eq 7, 3) := by decide +kernel
theorem dX4_nextBoat_77 : decode cX4_nextBoat 77 = .ok (.iload_n 2, 1) := by decide +kernel
theorem dX4_nextBoat_78 : decode cX4_nextBoat 78 = .ok (.goto 4, 3) := by decide +kernel
theorem dX4_nextBoat_81 : decode cX4_nextBoat 81 = .ok (.iload_n 1, 1) := by decide +kernel
theorem dX4_nextBoat_82 : decode cX4_nextBoat 82 = .ok (.ireturn, 1) := by decide +kernel
set_option maxRecDepth 20000 in
theorem ggX4_nextBy_X4_nextBoat : GoodIn wsX4_nextBy wsX4_nextBoat := goodIn_r _ [6, 7, 8, 1, 9, 10, 11, 12, 5, 13, 14, 15, 16, 17, 18, 19, 20, 21, 22, 23, 24, 25, 26, 27, 28, 29, 30, 31, 32, 33, 34, 35, 36, 37, 38, 39, 40, 41, 42, 43, 44] (by decide +kernel) (by decide +kernel)
set_option maxRecDepth 20000 in
theorem gX4_nextBy_X4_nextBoat : GoodIn wsX4_nextBy (wsV RX4 141 RX4 yX4_nextBoat wsX4_nextBoat) := goodIn_app (goodIn_of _ (by decide +kernel)) ggX4_nextBy_X4_nextBoat
set_option maxRecDepth 20000 in
theorem ggX4_nextBy_X4_isSide : GoodIn wsX4_nextBy wsX4_isSide := goodIn_r _ [13, 14, 15, 16, 17, 18, 19, 20, 21, 22, 23, 24, 25, 26, 27, 28, 29, 30, 31, 32, 33, 34, 35, 36, 37, 38, 39, 40, 41, 42, 43, 44] (by decide +kernel) (by decide +kernel)
set_option maxRecDepth 20000 in
theorem gX4_nextBy_X4_isSide : GoodIn wsX4_nextBy (wsV RX4 138 RX4 yX4_isSide wsX4_isSide) := goodIn_app (goodIn_of _ (by decide +kernel)) ggX4_nextBy_X4_isSide
theorem dX4_nextBy_0 : decode cX4_nextBy 0 = .ok (.aload_n 0, 1) := by decide +kernel
theorem dX4_nextBy_1 : decode cX4_nextBy 1 = .ok (.invokevirtual 141, 3) := by decide +kernel
theorem dX4_nextBy_4 : decode cX4_nextBy 4 = .ok (.istore_n 2, 1) := by decide +kernel
theorem dX4_nextBy_5 : decode cX4_nextBy 5 = .ok (.iload_n 1, 1) := by decide +kernel
theorem dX4_nextBy_6 : decode cX4_nextBy 6 = .ok (.ifCond .ne 7, 3) := by decide +kernel
theorem dX4_nextBy_9 : decode cX4_nextBy 9 = .ok (.iload_n 2, 1) := by decide +kernel
theorem dX4_nextBy_10 : decode cX4_nextBy 10 = .ok (.goto 30, 3) := by decide +kernel
theorem dX4_nextBy_13 : decode cX4_nextBy 13 = .ok (.iload_n 2, 1) := by decide +kernel
theorem dX4_nextBy_14 : decode cX4_nextBy 14 = .ok (.iconst (-1), 1) := by decide +kernel
theorem dX4_nextBy_15 : decode cX4_nextBy 15 = .ok (.if_icmp .ne 7, 3) := by decide +kernel
theorem dX4_nextBy_18 : decode cX4_nextBy 18 = .ok (.iconst 0, 1) := by decide +kernel
theorem dX4_nextBy_19 : decode cX4_nextBy 19 = .ok (.goto 21, 3) := by decide +kernel
theorem dX4_nextBy_22 : decode cX4_nextBy 22 = .ok (.aload_n 0, 1) := by decide +kernel
theorem dX4_nextBy_23 : decode cX4_nextBy 23 = .ok (.aload_n 0, 1) := by decide +kernel
theorem dX4_nextBy_24 : decode cX4_nextBy 24 = .ok (.getfield 37, 3) := by decide +kernel
theorem dX4_nextBy_27 : decode cX4_nextBy 27 = .ok (.iload_n 2, 1) := by decide +kernel
theorem dX4_nextBy_28 : decode cX4_nextBy 28 = .ok (.iaload, 1) := by decide +kernel
theorem dX4_nextBy_29 : decode cX4_nextBy 29 = .ok (.invokevirtual 138, 3) := by decide +kernel
theorem dX4_nextBy_32 : decode cX4_nextBy 32 = .ok (.ifCond .eq 7, 3) := by decide +kernel
theorem dX4_nextBy_35 : decode cX4_nextBy 35 = .ok (.iconst 1, 1) := by decide +kernel
theorem dX4_nextBy_36 : decode cX4_nextBy 36 = .ok (.goto 4, 3) := by decide +kernel
theorem dX4_nextBy_39 : decode cX4_nextBy 39 = .ok (.iconst 2, 1) := by decide +kernel
theorem dX4_nextBy_40 : decode cX4_nextBy 40 = .ok (.ireturn, 1) := by decide +kernel
set_option maxRecDepth 20000 in
theorem ggX4_next_X4_isTwo : GoodIn wsX4_next wsX4_isTwo := goodIn_r _ [4, 5, 6, 3, 7] (by decide +kernel) (by decide +kernel)
set_option maxRecDepth 20000 in
theorem gX4_next_X4_isTwo : GoodIn wsX4_next (va_wsS RX4 122 yX4_isTwo wsX4_isTwo) := goodIn_app (goodIn_of _ (by decide +kernel)) ggX4_next_X4_isTwo
set_option maxRecDepth 20000 in
theorem ggX4_next_X4_nextBy : GoodIn wsX4_next wsX4_nextBy := goodIn_r _ [11, 12, 13, 14, 15, 3, 16, 17, 18, 19, 20, 21, 22, 23, 24, 25, 26, 27, 28, 29, 30, 31, 32, 33, 34, 35, 36, 37, 38, 39, 40, 41, 42, 43, 44, 45, 46, 47, 48, 49, 50, 51, 52, 53, 54] (by decide +kernel) (by decide +kernel)
set_option maxRecDepth 20000 in
theorem gX4_next_X4_nextBy : GoodIn wsX4_next (wsV RX4 145 RX4 yX4_nextBy wsX4_nextBy) := goodIn_app (goodIn_of _ (by decide +kernel)) ggX4_next_X4_nextBy
theorem dX4_next_0 : decode cX4_next 0 = .ok (.iload_n 1, 1) := by decide +kernel
theorem dX4_next_1 : decode cX4_next 1 = .ok (.invokestatic 122, 3) := by decide +kernel
theorem dX4_next_4 : decode cX4_next 4 = .ok (.ifCond .eq 11, 3) := by decide +kernel
theorem dX4_next_7 : decode cX4_next 7 = .ok (.aload_n 0, 1) := by decide +kernel
theorem dX4_next_8 : decode cX4_next 8 = .ok (.iload_n 1, 1) := by decide +kernel
theorem dX4_next_9 : decode cX4_next 9 = .ok (.invokevirtual 145, 3) := by decide +kernel
theorem dX4_next_12 : decode cX4_next 12 = .ok (.goto 5, 3) := by decide +kernel
theorem dX4_next_15 : decode cX4_next 15 = .ok (.bipush (-2), 2) := by decide +kernel
theorem dX4_next_17 : decode cX4_next 17 = .ok (.ireturn, 1) := by decide +kernel
set_option maxRecDepth 20000 in
theorem ggX4_goesTo_X4_levelOf : GoodIn wsX4_goesTo wsX4_levelOf := goodIn_r _ [9, 10, 11, 18, 19, 20, 21, 22, 23, 24, 25, 26, 27, 28, 29, 30, 31, 32, 33, 34, 35, 36, 37, 38, 39, 40, 41, 42, 43, 44, 45, 46, 47] (by decide +kernel) (by decide +kernel)
set_option maxRecDepth 20000 in
theorem gX4_goesTo_X4_levelOf : GoodIn wsX4_goesTo (wsV RX4 108 RX4 yX4_levelOf wsX4_levelOf) := goodIn_app (goodIn_of _ (by decide +kernel)) ggX4_goesTo_X4_levelOf
set_option maxRecDepth 20000 in
theorem ggX4_goesTo_X4_isIn : GoodIn wsX4_goesTo wsX4_isIn := goodIn_r _ [14] (by decide +kernel) (by decide +kernel)
set_option maxRecDepth 20000 in
theorem gX4_goesTo_X4_isIn : GoodIn wsX4_goesTo (va_wsS RX4 148 yX4_isIn wsX4_isIn) := goodIn_app (goodIn_of _ (by decide +kernel)) ggX4_goesTo_X4_isIn
set_option maxRecDepth 20000 in
theorem ggX4_goesTo_X4_greater : GoodIn wsX4_goesTo wsX4_greater := goodIn_r _ [17] (by decide +kernel) (by decide +kernel)
set_option maxRecDepth 20000 in
theorem gX4_goesTo_X4_greater : GoodIn wsX4_goesTo (va_wsS RX4 152 yX4_greater wsX4_greater) := goodIn_app (goodIn_of _ (by decide +kernel)) ggX4_goesTo_X4_greater
theorem dX4_goesTo_0 : decode cX4_goesTo 0 = .ok (.iconst (-1), 1) := by decide +kernel
theorem dX4_goesTo_1 : decode cX4_goesTo 1 = .ok (.istore_n 2, 1) := by decide +kernel
theorem dX4_goesTo_2 : decode cX4_goesTo 2 = .ok (.iconst (-1), 1) := by decide +kernel
theorem dX4_goesTo_3 : decode cX4_goesTo 3 = .ok (.istore_n 3, 1) := by decide +kernel
theorem dX4_goesTo_4 : decode cX4_goesTo 4 = .ok (.iconst 0, 1) := by decide +kernel
theorem dX4_goesTo_5 : decode cX4_goesTo 5 = .ok (.istore 4, 2) := by decide +kernel
theorem dX4_goesTo_7 : decode cX4_goesTo 7 = .ok (.iload 4, 2) := by decide +kernel
theorem dX4_goesTo_9 : decode cX4_goesTo 9 = .ok (.aload_n 0, 1) := by decide +kernel
theorem dX4_goesTo_10 : decode cX4_goesTo 10 = .ok (.getfield 96, 3) := by decide +kernel
theorem dX4_goesTo_13 : decode cX4_goesTo 13 = .ok (.if_icmp .ge 105, 3) := by decide +kernel
theorem dX4_goesTo_16 : decode cX4_goesTo 16 = .ok (.aload_n 0, 1) := by decide +kernel
theorem dX4_goesTo_17 : decode cX4_goesTo 17 = .ok (.iload 4, 2) := by decide +kernel
theorem dX4_goesTo_19 : decode cX4_goesTo 19 = .ok (.aload_n 0, 1) := by decide +kernel
theorem dX4_goesTo_20 : decode cX4_goesTo 20 = .ok (.getfield 34, 3) := by decide +kernel
theorem dX4_goesTo_23 : decode cX4_goesTo 23 = .ok (.iload 4, 2) := by decide +kernel
theorem dX4_goesTo_25 : decode cX4_goesTo 25 = .ok (.iaload, 1) := by decide +kernel
theorem dX4_goesTo_26 : decode cX4_goesTo 26 = .ok (.iconst 1, 1) := by decide +kernel
theorem dX4_goesTo_27 : decode cX4_goesTo 27 = .ok (.iadd, 1) := by decide +kernel
theorem dX4_goesTo_28 : decode cX4_goesTo 28 = .ok (.invokevirtual 108, 3) := by decide +kernel
theorem dX4_goesTo_31 : decode cX4_goesTo 31 = .ok (.istore 5, 2) := by decide +kernel
theorem dX4_goesTo_33 : decode cX4_goesTo 33 = .ok (.aload_n 0, 1) := by decide +kernel
theorem dX4_goesTo_34 : decode cX4_goesTo 34 = .ok (.getfield 99, 3) := by decide +kernel
theorem dX4_goesTo_37 : decode cX4_goesTo 37 = .ok (.iload 4, 2) := by decide +kernel
theorem dX4_goesTo_39 : decode cX4_goesTo 39 = .ok (.invokestatic 148, 3) := by decide +kernel
theorem dX4_goesTo_42 : decode cX4_goesTo 42 = .ok (.ifCond .ne 33, 3) := by decide +kernel
theorem dX4_goesTo_45 : decode cX4_goesTo 45 = .ok (.aload_n 0, 1) := by decide +kernel
theorem dX4_goesTo_46 : decode cX4_goesTo 46 = .ok (.getfield 34, 3) := by decide +kernel
theorem dX4_goesTo_49 : decode cX4_goesTo 49 = .ok (.iload 4, 2) := by decide +kernel
theorem dX4_goesTo_51 : decode cX4_goesTo 51 = .ok (.iaload, 1) := by decide +kernel
theorem dX4_goesTo_52 : decode cX4_goesTo 52 = .ok (.aload_n 0, 1) := by decide +kernel
theorem dX4_goesTo_53 : decode cX4_goesTo 53 = .ok (.getfield 25, 3) := by decide +kernel
theorem dX4_goesTo_56 : decode cX4_goesTo 56 = .ok (.iload 4, 2) := by decide +kernel
theorem dX4_goesTo_58 : decode cX4_goesTo 58 = .ok (.iaload, 1) := by decide +kernel
theorem dX4_goesTo_59 : decode cX4_goesTo 59 = .ok (.if_icmp .ge 16, 3) := by decide +kernel
theorem dX4_goesTo_62 : decode cX4_goesTo 62 = .ok (.iload 5, 2) := by decide +kernel
theorem dX4_goesTo_64 : decode cX4_goesTo 64 = .ok (.bipush 6, 2) := by decide +kernel
theorem dX4_goesTo_66 : decode cX4_goesTo 66 = .ok (.iload_n 1, 1) := by decide +kernel
theorem dX4_goesTo_67 : decode cX4_goesTo 67 = .ok (.imul, 1) := by decide +kernel
theorem dX4_goesTo_68 : decode cX4_goesTo 68 = .ok (.if_icmp .gt 7, 3) := by decide +kernel
theorem dX4_goesTo_71 : decode cX4_goesTo 71 = .ok (.iconst 1, 1) := by decide +kernel
theorem dX4_goesTo_72 : decode cX4_goesTo 72 = .ok (.goto 4, 3) := by decide +kernel
theorem dX4_goesTo_75 : decode cX4_goesTo 75 = .ok (.iconst 0, 1) := by decide +kernel
theorem dX4_goesTo_76 : decode cX4_goesTo 76 = .ok (.istore 6, 2) := by decide +kernel
theorem dX4_goesTo_78 : decode cX4_goesTo 78 = .ok (.iload 6, 2) := by decide +kernel
theorem dX4_goesTo_80 : decode cX4_goesTo 80 = .ok (.ifCond .eq 14, 3) := by decide +kernel
theorem dX4_goesTo_83 : decode cX4_goesTo 83 = .ok (.iload 5, 2) := by decide +kernel
theorem dX4_goesTo_85 : decode cX4_goesTo 85 = .ok (.iload_n 3, 1) := by decide +kernel
theorem dX4_goesTo_86 : decode cX4_goesTo 86 = .ok (.if_icmp .le 8, 3) := by decide +kernel
theorem dX4_goesTo_89 : decode cX4_goesTo 89 = .ok (.iload 4, 2) := by decide +kernel
theorem dX4_goesTo_91 : decode cX4_goesTo 91 = .ok (.goto 4, 3) := by decide +kernel
theorem dX4_goesTo_94 : decode cX4_goesTo 94 = .ok (.iload_n 2, 1) := by decide +kernel
theorem dX4_goesTo_95 : decode cX4_goesTo 95 = .ok (.istore_n 2, 1) := by decide +kernel
theorem dX4_goesTo_96 : decode cX4_goesTo 96 = .ok (.iload 6, 2) := by decide +kernel
theorem dX4_goesTo_98 : decode cX4_goesTo 98 = .ok (.ifCond .eq 12, 3) := by decide +kernel
theorem dX4_goesTo_101 : decode cX4_goesTo 101 = .ok (.iload 5, 2) := by decide +kernel
theorem dX4_goesTo_103 : decode cX4_goesTo 103 = .ok (.iload_n 3, 1) := by decide +kernel
theorem dX4_goesTo_104 : decode cX4_goesTo 104 = .ok (.invokestatic 152, 3) := by decide +kernel
theorem dX4_goesTo_107 : decode cX4_goesTo 107 = .ok (.goto 4, 3) := by decide +kernel
theorem dX4_goesTo_110 : decode cX4_goesTo 110 = .ok (.iload_n 3, 1) := by decide +kernel
theorem dX4_goesTo_111 : decode cX4_goesTo 111 = .ok (.istore_n 3, 1) := by decide +kernel
theorem dX4_goesTo_112 : decode cX4_goesTo 112 = .ok (.iinc 4 1, 3) := by decide +kernel
theorem dX4_goesTo_115 : decode cX4_goesTo 115 = .ok (.goto (-108), 3) := by decide +kernel
theorem dX4_goesTo_118 : decode cX4_goesTo 118 = .ok (.iload_n 2, 1) := by decide +kernel
theorem dX4_goesTo_119 : decode cX4_goesTo 119 = .ok (.ireturn, 1) := by decide +kernel
set_option maxRecDepth 20000 in
theorem ggX4_comesFrom_X4_levelOf : GoodIn wsX4_comesFrom wsX4_levelOf := goodIn_r _ [9, 10, 11, 18, 19, 20, 21, 22, 23, 24, 25, 26, 27, 28, 29, 30, 31, 32, 33, 34, 35, 36, 37, 38, 39, 40, 41, 42, 43, 44, 45, 46, 47] (by decide +kernel) (by decide +kernel)
set_option maxRecDepth 20000 in
theorem gX4_comesFrom_X4_levelOf : GoodIn wsX4_comesFrom (wsV RX4 108 RX4 yX4_levelOf wsX4_levelOf) := goodIn_app (goodIn_of _ (by decide +kernel)) ggX4_comesFrom_X4_levelOf
set_option maxRecDepth 20000 in
theorem ggX4_comesFrom_X4_isIn : GoodIn wsX4_comesFrom wsX4_isIn := goodIn_r _ [14] (by decide +kernel) (by decide +kernel)
set_option maxRecDepth 20000 in
theorem gX4_comesFrom_X4_isIn : GoodIn wsX4_comesFrom (va_wsS RX4 148 yX4_isIn wsX4_isIn) := goodIn_app (goodIn_of _ (by decide +kernel)) ggX4_comesFrom_X4_isIn
set_option maxRecDepth 20000 in
theorem ggX4_comesFrom_X4_lesser : GoodIn wsX4_comesFrom wsX4_lesser := goodIn_r _ [17] (by decide +kernel) (by decide +kernel)
set_option maxRecDepth 20000 in
theorem gX4_comesFrom_X4_lesser : GoodIn wsX4_comesFrom (va_wsS RX4 156 yX4_lesser wsX4_lesser) := goodIn_app (goodIn_of _ (by decide +kernel)) ggX4_comesFrom_X4_lesser
theorem dX4_comesFrom_0 : decode cX4_comesFrom 0 = .ok (.iconst (-1), 1) := by decide +kernel
theorem dX4_comesFrom_1 : decode cX4_comesFrom 1 = .ok (.istore_n 2, 1) := by decide +kernel
theorem dX4_comesFrom_2 : decode cX4_comesFrom 2 = .ok (.ldc 155, 2) := by decide +kernel
theorem dX4_comesFrom_4 : decode cX4_comesFrom 4 = .ok (.istore_n 3, 1) := by decide +kernel
theorem dX4_comesFrom_5 : decode cX4_comesFrom 5 = .ok (.iconst 0, 1) := by decide +kernel
theorem dX4_comesFrom_6 : decode cX4_comesFrom 6 = .ok (.istore 4, 2) := by decide +kernel
theorem dX4_comesFrom_8 : decode cX4_comesFrom 8 = .ok (.iload 4, 2) := by decide +kernel
theorem dX4_comesFrom_10 : decode cX4_comesFrom 10 = .ok (.aload_n 0, 1) := by decide +kernel
theorem dX4_comesFrom_11 : decode cX4_comesFrom 11 = .ok (.getfield 96, 3) := by decide +kernel
theorem dX4_comesFrom_14 : decode cX4_comesFrom 14 = .ok (.if_icmp .ge 98, 3) := by decide +kernel
theorem dX4_comesFrom_17 : decode cX4_comesFrom 17 = .ok (.aload_n 0, 1) := by decide +kernel
theorem dX4_comesFrom_18 : decode cX4_comesFrom 18 = .ok (.iload 4, 2) := by decide +kernel
theorem dX4_comesFrom_20 : decode cX4_comesFrom 20 = .ok (.aload_n 0, 1) := by decide +kernel
theorem dX4_comesFrom_21 : decode cX4_comesFrom 21 = .ok (.getfield 34, 3) := by decide +kernel
theorem dX4_comesFrom_24 : decode cX4_comesFrom 24 = .ok (.iload 4, 2) := by decide +kernel
theorem dX4_comesFrom_26 : decode cX4_comesFrom 26 = .ok (.iaload, 1) := by decide +kernel
theorem dX4_comesFrom_27 : decode cX4_comesFrom 27 = .ok (.iconst 1, 1) := by decide +kernel
theorem dX4_comesFrom_28 : decode cX4_comesFrom 28 = .ok (.isub, 1) := by decide +kernel
theorem dX4_comesFrom_29 : decode cX4_comesFrom 29 = .ok (.invokevirtual 108, 3) := by decide +kernel
theorem dX4_comesFrom_32 : decode cX4_comesFrom 32 = .ok (.istore 5, 2) := by decide +kernel
theorem dX4_comesFrom_34 : decode cX4_comesFrom 34 = .ok (.aload_n 0, 1) := by decide +kernel
theorem dX4_comesFrom_35 : decode cX4_comesFrom 35 = .ok (.getfield 99, 3) := by decide +kernel
theorem dX4_comesFrom_38 : decode cX4_comesFrom 38 = .ok (.iload 4, 2) := by decide +kernel
theorem dX4_comesFrom_40 : decode cX4_comesFrom 40 = .ok (.invokestatic 148, 3) := by decide +kernel
theorem dX4_comesFrom_43 : decode cX4_comesFrom 43 = .ok (.ifCond .ne 26, 3) := by decide +kernel
theorem dX4_comesFrom_46 : decode cX4_comesFrom 46 = .ok (.aload_n 0, 1) := by decide +kernel
theorem dX4_comesFrom_47 : decode cX4_comesFrom 47 = .ok (.getfield 34, 3) := by decide +kernel
theorem dX4_comesFrom_50 : decode cX4_comesFrom 50 = .ok (.iload 4, 2) := by decide +kernel
theorem dX4_comesFrom_52 : decode cX4_comesFrom 52 = .ok (.iaload, 1) := by decide +kernel
theorem dX4_comesFrom_53 : decode cX4_comesFrom 53 = .ok (.ifCond .le 16, 3) := by decide +kernel
theorem dX4_comesFrom_56 : decode cX4_comesFrom 56 = .ok (.iload 5, 2) := by decide +kernel
theorem dX4_comesFrom_58 : decode cX4_comesFrom 58 = .ok (.bipush 6, 2) := by decide +kernel
theorem dX4_comesFrom_60 : decode cX4_comesFrom 60 = .ok (.iload_n 1, 1) := by decide +kernel
theorem dX4_comesFrom_61 : decode cX4_comesFrom 61 = .ok (.imul, 1) := by decide +kernel
theorem dX4_comesFrom_62 : decode cX4_comesFrom 62 = .ok (.if_icmp .lt 7, 3) := by decide +kernel
theorem dX4_comesFrom_65 : decode cX4_comesFrom 65 = .ok (.iconst 1, 1) := by decide +kernel
theorem dX4_comesFrom_66 : decode cX4_comesFrom 66 = .ok (.goto 4, 3) := by decide +kernel
theorem dX4_comesFrom_69 : decode cX4_comesFrom 69 = .ok (.iconst 0, 1) := by decide +kernel
theorem dX4_comesFrom_70 : decode cX4_comesFrom 70 = .ok (.istore 6, 2) := by decide +kernel
theorem dX4_comesFrom_72 : decode cX4_comesFrom 72 = .ok (.iload 6, 2) := by decide +kernel
theorem dX4_comesFrom_74 : decode cX4_comesFrom 74 = .ok (.ifCond .eq 14, 3) := by decide +kernel
theorem dX4_comesFrom_77 : decode cX4_comesFrom 77 = .ok (.iload 5, 2) := by decide +kernel
theorem dX4_comesFrom_79 : decode cX4_comesFrom 79 = .ok (.iload_n 3, 1) := by decide +kernel
theorem dX4_comesFrom_80 : decode cX4_comesFrom 80 = .ok (.if_icmp .ge 8, 3) := by decide +kernel
theorem dX4_comesFrom_83 : decode cX4_comesFrom 83 = .ok (.iload 4, 2) := by decide +kernel
theorem dX4_comesFrom_85 : decode cX4_comesFrom 85 = .ok (.goto 4, 3) := by decide +kernel
theorem dX4_comesFrom_88 : decode cX4_comesFrom 88 = .ok (.iload_n 2, 1) := by decide +kernel
theorem dX4_comesFrom_89 : decode cX4_comesFrom 89 = .ok (.istore_n 2, 1) := by decide +kernel
theorem dX4_comesFrom_90 : decode cX4_comesFrom 90 = .ok (.iload 6, 2) := by decide +kernel
theorem dX4_comesFrom_92 : decode cX4_comesFrom 92 = .ok (.ifCond .eq 12, 3) := by decide +kernel
theorem dX4_comesFrom_95 : decode cX4_comesFrom 95 = .ok (.iload 5, 2) := by decide +kernel
theorem dX4_comesFrom_97 : decode cX4_comesFrom 97 = .ok (.iload_n 3, 1) := by decide +kernel
theorem dX4_comesFrom_98 : decode cX4_comesFrom 98 = .ok (.invokestatic 156, 3) := by decide +kernel
theorem dX4_comesFrom_101 : decode cX4_comesFrom 101 = .ok (.goto 4, 3) := by decide +kernel
theorem dX4_comesFrom_104 : decode cX4_comesFrom 104 = .ok (.iload_n 3, 1) := by decide +kernel
theorem dX4_comesFrom_105 : decode cX4_comesFrom 105 = .ok (.istore_n 3, 1) := by decide +kernel
theorem dX4_comesFrom_106 : decode cX4_comesFrom 106 = .ok (.iinc 4 1, 3) := by decide +kernel
theorem dX4_comesFrom_109 : decode cX4_comesFrom 109 = .ok (.goto (-101), 3) := by decide +kernel
theorem dX4_comesFrom_112 : decode cX4_comesFrom 112 = .ok (.iload_n 2, 1) := by decide +kernel
theorem dX4_comesFrom_113 : decode cX4_comesFrom 113 = .ok (.ireturn, 1) := by decide +kernel
set_option maxRecDepth 20000 in
theorem ggX4_moves_X4_goesTo : GoodIn wsX4_moves wsX4_goesTo := goodIn_r _ [14, 8, 7, 15, 16, 17, 18, 19, 13, 20, 21, 22, 23, 24, 25, 26, 27, 28, 37, 38, 39, 40, 41, 42, 43, 44, 45, 46, 47, 48, 49, 50, 51, 52, 53, 54, 55, 56, 57, 58, 59, 60, 61, 62, 63, 64, 65, 66] (by decide +kernel) (by decide +kernel)
set_option maxRecDepth 20000 in
theorem gX4_moves_X4_goesTo : GoodIn wsX4_moves (wsV RX4 165 RX4 yX4_goesTo wsX4_goesTo) := goodIn_app (goodIn_of _ (by decide +kernel)) ggX4_moves_X4_goesTo
set_option maxRecDepth 20000 in
theorem ggX4_moves_X4_comesFrom : GoodIn wsX4_moves wsX4_comesFrom := goodIn_r _ [32, 33, 8, 7, 15, 17, 18, 19, 13, 20, 21, 22, 23, 24, 25, 34, 35, 36, 37, 38, 39, 40, 41, 42, 43, 44, 45, 46, 47, 48, 49, 50, 51, 52, 53, 54, 55, 56, 57, 58, 59, 60, 61, 62, 63, 64, 65, 66] (by decide +kernel) (by decide +kernel)
set_option maxRecDepth 20000 in
theorem gX4_moves_X4_comesFrom : GoodIn wsX4_moves (wsV RX4 168 RX4 yX4_comesFrom wsX4_comesFrom) := goodIn_app (goodIn_of _ (by decide +kernel)) ggX4_moves_X4_comesFrom
set_option maxRecDepth 20000 in
theorem ggX4_moves_X4_lesser : GoodIn wsX4_moves wsX4_lesser := goodIn_r _ [36] (by decide +kernel) (by decide +kernel)
set_option maxRecDepth 20000 in
theorem gX4_moves_X4_lesser : GoodIn wsX4_moves (va_wsS RX4 156 yX4_lesser wsX4_lesser) := goodIn_app (goodIn_of _ (by decide +kernel)) ggX4_moves_X4_lesser
theorem dX4_moves_0 : decode cX4_moves 0 = .ok (.aload_n 0, 1) := by decide +kernel
theorem dX4_moves_1 : decode cX4_moves 1 = .ok (.iconst 0, 1) := by decide +kernel
theorem dX4_moves_2 : decode cX4_moves 2 = .ok (.putfield 159, 3) := by decide +kernel
theorem dX4_moves_5 : decode cX4_moves 5 = .ok (.aload_n 0, 1) := by decide +kernel
theorem dX4_moves_6 : decode cX4_moves 6 = .ok (.iconst 0, 1) := by decide +kernel
theorem dX4_moves_7 : decode cX4_moves 7 = .ok (.putfield 162, 3) := by decide +kernel
theorem dX4_moves_10 : decode cX4_moves 10 = .ok (.iconst 0, 1) := by decide +kernel
theorem dX4_moves_11 : decode cX4_moves 11 = .ok (.istore_n 1, 1) := by decide +kernel
theorem dX4_moves_12 : decode cX4_moves 12 = .ok (.iload_n 1, 1) := by decide +kernel
theorem dX4_moves_13 : decode cX4_moves 13 = .ok (.iconst 4, 1) := by decide +kernel
theorem dX4_moves_14 : decode cX4_moves 14 = .ok (.if_icmp .ge 16, 3) := by decide +kernel
theorem dX4_moves_17 : decode cX4_moves 17 = .ok (.aload_n 0, 1) := by decide +kernel
theorem dX4_moves_18 : decode cX4_moves 18 = .ok (.getfield 47, 3) := by decide +kernel
theorem dX4_moves_21 : decode cX4_moves 21 = .ok (.iload_n 1, 1) := by decide +kernel
theorem dX4_moves_22 : decode cX4_moves 22 = .ok (.iconst 0, 1) := by decide +kernel
theorem dX4_moves_23 : decode cX4_moves 23 = .ok (.iastore, 1) := by decide +kernel
theorem dX4_moves_24 : decode cX4_moves 24 = .ok (.iinc 1 1, 3) := by decide +kernel
theorem dX4_moves_27 : decode cX4_moves 27 = .ok (.goto (-15), 3) := by decide +kernel
theorem dX4_moves_30 : decode cX4_moves 30 = .ok (.iconst 0, 1) := by decide +kernel
theorem dX4_moves_31 : decode cX4_moves 31 = .ok (.istore_n 1, 1) := by decide +kernel
theorem dX4_moves_32 : decode cX4_moves 32 = .ok (.iload_n 1, 1) := by decide +kernel
theorem dX4_moves_33 : decode cX4_moves 33 = .ok (.aload_n 0, 1) := by decide +kernel
theorem dX4_moves_34 : decode cX4_moves 34 = .ok (.getfield 56, 3) := by decide +kernel
theorem dX4_moves_37 : decode cX4_moves 37 = .ok (.if_icmp .ge 101, 3) := by decide +kernel
theorem dX4_moves_40 : decode cX4_moves 40 = .ok (.aload_n 0, 1) := by decide +kernel
theorem dX4_moves_41 : decode cX4_moves 41 = .ok (.getfield 90, 3) := by decide +kernel
theorem dX4_moves_44 : decode cX4_moves 44 = .ok (.ifCond .eq 18, 3) := by decide +kernel
theorem dX4_moves_47 : decode cX4_moves 47 = .ok (.aload_n 0, 1) := by decide +kernel
theorem dX4_moves_48 : decode cX4_moves 48 = .ok (.aload_n 0, 1) := by decide +kernel
theorem dX4_moves_49 : decode cX4_moves 49 = .ok (.getfield 56, 3) := by decide +kernel
theorem dX4_moves_52 : decode cX4_moves 52 = .ok (.iconst 1, 1) := by decide +kernel
theorem dX4_moves_53 : decode cX4_moves 53 = .ok (.isub, 1) := by decide +kernel
theorem dX4_moves_54 : decode cX4_moves 54 = .ok (.iload_n 1, 1) := by decide +kernel
theorem dX4_moves_55 : decode cX4_moves 55 = .ok (.isub, 1) := by decide +kernel
theorem dX4_moves_56 : decode cX4_moves 56 = .ok (.invokevirtual 165, 3) := by decide +kernel
theorem dX4_moves_59 : decode cX4_moves 59 = .ok (.goto 10, 3) := by decide +kernel
theorem dX4_moves_62 : decode cX4_moves 62 = .ok (.aload_n 0, 1) := by decide +kernel
theorem dX4_moves_63 : decode cX4_moves 63 = .ok (.iload_n 1, 1) := by decide +kernel
theorem dX4_moves_64 : decode cX4_moves 64 = .ok (.iconst 1, 1) := by decide +kernel
theorem dX4_moves_65 : decode cX4_moves 65 = .ok (.iadd, 1) := by decide +kernel
theorem dX4_moves_66 : decode cX4_moves 66 = .ok (.invokevirtual 168, 3) := by decide +kernel
theorem dX4_moves_69 : decode cX4_moves 69 = .ok (.istore_n 2, 1) := by decide +kernel
theorem dX4_moves_70 : decode cX4_moves 70 = .ok (.aload_n 0, 1) := by decide +kernel
theorem dX4_moves_71 : decode cX4_moves 71 = .ok (.getfield 44, 3) := by decide +kernel
theorem dX4_moves_74 : decode cX4_moves 74 = .ok (.iload_n 1, 1) := by decide +kernel
theorem dX4_moves_75 : decode cX4_moves 75 = .ok (.iload_n 2, 1) := by decide +kernel
theorem dX4_moves_76 : decode cX4_moves 76 = .ok (.iastore, 1) := by decide +kernel
theorem dX4_moves_77 : decode cX4_moves 77 = .ok (.aload_n 0, 1) := by decide +kernel
theorem dX4_moves_78 : decode cX4_moves 78 = .ok (.dup, 1) := by decide +kernel
theorem dX4_moves_79 : decode cX4_moves 79 = .ok (.getfield 159, 3) := by decide +kernel
theorem dX4_moves_82 : decode cX4_moves 82 = .ok (.iload_n 2, 1) := by decide +kernel
theorem dX4_moves_83 : decode cX4_moves 83 = .ok (.iconst (-1), 1) := by decide +kernel
theorem dX4_moves_84 : decode cX4_moves 84 = .ok (.if_icmp .ne 7, 3) := by decide +kernel
theorem dX4_moves_87 : decode cX4_moves 87 = .ok (.iconst 1, 1) := by decide +kernel
theorem dX4_moves_88 : decode cX4_moves 88 = .ok (.goto 4, 3) := by decide +kernel
theorem dX4_moves_91 : decode cX4_moves 91 = .ok (.iconst 0, 1) := by decide +kernel
theorem dX4_moves_92 : decode cX4_moves 92 = .ok (.iadd, 1) := by decide +kernel
theorem dX4_moves_93 : decode cX4_moves 93 = .ok (.putfield 159, 3) := by decide +kernel
theorem dX4_moves_96 : decode cX4_moves 96 = .ok (.iload_n 2, 1) := by decide +kernel
theorem dX4_moves_97 : decode cX4_moves 97 = .ok (.iconst (-1), 1) := by decide +kernel
theorem dX4_moves_98 : decode cX4_moves 98 = .ok (.if_icmp .eq 34, 3) := by decide +kernel
theorem dX4_moves_101 : decode cX4_moves 101 = .ok (.aload_n 0, 1) := by decide +kernel
theorem dX4_moves_102 : decode cX4_moves 102 = .ok (.getfield 34, 3) := by decide +kernel
theorem dX4_moves_105 : decode cX4_moves 105 = .ok (.iload_n 2, 1) := by decide +kernel
theorem dX4_moves_106 : decode cX4_moves 106 = .ok (.dup2, 1) := by decide +kernel
theorem dX4_moves_107 : decode cX4_moves 107 = .ok (.iaload, 1) := by decide +kernel
theorem dX4_moves_108 : decode cX4_moves 108 = .ok (.aload_n 0, 1) := by decide +kernel
theorem dX4_moves_109 : decode cX4_moves 109 = .ok (.getfield 90, 3) := by decide +kernel
theorem dX4_moves_112 : decode cX4_moves 112 = .ok (.ifCond .eq 7, 3) := by decide +kernel
theorem dX4_moves_115 : decode cX4_moves 115 = .ok (.iconst 1, 1) := by decide +kernel
theorem dX4_moves_116 : decode cX4_moves 116 = .ok (.goto 4, 3) := by decide +kernel
theorem dX4_moves_119 : decode cX4_moves 119 = .ok (.iconst (-1), 1) := by decide +kernel
theorem dX4_moves_120 : decode cX4_moves 120 = .ok (.iadd, 1) := by decide +kernel
theorem dX4_moves_121 : decode cX4_moves 121 = .ok (.iastore, 1) := by decide +kernel
theorem dX4_moves_122 : decode cX4_moves 122 = .ok (.aload_n 0, 1) := by decide +kernel
theorem dX4_moves_123 : decode cX4_moves 123 = .ok (.getfield 47, 3) := by decide +kernel
theorem dX4_moves_126 : decode cX4_moves 126 = .ok (.iload_n 2, 1) := by decide +kernel
theorem dX4_moves_127 : decode cX4_moves 127 = .ok (.dup2, 1) := by decide +kernel
theorem dX4_moves_128 : decode cX4_moves 128 = .ok (.iaload, 1) := by decide +kernel
theorem dX4_moves_129 : decode cX4_moves 129 = .ok (.iconst 1, 1) := by decide +kernel
theorem dX4_moves_130 : decode cX4_moves 130 = .ok (.iadd, 1) := by decide +kernel
theorem dX4_moves_131 : decode cX4_moves 131 = .ok (.iastore, 1) := by decide +kernel
theorem dX4_moves_132 : decode cX4_moves 132 = .ok (.iinc 1 1, 3) := by decide +kernel
theorem dX4_moves_135 : decode cX4_moves 135 = .ok (.goto (-103), 3) := by decide +kernel
theorem dX4_moves_138 : decode cX4_moves 138 = .ok (.aload_n 0, 1) := by decide +kernel
theorem dX4_moves_139 : decode cX4_moves 139 = .ok (.aload_n 0, 1) := by decide +kernel
theorem dX4_moves_140 : decode cX4_moves 140 = .ok (.getfield 90, 3) := by decide +kernel
theorem dX4_moves_143 : decode cX4_moves 143 = .ok (.ifCond .ne 7, 3) := by decide +kernel
theorem dX4_moves_146 : decode cX4_moves 146 = .ok (.iconst 1, 1) := by decide +kernel
theorem dX4_moves_147 : decode cX4_moves 147 = .ok (.goto 4, 3) := by decide +kernel
theorem dX4_moves_150 : decode cX4_moves 150 = .ok (.iconst 0, 1) := by decide +kernel
theorem dX4_moves_151 : decode cX4_moves 151 = .ok (.putfield 90, 3) := by decide +kernel
theorem dX4_moves_154 : decode cX4_moves 154 = .ok (.iconst 0, 1) := by decide +kernel
theorem dX4_moves_155 : decode cX4_moves 155 = .ok (.istore_n 1, 1) := by decide +kernel
theorem dX4_moves_156 : decode cX4_moves 156 = .ok (.iload_n 1, 1) := by decide +kernel
theorem dX4_moves_157 : decode cX4_moves 157 = .ok (.aload_n 0, 1) := by decide +kernel
theorem dX4_moves_158 : decode cX4_moves 158 = .ok (.getfield 96, 3) := by decide +kernel
theorem dX4_moves_161 : decode cX4_moves 161 = .ok (.if_icmp .ge 45, 3) := by decide +kernel
theorem dX4_moves_164 : decode cX4_moves 164 = .ok (.aload_n 0, 1) := by decide +kernel
theorem dX4_moves_165 : decode cX4_moves 165 = .ok (.getfield 31, 3) := by decide +kernel
theorem dX4_moves_168 : decode cX4_moves 168 = .ok (.iload_n 1, 1) := by decide +kernel
theorem dX4_moves_169 : decode cX4_moves 169 = .ok (.iaload, 1) := by decide +kernel
theorem dX4_moves_170 : decode cX4_moves 170 = .ok (.aload_n 0, 1) := by decide +kernel
theorem dX4_moves_171 : decode cX4_moves 171 = .ok (.getfield 34, 3) := by decide +kernel
theorem dX4_moves_174 : decode cX4_moves 174 = .ok (.iload_n 1, 1) := by decide +kernel
theorem dX4_moves_175 : decode cX4_moves 175 = .ok (.iaload, 1) := by decide +kernel
theorem dX4_moves_176 : decode cX4_moves 176 = .ok (.invokestatic 156, 3) := by decide +kernel
theorem dX4_moves_179 : decode cX4_moves 179 = .ok (.istore_n 2, 1) := by decide +kernel
theorem dX4_moves_180 : decode cX4_moves 180 = .ok (.aload_n 0, 1) := by decide +kernel
theorem dX4_moves_181 : decode cX4_moves 181 = .ok (.getfield 34, 3) := by decide +kernel
theorem dX4_moves_184 : decode cX4_moves 184 = .ok (.iload_n 1, 1) := by decide +kernel
theorem dX4_moves_185 : decode cX4_moves 185 = .ok (.dup2, 1) := by decide +kernel
theorem dX4_moves_186 : decode cX4_moves 186 = .ok (.iaload, 1) := by decide +kernel
theorem dX4_moves_187 : decode cX4_moves 187 = .ok (.iload_n 2, 1) := by decide +kernel
theorem dX4_moves_188 : decode cX4_moves 188 = .ok (.isub, 1) := by decide +kernel
theorem dX4_moves_189 : decode cX4_moves 189 = .ok (.iastore, 1) := by decide +kernel
theorem dX4_moves_190 : decode cX4_moves 190 = .ok (.aload_n 0, 1) := by decide +kernel
theorem dX4_moves_191 : decode cX4_moves 191 = .ok (.dup, 1) := by decide +kernel
theorem dX4_moves_192 : decode cX4_moves 192 = .ok (.getfield 162, 3) := by decide +kernel
theorem dX4_moves_195 : decode cX4_moves 195 = .ok (.iload_n 2, 1) := by decide +kernel
theorem dX4_moves_196 : decode cX4_moves 196 = .ok (.iadd, 1) := by decide +kernel
theorem dX4_moves_197 : decode cX4_moves 197 = .ok (.putfield 162, 3) := by decide +kernel
theorem dX4_moves_200 : decode cX4_moves 200 = .ok (.iinc 1 1, 3) := by decide +kernel
theorem dX4_moves_203 : decode cX4_moves 203 = .ok (.goto (-47), 3) := by decide +kernel
theorem dX4_moves_206 : decode cX4_moves 206 = .ok (.return_, 1) := by decide +kernel
theorem dX4_keeps_0 : decode cX4_keeps 0 = .ok (.aload_n 0, 1) := by decide +kernel
theorem dX4_keeps_1 : decode cX4_keeps 1 = .ok (.aload_n 0, 1) := by decide +kernel
theorem dX4_keeps_2 : decode cX4_keeps 2 = .ok (.getfield 90, 3) := by decide +kernel
theorem dX4_keeps_5 : decode cX4_keeps 5 = .ok (.putfield 171, 3) := by decide +kernel
theorem dX4_keeps_8 : decode cX4_keeps 8 = .ok (.iconst 0, 1) := by decide +kernel
theorem dX4_keeps_9 : decode cX4_keeps 9 = .ok (.istore_n 1, 1) := by decide +kernel
theorem dX4_keeps_10 : decode cX4_keeps 10 = .ok (.iload_n 1, 1) := by decide +kernel
theorem dX4_keeps_11 : decode cX4_keeps 11 = .ok (.iconst 4, 1) := by decide +kernel
theorem dX4_keeps_12 : decode cX4_keeps 12 = .ok (.if_icmp .ge 21, 3) := by decide +kernel
theorem dX4_keeps_15 : decode cX4_keeps 15 = .ok (.aload_n 0, 1) := by decide +kernel
theorem dX4_keeps_16 : decode cX4_keeps 16 = .ok (.getfield 50, 3) := by decide +kernel
theorem dX4_keeps_19 : decode cX4_keeps 19 = .ok (.iload_n 1, 1) := by decide +kernel
theorem dX4_keeps_20 : decode cX4_keeps 20 = .ok (.aload_n 0, 1) := by decide +kernel
theorem dX4_keeps_21 : decode cX4_keeps 21 = .ok (.getfield 34, 3) := by decide +kernel
theorem dX4_keeps_24 : decode cX4_keeps 24 = .ok (.iload_n 1, 1) := by decide +kernel
theorem dX4_keeps_25 : decode cX4_keeps 25 = .ok (.iaload, 1) := by decide +kernel
theorem dX4_keeps_26 : decode cX4_keeps 26 = .ok (.iastore, 1) := by decide +kernel
theorem dX4_keeps_27 : decode cX4_keeps 27 = .ok (.iinc 1 1, 3) := by decide +kernel
theorem dX4_keeps_30 : decode cX4_keeps 30 = .ok (.goto (-20), 3) := by decide +kernel
theorem dX4_keeps_33 : decode cX4_keeps 33 = .ok (.return_, 1) := by decide +kernel
theorem dX4_takesBack_0 : decode cX4_takesBack 0 = .ok (.aload_n 0, 1) := by decide +kernel
theorem dX4_takesBack_1 : decode cX4_takesBack 1 = .ok (.aload_n 0, 1) := by decide +kernel
theorem dX4_takesBack_2 : decode cX4_takesBack 2 = .ok (.getfield 171, 3) := by decide +kernel
theorem dX4_takesBack_5 : decode cX4_takesBack 5 = .ok (.putfield 90, 3) := by decide +kernel
theorem dX4_takesBack_8 : decode cX4_takesBack 8 = .ok (.iconst 0, 1) := by decide +kernel
theorem dX4_takesBack_9 : decode cX4_takesBack 9 = .ok (.istore_n 1, 1) := by decide +kernel
theorem dX4_takesBack_10 : decode cX4_takesBack 10 = .ok (.iload_n 1, 1) := by decide +kernel
theorem dX4_takesBack_11 : decode cX4_takesBack 11 = .ok (.iconst 4, 1) := by decide +kernel
theorem dX4_takesBack_12 : decode cX4_takesBack 12 = .ok (.if_icmp .ge 21, 3) := by decide +kernel
theorem dX4_takesBack_15 : decode cX4_takesBack 15 = .ok (.aload_n 0, 1) := by decide +kernel
theorem dX4_takesBack_16 : decode cX4_takesBack 16 = .ok (.getfield 34, 3) := by decide +kernel
theorem dX4_takesBack_19 : decode cX4_takesBack 19 = .ok (.iload_n 1, 1) := by decide +kernel
theorem dX4_takesBack_20 : decode cX4_takesBack 20 = .ok (.aload_n 0, 1) := by decide +kernel
theorem dX4_takesBack_21 : decode cX4_takesBack 21 = .ok (.getfield 50, 3) := by decide +kernel
theorem dX4_takesBack_24 : decode cX4_takesBack 24 = .ok (.iload_n 1, 1) := by decide +kernel
theorem dX4_takesBack_25 : decode cX4_takesBack 25 = .ok (.iaload, 1) := by decide +kernel
theorem dX4_takesBack_26 : decode cX4_takesBack 26 = .ok (.iastore, 1) := by decide +kernel
theorem dX4_takesBack_27 : decode cX4_takesBack 27 = .ok (.iinc 1 1, 3) := by decide +kernel
theorem dX4_takesBack_30 : decode cX4_takesBack 30 = .ok (.goto (-20), 3) := by decide +kernel
theorem dX4_takesBack_33 : decode cX4_takesBack 33 = .ok (.return_, 1) := by decide +kernel
set_option maxRecDepth 20000 in
theorem ggX4_does_X4_moves : GoodIn wsX4_does wsX4_moves := goodIn_r _ [16, 5, 6, 7, 4, 2, 17, 18, 19, 20, 21, 22, 23, 15, 24, 25, 26, 27, 28, 29, 30, 31, 32, 33, 34, 35, 36, 37, 38, 39, 40, 41, 42, 43, 44, 45, 46, 47, 48, 49, 50, 51, 52, 53, 54, 55, 56, 57, 58, 59, 60, 61, 62, 63, 64, 65, 66, 67, 68, 69, 70, 71, 72, 73, 74, 75, 76] (by decide +kernel) (by decide +kernel)
set_option maxRecDepth 20000 in
theorem gX4_does_X4_moves : GoodIn wsX4_does (wsV RX4 177 RX4 yX4_moves wsX4_moves) := goodIn_app (goodIn_of _ (by decide +kernel)) ggX4_does_X4_moves
theorem dX4_does_0 : decode cX4_does 0 = .ok (.bipush 9, 2) := by decide +kernel
theorem dX4_does_2 : decode cX4_does 2 = .ok (.aload_n 0, 1) := by decide +kernel
theorem dX4_does_3 : decode cX4_does 3 = .ok (.getfield 174, 3) := by decide +kernel
theorem dX4_does_6 : decode cX4_does 6 = .ok (.imul, 1) := by decide +kernel
theorem dX4_does_7 : decode cX4_does 7 = .ok (.istore_n 2, 1) := by decide +kernel
theorem dX4_does_8 : decode cX4_does 8 = .ok (.aload_n 0, 1) := by decide +kernel
theorem dX4_does_9 : decode cX4_does 9 = .ok (.getfield 90, 3) := by decide +kernel
theorem dX4_does_12 : decode cX4_does 12 = .ok (.ifCond .ne 7, 3) := by decide +kernel
theorem dX4_does_15 : decode cX4_does 15 = .ok (.iconst 1, 1) := by decide +kernel
theorem dX4_does_16 : decode cX4_does 16 = .ok (.goto 4, 3) := by decide +kernel
theorem dX4_does_19 : decode cX4_does 19 = .ok (.iconst 0, 1) := by decide +kernel
theorem dX4_does_20 : decode cX4_does 20 = .ok (.istore_n 3, 1) := by decide +kernel
theorem dX4_does_21 : decode cX4_does 21 = .ok (.aload_n 0, 1) := by decide +kernel
theorem dX4_does_22 : decode cX4_does 22 = .ok (.invokevirtual 177, 3) := by decide +kernel
theorem dX4_does_25 : decode cX4_does 25 = .ok (.aload_n 0, 1) := by decide +kernel
theorem dX4_does_26 : decode cX4_does 26 = .ok (.getfield 53, 3) := by decide +kernel
theorem dX4_does_29 : decode cX4_does 29 = .ok (.iload_n 2, 1) := by decide +kernel
theorem dX4_does_30 : decode cX4_does 30 = .ok (.iload_n 1, 1) := by decide +kernel
theorem dX4_does_31 : decode cX4_does 31 = .ok (.iastore, 1) := by decide +kernel
theorem dX4_does_32 : decode cX4_does 32 = .ok (.aload_n 0, 1) := by decide +kernel
theorem dX4_does_33 : decode cX4_does 33 = .ok (.getfield 53, 3) := by decide +kernel
theorem dX4_does_36 : decode cX4_does 36 = .ok (.iload_n 2, 1) := by decide +kernel
theorem dX4_does_37 : decode cX4_does 37 = .ok (.iconst 1, 1) := by decide +kernel
theorem dX4_does_38 : decode cX4_does 38 = .ok (.iadd, 1) := by decide +kernel
theorem dX4_does_39 : decode cX4_does 39 = .ok (.iload_n 3, 1) := by decide +kernel
theorem dX4_does_40 : decode cX4_does 40 = .ok (.ifCond .eq 7, 3) := by decide +kernel
theorem dX4_does_43 : decode cX4_does 43 = .ok (.iconst 1, 1) := by decide +kernel
theorem dX4_does_44 : decode cX4_does 44 = .ok (.goto 4, 3) := by decide +kernel
theorem dX4_does_47 : decode cX4_does 47 = .ok (.iconst 0, 1) := by decide +kernel
theorem dX4_does_48 : decode cX4_does 48 = .ok (.iastore, 1) := by decide +kernel
theorem dX4_does_49 : decode cX4_does 49 = .ok (.aload_n 0, 1) := by decide +kernel
theorem dX4_does_50 : decode cX4_does 50 = .ok (.getfield 53, 3) := by decide +kernel
theorem dX4_does_53 : decode cX4_does 53 = .ok (.iload_n 2, 1) := by decide +kernel
theorem dX4_does_54 : decode cX4_does 54 = .ok (.iconst 2, 1) := by decide +kernel
theorem dX4_does_55 : decode cX4_does 55 = .ok (.iadd, 1) := by decide +kernel
theorem dX4_does_56 : decode cX4_does 56 = .ok (.aload_n 0, 1) := by decide +kernel
theorem dX4_does_57 : decode cX4_does 57 = .ok (.getfield 56, 3) := by decide +kernel
theorem dX4_does_60 : decode cX4_does 60 = .ok (.aload_n 0, 1) := by decide +kernel
theorem dX4_does_61 : decode cX4_does 61 = .ok (.getfield 159, 3) := by decide +kernel
theorem dX4_does_64 : decode cX4_does 64 = .ok (.isub, 1) := by decide +kernel
theorem dX4_does_65 : decode cX4_does 65 = .ok (.iastore, 1) := by decide +kernel
theorem dX4_does_66 : decode cX4_does 66 = .ok (.aload_n 0, 1) := by decide +kernel
theorem dX4_does_67 : decode cX4_does 67 = .ok (.getfield 53, 3) := by decide +kernel
theorem dX4_does_70 : decode cX4_does 70 = .ok (.iload_n 2, 1) := by decide +kernel
theorem dX4_does_71 : decode cX4_does 71 = .ok (.iconst 3, 1) := by decide +kernel
theorem dX4_does_72 : decode cX4_does 72 = .ok (.iadd, 1) := by decide +kernel
theorem dX4_does_73 : decode cX4_does 73 = .ok (.aload_n 0, 1) := by decide +kernel
theorem dX4_does_74 : decode cX4_does 74 = .ok (.getfield 159, 3) := by decide +kernel
theorem dX4_does_77 : decode cX4_does 77 = .ok (.iastore, 1) := by decide +kernel
theorem dX4_does_78 : decode cX4_does 78 = .ok (.aload_n 0, 1) := by decide +kernel
theorem dX4_does_79 : decode cX4_does 79 = .ok (.getfield 53, 3) := by decide +kernel
theorem dX4_does_82 : decode cX4_does 82 = .ok (.iload_n 2, 1) := by decide +kernel
theorem dX4_does_83 : decode cX4_does 83 = .ok (.iconst 4, 1) := by decide +kernel
theorem dX4_does_84 : decode cX4_does 84 = .ok (.iadd, 1) := by decide +kernel
theorem dX4_does_85 : decode cX4_does 85 = .ok (.aload_n 0, 1) := by decide +kernel
theorem dX4_does_86 : decode cX4_does 86 = .ok (.getfield 162, 3) := by decide +kernel
theorem dX4_does_89 : decode cX4_does 89 = .ok (.iastore, 1) := by decide +kernel
theorem dX4_does_90 : decode cX4_does 90 = .ok (.iconst 0, 1) := by decide +kernel
theorem dX4_does_91 : decode cX4_does 91 = .ok (.istore 4, 2) := by decide +kernel
theorem dX4_does_93 : decode cX4_does 93 = .ok (.iload 4, 2) := by decide +kernel
theorem dX4_does_95 : decode cX4_does 95 = .ok (.iconst 4, 1) := by decide +kernel
theorem dX4_does_96 : decode cX4_does 96 = .ok (.if_icmp .ge 27, 3) := by decide +kernel
theorem dX4_does_99 : decode cX4_does 99 = .ok (.aload_n 0, 1) := by decide +kernel
theorem dX4_does_100 : decode cX4_does 100 = .ok (.getfield 53, 3) := by decide +kernel
theorem dX4_does_103 : decode cX4_does 103 = .ok (.iload_n 2, 1) := by decide +kernel
theorem dX4_does_104 : decode cX4_does 104 = .ok (.iconst 5, 1) := by decide +kernel
theorem dX4_does_105 : decode cX4_does 105 = .ok (.iadd, 1) := by decide +kernel
theorem dX4_does_106 : decode cX4_does 106 = .ok (.iload 4, 2) := by decide +kernel
theorem dX4_does_108 : decode cX4_does 108 = .ok (.iadd, 1) := by decide +kernel
theorem dX4_does_109 : decode cX4_does 109 = .ok (.aload_n 0, 1) := by decide +kernel
theorem dX4_does_110 : decode cX4_does 110 = .ok (.getfield 47, 3) := by decide +kernel
theorem dX4_does_113 : decode cX4_does 113 = .ok (.iload 4, 2) := by decide +kernel
theorem dX4_does_115 : decode cX4_does 115 = .ok (.iaload, 1) := by decide +kernel
theorem dX4_does_116 : decode cX4_does 116 = .ok (.iastore, 1) := by decide +kernel
theorem dX4_does_117 : decode cX4_does 117 = .ok (.iinc 4 1, 3) := by decide +kernel
theorem dX4_does_120 : decode cX4_does 120 = .ok (.goto (-27), 3) := by decide +kernel
theorem dX4_does_123 : decode cX4_does 123 = .ok (.aload_n 0, 1) := by decide +kernel
theorem dX4_does_124 : decode cX4_does 124 = .ok (.dup, 1) := by decide +kernel
theorem dX4_does_125 : decode cX4_does 125 = .ok (.getfield 180, 3) := by decide +kernel
theorem dX4_does_128 : decode cX4_does 128 = .ok (.iload_n 3, 1) := by decide +kernel
theorem dX4_does_129 : decode cX4_does 129 = .ok (.ifCond .eq 10, 3) := by decide +kernel
theorem dX4_does_132 : decode cX4_does 132 = .ok (.aload_n 0, 1) := by decide +kernel
theorem dX4_does_133 : decode cX4_does 133 = .ok (.getfield 159, 3) := by decide +kernel
theorem dX4_does_136 : decode cX4_does 136 = .ok (.goto 4, 3) := by decide +kernel
theorem dX4_does_139 : decode cX4_does 139 = .ok (.iconst 0, 1) := by decide +kernel
theorem dX4_does_140 : decode cX4_does 140 = .ok (.iadd, 1) := by decide +kernel
theorem dX4_does_141 : decode cX4_does 141 = .ok (.putfield 180, 3) := by decide +kernel
theorem dX4_does_144 : decode cX4_does 144 = .ok (.aload_n 0, 1) := by decide +kernel
theorem dX4_does_145 : decode cX4_does 145 = .ok (.dup, 1) := by decide +kernel
theorem dX4_does_146 : decode cX4_does 146 = .ok (.getfield 183, 3) := by decide +kernel
theorem dX4_does_149 : decode cX4_does 149 = .ok (.iload_n 3, 1) := by decide +kernel
theorem dX4_does_150 : decode cX4_does 150 = .ok (.ifCond .eq 7, 3) := by decide +kernel
theorem dX4_does_153 : decode cX4_does 153 = .ok (.iconst 0, 1) := by decide +kernel
theorem dX4_does_154 : decode cX4_does 154 = .ok (.goto 7, 3) := by decide +kernel
theorem dX4_does_157 : decode cX4_does 157 = .ok (.aload_n 0, 1) := by decide +kernel
theorem dX4_does_158 : decode cX4_does 158 = .ok (.getfield 159, 3) := by decide +kernel
theorem dX4_does_161 : decode cX4_does 161 = .ok (.iadd, 1) := by decide +kernel
theorem dX4_does_162 : decode cX4_does 162 = .ok (.putfield 183, 3) := by decide +kernel
theorem dX4_does_165 : decode cX4_does 165 = .ok (.aload_n 0, 1) := by decide +kernel
theorem dX4_does_166 : decode cX4_does 166 = .ok (.dup, 1) := by decide +kernel
theorem dX4_does_167 : decode cX4_does 167 = .ok (.getfield 186, 3) := by decide +kernel
theorem dX4_does_170 : decode cX4_does 170 = .ok (.aload_n 0, 1) := by decide +kernel
theorem dX4_does_171 : decode cX4_does 171 = .ok (.getfield 162, 3) := by decide +kernel
theorem dX4_does_174 : decode cX4_does 174 = .ok (.iadd, 1) := by decide +kernel
theorem dX4_does_175 : decode cX4_does 175 = .ok (.putfield 186, 3) := by decide +kernel
theorem dX4_does_178 : decode cX4_does 178 = .ok (.aload_n 0, 1) := by decide +kernel
theorem dX4_does_179 : decode cX4_does 179 = .ok (.dup, 1) := by decide +kernel
theorem dX4_does_180 : decode cX4_does 180 = .ok (.getfield 189, 3) := by decide +kernel
theorem dX4_does_183 : decode cX4_does 183 = .ok (.iconst 1, 1) := by decide +kernel
theorem dX4_does_184 : decode cX4_does 184 = .ok (.iadd, 1) := by decide +kernel
theorem dX4_does_185 : decode cX4_does 185 = .ok (.putfield 189, 3) := by decide +kernel
theorem dX4_does_188 : decode cX4_does 188 = .ok (.aload_n 0, 1) := by decide +kernel
theorem dX4_does_189 : decode cX4_does 189 = .ok (.dup, 1) := by decide +kernel
theorem dX4_does_190 : decode cX4_does 190 = .ok (.getfield 174, 3) := by decide +kernel
theorem dX4_does_193 : decode cX4_does 193 = .ok (.iconst 1, 1) := by decide +kernel
theorem dX4_does_194 : decode cX4_does 194 = .ok (.iadd, 1) := by decide +kernel
theorem dX4_does_195 : decode cX4_does 195 = .ok (.putfield 174, 3) := by decide +kernel
theorem dX4_does_198 : decode cX4_does 198 = .ok (.return_, 1) := by decide +kernel
set_option maxRecDepth 20000 in
theorem ggX4_serve_X4_nextBoat : GoodIn wsX4_serve wsX4_nextBoat := goodIn_r _ [8, 9, 3, 2, 10, 11, 12, 13, 7, 14, 15, 67, 68, 69, 70, 71, 72, 73, 74, 75, 76, 77, 78, 79, 80, 81, 82, 83, 84, 85, 86, 87, 88, 89, 90, 91, 92, 93, 94, 95, 96] (by decide +kernel) (by decide +kernel)
set_option maxRecDepth 20000 in
theorem gX4_serve_X4_nextBoat : GoodIn wsX4_serve (wsV RX4 141 RX4 yX4_nextBoat wsX4_nextBoat) := goodIn_app (goodIn_of _ (by decide +kernel)) ggX4_serve_X4_nextBoat
set_option maxRecDepth 20000 in
theorem ggX4_serve_X4_nextBy : GoodIn wsX4_serve wsX4_nextBy := goodIn_r _ [19, 2, 4, 5, 6, 7, 8, 9, 3, 10, 11, 12, 13, 14, 15, 67, 68, 69, 70, 71, 72, 73, 74, 75, 76, 77, 78, 79, 80, 81, 82, 83, 84, 85, 86, 87, 88, 89, 90, 91, 92, 93, 94, 95, 96] (by decide +kernel) (by decide +kernel)
set_option maxRecDepth 20000 in
theorem gX4_serve_X4_nextBy : GoodIn wsX4_serve (wsV RX4 145 RX4 yX4_nextBy wsX4_nextBy) := goodIn_app (goodIn_of _ (by decide +kernel)) ggX4_serve_X4_nextBy
set_option maxRecDepth 20000 in
theorem ggX4_serve_X4_isSide : GoodIn wsX4_serve wsX4_isSide := goodIn_r _ [14, 15, 67, 68, 69, 70, 71, 72, 73, 74, 75, 76, 77, 78, 79, 80, 81, 82, 83, 84, 85, 86, 87, 88, 89, 90, 91, 92, 93, 94, 95, 96] (by decide +kernel) (by decide +kernel)
set_option maxRecDepth 20000 in
theorem gX4_serve_X4_isSide : GoodIn wsX4_serve (wsV RX4 138 RX4 yX4_isSide wsX4_isSide) := goodIn_app (goodIn_of _ (by decide +kernel)) ggX4_serve_X4_isSide
set_option maxRecDepth 20000 in
theorem ggX4_serve_X4_does : GoodIn wsX4_serve wsX4_does := goodIn_r _ [23, 1, 15, 24, 25, 26, 27, 28, 29, 30, 31, 32, 33, 34, 35, 7, 36, 37, 38, 39, 40, 41, 42, 43, 44, 45, 46, 47, 48, 49, 50, 51, 52, 53, 54, 55, 56, 57, 58, 59, 60, 61, 62, 63, 64, 65, 66, 67, 68, 69, 70, 71, 72, 73, 74, 75, 76, 77, 78, 79, 80, 81, 82, 83, 84, 85, 86, 87, 88, 89, 90, 91, 92, 93, 94, 95, 96] (by decide +kernel) (by decide +kernel)
set_option maxRecDepth 20000 in
theorem gX4_serve_X4_does : GoodIn wsX4_serve (wsV RX4 192 RX4 yX4_does wsX4_does) := goodIn_app (goodIn_of _ (by decide +kernel)) ggX4_serve_X4_does
theorem dX4_serve_0 : decode cX4_serve 0 = .ok (.aload_n 0, 1) := by decide +kernel
theorem dX4_serve_1 : decode cX4_serve 1 = .ok (.invokevirtual 141, 3) := by decide +kernel
theorem dX4_serve_4 : decode cX4_serve 4 = .ok (.istore_n 1, 1) := by decide +kernel
theorem dX4_serve_5 : decode cX4_serve 5 = .ok (.iload_n 1, 1) := by decide +kernel
theorem dX4_serve_6 : decode cX4_serve 6 = .ok (.iconst (-1), 1) := by decide +kernel
theorem dX4_serve_7 : decode cX4_serve 7 = .ok (.if_icmp .ne 6, 3) := by decide +kernel
theorem dX4_serve_10 : decode cX4_serve 10 = .ok (.bipush (-3), 2) := by decide +kernel
theorem dX4_serve_12 : decode cX4_serve 12 = .ok (.ireturn, 1) := by decide +kernel
theorem dX4_serve_13 : decode cX4_serve 13 = .ok (.aload_n 0, 1) := by decide +kernel
theorem dX4_serve_14 : decode cX4_serve 14 = .ok (.getfield 174, 3) := by decide +kernel
theorem dX4_serve_17 : decode cX4_serve 17 = .ok (.aload_n 0, 1) := by decide +kernel
theorem dX4_serve_18 : decode cX4_serve 18 = .ok (.iconst 1, 1) := by decide +kernel
theorem dX4_serve_19 : decode cX4_serve 19 = .ok (.invokevirtual 145, 3) := by decide +kernel
theorem dX4_serve_22 : decode cX4_serve 22 = .ok (.iadd, 1) := by decide +kernel
theorem dX4_serve_23 : decode cX4_serve 23 = .ok (.bipush 60, 2) := by decide +kernel
theorem dX4_serve_25 : decode cX4_serve 25 = .ok (.if_icmp .le 6, 3) := by decide +kernel
theorem dX4_serve_28 : decode cX4_serve 28 = .ok (.bipush (-4), 2) := by decide +kernel
theorem dX4_serve_30 : decode cX4_serve 30 = .ok (.ireturn, 1) := by decide +kernel
theorem dX4_serve_31 : decode cX4_serve 31 = .ok (.aload_n 0, 1) := by decide +kernel
theorem dX4_serve_32 : decode cX4_serve 32 = .ok (.aload_n 0, 1) := by decide +kernel
theorem dX4_serve_33 : decode cX4_serve 33 = .ok (.getfield 37, 3) := by decide +kernel
theorem dX4_serve_36 : decode cX4_serve 36 = .ok (.iload_n 1, 1) := by decide +kernel
theorem dX4_serve_37 : decode cX4_serve 37 = .ok (.iaload, 1) := by decide +kernel
theorem dX4_serve_38 : decode cX4_serve 38 = .ok (.invokevirtual 138, 3) := by decide +kernel
theorem dX4_serve_41 : decode cX4_serve 41 = .ok (.ifCond .ne 8, 3) := by decide +kernel
theorem dX4_serve_44 : decode cX4_serve 44 = .ok (.aload_n 0, 1) := by decide +kernel
theorem dX4_serve_45 : decode cX4_serve 45 = .ok (.iconst (-1), 1) := by decide +kernel
theorem dX4_serve_46 : decode cX4_serve 46 = .ok (.invokevirtual 192, 3) := by decide +kernel
theorem dX4_serve_49 : decode cX4_serve 49 = .ok (.aload_n 0, 1) := by decide +kernel
theorem dX4_serve_50 : decode cX4_serve 50 = .ok (.getfield 40, 3) := by decide +kernel
theorem dX4_serve_53 : decode cX4_serve 53 = .ok (.iload_n 1, 1) := by decide +kernel
theorem dX4_serve_54 : decode cX4_serve 54 = .ok (.iconst 0, 1) := by decide +kernel
theorem dX4_serve_55 : decode cX4_serve 55 = .ok (.bastore, 1) := by decide +kernel
theorem dX4_serve_56 : decode cX4_serve 56 = .ok (.aload_n 0, 1) := by decide +kernel
theorem dX4_serve_57 : decode cX4_serve 57 = .ok (.iload_n 1, 1) := by decide +kernel
theorem dX4_serve_58 : decode cX4_serve 58 = .ok (.invokevirtual 192, 3) := by decide +kernel
theorem dX4_serve_61 : decode cX4_serve 61 = .ok (.iload_n 1, 1) := by decide +kernel
theorem dX4_serve_62 : decode cX4_serve 62 = .ok (.ireturn, 1) := by decide +kernel
set_option maxRecDepth 20000 in
theorem ggX4_turn_X4_does : GoodIn wsX4_turn wsX4_does := goodIn_r _ [7, 1, 8, 9, 10, 2, 11, 12, 13, 14, 15, 16, 17, 18, 19, 6, 20, 21, 22, 23, 24, 25, 26, 27, 28, 29, 30, 31, 32, 33, 34, 35, 36, 37, 38, 39, 40, 41, 42, 43, 44, 45, 46, 47, 48, 49, 50, 51, 52, 53, 54, 55, 56, 57, 58, 59, 60, 61, 62, 63, 64, 65, 66, 67, 68, 69, 70, 71, 72, 73, 74, 75, 76, 77, 78, 79, 80] (by decide +kernel) (by decide +kernel)
set_option maxRecDepth 20000 in
theorem gX4_turn_X4_does : GoodIn wsX4_turn (wsV RX4 192 RX4 yX4_does wsX4_does) := goodIn_app (goodIn_of _ (by decide +kernel)) ggX4_turn_X4_does
theorem dX4_turn_0 : decode cX4_turn 0 = .ok (.aload_n 0, 1) := by decide +kernel
theorem dX4_turn_1 : decode cX4_turn 1 = .ok (.getfield 174, 3) := by decide +kernel
theorem dX4_turn_4 : decode cX4_turn 4 = .ok (.bipush 60, 2) := by decide +kernel
theorem dX4_turn_6 : decode cX4_turn 6 = .ok (.if_icmp .ne 6, 3) := by decide +kernel
theorem dX4_turn_9 : decode cX4_turn 9 = .ok (.bipush (-4), 2) := by decide +kernel
theorem dX4_turn_11 : decode cX4_turn 11 = .ok (.ireturn, 1) := by decide +kernel
theorem dX4_turn_12 : decode cX4_turn 12 = .ok (.aload_n 0, 1) := by decide +kernel
theorem dX4_turn_13 : decode cX4_turn 13 = .ok (.iconst (-1), 1) := by decide +kernel
theorem dX4_turn_14 : decode cX4_turn 14 = .ok (.invokevirtual 192, 3) := by decide +kernel
theorem dX4_turn_17 : decode cX4_turn 17 = .ok (.aload_n 0, 1) := by decide +kernel
theorem dX4_turn_18 : decode cX4_turn 18 = .ok (.getfield 159, 3) := by decide +kernel
theorem dX4_turn_21 : decode cX4_turn 21 = .ok (.ireturn, 1) := by decide +kernel
set_option maxRecDepth 20000 in
theorem ggX4_ledger_X4_in : GoodIn wsX4_ledger wsX4_in := goodIn_r _ [7] (by decide +kernel) (by decide +kernel)
set_option maxRecDepth 20000 in
theorem gX4_ledger_X4_in : GoodIn wsX4_ledger (va_wsS RX4 60 yX4_in wsX4_in) := goodIn_app (goodIn_of _ (by decide +kernel)) ggX4_ledger_X4_in
theorem dX4_ledger_0 : decode cX4_ledger 0 = .ok (.iload_n 1, 1) := by decide +kernel
theorem dX4_ledger_1 : decode cX4_ledger 1 = .ok (.i2l, 1) := by decide +kernel
theorem dX4_ledger_2 : decode cX4_ledger 2 = .ok (.lconst 0, 1) := by decide +kernel
theorem dX4_ledger_3 : decode cX4_ledger 3 = .ok (.aload_n 0, 1) := by decide +kernel
theorem dX4_ledger_4 : decode cX4_ledger 4 = .ok (.getfield 174, 3) := by decide +kernel
theorem dX4_ledger_7 : decode cX4_ledger 7 = .ok (.iconst 1, 1) := by decide +kernel
theorem dX4_ledger_8 : decode cX4_ledger 8 = .ok (.isub, 1) := by decide +kernel
theorem dX4_ledger_9 : decode cX4_ledger 9 = .ok (.i2l, 1) := by decide +kernel
theorem dX4_ledger_10 : decode cX4_ledger 10 = .ok (.invokestatic 60, 3) := by decide +kernel
theorem dX4_ledger_13 : decode cX4_ledger 13 = .ok (.ifCond .eq 29, 3) := by decide +kernel
theorem dX4_ledger_16 : decode cX4_ledger 16 = .ok (.iload_n 2, 1) := by decide +kernel
theorem dX4_ledger_17 : decode cX4_ledger 17 = .ok (.i2l, 1) := by decide +kernel
theorem dX4_ledger_18 : decode cX4_ledger 18 = .ok (.lconst 0, 1) := by decide +kernel
theorem dX4_ledger_19 : decode cX4_ledger 19 = .ok (.ldc2_w 196, 3) := by decide +kernel
theorem dX4_ledger_22 : decode cX4_ledger 22 = .ok (.invokestatic 60, 3) := by decide +kernel
theorem dX4_ledger_25 : decode cX4_ledger 25 = .ok (.ifCond .eq 17, 3) := by decide +kernel
theorem dX4_ledger_28 : decode cX4_ledger 28 = .ok (.aload_n 0, 1) := by decide +kernel
theorem dX4_ledger_29 : decode cX4_ledger 29 = .ok (.getfield 53, 3) := by decide +kernel
theorem dX4_ledger_32 : decode cX4_ledger 32 = .ok (.bipush 9, 2) := by decide +kernel
theorem dX4_ledger_34 : decode cX4_ledger 34 = .ok (.iload_n 1, 1) := by decide +kernel
theorem dX4_ledger_35 : decode cX4_ledger 35 = .ok (.imul, 1) := by decide +kernel
theorem dX4_ledger_36 : decode cX4_ledger 36 = .ok (.iload_n 2, 1) := by decide +kernel
theorem dX4_ledger_37 : decode cX4_ledger 37 = .ok (.iadd, 1) := by decide +kernel
theorem dX4_ledger_38 : decode cX4_ledger 38 = .ok (.iaload, 1) := by decide +kernel
theorem dX4_ledger_39 : decode cX4_ledger 39 = .ok (.goto 5, 3) := by decide +kernel
theorem dX4_ledger_42 : decode cX4_ledger 42 = .ok (.bipush (-2), 2) := by decide +kernel
theorem dX4_ledger_44 : decode cX4_ledger 44 = .ok (.ireturn, 1) := by decide +kernel
theorem dX4_wipe_0 : decode cX4_wipe 0 = .ok (.aload_n 0, 1) := by decide +kernel
theorem dX4_wipe_1 : decode cX4_wipe 1 = .ok (.getfield 174, 3) := by decide +kernel
theorem dX4_wipe_4 : decode cX4_wipe 4 = .ok (.istore_n 1, 1) := by decide +kernel
theorem dX4_wipe_5 : decode cX4_wipe 5 = .ok (.aload_n 0, 1) := by decide +kernel
theorem dX4_wipe_6 : decode cX4_wipe 6 = .ok (.iconst 0, 1) := by decide +kernel
theorem dX4_wipe_7 : decode cX4_wipe 7 = .ok (.putfield 174, 3) := by decide +kernel
theorem dX4_wipe_10 : decode cX4_wipe 10 = .ok (.iload_n 1, 1) := by decide +kernel
theorem dX4_wipe_11 : decode cX4_wipe 11 = .ok (.ireturn, 1) := by decide +kernel
theorem dX4_inBasins_0 : decode cX4_inBasins 0 = .ok (.iconst 0, 1) := by decide +kernel
theorem dX4_inBasins_1 : decode cX4_inBasins 1 = .ok (.istore_n 1, 1) := by decide +kernel
theorem dX4_inBasins_2 : decode cX4_inBasins 2 = .ok (.iconst 0, 1) := by decide +kernel
theorem dX4_inBasins_3 : decode cX4_inBasins 3 = .ok (.istore_n 2, 1) := by decide +kernel
theorem dX4_inBasins_4 : decode cX4_inBasins 4 = .ok (.iload_n 2, 1) := by decide +kernel
theorem dX4_inBasins_5 : decode cX4_inBasins 5 = .ok (.aload_n 0, 1) := by decide +kernel
theorem dX4_inBasins_6 : decode cX4_inBasins 6 = .ok (.getfield 96, 3) := by decide +kernel
theorem dX4_inBasins_9 : decode cX4_inBasins 9 = .ok (.if_icmp .ge 18, 3) := by decide +kernel
theorem dX4_inBasins_12 : decode cX4_inBasins 12 = .ok (.iload_n 1, 1) := by decide +kernel
theorem dX4_inBasins_13 : decode cX4_inBasins 13 = .ok (.aload_n 0, 1) := by decide +kernel
theorem dX4_inBasins_14 : decode cX4_inBasins 14 = .ok (.getfield 34, 3) := by decide +kernel
theorem dX4_inBasins_17 : decode cX4_inBasins 17 = .ok (.iload_n 2, 1) := by decide +kernel
theorem dX4_inBasins_18 : decode cX4_inBasins 18 = .ok (.iaload, 1) := by decide +kernel
theorem dX4_inBasins_19 : decode cX4_inBasins 19 = .ok (.iadd, 1) := by decide +kernel
theorem dX4_inBasins_20 : decode cX4_inBasins 20 = .ok (.istore_n 1, 1) := by decide +kernel
theorem dX4_inBasins_21 : decode cX4_inBasins 21 = .ok (.iinc 2 1, 3) := by decide +kernel
theorem dX4_inBasins_24 : decode cX4_inBasins 24 = .ok (.goto (-20), 3) := by decide +kernel
theorem dX4_inBasins_27 : decode cX4_inBasins 27 = .ok (.iload_n 1, 1) := by decide +kernel
theorem dX4_inBasins_28 : decode cX4_inBasins 28 = .ok (.ireturn, 1) := by decide +kernel
set_option maxRecDepth 20000 in
theorem ggX4_totalBy_X4_inBasins : GoodIn wsX4_totalBy wsX4_inBasins := goodIn_r _ [9, 10, 11, 12, 13, 14, 15, 16, 17, 18, 19, 20, 21, 22, 23, 24, 25, 26, 27, 28, 29, 30, 31, 32, 33, 34, 35, 36, 37, 38, 39, 40, 41] (by decide +kernel) (by decide +kernel)
set_option maxRecDepth 20000 in
theorem gX4_totalBy_X4_inBasins : GoodIn wsX4_totalBy (wsV RX4 198 RX4 yX4_inBasins wsX4_inBasins) := goodIn_app (goodIn_of _ (by decide +kernel)) ggX4_totalBy_X4_inBasins
theorem dX4_totalBy_0 : decode cX4_totalBy 0 = .ok (.iload_n 1, 1) := by decide +kernel
theorem dX4_totalBy_1 : decode cX4_totalBy 1 = .ok (.ifCond .ne 10, 3) := by decide +kernel
theorem dX4_totalBy_4 : decode cX4_totalBy 4 = .ok (.aload_n 0, 1) := by decide +kernel
theorem dX4_totalBy_5 : decode cX4_totalBy 5 = .ok (.getfield 180, 3) := by decide +kernel
theorem dX4_totalBy_8 : decode cX4_totalBy 8 = .ok (.goto 43, 3) := by decide +kernel
theorem dX4_totalBy_11 : decode cX4_totalBy 11 = .ok (.iload_n 1, 1) := by decide +kernel
theorem dX4_totalBy_12 : decode cX4_totalBy 12 = .ok (.iconst 1, 1) := by decide +kernel
theorem dX4_totalBy_13 : decode cX4_totalBy 13 = .ok (.if_icmp .ne 10, 3) := by decide +kernel
theorem dX4_totalBy_16 : decode cX4_totalBy 16 = .ok (.aload_n 0, 1) := by decide +kernel
theorem dX4_totalBy_17 : decode cX4_totalBy 17 = .ok (.getfield 183, 3) := by decide +kernel
theorem dX4_totalBy_20 : decode cX4_totalBy 20 = .ok (.goto 31, 3) := by decide +kernel
theorem dX4_totalBy_23 : decode cX4_totalBy 23 = .ok (.iload_n 1, 1) := by decide +kernel
theorem dX4_totalBy_24 : decode cX4_totalBy 24 = .ok (.iconst 2, 1) := by decide +kernel
theorem dX4_totalBy_25 : decode cX4_totalBy 25 = .ok (.if_icmp .ne 10, 3) := by decide +kernel
theorem dX4_totalBy_28 : decode cX4_totalBy 28 = .ok (.aload_n 0, 1) := by decide +kernel
theorem dX4_totalBy_29 : decode cX4_totalBy 29 = .ok (.getfield 186, 3) := by decide +kernel
theorem dX4_totalBy_32 : decode cX4_totalBy 32 = .ok (.goto 19, 3) := by decide +kernel
theorem dX4_totalBy_35 : decode cX4_totalBy 35 = .ok (.iload_n 1, 1) := by decide +kernel
theorem dX4_totalBy_36 : decode cX4_totalBy 36 = .ok (.iconst 3, 1) := by decide +kernel
theorem dX4_totalBy_37 : decode cX4_totalBy 37 = .ok (.if_icmp .ne 10, 3) := by decide +kernel
theorem dX4_totalBy_40 : decode cX4_totalBy 40 = .ok (.aload_n 0, 1) := by decide +kernel
theorem dX4_totalBy_41 : decode cX4_totalBy 41 = .ok (.invokevirtual 198, 3) := by decide +kernel
theorem dX4_totalBy_44 : decode cX4_totalBy 44 = .ok (.goto 7, 3) := by decide +kernel
theorem dX4_totalBy_47 : decode cX4_totalBy 47 = .ok (.aload_n 0, 1) := by decide +kernel
theorem dX4_totalBy_48 : decode cX4_totalBy 48 = .ok (.getfield 189, 3) := by decide +kernel
theorem dX4_totalBy_51 : decode cX4_totalBy 51 = .ok (.ireturn, 1) := by decide +kernel
set_option maxRecDepth 20000 in
theorem ggX4_total_X4_in : GoodIn wsX4_total wsX4_in := goodIn_r _ [5] (by decide +kernel) (by decide +kernel)
set_option maxRecDepth 20000 in
theorem gX4_total_X4_in : GoodIn wsX4_total (va_wsS RX4 60 yX4_in wsX4_in) := goodIn_app (goodIn_of _ (by decide +kernel)) ggX4_total_X4_in
set_option maxRecDepth 20000 in
theorem ggX4_total_X4_totalBy : GoodIn wsX4_total wsX4_totalBy := goodIn_r _ [9, 10, 11, 12, 13, 14, 15, 16, 4, 17, 18, 19, 20, 21, 22, 23, 24, 25, 26, 27, 28, 29, 30, 31, 32, 33, 34, 35, 36, 37, 38, 39, 40, 41, 42, 43, 44, 45, 46, 47, 48, 49] (by decide +kernel) (by decide +kernel)
set_option maxRecDepth 20000 in
theorem gX4_total_X4_totalBy : GoodIn wsX4_total (wsV RX4 203 RX4 yX4_totalBy wsX4_totalBy) := goodIn_app (goodIn_of _ (by decide +kernel)) ggX4_total_X4_totalBy
theorem dX4_total_0 : decode cX4_total 0 = .ok (.iload_n 1, 1) := by decide +kernel
theorem dX4_total_1 : decode cX4_total 1 = .ok (.i2l, 1) := by decide +kernel
theorem dX4_total_2 : decode cX4_total 2 = .ok (.lconst 0, 1) := by decide +kernel
theorem dX4_total_3 : decode cX4_total 3 = .ok (.ldc2_w 201, 3) := by decide +kernel
theorem dX4_total_6 : decode cX4_total 6 = .ok (.invokestatic 60, 3) := by decide +kernel
theorem dX4_total_9 : decode cX4_total 9 = .ok (.ifCond .eq 11, 3) := by decide +kernel
theorem dX4_total_12 : decode cX4_total 12 = .ok (.aload_n 0, 1) := by decide +kernel
theorem dX4_total_13 : decode cX4_total 13 = .ok (.iload_n 1, 1) := by decide +kernel
theorem dX4_total_14 : decode cX4_total 14 = .ok (.invokevirtual 203, 3) := by decide +kernel
theorem dX4_total_17 : decode cX4_total 17 = .ok (.goto 5, 3) := by decide +kernel
theorem dX4_total_20 : decode cX4_total 20 = .ok (.bipush (-2), 2) := by decide +kernel
theorem dX4_total_22 : decode cX4_total 22 = .ok (.ireturn, 1) := by decide +kernel
set_option maxRecDepth 20000 in
theorem ggX4_looks_X4_keeps : GoodIn wsX4_looks wsX4_keeps := goodIn_r _ [5, 6, 7, 8, 9, 51, 52, 53, 54, 55, 56, 57, 58, 59, 60, 61, 62, 63, 64, 65, 66, 67, 68, 69, 70, 71, 72, 73, 74, 75, 76, 77, 78, 79, 80] (by decide +kernel) (by decide +kernel)
set_option maxRecDepth 20000 in
theorem gX4_looks_X4_keeps : GoodIn wsX4_looks (wsV RX4 206 RX4 yX4_keeps wsX4_keeps) := goodIn_app (goodIn_of _ (by decide +kernel)) ggX4_looks_X4_keeps
set_option maxRecDepth 20000 in
theorem ggX4_looks_X4_moves : GoodIn wsX4_looks wsX4_moves := goodIn_r _ [13, 14, 15, 16, 17, 6, 18, 9, 19, 20, 21, 22, 23, 4, 24, 25, 26, 27, 28, 29, 30, 31, 32, 33, 34, 35, 36, 37, 38, 39, 40, 41, 42, 43, 44, 45, 46, 51, 52, 53, 54, 55, 56, 57, 58, 59, 60, 61, 62, 63, 64, 65, 66, 67, 68, 69, 70, 71, 72, 73, 74, 75, 76, 77, 78, 79, 80] (by decide +kernel) (by decide +kernel)
set_option maxRecDepth 20000 in
theorem gX4_looks_X4_moves : GoodIn wsX4_looks (wsV RX4 177 RX4 yX4_moves wsX4_moves) := goodIn_app (goodIn_of _ (by decide +kernel)) ggX4_looks_X4_moves
set_option maxRecDepth 20000 in
theorem ggX4_looks_X4_takesBack : GoodIn wsX4_looks wsX4_takesBack := goodIn_r _ [50, 7, 6, 9, 8, 51, 52, 53, 54, 55, 56, 57, 58, 59, 60, 61, 62, 63, 64, 65, 66, 67, 68, 69, 70, 71, 72, 73, 74, 75, 76, 77, 78, 79, 80] (by decide +kernel) (by decide +kernel)
set_option maxRecDepth 20000 in
theorem gX4_looks_X4_takesBack : GoodIn wsX4_looks (wsV RX4 209 RX4 yX4_takesBack wsX4_takesBack) := goodIn_app (goodIn_of _ (by decide +kernel)) ggX4_looks_X4_takesBack
theorem dX4_looks_0 : decode cX4_looks 0 = .ok (.aload_n 0, 1) := by decide +kernel
theorem dX4_looks_1 : decode cX4_looks 1 = .ok (.invokevirtual 206, 3) := by decide +kernel
theorem dX4_looks_4 : decode cX4_looks 4 = .ok (.aload_n 0, 1) := by decide +kernel
theorem dX4_looks_5 : decode cX4_looks 5 = .ok (.invokevirtual 177, 3) := by decide +kernel
theorem dX4_looks_8 : decode cX4_looks 8 = .ok (.aload_n 0, 1) := by decide +kernel
theorem dX4_looks_9 : decode cX4_looks 9 = .ok (.invokevirtual 209, 3) := by decide +kernel
theorem dX4_looks_12 : decode cX4_looks 12 = .ok (.return_, 1) := by decide +kernel
theorem dX4_stepBy_0 : decode cX4_stepBy 0 = .ok (.iload_n 1, 1) := by decide +kernel
theorem dX4_stepBy_1 : decode cX4_stepBy 1 = .ok (.iconst (-1), 1) := by decide +kernel
theorem dX4_stepBy_2 : decode cX4_stepBy 2 = .ok (.if_icmp .ne 10, 3) := by decide +kernel
theorem dX4_stepBy_5 : decode cX4_stepBy 5 = .ok (.aload_n 0, 1) := by decide +kernel
theorem dX4_stepBy_6 : decode cX4_stepBy 6 = .ok (.getfield 56, 3) := by decide +kernel
theorem dX4_stepBy_9 : decode cX4_stepBy 9 = .ok (.goto 21, 3) := by decide +kernel
theorem dX4_stepBy_12 : decode cX4_stepBy 12 = .ok (.iload_n 1, 1) := by decide +kernel
theorem dX4_stepBy_13 : decode cX4_stepBy 13 = .ok (.aload_n 0, 1) := by decide +kernel
theorem dX4_stepBy_14 : decode cX4_stepBy 14 = .ok (.getfield 56, 3) := by decide +kernel
theorem dX4_stepBy_17 : decode cX4_stepBy 17 = .ok (.if_icmp .ge 12, 3) := by decide +kernel
theorem dX4_stepBy_20 : decode cX4_stepBy 20 = .ok (.aload_n 0, 1) := by decide +kernel
theorem dX4_stepBy_21 : decode cX4_stepBy 21 = .ok (.getfield 44, 3) := by decide +kernel
theorem dX4_stepBy_24 : decode cX4_stepBy 24 = .ok (.iload_n 1, 1) := by decide +kernel
theorem dX4_stepBy_25 : decode cX4_stepBy 25 = .ok (.iaload, 1) := by decide +kernel
theorem dX4_stepBy_26 : decode cX4_stepBy 26 = .ok (.goto 4, 3) := by decide +kernel
theorem dX4_stepBy_29 : decode cX4_stepBy 29 = .ok (.iconst (-1), 1) := by decide +kernel
theorem dX4_stepBy_30 : decode cX4_stepBy 30 = .ok (.ireturn, 1) := by decide +kernel
set_option maxRecDepth 20000 in
theorem ggX4_step_X4_looks : GoodIn wsX4_step wsX4_looks := goodIn_r _ [7, 8, 9, 10, 6, 11, 12, 13, 14, 15, 16, 17, 18, 19, 20, 21, 22, 23, 24, 25, 26, 27, 28, 29, 30, 31, 32, 33, 34, 35, 36, 37, 38, 39, 40, 41, 42, 43, 44, 45, 46, 47, 48, 49, 50, 51, 52, 53, 54, 55, 56, 64, 65, 66, 67, 68, 69, 70, 71, 72, 73, 74, 75, 76, 77, 78, 79, 80, 81, 82, 83, 84, 85, 86, 87, 88, 89, 90, 91, 92, 93] (by decide +kernel) (by decide +kernel)
set_option maxRecDepth 20000 in
theorem gX4_step_X4_looks : GoodIn wsX4_step (wsV RX4 212 RX4 yX4_looks wsX4_looks) := goodIn_app (goodIn_of _ (by decide +kernel)) ggX4_step_X4_looks
set_option maxRecDepth 20000 in
theorem ggX4_step_X4_in : GoodIn wsX4_step wsX4_in := goodIn_r _ [59] (by decide +kernel) (by decide +kernel)
set_option maxRecDepth 20000 in
theorem gX4_step_X4_in : GoodIn wsX4_step (va_wsS RX4 60 yX4_in wsX4_in) := goodIn_app (goodIn_of _ (by decide +kernel)) ggX4_step_X4_in
set_option maxRecDepth 20000 in
theorem ggX4_step_X4_stepBy : GoodIn wsX4_step wsX4_stepBy := goodIn_r _ [63, 23, 24, 64, 65, 66, 67, 68, 69, 70, 71, 72, 73, 74, 75, 76, 77, 78, 79, 80, 81, 82, 83, 84, 85, 86, 87, 88, 89, 90, 91, 92, 93] (by decide +kernel) (by decide +kernel)
set_option maxRecDepth 20000 in
theorem gX4_step_X4_stepBy : GoodIn wsX4_step (wsV RX4 215 RX4 yX4_stepBy wsX4_stepBy) := goodIn_app (goodIn_of _ (by decide +kernel)) ggX4_step_X4_stepBy
theorem dX4_step_0 : decode cX4_step 0 = .ok (.aload_n 0, 1) := by decide +kernel
theorem dX4_step_1 : decode cX4_step 1 = .ok (.invokevirtual 212, 3) := by decide +kernel
theorem dX4_step_4 : decode cX4_step 4 = .ok (.iload_n 1, 1) := by decide +kernel
theorem dX4_step_5 : decode cX4_step 5 = .ok (.i2l, 1) := by decide +kernel
theorem dX4_step_6 : decode cX4_step 6 = .ok (.ldc2_w 128, 3) := by decide +kernel
theorem dX4_step_9 : decode cX4_step 9 = .ok (.ldc2_w 94, 3) := by decide +kernel
theorem dX4_step_12 : decode cX4_step 12 = .ok (.invokestatic 60, 3) := by decide +kernel
theorem dX4_step_15 : decode cX4_step 15 = .ok (.ifCond .eq 11, 3) := by decide +kernel
theorem dX4_step_18 : decode cX4_step 18 = .ok (.aload_n 0, 1) := by decide +kernel
theorem dX4_step_19 : decode cX4_step 19 = .ok (.iload_n 1, 1) := by decide +kernel
theorem dX4_step_20 : decode cX4_step 20 = .ok (.invokevirtual 215, 3) := by decide +kernel
theorem dX4_step_23 : decode cX4_step 23 = .ok (.goto 5, 3) := by decide +kernel
theorem dX4_step_26 : decode cX4_step 26 = .ok (.bipush (-2), 2) := by decide +kernel
theorem dX4_step_28 : decode cX4_step 28 = .ok (.ireturn, 1) := by decide +kernel
set_option maxRecDepth 20000 in
theorem ggX4_aheadOf_X4_keeps : GoodIn wsX4_aheadOf wsX4_keeps := goodIn_r _ [7, 1, 8, 9, 10, 51, 52, 53, 54, 55, 56, 57, 58, 59, 60, 61, 62, 63, 64, 65, 66, 67, 68, 69, 70, 71, 72, 73, 74, 75, 76, 77, 78, 79, 80] (by decide +kernel) (by decide +kernel)
set_option maxRecDepth 20000 in
theorem gX4_aheadOf_X4_keeps : GoodIn wsX4_aheadOf (wsV RX4 206 RX4 yX4_keeps wsX4_keeps) := goodIn_app (goodIn_of _ (by decide +kernel)) ggX4_aheadOf_X4_keeps
set_option maxRecDepth 20000 in
theorem ggX4_aheadOf_X4_moves : GoodIn wsX4_aheadOf wsX4_moves := goodIn_r _ [14, 2, 15, 16, 17, 1, 18, 10, 19, 20, 21, 22, 23, 6, 24, 25, 26, 27, 28, 29, 30, 31, 32, 33, 34, 35, 36, 37, 38, 39, 40, 41, 42, 43, 44, 45, 46, 51, 52, 53, 54, 55, 56, 57, 58, 59, 60, 61, 62, 63, 64, 65, 66, 67, 68, 69, 70, 71, 72, 73, 74, 75, 76, 77, 78, 79, 80] (by decide +kernel) (by decide +kernel)
set_option maxRecDepth 20000 in
theorem gX4_aheadOf_X4_moves : GoodIn wsX4_aheadOf (wsV RX4 177 RX4 yX4_moves wsX4_moves) := goodIn_app (goodIn_of _ (by decide +kernel)) ggX4_aheadOf_X4_moves
set_option maxRecDepth 20000 in
theorem ggX4_aheadOf_X4_takesBack : GoodIn wsX4_aheadOf wsX4_takesBack := goodIn_r _ [50, 8, 1, 10, 9, 51, 52, 53, 54, 55, 56, 57, 58, 59, 60, 61, 62, 63, 64, 65, 66, 67, 68, 69, 70, 71, 72, 73, 74, 75, 76, 77, 78, 79, 80] (by decide +kernel) (by decide +kernel)
set_option maxRecDepth 20000 in
theorem gX4_aheadOf_X4_takesBack : GoodIn wsX4_aheadOf (wsV RX4 209 RX4 yX4_takesBack wsX4_takesBack) := goodIn_app (goodIn_of _ (by decide +kernel)) ggX4_aheadOf_X4_takesBack
theorem dX4_aheadOf_0 : decode cX4_aheadOf 0 = .ok (.aload_n 0, 1) := by decide +kernel
theorem dX4_aheadOf_1 : decode cX4_aheadOf 1 = .ok (.invokevirtual 206, 3) := by decide +kernel
theorem dX4_aheadOf_4 : decode cX4_aheadOf 4 = .ok (.iconst 0, 1) := by decide +kernel
theorem dX4_aheadOf_5 : decode cX4_aheadOf 5 = .ok (.istore_n 2, 1) := by decide +kernel
theorem dX4_aheadOf_6 : decode cX4_aheadOf 6 = .ok (.iconst 0, 1) := by decide +kernel
theorem dX4_aheadOf_7 : decode cX4_aheadOf 7 = .ok (.istore_n 3, 1) := by decide +kernel
theorem dX4_aheadOf_8 : decode cX4_aheadOf 8 = .ok (.iload_n 3, 1) := by decide +kernel
theorem dX4_aheadOf_9 : decode cX4_aheadOf 9 = .ok (.iload_n 1, 1) := by decide +kernel
theorem dX4_aheadOf_10 : decode cX4_aheadOf 10 = .ok (.if_icmp .ge 43, 3) := by decide +kernel
theorem dX4_aheadOf_13 : decode cX4_aheadOf 13 = .ok (.aload_n 0, 1) := by decide +kernel
theorem dX4_aheadOf_14 : decode cX4_aheadOf 14 = .ok (.getfield 90, 3) := by decide +kernel
theorem dX4_aheadOf_17 : decode cX4_aheadOf 17 = .ok (.ifCond .ne 7, 3) := by decide +kernel
theorem dX4_aheadOf_20 : decode cX4_aheadOf 20 = .ok (.iconst 1, 1) := by decide +kernel
theorem dX4_aheadOf_21 : decode cX4_aheadOf 21 = .ok (.goto 4, 3) := by decide +kernel
theorem dX4_aheadOf_24 : decode cX4_aheadOf 24 = .ok (.iconst 0, 1) := by decide +kernel
theorem dX4_aheadOf_25 : decode cX4_aheadOf 25 = .ok (.istore 4, 2) := by decide +kernel
theorem dX4_aheadOf_27 : decode cX4_aheadOf 27 = .ok (.aload_n 0, 1) := by decide +kernel
theorem dX4_aheadOf_28 : decode cX4_aheadOf 28 = .ok (.invokevirtual 177, 3) := by decide +kernel
theorem dX4_aheadOf_31 : decode cX4_aheadOf 31 = .ok (.iload_n 2, 1) := by decide +kernel
theorem dX4_aheadOf_32 : decode cX4_aheadOf 32 = .ok (.iload 4, 2) := by decide +kernel
theorem dX4_aheadOf_34 : decode cX4_aheadOf 34 = .ok (.ifCond .eq 10, 3) := by decide +kernel
theorem dX4_aheadOf_37 : decode cX4_aheadOf 37 = .ok (.aload_n 0, 1) := by decide +kernel
theorem dX4_aheadOf_38 : decode cX4_aheadOf 38 = .ok (.getfield 159, 3) := by decide +kernel
theorem dX4_aheadOf_41 : decode cX4_aheadOf 41 = .ok (.goto 4, 3) := by decide +kernel
theorem dX4_aheadOf_44 : decode cX4_aheadOf 44 = .ok (.iconst 0, 1) := by decide +kernel
theorem dX4_aheadOf_45 : decode cX4_aheadOf 45 = .ok (.iadd, 1) := by decide +kernel
theorem dX4_aheadOf_46 : decode cX4_aheadOf 46 = .ok (.istore_n 2, 1) := by decide +kernel
theorem dX4_aheadOf_47 : decode cX4_aheadOf 47 = .ok (.iinc 3 1, 3) := by decide +kernel
theorem dX4_aheadOf_50 : decode cX4_aheadOf 50 = .ok (.goto (-42), 3) := by decide +kernel
theorem dX4_aheadOf_53 : decode cX4_aheadOf 53 = .ok (.aload_n 0, 1) := by decide +kernel
theorem dX4_aheadOf_54 : decode cX4_aheadOf 54 = .ok (.invokevirtual 209, 3) := by decide +kernel
theorem dX4_aheadOf_57 : decode cX4_aheadOf 57 = .ok (.iload_n 2, 1) := by decide +kernel
theorem dX4_aheadOf_58 : decode cX4_aheadOf 58 = .ok (.ireturn, 1) := by decide +kernel
set_option maxRecDepth 20000 in
theorem ggX4_ahead_X4_in : GoodIn wsX4_ahead wsX4_in := goodIn_r _ [5] (by decide +kernel) (by decide +kernel)
set_option maxRecDepth 20000 in
theorem gX4_ahead_X4_in : GoodIn wsX4_ahead (va_wsS RX4 60 yX4_in wsX4_in) := goodIn_app (goodIn_of _ (by decide +kernel)) ggX4_ahead_X4_in
set_option maxRecDepth 20000 in
theorem ggX4_ahead_X4_aheadOf : GoodIn wsX4_ahead wsX4_aheadOf := goodIn_r _ [9, 10, 11, 12, 13, 14, 4, 15, 16, 17, 18, 19, 20, 21, 22, 23, 24, 25, 26, 27, 28, 29, 30, 31, 32, 33, 34, 35, 36, 37, 38, 39, 40, 41, 42, 43, 44, 45, 46, 47, 48, 49, 50, 51, 52, 53, 54, 55, 56, 57, 58, 59, 60, 61, 62, 63, 64, 65, 66, 67, 68, 69, 70, 71, 72, 73, 74, 75, 76, 77, 78, 79, 80, 81, 82, 83, 84, 85, 86, 87, 88] (by decide +kernel) (by decide +kernel)
set_option maxRecDepth 20000 in
theorem gX4_ahead_X4_aheadOf : GoodIn wsX4_ahead (wsV RX4 220 RX4 yX4_aheadOf wsX4_aheadOf) := goodIn_app (goodIn_of _ (by decide +kernel)) ggX4_ahead_X4_aheadOf
theorem dX4_ahead_0 : decode cX4_ahead 0 = .ok (.iload_n 1, 1) := by decide +kernel
theorem dX4_ahead_1 : decode cX4_ahead 1 = .ok (.i2l, 1) := by decide +kernel
theorem dX4_ahead_2 : decode cX4_ahead 2 = .ok (.lconst 0, 1) := by decide +kernel
theorem dX4_ahead_3 : decode cX4_ahead 3 = .ok (.ldc2_w 218, 3) := by decide +kernel
theorem dX4_ahead_6 : decode cX4_ahead 6 = .ok (.invokestatic 60, 3) := by decide +kernel
theorem dX4_ahead_9 : decode cX4_ahead 9 = .ok (.ifCond .eq 11, 3) := by decide +kernel
theorem dX4_ahead_12 : decode cX4_ahead 12 = .ok (.aload_n 0, 1) := by decide +kernel
theorem dX4_ahead_13 : decode cX4_ahead 13 = .ok (.iload_n 1, 1) := by decide +kernel
theorem dX4_ahead_14 : decode cX4_ahead 14 = .ok (.invokevirtual 220, 3) := by decide +kernel
theorem dX4_ahead_17 : decode cX4_ahead 17 = .ok (.goto 5, 3) := by decide +kernel
theorem dX4_ahead_20 : decode cX4_ahead 20 = .ok (.bipush (-2), 2) := by decide +kernel
theorem dX4_ahead_22 : decode cX4_ahead 22 = .ok (.ireturn, 1) := by decide +kernel
set_option maxRecDepth 20000 in
theorem ggX4_betterBy_X4_aheadOf : GoodIn wsX4_betterBy wsX4_aheadOf := goodIn_r _ [7, 8, 9, 10, 11, 12, 6, 13, 14, 15, 16, 17, 18, 19, 20, 21, 22, 23, 24, 25, 26, 27, 28, 29, 30, 31, 32, 33, 34, 35, 36, 1, 37, 38, 39, 40, 41, 42, 43, 44, 45, 46, 47, 2, 48, 49, 50, 51, 52, 53, 54, 55, 56, 57, 58, 59, 60, 61, 62, 63, 64, 65, 66, 67, 68, 69, 70, 71, 72, 73, 74, 75, 76, 77, 78, 79, 80, 81, 82, 83, 84] (by decide +kernel) (by decide +kernel)
set_option maxRecDepth 20000 in
theorem gX4_betterBy_X4_aheadOf : GoodIn wsX4_betterBy (wsV RX4 220 RX4 yX4_aheadOf wsX4_aheadOf) := goodIn_app (goodIn_of _ (by decide +kernel)) ggX4_betterBy_X4_aheadOf
set_option maxRecDepth 20000 in
theorem ggX4_betterBy_X4_lesser : GoodIn wsX4_betterBy wsX4_lesser := goodIn_r _ [50] (by decide +kernel) (by decide +kernel)
set_option maxRecDepth 20000 in
theorem gX4_betterBy_X4_lesser : GoodIn wsX4_betterBy (va_wsS RX4 156 yX4_lesser wsX4_lesser) := goodIn_app (goodIn_of _ (by decide +kernel)) ggX4_betterBy_X4_lesser
theorem dX4_betterBy_0 : decode cX4_betterBy 0 = .ok (.aload_n 0, 1) := by decide +kernel
theorem dX4_betterBy_1 : decode cX4_betterBy 1 = .ok (.getfield 22, 3) := by decide +kernel
theorem dX4_betterBy_4 : decode cX4_betterBy 4 = .ok (.iload_n 1, 1) := by decide +kernel
theorem dX4_betterBy_5 : decode cX4_betterBy 5 = .ok (.iaload, 1) := by decide +kernel
theorem dX4_betterBy_6 : decode cX4_betterBy 6 = .ok (.istore_n 3, 1) := by decide +kernel
theorem dX4_betterBy_7 : decode cX4_betterBy 7 = .ok (.iconst (-1), 1) := by decide +kernel
theorem dX4_betterBy_8 : decode cX4_betterBy 8 = .ok (.istore 4, 2) := by decide +kernel
theorem dX4_betterBy_10 : decode cX4_betterBy 10 = .ok (.ldc 155, 2) := by decide +kernel
theorem dX4_betterBy_12 : decode cX4_betterBy 12 = .ok (.istore 5, 2) := by decide +kernel
theorem dX4_betterBy_14 : decode cX4_betterBy 14 = .ok (.iconst 0, 1) := by decide +kernel
theorem dX4_betterBy_15 : decode cX4_betterBy 15 = .ok (.istore 6, 2) := by decide +kernel
theorem dX4_betterBy_17 : decode cX4_betterBy 17 = .ok (.iload 6, 2) := by decide +kernel
theorem dX4_betterBy_19 : decode cX4_betterBy 19 = .ok (.bipush 60, 2) := by decide +kernel
theorem dX4_betterBy_21 : decode cX4_betterBy 21 = .ok (.if_icmp .ge 50, 3) := by decide +kernel
theorem dX4_betterBy_24 : decode cX4_betterBy 24 = .ok (.aload_n 0, 1) := by decide +kernel
theorem dX4_betterBy_25 : decode cX4_betterBy 25 = .ok (.getfield 22, 3) := by decide +kernel
theorem dX4_betterBy_28 : decode cX4_betterBy 28 = .ok (.iload_n 1, 1) := by decide +kernel
theorem dX4_betterBy_29 : decode cX4_betterBy 29 = .ok (.iload 6, 2) := by decide +kernel
theorem dX4_betterBy_31 : decode cX4_betterBy 31 = .ok (.iastore, 1) := by decide +kernel
theorem dX4_betterBy_32 : decode cX4_betterBy 32 = .ok (.aload_n 0, 1) := by decide +kernel
theorem dX4_betterBy_33 : decode cX4_betterBy 33 = .ok (.bipush 10, 2) := by decide +kernel
theorem dX4_betterBy_35 : decode cX4_betterBy 35 = .ok (.invokevirtual 220, 3) := by decide +kernel
theorem dX4_betterBy_38 : decode cX4_betterBy 38 = .ok (.istore 7, 2) := by decide +kernel
theorem dX4_betterBy_40 : decode cX4_betterBy 40 = .ok (.iload 7, 2) := by decide +kernel
theorem dX4_betterBy_42 : decode cX4_betterBy 42 = .ok (.iload 5, 2) := by decide +kernel
theorem dX4_betterBy_44 : decode cX4_betterBy 44 = .ok (.if_icmp .ge 8, 3) := by decide +kernel
theorem dX4_betterBy_47 : decode cX4_betterBy 47 = .ok (.iload 6, 2) := by decide +kernel
theorem dX4_betterBy_49 : decode cX4_betterBy 49 = .ok (.goto 5, 3) := by decide +kernel
theorem dX4_betterBy_52 : decode cX4_betterBy 52 = .ok (.iload 4, 2) := by decide +kernel
theorem dX4_betterBy_54 : decode cX4_betterBy 54 = .ok (.istore 4, 2) := by decide +kernel
theorem dX4_betterBy_56 : decode cX4_betterBy 56 = .ok (.iload 7, 2) := by decide +kernel
theorem dX4_betterBy_58 : decode cX4_betterBy 58 = .ok (.iload 5, 2) := by decide +kernel
theorem dX4_betterBy_60 : decode cX4_betterBy 60 = .ok (.invokestatic 156, 3) := by decide +kernel
theorem dX4_betterBy_63 : decode cX4_betterBy 63 = .ok (.istore 5, 2) := by decide +kernel
theorem dX4_betterBy_65 : decode cX4_betterBy 65 = .ok (.iinc 6 1, 3) := by decide +kernel
theorem dX4_betterBy_68 : decode cX4_betterBy 68 = .ok (.goto (-51), 3) := by decide +kernel
theorem dX4_betterBy_71 : decode cX4_betterBy 71 = .ok (.aload_n 0, 1) := by decide +kernel
theorem dX4_betterBy_72 : decode cX4_betterBy 72 = .ok (.getfield 22, 3) := by decide +kernel
theorem dX4_betterBy_75 : decode cX4_betterBy 75 = .ok (.iload_n 1, 1) := by decide +kernel
theorem dX4_betterBy_76 : decode cX4_betterBy 76 = .ok (.iload_n 3, 1) := by decide +kernel
theorem dX4_betterBy_77 : decode cX4_betterBy 77 = .ok (.iastore, 1) := by decide +kernel
theorem dX4_betterBy_78 : decode cX4_betterBy 78 = .ok (.iload_n 2, 1) := by decide +kernel
theorem dX4_betterBy_79 : decode cX4_betterBy 79 = .ok (.ifCond .ne 8, 3) := by decide +kernel
theorem dX4_betterBy_82 : decode cX4_betterBy 82 = .ok (.iload 4, 2) := by decide +kernel
theorem dX4_betterBy_84 : decode cX4_betterBy 84 = .ok (.goto 5, 3) := by decide +kernel
theorem dX4_betterBy_87 : decode cX4_betterBy 87 = .ok (.iload 5, 2) := by decide +kernel
theorem dX4_betterBy_89 : decode cX4_betterBy 89 = .ok (.ireturn, 1) := by decide +kernel
set_option maxRecDepth 20000 in
theorem ggX4_better_X4_isBasin : GoodIn wsX4_better wsX4_isBasin := goodIn_r _ [5, 6, 7, 8, 4, 9, 69, 70, 71, 72, 73, 74, 75, 76, 77, 78, 79, 80, 81, 82, 83, 84, 85, 86, 87, 88, 89, 90, 91, 92, 93, 94, 95, 96, 97, 98] (by decide +kernel) (by decide +kernel)
set_option maxRecDepth 20000 in
theorem gX4_better_X4_isBasin : GoodIn wsX4_better (wsV RX4 102 RX4 yX4_isBasin wsX4_isBasin) := goodIn_app (goodIn_of _ (by decide +kernel)) ggX4_better_X4_isBasin
set_option maxRecDepth 20000 in
theorem ggX4_better_X4_isTwo : GoodIn wsX4_better wsX4_isTwo := goodIn_r _ [12, 7, 8, 4, 9] (by decide +kernel) (by decide +kernel)
set_option maxRecDepth 20000 in
theorem gX4_better_X4_isTwo : GoodIn wsX4_better (va_wsS RX4 122 yX4_isTwo wsX4_isTwo) := goodIn_app (goodIn_of _ (by decide +kernel)) ggX4_better_X4_isTwo
set_option maxRecDepth 20000 in
theorem ggX4_better_X4_betterBy : GoodIn wsX4_better wsX4_betterBy := goodIn_r _ [16, 17, 18, 19, 20, 21, 4, 22, 23, 24, 25, 26, 27, 28, 29, 30, 31, 32, 33, 34, 35, 36, 37, 38, 39, 6, 40, 41, 42, 43, 44, 45, 46, 47, 48, 49, 50, 51, 52, 53, 54, 55, 56, 57, 58, 59, 60, 61, 62, 63, 64, 65, 66, 67, 68, 69, 70, 71, 72, 73, 74, 75, 76, 77, 78, 79, 80, 81, 82, 83, 84, 85, 86, 87, 88, 89, 90, 91, 92, 93, 94, 95, 96, 97, 98] (by decide +kernel) (by decide +kernel)
set_option maxRecDepth 20000 in
theorem gX4_better_X4_betterBy : GoodIn wsX4_better (wsV RX4 223 RX4 yX4_betterBy wsX4_betterBy) := goodIn_app (goodIn_of _ (by decide +kernel)) ggX4_better_X4_betterBy
theorem dX4_better_0 : decode cX4_better 0 = .ok (.aload_n 0, 1) := by decide +kernel
theorem dX4_better_1 : decode cX4_better 1 = .ok (.iload_n 1, 1) := by decide +kernel
theorem dX4_better_2 : decode cX4_better 2 = .ok (.invokevirtual 102, 3) := by decide +kernel
theorem dX4_better_5 : decode cX4_better 5 = .ok (.ifCond .eq 19, 3) := by decide +kernel
theorem dX4_better_8 : decode cX4_better 8 = .ok (.iload_n 2, 1) := by decide +kernel
theorem dX4_better_9 : decode cX4_better 9 = .ok (.invokestatic 122, 3) := by decide +kernel
theorem dX4_better_12 : decode cX4_better 12 = .ok (.ifCond .eq 12, 3) := by decide +kernel
theorem dX4_better_15 : decode cX4_better 15 = .ok (.aload_n 0, 1) := by decide +kernel
theorem dX4_better_16 : decode cX4_better 16 = .ok (.iload_n 1, 1) := by decide +kernel
theorem dX4_better_17 : decode cX4_better 17 = .ok (.iload_n 2, 1) := by decide +kernel
theorem dX4_better_18 : decode cX4_better 18 = .ok (.invokevirtual 223, 3) := by decide +kernel
theorem dX4_better_21 : decode cX4_better 21 = .ok (.goto 5, 3) := by decide +kernel
theorem dX4_better_24 : decode cX4_better 24 = .ok (.bipush (-2), 2) := by decide +kernel
theorem dX4_better_26 : decode cX4_better 26 = .ok (.ireturn, 1) := by decide +kernel
set_option maxRecDepth 20000 in
theorem ggX4_needlessBy_X4_isIn : GoodIn wsX4_needlessBy wsX4_isIn := goodIn_r _ [7] (by decide +kernel) (by decide +kernel)
set_option maxRecDepth 20000 in
theorem gX4_needlessBy_X4_isIn : GoodIn wsX4_needlessBy (va_wsS RX4 148 yX4_isIn wsX4_isIn) := goodIn_app (goodIn_of _ (by decide +kernel)) ggX4_needlessBy_X4_isIn
set_option maxRecDepth 20000 in
theorem ggX4_needlessBy_X4_aheadOf : GoodIn wsX4_needlessBy wsX4_aheadOf := goodIn_r _ [11, 12, 13, 14, 15, 16, 6, 17, 18, 19, 20, 21, 22, 23, 24, 25, 26, 27, 28, 2, 29, 30, 31, 32, 33, 3, 34, 35, 36, 37, 38, 39, 40, 4, 5, 7, 41, 42, 43, 44, 45, 46, 47, 1, 48, 49, 50, 51, 52, 53, 54, 55, 56, 57, 58, 59, 60, 61, 62, 63, 64, 65, 66, 67, 68, 69, 70, 71, 72, 73, 74, 75, 76, 77, 78, 79, 80, 81, 82, 83, 84] (by decide +kernel) (by decide +kernel)
set_option maxRecDepth 20000 in
theorem gX4_needlessBy_X4_aheadOf : GoodIn wsX4_needlessBy (wsV RX4 220 RX4 yX4_aheadOf wsX4_aheadOf) := goodIn_app (goodIn_of _ (by decide +kernel)) ggX4_needlessBy_X4_aheadOf
set_option maxRecDepth 20000 in
theorem ggX4_needlessBy_X4_lesser : GoodIn wsX4_needlessBy wsX4_lesser := goodIn_r _ [50] (by decide +kernel) (by decide +kernel)
set_option maxRecDepth 20000 in
theorem gX4_needlessBy_X4_lesser : GoodIn wsX4_needlessBy (va_wsS RX4 156 yX4_lesser wsX4_lesser) := goodIn_app (goodIn_of _ (by decide +kernel)) ggX4_needlessBy_X4_lesser
theorem dX4_needlessBy_0 : decode cX4_needlessBy 0 = .ok (.iconst (-1), 1) := by decide +kernel
theorem dX4_needlessBy_1 : decode cX4_needlessBy 1 = .ok (.istore_n 2, 1) := by decide +kernel
theorem dX4_needlessBy_2 : decode cX4_needlessBy 2 = .ok (.ldc 155, 2) := by decide +kernel
theorem dX4_needlessBy_4 : decode cX4_needlessBy 4 = .ok (.istore_n 3, 1) := by decide +kernel
theorem dX4_needlessBy_5 : decode cX4_needlessBy 5 = .ok (.iconst 0, 1) := by decide +kernel
theorem dX4_needlessBy_6 : decode cX4_needlessBy 6 = .ok (.istore 4, 2) := by decide +kernel
theorem dX4_needlessBy_8 : decode cX4_needlessBy 8 = .ok (.iload 4, 2) := by decide +kernel
theorem dX4_needlessBy_10 : decode cX4_needlessBy 10 = .ok (.aload_n 0, 1) := by decide +kernel
theorem dX4_needlessBy_11 : decode cX4_needlessBy 11 = .ok (.getfield 96, 3) := by decide +kernel
theorem dX4_needlessBy_14 : decode cX4_needlessBy 14 = .ok (.if_icmp .ge 77, 3) := by decide +kernel
theorem dX4_needlessBy_17 : decode cX4_needlessBy 17 = .ok (.aload_n 0, 1) := by decide +kernel
theorem dX4_needlessBy_18 : decode cX4_needlessBy 18 = .ok (.getfield 99, 3) := by decide +kernel
theorem dX4_needlessBy_21 : decode cX4_needlessBy 21 = .ok (.iload 4, 2) := by decide +kernel
theorem dX4_needlessBy_23 : decode cX4_needlessBy 23 = .ok (.invokestatic 148, 3) := by decide +kernel
theorem dX4_needlessBy_26 : decode cX4_needlessBy 26 = .ok (.ifCond .ne 59, 3) := by decide +kernel
theorem dX4_needlessBy_29 : decode cX4_needlessBy 29 = .ok (.aload_n 0, 1) := by decide +kernel
theorem dX4_needlessBy_30 : decode cX4_needlessBy 30 = .ok (.dup, 1) := by decide +kernel
theorem dX4_needlessBy_31 : decode cX4_needlessBy 31 = .ok (.getfield 99, 3) := by decide +kernel
theorem dX4_needlessBy_34 : decode cX4_needlessBy 34 = .ok (.iconst 1, 1) := by decide +kernel
theorem dX4_needlessBy_35 : decode cX4_needlessBy 35 = .ok (.iload 4, 2) := by decide +kernel
theorem dX4_needlessBy_37 : decode cX4_needlessBy 37 = .ok (.ishl, 1) := by decide +kernel
theorem dX4_needlessBy_38 : decode cX4_needlessBy 38 = .ok (.ior, 1) := by decide +kernel
theorem dX4_needlessBy_39 : decode cX4_needlessBy 39 = .ok (.putfield 99, 3) := by decide +kernel
theorem dX4_needlessBy_42 : decode cX4_needlessBy 42 = .ok (.aload_n 0, 1) := by decide +kernel
theorem dX4_needlessBy_43 : decode cX4_needlessBy 43 = .ok (.bipush 10, 2) := by decide +kernel
theorem dX4_needlessBy_45 : decode cX4_needlessBy 45 = .ok (.invokevirtual 220, 3) := by decide +kernel
theorem dX4_needlessBy_48 : decode cX4_needlessBy 48 = .ok (.istore 5, 2) := by decide +kernel
theorem dX4_needlessBy_50 : decode cX4_needlessBy 50 = .ok (.aload_n 0, 1) := by decide +kernel
theorem dX4_needlessBy_51 : decode cX4_needlessBy 51 = .ok (.dup, 1) := by decide +kernel
theorem dX4_needlessBy_52 : decode cX4_needlessBy 52 = .ok (.getfield 99, 3) := by decide +kernel
theorem dX4_needlessBy_55 : decode cX4_needlessBy 55 = .ok (.iconst 1, 1) := by decide +kernel
theorem dX4_needlessBy_56 : decode cX4_needlessBy 56 = .ok (.iload 4, 2) := by decide +kernel
theorem dX4_needlessBy_58 : decode cX4_needlessBy 58 = .ok (.ishl, 1) := by decide +kernel
theorem dX4_needlessBy_59 : decode cX4_needlessBy 59 = .ok (.iconst (-1), 1) := by decide +kernel
theorem dX4_needlessBy_60 : decode cX4_needlessBy 60 = .ok (.ixor, 1) := by decide +kernel
theorem dX4_needlessBy_61 : decode cX4_needlessBy 61 = .ok (.iand, 1) := by decide +kernel
theorem dX4_needlessBy_62 : decode cX4_needlessBy 62 = .ok (.putfield 99, 3) := by decide +kernel
theorem dX4_needlessBy_65 : decode cX4_needlessBy 65 = .ok (.iload 5, 2) := by decide +kernel
theorem dX4_needlessBy_67 : decode cX4_needlessBy 67 = .ok (.iload_n 3, 1) := by decide +kernel
theorem dX4_needlessBy_68 : decode cX4_needlessBy 68 = .ok (.if_icmp .ge 8, 3) := by decide +kernel
theorem dX4_needlessBy_71 : decode cX4_needlessBy 71 = .ok (.iload 4, 2) := by decide +kernel
theorem dX4_needlessBy_73 : decode cX4_needlessBy 73 = .ok (.goto 4, 3) := by decide +kernel
theorem dX4_needlessBy_76 : decode cX4_needlessBy 76 = .ok (.iload_n 2, 1) := by decide +kernel
theorem dX4_needlessBy_77 : decode cX4_needlessBy 77 = .ok (.istore_n 2, 1) := by decide +kernel
theorem dX4_needlessBy_78 : decode cX4_needlessBy 78 = .ok (.iload 5, 2) := by decide +kernel
theorem dX4_needlessBy_80 : decode cX4_needlessBy 80 = .ok (.iload_n 3, 1) := by decide +kernel
theorem dX4_needlessBy_81 : decode cX4_needlessBy 81 = .ok (.invokestatic 156, 3) := by decide +kernel
theorem dX4_needlessBy_84 : decode cX4_needlessBy 84 = .ok (.istore_n 3, 1) := by decide +kernel
theorem dX4_needlessBy_85 : decode cX4_needlessBy 85 = .ok (.iinc 4 1, 3) := by decide +kernel
theorem dX4_needlessBy_88 : decode cX4_needlessBy 88 = .ok (.goto (-80), 3) := by decide +kernel
theorem dX4_needlessBy_91 : decode cX4_needlessBy 91 = .ok (.iload_n 2, 1) := by decide +kernel
theorem dX4_needlessBy_92 : decode cX4_needlessBy 92 = .ok (.iconst (-1), 1) := by decide +kernel
theorem dX4_needlessBy_93 : decode cX4_needlessBy 93 = .ok (.if_icmp .eq 7, 3) := by decide +kernel
theorem dX4_needlessBy_96 : decode cX4_needlessBy 96 = .ok (.iload_n 1, 1) := by decide +kernel
theorem dX4_needlessBy_97 : decode cX4_needlessBy 97 = .ok (.ifCond .ne 7, 3) := by decide +kernel
theorem dX4_needlessBy_100 : decode cX4_needlessBy 100 = .ok (.iload_n 2, 1) := by decide +kernel
theorem dX4_needlessBy_101 : decode cX4_needlessBy 101 = .ok (.goto 4, 3) := by decide +kernel
theorem dX4_needlessBy_104 : decode cX4_needlessBy 104 = .ok (.iload_n 3, 1) := by decide +kernel
theorem dX4_needlessBy_105 : decode cX4_needlessBy 105 = .ok (.ireturn, 1) := by decide +kernel
set_option maxRecDepth 20000 in
theorem ggX4_needless_X4_isTwo : GoodIn wsX4_needless wsX4_isTwo := goodIn_r _ [4, 5, 6, 3, 7] (by decide +kernel) (by decide +kernel)
set_option maxRecDepth 20000 in
theorem gX4_needless_X4_isTwo : GoodIn wsX4_needless (va_wsS RX4 122 yX4_isTwo wsX4_isTwo) := goodIn_app (goodIn_of _ (by decide +kernel)) ggX4_needless_X4_isTwo
set_option maxRecDepth 20000 in
theorem ggX4_needless_X4_needlessBy : GoodIn wsX4_needless wsX4_needlessBy := goodIn_r _ [11, 12, 13, 14, 15, 16, 3, 17, 18, 19, 20, 21, 22, 23, 24, 25, 26, 27, 28, 29, 30, 31, 32, 33, 34, 35, 36, 37, 38, 39, 40, 41, 42, 43, 44, 45, 46, 47, 48, 49, 50, 51, 52, 53, 54, 55, 56, 57, 58, 59, 60, 61, 62, 63, 64, 65, 66, 67, 68, 69, 70, 71, 72, 73, 74, 75, 76, 77, 78, 79, 80, 81, 82, 83, 84, 85, 86, 87, 88, 89, 90, 91, 92, 93, 94] (by decide +kernel) (by decide +kernel)
set_option maxRecDepth 20000 in
theorem gX4_needless_X4_needlessBy : GoodIn wsX4_needless (wsV RX4 226 RX4 yX4_needlessBy wsX4_needlessBy) := goodIn_app (goodIn_of _ (by decide +kernel)) ggX4_needless_X4_needlessBy
theorem dX4_needless_0 : decode cX4_needless 0 = .ok (.iload_n 1, 1) := by decide +kernel
theorem dX4_needless_1 : decode cX4_needless 1 = .ok (.invokestatic 122, 3) := by decide +kernel
theorem dX4_needless_4 : decode cX4_needless 4 = .ok (.ifCond .eq 11, 3) := by decide +kernel
theorem dX4_needless_7 : decode cX4_needless 7 = .ok (.aload_n 0, 1) := by decide +kernel
theorem dX4_needless_8 : decode cX4_needless 8 = .ok (.iload_n 1, 1) := by decide +kernel
theorem dX4_needless_9 : decode cX4_needless 9 = .ok (.invokevirtual 226, 3) := by decide +kernel
theorem dX4_needless_12 : decode cX4_needless 12 = .ok (.goto 5, 3) := by decide +kernel
theorem dX4_needless_15 : decode cX4_needless 15 = .ok (.bipush (-2), 2) := by decide +kernel
theorem dX4_needless_17 : decode cX4_needless 17 = .ok (.ireturn, 1) := by decide +kernel
set_option maxRecDepth 20000 in
theorem ggX4_write_X4_isSheet : GoodIn wsX4_write wsX4_isSheet := goodIn_r _ [9, 10, 11, 12, 8, 13] (by decide +kernel) (by decide +kernel)
set_option maxRecDepth 20000 in
theorem gX4_write_X4_isSheet : GoodIn wsX4_write (va_wsS RX4 69 yX4_isSheet wsX4_isSheet) := goodIn_app (goodIn_of _ (by decide +kernel)) ggX4_write_X4_isSheet
set_option maxRecDepth 20000 in
theorem ggX4_write_X4_finds : GoodIn wsX4_write wsX4_finds := goodIn_r _ [17, 18, 73, 74, 75, 76, 77, 78, 79, 80, 81, 82, 83, 84, 85, 86, 87, 88, 89, 90, 91, 92, 93, 94, 95, 96, 97, 98, 99, 100, 101, 102] (by decide +kernel) (by decide +kernel)
set_option maxRecDepth 20000 in
theorem gX4_write_X4_finds : GoodIn wsX4_write (wsV RX4 75 RX4 yX4_finds wsX4_finds) := goodIn_app (goodIn_of _ (by decide +kernel)) ggX4_write_X4_finds
set_option maxRecDepth 20000 in
theorem ggX4_write_X4_looks : GoodIn wsX4_write wsX4_looks := goodIn_r _ [22, 23, 24, 25, 8, 26, 27, 28, 29, 30, 31, 32, 33, 34, 35, 36, 37, 3, 5, 38, 39, 40, 41, 42, 43, 44, 45, 46, 47, 48, 49, 50, 51, 52, 53, 54, 55, 56, 57, 58, 59, 60, 61, 62, 63, 64, 65, 66, 67, 68, 69, 73, 74, 75, 76, 77, 78, 79, 80, 81, 82, 83, 84, 85, 86, 87, 88, 89, 90, 91, 92, 93, 94, 95, 96, 97, 98, 99, 100, 101, 102] (by decide +kernel) (by decide +kernel)
set_option maxRecDepth 20000 in
theorem gX4_write_X4_looks : GoodIn wsX4_write (wsV RX4 212 RX4 yX4_looks wsX4_looks) := goodIn_app (goodIn_of _ (by decide +kernel)) ggX4_write_X4_looks
set_option maxRecDepth 20000 in
theorem ggX4_write_X4_lesser : GoodIn wsX4_write wsX4_lesser := goodIn_r _ [65] (by decide +kernel) (by decide +kernel)
set_option maxRecDepth 20000 in
theorem gX4_write_X4_lesser : GoodIn wsX4_write (va_wsS RX4 156 yX4_lesser wsX4_lesser) := goodIn_app (goodIn_of _ (by decide +kernel)) ggX4_write_X4_lesser
set_option maxRecDepth 20000 in
theorem ggX4_write_X4_cut : GoodIn wsX4_write wsX4_cut := goodIn_r _ [72] (by decide +kernel) (by decide +kernel)
set_option maxRecDepth 20000 in
theorem gX4_write_X4_cut : GoodIn wsX4_write (va_wsS RX4 83 yX4_cut wsX4_cut) := goodIn_app (goodIn_of _ (by decide +kernel)) ggX4_write_X4_cut
theorem dX4_write_0 : decode cX4_write 0 = .ok (.iload_n 1, 1) := by decide +kernel
theorem dX4_write_1 : decode cX4_write 1 = .ok (.invokestatic 69, 3) := by decide +kernel
theorem dX4_write_4 : decode cX4_write 4 = .ok (.ifCond .ne 6, 3) := by decide +kernel
theorem dX4_write_7 : decode cX4_write 7 = .ok (.bipush (-2), 2) := by decide +kernel
theorem dX4_write_9 : decode cX4_write 9 = .ok (.ireturn, 1) := by decide +kernel
theorem dX4_write_10 : decode cX4_write 10 = .ok (.aload_n 0, 1) := by decide +kernel
theorem dX4_write_11 : decode cX4_write 11 = .ok (.getfield 7, 3) := by decide +kernel
theorem dX4_write_14 : decode cX4_write 14 = .ok (.iload_n 1, 1) := by decide +kernel
theorem dX4_write_15 : decode cX4_write 15 = .ok (.iaload, 1) := by decide +kernel
theorem dX4_write_16 : decode cX4_write 16 = .ok (.ifCond .ge 9, 3) := by decide +kernel
theorem dX4_write_19 : decode cX4_write 19 = .ok (.aload_n 0, 1) := by decide +kernel
theorem dX4_write_20 : decode cX4_write 20 = .ok (.iconst 1, 1) := by decide +kernel
theorem dX4_write_21 : decode cX4_write 21 = .ok (.invokevirtual 75, 3) := by decide +kernel
theorem dX4_write_24 : decode cX4_write 24 = .ok (.ireturn, 1) := by decide +kernel
theorem dX4_write_25 : decode cX4_write 25 = .ok (.aload_n 0, 1) := by decide +kernel
theorem dX4_write_26 : decode cX4_write 26 = .ok (.invokevirtual 212, 3) := by decide +kernel
theorem dX4_write_29 : decode cX4_write 29 = .ok (.aload_n 0, 1) := by decide +kernel
theorem dX4_write_30 : decode cX4_write 30 = .ok (.getfield 13, 3) := by decide +kernel
theorem dX4_write_33 : decode cX4_write 33 = .ok (.iload_n 1, 1) := by decide +kernel
theorem dX4_write_34 : decode cX4_write 34 = .ok (.iaload, 1) := by decide +kernel
theorem dX4_write_35 : decode cX4_write 35 = .ok (.aload_n 0, 1) := by decide +kernel
theorem dX4_write_36 : decode cX4_write 36 = .ok (.getfield 56, 3) := by decide +kernel
theorem dX4_write_39 : decode cX4_write 39 = .ok (.invokestatic 156, 3) := by decide +kernel
theorem dX4_write_42 : decode cX4_write 42 = .ok (.istore_n 2, 1) := by decide +kernel
theorem dX4_write_43 : decode cX4_write 43 = .ok (.iconst 0, 1) := by decide +kernel
theorem dX4_write_44 : decode cX4_write 44 = .ok (.istore_n 3, 1) := by decide +kernel
theorem dX4_write_45 : decode cX4_write 45 = .ok (.iload_n 3, 1) := by decide +kernel
theorem dX4_write_46 : decode cX4_write 46 = .ok (.iload_n 2, 1) := by decide +kernel
theorem dX4_write_47 : decode cX4_write 47 = .ok (.if_icmp .ge 35, 3) := by decide +kernel
theorem dX4_write_50 : decode cX4_write 50 = .ok (.aload_n 0, 1) := by decide +kernel
theorem dX4_write_51 : decode cX4_write 51 = .ok (.getfield 16, 3) := by decide +kernel
theorem dX4_write_54 : decode cX4_write 54 = .ok (.bipush 60, 2) := by decide +kernel
theorem dX4_write_56 : decode cX4_write 56 = .ok (.iload_n 1, 1) := by decide +kernel
theorem dX4_write_57 : decode cX4_write 57 = .ok (.imul, 1) := by decide +kernel
theorem dX4_write_58 : decode cX4_write 58 = .ok (.iload_n 3, 1) := by decide +kernel
theorem dX4_write_59 : decode cX4_write 59 = .ok (.iadd, 1) := by decide +kernel
theorem dX4_write_60 : decode cX4_write 60 = .ok (.aload_n 0, 1) := by decide +kernel
theorem dX4_write_61 : decode cX4_write 61 = .ok (.getfield 7, 3) := by decide +kernel
theorem dX4_write_64 : decode cX4_write 64 = .ok (.iload_n 1, 1) := by decide +kernel
theorem dX4_write_65 : decode cX4_write 65 = .ok (.iaload, 1) := by decide +kernel
theorem dX4_write_66 : decode cX4_write 66 = .ok (.aload_n 0, 1) := by decide +kernel
theorem dX4_write_67 : decode cX4_write 67 = .ok (.getfield 44, 3) := by decide +kernel
theorem dX4_write_70 : decode cX4_write 70 = .ok (.iload_n 3, 1) := by decide +kernel
theorem dX4_write_71 : decode cX4_write 71 = .ok (.iaload, 1) := by decide +kernel
theorem dX4_write_72 : decode cX4_write 72 = .ok (.invokestatic 83, 3) := by decide +kernel
theorem dX4_write_75 : decode cX4_write 75 = .ok (.iastore, 1) := by decide +kernel
theorem dX4_write_76 : decode cX4_write 76 = .ok (.iinc 3 1, 3) := by decide +kernel
theorem dX4_write_79 : decode cX4_write 79 = .ok (.goto (-34), 3) := by decide +kernel
theorem dX4_write_82 : decode cX4_write 82 = .ok (.iload_n 2, 1) := by decide +kernel
theorem dX4_write_83 : decode cX4_write 83 = .ok (.ireturn, 1) := by decide +kernel
set_option maxRecDepth 20000 in
theorem ggX4_count_X4_manyWait : GoodIn wsX4_count wsX4_manyWait := goodIn_r _ [11, 5, 12, 13, 25, 26, 27, 28, 29, 30, 31, 32, 33, 34, 35, 36, 37, 38, 39, 40, 41, 42, 43, 44, 45, 46, 47, 48, 49, 50, 51, 52, 53, 54] (by decide +kernel) (by decide +kernel)
set_option maxRecDepth 20000 in
theorem gX4_count_X4_manyWait : GoodIn wsX4_count (wsV RX4 125 RX4 yX4_manyWait wsX4_manyWait) := goodIn_app (goodIn_of _ (by decide +kernel)) ggX4_count_X4_manyWait
set_option maxRecDepth 20000 in
theorem ggX4_count_X4_chamberBy : GoodIn wsX4_count wsX4_chamberBy := goodIn_r _ [17, 18, 19, 25, 26, 27, 28, 29, 30, 31, 32, 33, 34, 35, 36, 37, 38, 39, 40, 41, 42, 43, 44, 45, 46, 47, 48, 49, 50, 51, 52, 53, 54] (by decide +kernel) (by decide +kernel)
set_option maxRecDepth 20000 in
theorem gX4_count_X4_chamberBy : GoodIn wsX4_count (wsV RX4 116 RX4 yX4_chamberBy wsX4_chamberBy) := goodIn_app (goodIn_of _ (by decide +kernel)) ggX4_count_X4_chamberBy
set_option maxRecDepth 20000 in
theorem ggX4_count_X4_inBasins : GoodIn wsX4_count wsX4_inBasins := goodIn_r _ [23, 1, 24, 25, 26, 27, 28, 29, 30, 31, 32, 33, 34, 35, 36, 37, 38, 39, 40, 41, 42, 43, 44, 45, 46, 47, 48, 49, 50, 51, 52, 53, 54] (by decide +kernel) (by decide +kernel)
set_option maxRecDepth 20000 in
theorem gX4_count_X4_inBasins : GoodIn wsX4_count (wsV RX4 198 RX4 yX4_inBasins wsX4_inBasins) := goodIn_app (goodIn_of _ (by decide +kernel)) ggX4_count_X4_inBasins
end
section
theorem dX4_count_0 : decode cX4_count 0 = .ok (.iload_n 1, 1) := by decide +kernel
theorem dX4_count_1 : decode cX4_count 1 = .ok (.tableswitch 104 0 8 #[51, 56, 68, 73, 79, 84, 89, 94, 99], 51) := by decide +kernel
theorem dX4_count_52 : decode cX4_count 52 = .ok (.aload_n 0, 1) := by decide +kernel
theorem dX4_count_53 : decode cX4_count 53 = .ok (.getfield 96, 3) := by decide +kernel
theorem dX4_count_56 : decode cX4_count 56 = .ok (.ireturn, 1) := by decide +kernel
theorem dX4_count_57 : decode cX4_count 57 = .ok (.aload_n 0, 1) := by decide +kernel
theorem dX4_count_58 : decode cX4_count 58 = .ok (.iconst 0, 1) := by decide +kernel
theorem dX4_count_59 : decode cX4_count 59 = .ok (.invokevirtual 125, 3) := by decide +kernel
theorem dX4_count_62 : decode cX4_count 62 = .ok (.aload_n 0, 1) := by decide +kernel
theorem dX4_count_63 : decode cX4_count 63 = .ok (.iconst 1, 1) := by decide +kernel
theorem dX4_count_64 : decode cX4_count 64 = .ok (.invokevirtual 125, 3) := by decide +kernel
theorem dX4_count_67 : decode cX4_count 67 = .ok (.iadd, 1) := by decide +kernel
theorem dX4_count_68 : decode cX4_count 68 = .ok (.ireturn, 1) := by decide +kernel
theorem dX4_count_69 : decode cX4_count 69 = .ok (.aload_n 0, 1) := by decide +kernel
theorem dX4_count_70 : decode cX4_count 70 = .ok (.getfield 174, 3) := by decide +kernel
theorem dX4_count_73 : decode cX4_count 73 = .ok (.ireturn, 1) := by decide +kernel
theorem dX4_count_74 : decode cX4_count 74 = .ok (.aload_n 0, 1) := by decide +kernel
theorem dX4_count_75 : decode cX4_count 75 = .ok (.iconst 0, 1) := by decide +kernel
theorem dX4_count_76 : decode cX4_count 76 = .ok (.invokevirtual 116, 3) := by decide +kernel
theorem dX4_count_79 : decode cX4_count 79 = .ok (.ireturn, 1) := by decide +kernel
theorem dX4_count_80 : decode cX4_count 80 = .ok (.aload_n 0, 1) := by decide +kernel
theorem dX4_count_81 : decode cX4_count 81 = .ok (.invokevirtual 198, 3) := by decide +kernel
theorem dX4_count_84 : decode cX4_count 84 = .ok (.ireturn, 1) := by decide +kernel
theorem dX4_count_85 : decode cX4_count 85 = .ok (.aload_n 0, 1) := by decide +kernel
theorem dX4_count_86 : decode cX4_count 86 = .ok (.getfield 180, 3) := by decide +kernel
theorem dX4_count_89 : decode cX4_count 89 = .ok (.ireturn, 1) := by decide +kernel
theorem dX4_count_90 : decode cX4_count 90 = .ok (.aload_n 0, 1) := by decide +kernel
theorem dX4_count_91 : decode cX4_count 91 = .ok (.getfield 183, 3) := by decide +kernel
theorem dX4_count_94 : decode cX4_count 94 = .ok (.ireturn, 1) := by decide +kernel
theorem dX4_count_95 : decode cX4_count 95 = .ok (.aload_n 0, 1) := by decide +kernel
theorem dX4_count_96 : decode cX4_count 96 = .ok (.getfield 119, 3) := by decide +kernel
theorem dX4_count_99 : decode cX4_count 99 = .ok (.ireturn, 1) := by decide +kernel
theorem dX4_count_100 : decode cX4_count 100 = .ok (.aload_n 0, 1) := by decide +kernel
theorem dX4_count_101 : decode cX4_count 101 = .ok (.getfield 64, 3) := by decide +kernel
theorem dX4_count_104 : decode cX4_count 104 = .ok (.ireturn, 1) := by decide +kernel
theorem dX4_count_105 : decode cX4_count 105 = .ok (.bipush (-2), 2) := by decide +kernel
theorem dX4_count_107 : decode cX4_count 107 = .ok (.ireturn, 1) := by decide +kernel
set_option maxRecDepth 20000 in
theorem ggX4_digest_X4_count : GoodIn wsX4_digest wsX4_count := goodIn_r _ [10, 3, 4, 11, 12, 13, 14, 15, 16, 17, 9, 18, 19, 20, 21, 22, 23, 24, 25, 26, 27, 28, 29, 30, 31, 124, 125, 126, 127, 128, 129, 130, 131, 132, 133, 134, 135, 136, 137, 138, 139, 140, 141, 142, 143, 144, 145, 146, 147, 148, 149, 150, 151, 152, 153] (by decide +kernel) (by decide +kernel)
set_option maxRecDepth 20000 in
theorem gX4_digest_X4_count : GoodIn wsX4_digest (wsV RX4 233 RX4 yX4_count wsX4_count) := goodIn_app (goodIn_of _ (by decide +kernel)) ggX4_digest_X4_count
set_option maxRecDepth 20000 in
theorem ggX4_digest_X4_infoBy : GoodIn wsX4_digest wsX4_infoBy := goodIn_r _ [35, 36, 37, 38, 39, 31, 40, 41, 42, 43, 9, 44, 124, 125, 126, 127, 128, 129, 130, 131, 132, 133, 134, 135, 136, 137, 138, 139, 140, 141, 142, 143, 144, 145, 146, 147, 148, 149, 150, 151, 152, 153] (by decide +kernel) (by decide +kernel)
set_option maxRecDepth 20000 in
theorem gX4_digest_X4_infoBy : GoodIn wsX4_digest (wsV RX4 113 RX4 yX4_infoBy wsX4_infoBy) := goodIn_app (goodIn_of _ (by decide +kernel)) ggX4_digest_X4_infoBy
set_option maxRecDepth 20000 in
theorem ggX4_digest_X4_betterBy : GoodIn wsX4_digest wsX4_betterBy := goodIn_r _ [48, 36, 49, 50, 51, 52, 9, 53, 25, 54, 55, 56, 57, 58, 59, 60, 31, 61, 62, 63, 64, 65, 66, 26, 67, 3, 39, 68, 69, 70, 71, 40, 37, 41, 42, 43, 44, 38, 72, 73, 74, 75, 76, 77, 78, 79, 80, 81, 82, 83, 84, 85, 86, 87, 88, 124, 125, 126, 127, 128, 129, 130, 131, 132, 133, 134, 135, 136, 137, 138, 139, 140, 141, 142, 143, 144, 145, 146, 147, 148, 149, 150, 151, 152, 153] (by decide +kernel) (by decide +kernel)
set_option maxRecDepth 20000 in
theorem gX4_digest_X4_betterBy : GoodIn wsX4_digest (wsV RX4 223 RX4 yX4_betterBy wsX4_betterBy) := goodIn_app (goodIn_of _ (by decide +kernel)) ggX4_digest_X4_betterBy
set_option maxRecDepth 20000 in
theorem ggX4_digest_X4_chamberBy : GoodIn wsX4_digest wsX4_chamberBy := goodIn_r _ [24, 25, 26, 124, 125, 126, 127, 128, 129, 130, 131, 132, 133, 134, 135, 136, 137, 138, 139, 140, 141, 142, 143, 144, 145, 146, 147, 148, 149, 150, 151, 152, 153] (by decide +kernel) (by decide +kernel)
set_option maxRecDepth 20000 in
theorem gX4_digest_X4_chamberBy : GoodIn wsX4_digest (wsV RX4 116 RX4 yX4_chamberBy wsX4_chamberBy) := goodIn_app (goodIn_of _ (by decide +kernel)) ggX4_digest_X4_chamberBy
set_option maxRecDepth 20000 in
theorem ggX4_digest_X4_waitsBy : GoodIn wsX4_digest wsX4_waitsBy := goodIn_r _ [92, 13, 19, 20, 124, 125, 126, 127, 128, 129, 130, 131, 132, 133, 134, 135, 136, 137, 138, 139, 140, 141, 142, 143, 144, 145, 146, 147, 148, 149, 150, 151, 152, 153] (by decide +kernel) (by decide +kernel)
set_option maxRecDepth 20000 in
theorem gX4_digest_X4_waitsBy : GoodIn wsX4_digest (wsV RX4 132 RX4 yX4_waitsBy wsX4_waitsBy) := goodIn_app (goodIn_of _ (by decide +kernel)) ggX4_digest_X4_waitsBy
set_option maxRecDepth 20000 in
theorem ggX4_digest_X4_nextBy : GoodIn wsX4_digest wsX4_nextBy := goodIn_r _ [96, 20, 97, 98, 99, 9, 100, 13, 19, 101, 102, 103, 104, 105, 25, 124, 125, 126, 127, 128, 129, 130, 131, 132, 133, 134, 135, 136, 137, 138, 139, 140, 141, 142, 143, 144, 145, 146, 147, 148, 149, 150, 151, 152, 153] (by decide +kernel) (by decide +kernel)
set_option maxRecDepth 20000 in
theorem gX4_digest_X4_nextBy : GoodIn wsX4_digest (wsV RX4 145 RX4 yX4_nextBy wsX4_nextBy) := goodIn_app (goodIn_of _ (by decide +kernel)) ggX4_digest_X4_nextBy
set_option maxRecDepth 20000 in
theorem ggX4_digest_X4_totalBy : GoodIn wsX4_digest wsX4_totalBy := goodIn_r _ [109, 11, 12, 110, 111, 27, 28, 29, 9, 30, 3, 31, 124, 125, 126, 127, 128, 129, 130, 131, 132, 133, 134, 135, 136, 137, 138, 139, 140, 141, 142, 143, 144, 145, 146, 147, 148, 149, 150, 151, 152, 153] (by decide +kernel) (by decide +kernel)
set_option maxRecDepth 20000 in
theorem gX4_digest_X4_totalBy : GoodIn wsX4_digest (wsV RX4 203 RX4 yX4_totalBy wsX4_totalBy) := goodIn_app (goodIn_of _ (by decide +kernel)) ggX4_digest_X4_totalBy
set_option maxRecDepth 20000 in
theorem ggX4_digest_X4_looks : GoodIn wsX4_digest wsX4_looks := goodIn_r _ [115, 55, 56, 57, 9, 58, 25, 59, 60, 31, 61, 62, 63, 64, 54, 65, 66, 26, 67, 3, 39, 68, 69, 70, 71, 40, 37, 41, 42, 43, 44, 36, 38, 72, 73, 74, 75, 76, 77, 78, 79, 80, 81, 49, 82, 83, 84, 85, 86, 87, 88, 124, 125, 126, 127, 128, 129, 130, 131, 132, 133, 134, 135, 136, 137, 138, 139, 140, 141, 142, 143, 144, 145, 146, 147, 148, 149, 150, 151, 152, 153] (by decide +kernel) (by decide +kernel)
set_option maxRecDepth 20000 in
theorem gX4_digest_X4_looks : GoodIn wsX4_digest (wsV RX4 212 RX4 yX4_looks wsX4_looks) := goodIn_app (goodIn_of _ (by decide +kernel)) ggX4_digest_X4_looks
set_option maxRecDepth 20000 in
theorem ggX4_digest_X4_stepBy : GoodIn wsX4_digest wsX4_stepBy := goodIn_r _ [119, 26, 67, 124, 125, 126, 127, 128, 129, 130, 131, 132, 133, 134, 135, 136, 137, 138, 139, 140, 141, 142, 143, 144, 145, 146, 147, 148, 149, 150, 151, 152, 153] (by decide +kernel) (by decide +kernel)
set_option maxRecDepth 20000 in
theorem gX4_digest_X4_stepBy : GoodIn wsX4_digest (wsV RX4 215 RX4 yX4_stepBy wsX4_stepBy) := goodIn_app (goodIn_of _ (by decide +kernel)) ggX4_digest_X4_stepBy
set_option maxRecDepth 20000 in
theorem ggX4_digest_X4_aheadOf : GoodIn wsX4_digest wsX4_aheadOf := goodIn_r _ [53, 25, 54, 55, 56, 57, 9, 58, 59, 60, 31, 61, 62, 63, 64, 65, 66, 26, 67, 3, 39, 68, 69, 70, 71, 40, 37, 41, 42, 43, 44, 36, 38, 72, 73, 74, 75, 76, 77, 78, 79, 80, 81, 49, 82, 83, 84, 85, 86, 87, 88, 124, 125, 126, 127, 128, 129, 130, 131, 132, 133, 134, 135, 136, 137, 138, 139, 140, 141, 142, 143, 144, 145, 146, 147, 148, 149, 150, 151, 152, 153] (by decide +kernel) (by decide +kernel)
set_option maxRecDepth 20000 in
theorem gX4_digest_X4_aheadOf : GoodIn wsX4_digest (wsV RX4 220 RX4 yX4_aheadOf wsX4_aheadOf) := goodIn_app (goodIn_of _ (by decide +kernel)) ggX4_digest_X4_aheadOf
set_option maxRecDepth 20000 in
theorem ggX4_digest_X4_needlessBy : GoodIn wsX4_digest wsX4_needlessBy := goodIn_r _ [123, 49, 3, 40, 72, 73, 9, 74, 50, 51, 52, 53, 25, 54, 55, 56, 57, 58, 59, 60, 31, 61, 62, 63, 64, 65, 66, 26, 67, 39, 68, 69, 70, 71, 37, 41, 42, 43, 44, 36, 38, 75, 76, 77, 78, 79, 80, 81, 82, 83, 84, 85, 86, 87, 88, 124, 125, 126, 127, 128, 129, 130, 131, 132, 133, 134, 135, 136, 137, 138, 139, 140, 141, 142, 143, 144, 145, 146, 147, 148, 149, 150, 151, 152, 153] (by decide +kernel) (by decide +kernel)
set_option maxRecDepth 20000 in
theorem gX4_digest_X4_needlessBy : GoodIn wsX4_digest (wsV RX4 226 RX4 yX4_needlessBy wsX4_needlessBy) := goodIn_app (goodIn_of _ (by decide +kernel)) ggX4_digest_X4_needlessBy
theorem dX4_digest_0 : decode cX4_digest 0 = .ok (.ldc2_w 229, 3) := by decide +kernel
theorem dX4_digest_3 : decode cX4_digest 3 = .ok (.lstore_n 1, 1) := by decide +kernel
theorem dX4_digest_4 : decode cX4_digest 4 = .ok (.iconst 0, 1) := by decide +kernel
theorem dX4_digest_5 : decode cX4_digest 5 = .ok (.istore_n 3, 1) := by decide +kernel
theorem dX4_digest_6 : decode cX4_digest 6 = .ok (.iload_n 3, 1) := by decide +kernel
theorem dX4_digest_7 : decode cX4_digest 7 = .ok (.bipush 8, 2) := by decide +kernel
theorem dX4_digest_9 : decode cX4_digest 9 = .ok (.if_icmp .ge 22, 3) := by decide +kernel
theorem dX4_digest_12 : decode cX4_digest 12 = .ok (.ldc2_w 231, 3) := by decide +kernel
theorem dX4_digest_15 : decode cX4_digest 15 = .ok (.lload_n 1, 1) := by decide +kernel
theorem dX4_digest_16 : decode cX4_digest 16 = .ok (.lmul, 1) := by decide +kernel
theorem dX4_digest_17 : decode cX4_digest 17 = .ok (.aload_n 0, 1) := by decide +kernel
theorem dX4_digest_18 : decode cX4_digest 18 = .ok (.iload_n 3, 1) := by decide +kernel
theorem dX4_digest_19 : decode cX4_digest 19 = .ok (.invokevirtual 233, 3) := by decide +kernel
theorem dX4_digest_22 : decode cX4_digest 22 = .ok (.i2l, 1) := by decide +kernel
theorem dX4_digest_23 : decode cX4_digest 23 = .ok (.ladd, 1) := by decide +kernel
theorem dX4_digest_24 : decode cX4_digest 24 = .ok (.lstore_n 1, 1) := by decide +kernel
theorem dX4_digest_25 : decode cX4_digest 25 = .ok (.iinc 3 1, 3) := by decide +kernel
theorem dX4_digest_28 : decode cX4_digest 28 = .ok (.goto (-22), 3) := by decide +kernel
theorem dX4_digest_31 : decode cX4_digest 31 = .ok (.iconst 0, 1) := by decide +kernel
theorem dX4_digest_32 : decode cX4_digest 32 = .ok (.istore_n 3, 1) := by decide +kernel
theorem dX4_digest_33 : decode cX4_digest 33 = .ok (.iload_n 3, 1) := by decide +kernel
theorem dX4_digest_34 : decode cX4_digest 34 = .ok (.aload_n 0, 1) := by decide +kernel
theorem dX4_digest_35 : decode cX4_digest 35 = .ok (.getfield 96, 3) := by decide +kernel
theorem dX4_digest_38 : decode cX4_digest 38 = .ok (.if_icmp .ge 68, 3) := by decide +kernel
theorem dX4_digest_41 : decode cX4_digest 41 = .ok (.iconst 0, 1) := by decide +kernel
theorem dX4_digest_42 : decode cX4_digest 42 = .ok (.istore 4, 2) := by decide +kernel
theorem dX4_digest_44 : decode cX4_digest 44 = .ok (.iload 4, 2) := by decide +kernel
theorem dX4_digest_46 : decode cX4_digest 46 = .ok (.bipush 7, 2) := by decide +kernel
theorem dX4_digest_48 : decode cX4_digest 48 = .ok (.if_icmp .ge 24, 3) := by decide +kernel
theorem dX4_digest_51 : decode cX4_digest 51 = .ok (.ldc2_w 231, 3) := by decide +kernel
theorem dX4_digest_54 : decode cX4_digest 54 = .ok (.lload_n 1, 1) := by decide +kernel
theorem dX4_digest_55 : decode cX4_digest 55 = .ok (.lmul, 1) := by decide +kernel
theorem dX4_digest_56 : decode cX4_digest 56 = .ok (.aload_n 0, 1) := by decide +kernel
theorem dX4_digest_57 : decode cX4_digest 57 = .ok (.iload_n 3, 1) := by decide +kernel
theorem dX4_digest_58 : decode cX4_digest 58 = .ok (.iload 4, 2) := by decide +kernel
theorem dX4_digest_60 : decode cX4_digest 60 = .ok (.invokevirtual 113, 3) := by decide +kernel
theorem dX4_digest_63 : decode cX4_digest 63 = .ok (.i2l, 1) := by decide +kernel
theorem dX4_digest_64 : decode cX4_digest 64 = .ok (.ladd, 1) := by decide +kernel
theorem dX4_digest_65 : decode cX4_digest 65 = .ok (.lstore_n 1, 1) := by decide +kernel
theorem dX4_digest_66 : decode cX4_digest 66 = .ok (.iinc 4 1, 3) := by decide +kernel
theorem dX4_digest_69 : decode cX4_digest 69 = .ok (.goto (-25), 3) := by decide +kernel
theorem dX4_digest_72 : decode cX4_digest 72 = .ok (.ldc2_w 231, 3) := by decide +kernel
theorem dX4_digest_75 : decode cX4_digest 75 = .ok (.lload_n 1, 1) := by decide +kernel
theorem dX4_digest_76 : decode cX4_digest 76 = .ok (.lmul, 1) := by decide +kernel
theorem dX4_digest_77 : decode cX4_digest 77 = .ok (.aload_n 0, 1) := by decide +kernel
theorem dX4_digest_78 : decode cX4_digest 78 = .ok (.iload_n 3, 1) := by decide +kernel
theorem dX4_digest_79 : decode cX4_digest 79 = .ok (.iconst 0, 1) := by decide +kernel
theorem dX4_digest_80 : decode cX4_digest 80 = .ok (.invokevirtual 223, 3) := by decide +kernel
theorem dX4_digest_83 : decode cX4_digest 83 = .ok (.i2l, 1) := by decide +kernel
theorem dX4_digest_84 : decode cX4_digest 84 = .ok (.ladd, 1) := by decide +kernel
theorem dX4_digest_85 : decode cX4_digest 85 = .ok (.lstore_n 1, 1) := by decide +kernel
theorem dX4_digest_86 : decode cX4_digest 86 = .ok (.ldc2_w 231, 3) := by decide +kernel
theorem dX4_digest_89 : decode cX4_digest 89 = .ok (.lload_n 1, 1) := by decide +kernel
theorem dX4_digest_90 : decode cX4_digest 90 = .ok (.lmul, 1) := by decide +kernel
theorem dX4_digest_91 : decode cX4_digest 91 = .ok (.aload_n 0, 1) := by decide +kernel
theorem dX4_digest_92 : decode cX4_digest 92 = .ok (.iload_n 3, 1) := by decide +kernel
theorem dX4_digest_93 : decode cX4_digest 93 = .ok (.iconst 1, 1) := by decide +kernel
theorem dX4_digest_94 : decode cX4_digest 94 = .ok (.invokevirtual 223, 3) := by decide +kernel
theorem dX4_digest_97 : decode cX4_digest 97 = .ok (.i2l, 1) := by decide +kernel
theorem dX4_digest_98 : decode cX4_digest 98 = .ok (.ladd, 1) := by decide +kernel
theorem dX4_digest_99 : decode cX4_digest 99 = .ok (.lstore_n 1, 1) := by decide +kernel
theorem dX4_digest_100 : decode cX4_digest 100 = .ok (.iinc 3 1, 3) := by decide +kernel
theorem dX4_digest_103 : decode cX4_digest 103 = .ok (.goto (-70), 3) := by decide +kernel
theorem dX4_digest_106 : decode cX4_digest 106 = .ok (.iconst 0, 1) := by decide +kernel
theorem dX4_digest_107 : decode cX4_digest 107 = .ok (.istore_n 3, 1) := by decide +kernel
theorem dX4_digest_108 : decode cX4_digest 108 = .ok (.iload_n 3, 1) := by decide +kernel
theorem dX4_digest_109 : decode cX4_digest 109 = .ok (.iconst 3, 1) := by decide +kernel
theorem dX4_digest_110 : decode cX4_digest 110 = .ok (.if_icmp .ge 22, 3) := by decide +kernel
theorem dX4_digest_113 : decode cX4_digest 113 = .ok (.ldc2_w 231, 3) := by decide +kernel
theorem dX4_digest_116 : decode cX4_digest 116 = .ok (.lload_n 1, 1) := by decide +kernel
theorem dX4_digest_117 : decode cX4_digest 117 = .ok (.lmul, 1) := by decide +kernel
theorem dX4_digest_118 : decode cX4_digest 118 = .ok (.aload_n 0, 1) := by decide +kernel
theorem dX4_digest_119 : decode cX4_digest 119 = .ok (.iload_n 3, 1) := by decide +kernel
theorem dX4_digest_120 : decode cX4_digest 120 = .ok (.invokevirtual 116, 3) := by decide +kernel
theorem dX4_digest_123 : decode cX4_digest 123 = .ok (.i2l, 1) := by decide +kernel
theorem dX4_digest_124 : decode cX4_digest 124 = .ok (.ladd, 1) := by decide +kernel
theorem dX4_digest_125 : decode cX4_digest 125 = .ok (.lstore_n 1, 1) := by decide +kernel
theorem dX4_digest_126 : decode cX4_digest 126 = .ok (.iinc 3 1, 3) := by decide +kernel
theorem dX4_digest_129 : decode cX4_digest 129 = .ok (.goto (-21), 3) := by decide +kernel
theorem dX4_digest_132 : decode cX4_digest 132 = .ok (.iconst 0, 1) := by decide +kernel
theorem dX4_digest_133 : decode cX4_digest 133 = .ok (.istore_n 3, 1) := by decide +kernel
theorem dX4_digest_134 : decode cX4_digest 134 = .ok (.iload_n 3, 1) := by decide +kernel
theorem dX4_digest_135 : decode cX4_digest 135 = .ok (.iconst 2, 1) := by decide +kernel
theorem dX4_digest_136 : decode cX4_digest 136 = .ok (.if_icmp .ge 51, 3) := by decide +kernel
theorem dX4_digest_139 : decode cX4_digest 139 = .ok (.ldc2_w 231, 3) := by decide +kernel
theorem dX4_digest_142 : decode cX4_digest 142 = .ok (.lload_n 1, 1) := by decide +kernel
theorem dX4_digest_143 : decode cX4_digest 143 = .ok (.lmul, 1) := by decide +kernel
theorem dX4_digest_144 : decode cX4_digest 144 = .ok (.aload_n 0, 1) := by decide +kernel
theorem dX4_digest_145 : decode cX4_digest 145 = .ok (.iload_n 3, 1) := by decide +kernel
theorem dX4_digest_146 : decode cX4_digest 146 = .ok (.iconst (-1), 1) := by decide +kernel
theorem dX4_digest_147 : decode cX4_digest 147 = .ok (.invokevirtual 132, 3) := by decide +kernel
theorem dX4_digest_150 : decode cX4_digest 150 = .ok (.i2l, 1) := by decide +kernel
theorem dX4_digest_151 : decode cX4_digest 151 = .ok (.ladd, 1) := by decide +kernel
theorem dX4_digest_152 : decode cX4_digest 152 = .ok (.lstore_n 1, 1) := by decide +kernel
theorem dX4_digest_153 : decode cX4_digest 153 = .ok (.ldc2_w 231, 3) := by decide +kernel
theorem dX4_digest_156 : decode cX4_digest 156 = .ok (.lload_n 1, 1) := by decide +kernel
theorem dX4_digest_157 : decode cX4_digest 157 = .ok (.lmul, 1) := by decide +kernel
theorem dX4_digest_158 : decode cX4_digest 158 = .ok (.aload_n 0, 1) := by decide +kernel
theorem dX4_digest_159 : decode cX4_digest 159 = .ok (.iload_n 3, 1) := by decide +kernel
theorem dX4_digest_160 : decode cX4_digest 160 = .ok (.iconst 0, 1) := by decide +kernel
theorem dX4_digest_161 : decode cX4_digest 161 = .ok (.invokevirtual 132, 3) := by decide +kernel
theorem dX4_digest_164 : decode cX4_digest 164 = .ok (.i2l, 1) := by decide +kernel
theorem dX4_digest_165 : decode cX4_digest 165 = .ok (.ladd, 1) := by decide +kernel
theorem dX4_digest_166 : decode cX4_digest 166 = .ok (.lstore_n 1, 1) := by decide +kernel
theorem dX4_digest_167 : decode cX4_digest 167 = .ok (.ldc2_w 231, 3) := by decide +kernel
theorem dX4_digest_170 : decode cX4_digest 170 = .ok (.lload_n 1, 1) := by decide +kernel
theorem dX4_digest_171 : decode cX4_digest 171 = .ok (.lmul, 1) := by decide +kernel
theorem dX4_digest_172 : decode cX4_digest 172 = .ok (.aload_n 0, 1) := by decide +kernel
theorem dX4_digest_173 : decode cX4_digest 173 = .ok (.iload_n 3, 1) := by decide +kernel
theorem dX4_digest_174 : decode cX4_digest 174 = .ok (.iconst 3, 1) := by decide +kernel
theorem dX4_digest_175 : decode cX4_digest 175 = .ok (.invokevirtual 132, 3) := by decide +kernel
theorem dX4_digest_178 : decode cX4_digest 178 = .ok (.i2l, 1) := by decide +kernel
theorem dX4_digest_179 : decode cX4_digest 179 = .ok (.ladd, 1) := by decide +kernel
theorem dX4_digest_180 : decode cX4_digest 180 = .ok (.lstore_n 1, 1) := by decide +kernel
theorem dX4_digest_181 : decode cX4_digest 181 = .ok (.iinc 3 1, 3) := by decide +kernel
theorem dX4_digest_184 : decode cX4_digest 184 = .ok (.goto (-50), 3) := by decide +kernel
theorem dX4_digest_187 : decode cX4_digest 187 = .ok (.iconst 0, 1) := by decide +kernel
theorem dX4_digest_188 : decode cX4_digest 188 = .ok (.istore_n 3, 1) := by decide +kernel
theorem dX4_digest_189 : decode cX4_digest 189 = .ok (.iload_n 3, 1) := by decide +kernel
theorem dX4_digest_190 : decode cX4_digest 190 = .ok (.iconst 2, 1) := by decide +kernel
theorem dX4_digest_191 : decode cX4_digest 191 = .ok (.if_icmp .ge 22, 3) := by decide +kernel
theorem dX4_digest_194 : decode cX4_digest 194 = .ok (.ldc2_w 231, 3) := by decide +kernel
theorem dX4_digest_197 : decode cX4_digest 197 = .ok (.lload_n 1, 1) := by decide +kernel
theorem dX4_digest_198 : decode cX4_digest 198 = .ok (.lmul, 1) := by decide +kernel
theorem dX4_digest_199 : decode cX4_digest 199 = .ok (.aload_n 0, 1) := by decide +kernel
theorem dX4_digest_200 : decode cX4_digest 200 = .ok (.iload_n 3, 1) := by decide +kernel
theorem dX4_digest_201 : decode cX4_digest 201 = .ok (.invokevirtual 145, 3) := by decide +kernel
theorem dX4_digest_204 : decode cX4_digest 204 = .ok (.i2l, 1) := by decide +kernel
theorem dX4_digest_205 : decode cX4_digest 205 = .ok (.ladd, 1) := by decide +kernel
theorem dX4_digest_206 : decode cX4_digest 206 = .ok (.lstore_n 1, 1) := by decide +kernel
theorem dX4_digest_207 : decode cX4_digest 207 = .ok (.iinc 3 1, 3) := by decide +kernel
theorem dX4_digest_210 : decode cX4_digest 210 = .ok (.goto (-21), 3) := by decide +kernel
theorem dX4_digest_213 : decode cX4_digest 213 = .ok (.iconst 0, 1) := by decide +kernel
theorem dX4_digest_214 : decode cX4_digest 214 = .ok (.istore_n 3, 1) := by decide +kernel
theorem dX4_digest_215 : decode cX4_digest 215 = .ok (.iload_n 3, 1) := by decide +kernel
theorem dX4_digest_216 : decode cX4_digest 216 = .ok (.bipush 9, 2) := by decide +kernel
theorem dX4_digest_218 : decode cX4_digest 218 = .ok (.aload_n 0, 1) := by decide +kernel
theorem dX4_digest_219 : decode cX4_digest 219 = .ok (.getfield 174, 3) := by decide +kernel
theorem dX4_digest_222 : decode cX4_digest 222 = .ok (.imul, 1) := by decide +kernel
theorem dX4_digest_223 : decode cX4_digest 223 = .ok (.if_icmp .ge 23, 3) := by decide +kernel
theorem dX4_digest_226 : decode cX4_digest 226 = .ok (.ldc2_w 231, 3) := by decide +kernel
theorem dX4_digest_229 : decode cX4_digest 229 = .ok (.lload_n 1, 1) := by decide +kernel
theorem dX4_digest_230 : decode cX4_digest 230 = .ok (.lmul, 1) := by decide +kernel
theorem dX4_digest_231 : decode cX4_digest 231 = .ok (.aload_n 0, 1) := by decide +kernel
theorem dX4_digest_232 : decode cX4_digest 232 = .ok (.getfield 53, 3) := by decide +kernel
theorem dX4_digest_235 : decode cX4_digest 235 = .ok (.iload_n 3, 1) := by decide +kernel
theorem dX4_digest_236 : decode cX4_digest 236 = .ok (.iaload, 1) := by decide +kernel
theorem dX4_digest_237 : decode cX4_digest 237 = .ok (.i2l, 1) := by decide +kernel
theorem dX4_digest_238 : decode cX4_digest 238 = .ok (.ladd, 1) := by decide +kernel
theorem dX4_digest_239 : decode cX4_digest 239 = .ok (.lstore_n 1, 1) := by decide +kernel
theorem dX4_digest_240 : decode cX4_digest 240 = .ok (.iinc 3 1, 3) := by decide +kernel
theorem dX4_digest_243 : decode cX4_digest 243 = .ok (.goto (-28), 3) := by decide +kernel
theorem dX4_digest_246 : decode cX4_digest 246 = .ok (.iconst 0, 1) := by decide +kernel
theorem dX4_digest_247 : decode cX4_digest 247 = .ok (.istore_n 3, 1) := by decide +kernel
theorem dX4_digest_248 : decode cX4_digest 248 = .ok (.iload_n 3, 1) := by decide +kernel
theorem dX4_digest_249 : decode cX4_digest 249 = .ok (.iconst 5, 1) := by decide +kernel
theorem dX4_digest_250 : decode cX4_digest 250 = .ok (.if_icmp .ge 22, 3) := by decide +kernel
theorem dX4_digest_253 : decode cX4_digest 253 = .ok (.ldc2_w 231, 3) := by decide +kernel
theorem dX4_digest_256 : decode cX4_digest 256 = .ok (.lload_n 1, 1) := by decide +kernel
theorem dX4_digest_257 : decode cX4_digest 257 = .ok (.lmul, 1) := by decide +kernel
theorem dX4_digest_258 : decode cX4_digest 258 = .ok (.aload_n 0, 1) := by decide +kernel
theorem dX4_digest_259 : decode cX4_digest 259 = .ok (.iload_n 3, 1) := by decide +kernel
theorem dX4_digest_260 : decode cX4_digest 260 = .ok (.invokevirtual 203, 3) := by decide +kernel
theorem dX4_digest_263 : decode cX4_digest 263 = .ok (.i2l, 1) := by decide +kernel
theorem dX4_digest_264 : decode cX4_digest 264 = .ok (.ladd, 1) := by decide +kernel
theorem dX4_digest_265 : decode cX4_digest 265 = .ok (.lstore_n 1, 1) := by decide +kernel
theorem dX4_digest_266 : decode cX4_digest 266 = .ok (.iinc 3 1, 3) := by decide +kernel
theorem dX4_digest_269 : decode cX4_digest 269 = .ok (.goto (-21), 3) := by decide +kernel
theorem dX4_digest_272 : decode cX4_digest 272 = .ok (.aload_n 0, 1) := by decide +kernel
theorem dX4_digest_273 : decode cX4_digest 273 = .ok (.invokevirtual 212, 3) := by decide +kernel
theorem dX4_digest_276 : decode cX4_digest 276 = .ok (.iconst (-1), 1) := by decide +kernel
theorem dX4_digest_277 : decode cX4_digest 277 = .ok (.istore_n 3, 1) := by decide +kernel
theorem dX4_digest_278 : decode cX4_digest 278 = .ok (.iload_n 3, 1) := by decide +kernel
theorem dX4_digest_279 : decode cX4_digest 279 = .ok (.bipush 41, 2) := by decide +kernel
theorem dX4_digest_281 : decode cX4_digest 281 = .ok (.if_icmp .ge 22, 3) := by decide +kernel
theorem dX4_digest_284 : decode cX4_digest 284 = .ok (.ldc2_w 231, 3) := by decide +kernel
theorem dX4_digest_287 : decode cX4_digest 287 = .ok (.lload_n 1, 1) := by decide +kernel
theorem dX4_digest_288 : decode cX4_digest 288 = .ok (.lmul, 1) := by decide +kernel
theorem dX4_digest_289 : decode cX4_digest 289 = .ok (.aload_n 0, 1) := by decide +kernel
theorem dX4_digest_290 : decode cX4_digest 290 = .ok (.iload_n 3, 1) := by decide +kernel
theorem dX4_digest_291 : decode cX4_digest 291 = .ok (.invokevirtual 215, 3) := by decide +kernel
theorem dX4_digest_294 : decode cX4_digest 294 = .ok (.i2l, 1) := by decide +kernel
theorem dX4_digest_295 : decode cX4_digest 295 = .ok (.ladd, 1) := by decide +kernel
theorem dX4_digest_296 : decode cX4_digest 296 = .ok (.lstore_n 1, 1) := by decide +kernel
theorem dX4_digest_297 : decode cX4_digest 297 = .ok (.iinc 3 1, 3) := by decide +kernel
theorem dX4_digest_300 : decode cX4_digest 300 = .ok (.goto (-22), 3) := by decide +kernel
theorem dX4_digest_303 : decode cX4_digest 303 = .ok (.ldc2_w 231, 3) := by decide +kernel
theorem dX4_digest_306 : decode cX4_digest 306 = .ok (.lload_n 1, 1) := by decide +kernel
theorem dX4_digest_307 : decode cX4_digest 307 = .ok (.lmul, 1) := by decide +kernel
theorem dX4_digest_308 : decode cX4_digest 308 = .ok (.aload_n 0, 1) := by decide +kernel
theorem dX4_digest_309 : decode cX4_digest 309 = .ok (.iconst 1, 1) := by decide +kernel
theorem dX4_digest_310 : decode cX4_digest 310 = .ok (.invokevirtual 220, 3) := by decide +kernel
theorem dX4_digest_313 : decode cX4_digest 313 = .ok (.i2l, 1) := by decide +kernel
theorem dX4_digest_314 : decode cX4_digest 314 = .ok (.ladd, 1) := by decide +kernel
theorem dX4_digest_315 : decode cX4_digest 315 = .ok (.lstore_n 1, 1) := by decide +kernel
theorem dX4_digest_316 : decode cX4_digest 316 = .ok (.ldc2_w 231, 3) := by decide +kernel
theorem dX4_digest_319 : decode cX4_digest 319 = .ok (.lload_n 1, 1) := by decide +kernel
theorem dX4_digest_320 : decode cX4_digest 320 = .ok (.lmul, 1) := by decide +kernel
theorem dX4_digest_321 : decode cX4_digest 321 = .ok (.aload_n 0, 1) := by decide +kernel
theorem dX4_digest_322 : decode cX4_digest 322 = .ok (.iconst 2, 1) := by decide +kernel
theorem dX4_digest_323 : decode cX4_digest 323 = .ok (.invokevirtual 220, 3) := by decide +kernel
theorem dX4_digest_326 : decode cX4_digest 326 = .ok (.i2l, 1) := by decide +kernel
theorem dX4_digest_327 : decode cX4_digest 327 = .ok (.ladd, 1) := by decide +kernel
theorem dX4_digest_328 : decode cX4_digest 328 = .ok (.lstore_n 1, 1) := by decide +kernel
theorem dX4_digest_329 : decode cX4_digest 329 = .ok (.ldc2_w 231, 3) := by decide +kernel
theorem dX4_digest_332 : decode cX4_digest 332 = .ok (.lload_n 1, 1) := by decide +kernel
theorem dX4_digest_333 : decode cX4_digest 333 = .ok (.lmul, 1) := by decide +kernel
theorem dX4_digest_334 : decode cX4_digest 334 = .ok (.aload_n 0, 1) := by decide +kernel
theorem dX4_digest_335 : decode cX4_digest 335 = .ok (.bipush 10, 2) := by decide +kernel
theorem dX4_digest_337 : decode cX4_digest 337 = .ok (.invokevirtual 220, 3) := by decide +kernel
theorem dX4_digest_340 : decode cX4_digest 340 = .ok (.i2l, 1) := by decide +kernel
theorem dX4_digest_341 : decode cX4_digest 341 = .ok (.ladd, 1) := by decide +kernel
theorem dX4_digest_342 : decode cX4_digest 342 = .ok (.lstore_n 1, 1) := by decide +kernel
theorem dX4_digest_343 : decode cX4_digest 343 = .ok (.iconst 0, 1) := by decide +kernel
theorem dX4_digest_344 : decode cX4_digest 344 = .ok (.istore_n 3, 1) := by decide +kernel
theorem dX4_digest_345 : decode cX4_digest 345 = .ok (.iload_n 3, 1) := by decide +kernel
theorem dX4_digest_346 : decode cX4_digest 346 = .ok (.iconst 2, 1) := by decide +kernel
theorem dX4_digest_347 : decode cX4_digest 347 = .ok (.if_icmp .ge 22, 3) := by decide +kernel
theorem dX4_digest_350 : decode cX4_digest 350 = .ok (.ldc2_w 231, 3) := by decide +kernel
theorem dX4_digest_353 : decode cX4_digest 353 = .ok (.lload_n 1, 1) := by decide +kernel
theorem dX4_digest_354 : decode cX4_digest 354 = .ok (.lmul, 1) := by decide +kernel
theorem dX4_digest_355 : decode cX4_digest 355 = .ok (.aload_n 0, 1) := by decide +kernel
theorem dX4_digest_356 : decode cX4_digest 356 = .ok (.iload_n 3, 1) := by decide +kernel
theorem dX4_digest_357 : decode cX4_digest 357 = .ok (.invokevirtual 226, 3) := by decide +kernel
theorem dX4_digest_360 : decode cX4_digest 360 = .ok (.i2l, 1) := by decide +kernel
theorem dX4_digest_361 : decode cX4_digest 361 = .ok (.ladd, 1) := by decide +kernel
theorem dX4_digest_362 : decode cX4_digest 362 = .ok (.lstore_n 1, 1) := by decide +kernel
theorem dX4_digest_363 : decode cX4_digest 363 = .ok (.iinc 3 1, 3) := by decide +kernel
theorem dX4_digest_366 : decode cX4_digest 366 = .ok (.goto (-21), 3) := by decide +kernel
theorem dX4_digest_369 : decode cX4_digest 369 = .ok (.lload_n 1, 1) := by decide +kernel
theorem dX4_digest_370 : decode cX4_digest 370 = .ok (.lreturn, 1) := by decide +kernel
theorem dJ9_min_7cf53_0 : decode cJ9_min_7cf53 0 = .ok (.iload_n 0, 1) := by decide +kernel
theorem dJ9_min_7cf53_1 : decode cJ9_min_7cf53 1 = .ok (.iload_n 1, 1) := by decide +kernel
theorem dJ9_min_7cf53_2 : decode cJ9_min_7cf53 2 = .ok (.if_icmp .gt 7, 3) := by decide +kernel
theorem dJ9_min_7cf53_5 : decode cJ9_min_7cf53 5 = .ok (.iload_n 0, 1) := by decide +kernel
theorem dJ9_min_7cf53_6 : decode cJ9_min_7cf53 6 = .ok (.goto 4, 3) := by decide +kernel
theorem dJ9_min_7cf53_9 : decode cJ9_min_7cf53 9 = .ok (.iload_n 1, 1) := by decide +kernel
theorem dJ9_min_7cf53_10 : decode cJ9_min_7cf53 10 = .ok (.ireturn, 1) := by decide +kernel
theorem dJ7_fill_53178_0 : decode cJ7_fill_53178 0 = .ok (.iconst 0, 1) := by decide +kernel
theorem dJ7_fill_53178_1 : decode cJ7_fill_53178 1 = .ok (.istore_n 2, 1) := by decide +kernel
theorem dJ7_fill_53178_2 : decode cJ7_fill_53178 2 = .ok (.aload_n 0, 1) := by decide +kernel
theorem dJ7_fill_53178_3 : decode cJ7_fill_53178 3 = .ok (.arraylength, 1) := by decide +kernel
theorem dJ7_fill_53178_4 : decode cJ7_fill_53178 4 = .ok (.istore_n 3, 1) := by decide +kernel
theorem dJ7_fill_53178_5 : decode cJ7_fill_53178 5 = .ok (.iload_n 2, 1) := by decide +kernel
theorem dJ7_fill_53178_6 : decode cJ7_fill_53178 6 = .ok (.iload_n 3, 1) := by decide +kernel
theorem dJ7_fill_53178_7 : decode cJ7_fill_53178 7 = .ok (.if_icmp .ge 13, 3) := by decide +kernel
theorem dJ7_fill_53178_10 : decode cJ7_fill_53178 10 = .ok (.aload_n 0, 1) := by decide +kernel
theorem dJ7_fill_53178_11 : decode cJ7_fill_53178 11 = .ok (.iload_n 2, 1) := by decide +kernel
theorem dJ7_fill_53178_12 : decode cJ7_fill_53178 12 = .ok (.iload_n 1, 1) := by decide +kernel
theorem dJ7_fill_53178_13 : decode cJ7_fill_53178 13 = .ok (.iastore, 1) := by decide +kernel
theorem dJ7_fill_53178_14 : decode cJ7_fill_53178 14 = .ok (.iinc 2 1, 3) := by decide +kernel
theorem dJ7_fill_53178_17 : decode cJ7_fill_53178 17 = .ok (.goto (-12), 3) := by decide +kernel
theorem dJ7_fill_53178_20 : decode cJ7_fill_53178 20 = .ok (.return_, 1) := by decide +kernel
end
section
theorem zz_end : True := trivial
end
