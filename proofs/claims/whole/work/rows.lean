section
-- ===== PART A: goes FIRST, ahead of the names: the tables' words, and 'selects' of the private methods out of them =====
/-- a private method of a class that the tables say can be made, by its rows of tables_1 -/
def lw_okq (q : MethodName × Nat) : Prop := (q.1.cls ≠ "java/lang/invoke/MethodHandle" ∧ q.1.cls ≠ "java/lang/invoke/VarHandle") ∧ Cond.instantiable q.1.cls q.2 ∈ tables_1 ∧ Cond.privateMethod q.1 ∈ tables_1 ∧ Cond.instanceMethod q.1 ∈ tables_1
theorem lw_p0 : lw_okq (⟨"BlockStore", "refusal", "()I"⟩, 8) := ⟨⟨by decide +kernel, by decide +kernel⟩, List.mem_of_getElem? (i := 11) (by decide +kernel), List.mem_of_getElem? (i := 152) (by decide +kernel), List.mem_of_getElem? (i := 153) (by decide +kernel)⟩
theorem lw_p1 : lw_okq (⟨"BlockStore$Disk", "sumOf", "(I)I"⟩, 6) := ⟨⟨by decide +kernel, by decide +kernel⟩, List.mem_of_getElem? (i := 19) (by decide +kernel), List.mem_of_getElem? (i := 175) (by decide +kernel), List.mem_of_getElem? (i := 176) (by decide +kernel)⟩
theorem lw_p2 : lw_okq (⟨"BlockStore", "fail", "()I"⟩, 8) := ⟨⟨by decide +kernel, by decide +kernel⟩, List.mem_of_getElem? (i := 11) (by decide +kernel), List.mem_of_getElem? (i := 180) (by decide +kernel), List.mem_of_getElem? (i := 181) (by decide +kernel)⟩
theorem lw_p3 : lw_okq (⟨"BlockStore", "writeHead", "(IIIII)Z"⟩, 8) := ⟨⟨by decide +kernel, by decide +kernel⟩, List.mem_of_getElem? (i := 11) (by decide +kernel), List.mem_of_getElem? (i := 184) (by decide +kernel), List.mem_of_getElem? (i := 185) (by decide +kernel)⟩
theorem lw_p4 : lw_okq (⟨"BlockStore", "comeUp", "()V"⟩, 8) := ⟨⟨by decide +kernel, by decide +kernel⟩, List.mem_of_getElem? (i := 11) (by decide +kernel), List.mem_of_getElem? (i := 194) (by decide +kernel), List.mem_of_getElem? (i := 195) (by decide +kernel)⟩
theorem lw_p5 : lw_okq (⟨"BlockStore", "endTransaction", "()V"⟩, 8) := ⟨⟨by decide +kernel, by decide +kernel⟩, List.mem_of_getElem? (i := 11) (by decide +kernel), List.mem_of_getElem? (i := 198) (by decide +kernel), List.mem_of_getElem? (i := 199) (by decide +kernel)⟩
theorem lw_p6 : lw_okq (⟨"BlockStore$Tree", "startOf", "(I)I"⟩, 3) := ⟨⟨by decide +kernel, by decide +kernel⟩, List.mem_of_getElem? (i := 65) (by decide +kernel), List.mem_of_getElem? (i := 232) (by decide +kernel), List.mem_of_getElem? (i := 233) (by decide +kernel)⟩
theorem lw_p7 : lw_okq (⟨"BlockStore$Tree", "fan", "()I"⟩, 3) := ⟨⟨by decide +kernel, by decide +kernel⟩, List.mem_of_getElem? (i := 65) (by decide +kernel), List.mem_of_getElem? (i := 236) (by decide +kernel), List.mem_of_getElem? (i := 237) (by decide +kernel)⟩
theorem lw_p8 : lw_okq (⟨"BlockStore$KeyMap", "isAt", "(II)Z"⟩, 3) := ⟨⟨by decide +kernel, by decide +kernel⟩, List.mem_of_getElem? (i := 81) (by decide +kernel), List.mem_of_getElem? (i := 253) (by decide +kernel), List.mem_of_getElem? (i := 254) (by decide +kernel)⟩
theorem lw_p9 : lw_okq (⟨"BlockStore$Journal", "wholeParts", "(III)I"⟩, 4) := ⟨⟨by decide +kernel, by decide +kernel⟩, List.mem_of_getElem? (i := 46) (by decide +kernel), List.mem_of_getElem? (i := 261) (by decide +kernel), List.mem_of_getElem? (i := 262) (by decide +kernel)⟩
theorem lw_p10 : lw_okq (⟨"BlockStore$Journal", "isPart", "(IIIII)Z"⟩, 4) := ⟨⟨by decide +kernel, by decide +kernel⟩, List.mem_of_getElem? (i := 46) (by decide +kernel), List.mem_of_getElem? (i := 266) (by decide +kernel), List.mem_of_getElem? (i := 267) (by decide +kernel)⟩
theorem lw_p11 : lw_okq (⟨"BlockStore$Journal", "partInts", "()I"⟩, 4) := ⟨⟨by decide +kernel, by decide +kernel⟩, List.mem_of_getElem? (i := 46) (by decide +kernel), List.mem_of_getElem? (i := 271) (by decide +kernel), List.mem_of_getElem? (i := 272) (by decide +kernel)⟩
theorem lw_p12 : lw_okq (⟨"BlockStore$Journal", "blocksFor", "(I)I"⟩, 4) := ⟨⟨by decide +kernel, by decide +kernel⟩, List.mem_of_getElem? (i := 46) (by decide +kernel), List.mem_of_getElem? (i := 276) (by decide +kernel), List.mem_of_getElem? (i := 277) (by decide +kernel)⟩
theorem lw_p13 : lw_okq (⟨"BlockStore$Journal", "redo", "(LBlockStore$KeyMap;I)V"⟩, 4) := ⟨⟨by decide +kernel, by decide +kernel⟩, List.mem_of_getElem? (i := 46) (by decide +kernel), List.mem_of_getElem? (i := 283) (by decide +kernel), List.mem_of_getElem? (i := 284) (by decide +kernel)⟩
theorem lw_p14 : lw_okq (⟨"BlockStore$Journal", "storedInt", "(II)I"⟩, 4) := ⟨⟨by decide +kernel, by decide +kernel⟩, List.mem_of_getElem? (i := 46) (by decide +kernel), List.mem_of_getElem? (i := 287) (by decide +kernel), List.mem_of_getElem? (i := 288) (by decide +kernel)⟩
theorem lw_p15 : lw_okq (⟨"BlockStore", "hasRoomForChange", "(I)Z"⟩, 8) := ⟨⟨by decide +kernel, by decide +kernel⟩, List.mem_of_getElem? (i := 11) (by decide +kernel), List.mem_of_getElem? (i := 304) (by decide +kernel), List.mem_of_getElem? (i := 305) (by decide +kernel)⟩
def lw_privs_1 : List (MethodName × Nat) := [(⟨"BlockStore", "refusal", "()I"⟩, 8), (⟨"BlockStore$Disk", "sumOf", "(I)I"⟩, 6), (⟨"BlockStore", "fail", "()I"⟩, 8), (⟨"BlockStore", "writeHead", "(IIIII)Z"⟩, 8), (⟨"BlockStore", "comeUp", "()V"⟩, 8), (⟨"BlockStore", "endTransaction", "()V"⟩, 8), (⟨"BlockStore$Tree", "startOf", "(I)I"⟩, 3), (⟨"BlockStore$Tree", "fan", "()I"⟩, 3), (⟨"BlockStore$KeyMap", "isAt", "(II)Z"⟩, 3), (⟨"BlockStore$Journal", "wholeParts", "(III)I"⟩, 4), (⟨"BlockStore$Journal", "isPart", "(IIIII)Z"⟩, 4), (⟨"BlockStore$Journal", "partInts", "()I"⟩, 4), (⟨"BlockStore$Journal", "blocksFor", "(I)I"⟩, 4), (⟨"BlockStore$Journal", "redo", "(LBlockStore$KeyMap;I)V"⟩, 4), (⟨"BlockStore$Journal", "storedInt", "(II)I"⟩, 4), (⟨"BlockStore", "hasRoomForChange", "(I)Z"⟩, 8)]
theorem lw_r1 : ∀ q ∈ lw_privs_1, lw_okq q := List.forall_mem_cons.mpr ⟨lw_p0, List.forall_mem_cons.mpr ⟨lw_p1, List.forall_mem_cons.mpr ⟨lw_p2, List.forall_mem_cons.mpr ⟨lw_p3, List.forall_mem_cons.mpr ⟨lw_p4, List.forall_mem_cons.mpr ⟨lw_p5, List.forall_mem_cons.mpr ⟨lw_p6, List.forall_mem_cons.mpr ⟨lw_p7, List.forall_mem_cons.mpr ⟨lw_p8, List.forall_mem_cons.mpr ⟨lw_p9, List.forall_mem_cons.mpr ⟨lw_p10, List.forall_mem_cons.mpr ⟨lw_p11, List.forall_mem_cons.mpr ⟨lw_p12, List.forall_mem_cons.mpr ⟨lw_p13, List.forall_mem_cons.mpr ⟨lw_p14, List.forall_mem_cons.mpr ⟨lw_p15, fun _ h => absurd h List.not_mem_nil⟩⟩⟩⟩⟩⟩⟩⟩⟩⟩⟩⟩⟩⟩⟩⟩
theorem lw_p16 : lw_okq (⟨"BlockStore$Journal", "fillPage", "(LBlockStore$KeyMap;LBlockStore$KeyMap;I)V"⟩, 4) := ⟨⟨by decide +kernel, by decide +kernel⟩, List.mem_of_getElem? (i := 46) (by decide +kernel), List.mem_of_getElem? (i := 337) (by decide +kernel), List.mem_of_getElem? (i := 338) (by decide +kernel)⟩
theorem lw_p17 : lw_okq (⟨"BlockStore$Tree", "writeLeaves", "(LBlockStore$KeyMap;II)Z"⟩, 3) := ⟨⟨by decide +kernel, by decide +kernel⟩, List.mem_of_getElem? (i := 65) (by decide +kernel), List.mem_of_getElem? (i := 376) (by decide +kernel), List.mem_of_getElem? (i := 377) (by decide +kernel)⟩
theorem lw_p18 : lw_okq (⟨"BlockStore$Tree", "beginPage", "(II)V"⟩, 3) := ⟨⟨by decide +kernel, by decide +kernel⟩, List.mem_of_getElem? (i := 65) (by decide +kernel), List.mem_of_getElem? (i := 381) (by decide +kernel), List.mem_of_getElem? (i := 382) (by decide +kernel)⟩
theorem lw_p19 : lw_okq (⟨"BlockStore$Tree", "setPair", "(III)V"⟩, 3) := ⟨⟨by decide +kernel, by decide +kernel⟩, List.mem_of_getElem? (i := 65) (by decide +kernel), List.mem_of_getElem? (i := 389) (by decide +kernel), List.mem_of_getElem? (i := 390) (by decide +kernel)⟩
theorem lw_p20 : lw_okq (⟨"BlockStore$Tree", "writeNodes", "(II)Z"⟩, 3) := ⟨⟨by decide +kernel, by decide +kernel⟩, List.mem_of_getElem? (i := 65) (by decide +kernel), List.mem_of_getElem? (i := 394) (by decide +kernel), List.mem_of_getElem? (i := 395) (by decide +kernel)⟩
theorem lw_p21 : lw_okq (⟨"BlockStore", "countWhileUp", "(I)I"⟩, 8) := ⟨⟨by decide +kernel, by decide +kernel⟩, List.mem_of_getElem? (i := 11) (by decide +kernel), List.mem_of_getElem? (i := 458) (by decide +kernel), List.mem_of_getElem? (i := 459) (by decide +kernel)⟩
theorem lw_p22 : lw_okq (⟨"BlockStoreModel", "not", "()I"⟩, 28) := ⟨⟨by decide +kernel, by decide +kernel⟩, List.mem_of_getElem? (i := 470) (by decide +kernel), List.mem_of_getElem? (i := 571) (by decide +kernel), List.mem_of_getElem? (i := 572) (by decide +kernel)⟩
theorem lw_p23 : lw_okq (⟨"BlockStoreModel", "blank", "()V"⟩, 28) := ⟨⟨by decide +kernel, by decide +kernel⟩, List.mem_of_getElem? (i := 470) (by decide +kernel), List.mem_of_getElem? (i := 575) (by decide +kernel), List.mem_of_getElem? (i := 576) (by decide +kernel)⟩
theorem lw_p24 : lw_okq (⟨"BlockStoreModel", "write", "(I)Z"⟩, 28) := ⟨⟨by decide +kernel, by decide +kernel⟩, List.mem_of_getElem? (i := 470) (by decide +kernel), List.mem_of_getElem? (i := 579) (by decide +kernel), List.mem_of_getElem? (i := 580) (by decide +kernel)⟩
theorem lw_p25 : lw_okq (⟨"BlockStoreModel", "writeHead", "(IIIII)Z"⟩, 28) := ⟨⟨by decide +kernel, by decide +kernel⟩, List.mem_of_getElem? (i := 470) (by decide +kernel), List.mem_of_getElem? (i := 586) (by decide +kernel), List.mem_of_getElem? (i := 587) (by decide +kernel)⟩
theorem lw_p26 : lw_okq (⟨"BlockStoreModel", "isGood", "(I)Z"⟩, 28) := ⟨⟨by decide +kernel, by decide +kernel⟩, List.mem_of_getElem? (i := 470) (by decide +kernel), List.mem_of_getElem? (i := 599) (by decide +kernel), List.mem_of_getElem? (i := 600) (by decide +kernel)⟩
theorem lw_p27 : lw_okq (⟨"BlockStoreModel", "load", "(II)V"⟩, 28) := ⟨⟨by decide +kernel, by decide +kernel⟩, List.mem_of_getElem? (i := 470) (by decide +kernel), List.mem_of_getElem? (i := 603) (by decide +kernel), List.mem_of_getElem? (i := 604) (by decide +kernel)⟩
theorem lw_p28 : lw_okq (⟨"BlockStoreModel", "redo", "(II)I"⟩, 28) := ⟨⟨by decide +kernel, by decide +kernel⟩, List.mem_of_getElem? (i := 470) (by decide +kernel), List.mem_of_getElem? (i := 607) (by decide +kernel), List.mem_of_getElem? (i := 608) (by decide +kernel)⟩
theorem lw_p29 : lw_okq (⟨"BlockStoreModel", "isPart", "(III)Z"⟩, 28) := ⟨⟨by decide +kernel, by decide +kernel⟩, List.mem_of_getElem? (i := 470) (by decide +kernel), List.mem_of_getElem? (i := 611) (by decide +kernel), List.mem_of_getElem? (i := 612) (by decide +kernel)⟩
theorem lw_p30 : lw_okq (⟨"BlockStoreModel", "needed", "(J)I"⟩, 28) := ⟨⟨by decide +kernel, by decide +kernel⟩, List.mem_of_getElem? (i := 470) (by decide +kernel), List.mem_of_getElem? (i := 615) (by decide +kernel), List.mem_of_getElem? (i := 616) (by decide +kernel)⟩
theorem lw_p31 : lw_okq (⟨"BlockStoreModel", "part", "()I"⟩, 28) := ⟨⟨by decide +kernel, by decide +kernel⟩, List.mem_of_getElem? (i := 470) (by decide +kernel), List.mem_of_getElem? (i := 620) (by decide +kernel), List.mem_of_getElem? (i := 621) (by decide +kernel)⟩
def lw_privs_2 : List (MethodName × Nat) := [(⟨"BlockStore$Journal", "fillPage", "(LBlockStore$KeyMap;LBlockStore$KeyMap;I)V"⟩, 4), (⟨"BlockStore$Tree", "writeLeaves", "(LBlockStore$KeyMap;II)Z"⟩, 3), (⟨"BlockStore$Tree", "beginPage", "(II)V"⟩, 3), (⟨"BlockStore$Tree", "setPair", "(III)V"⟩, 3), (⟨"BlockStore$Tree", "writeNodes", "(II)Z"⟩, 3), (⟨"BlockStore", "countWhileUp", "(I)I"⟩, 8), (⟨"BlockStoreModel", "not", "()I"⟩, 28), (⟨"BlockStoreModel", "blank", "()V"⟩, 28), (⟨"BlockStoreModel", "write", "(I)Z"⟩, 28), (⟨"BlockStoreModel", "writeHead", "(IIIII)Z"⟩, 28), (⟨"BlockStoreModel", "isGood", "(I)Z"⟩, 28), (⟨"BlockStoreModel", "load", "(II)V"⟩, 28), (⟨"BlockStoreModel", "redo", "(II)I"⟩, 28), (⟨"BlockStoreModel", "isPart", "(III)Z"⟩, 28), (⟨"BlockStoreModel", "needed", "(J)I"⟩, 28), (⟨"BlockStoreModel", "part", "()I"⟩, 28)]
theorem lw_r2 : ∀ q ∈ lw_privs_2, lw_okq q := List.forall_mem_cons.mpr ⟨lw_p16, List.forall_mem_cons.mpr ⟨lw_p17, List.forall_mem_cons.mpr ⟨lw_p18, List.forall_mem_cons.mpr ⟨lw_p19, List.forall_mem_cons.mpr ⟨lw_p20, List.forall_mem_cons.mpr ⟨lw_p21, List.forall_mem_cons.mpr ⟨lw_p22, List.forall_mem_cons.mpr ⟨lw_p23, List.forall_mem_cons.mpr ⟨lw_p24, List.forall_mem_cons.mpr ⟨lw_p25, List.forall_mem_cons.mpr ⟨lw_p26, List.forall_mem_cons.mpr ⟨lw_p27, List.forall_mem_cons.mpr ⟨lw_p28, List.forall_mem_cons.mpr ⟨lw_p29, List.forall_mem_cons.mpr ⟨lw_p30, List.forall_mem_cons.mpr ⟨lw_p31, fun _ h => absurd h List.not_mem_nil⟩⟩⟩⟩⟩⟩⟩⟩⟩⟩⟩⟩⟩⟩⟩⟩
theorem lw_p32 : lw_okq (⟨"BlockStoreModel", "intAt", "(II)I"⟩, 28) := ⟨⟨by decide +kernel, by decide +kernel⟩, List.mem_of_getElem? (i := 470) (by decide +kernel), List.mem_of_getElem? (i := 625) (by decide +kernel), List.mem_of_getElem? (i := 626) (by decide +kernel)⟩
theorem lw_p33 : lw_okq (⟨"BlockStoreModel", "bind", "(II)V"⟩, 28) := ⟨⟨by decide +kernel, by decide +kernel⟩, List.mem_of_getElem? (i := 470) (by decide +kernel), List.mem_of_getElem? (i := 629) (by decide +kernel), List.mem_of_getElem? (i := 630) (by decide +kernel)⟩
theorem lw_p34 : lw_okq (⟨"BlockStoreModel", "at", "(I)I"⟩, 28) := ⟨⟨by decide +kernel, by decide +kernel⟩, List.mem_of_getElem? (i := 470) (by decide +kernel), List.mem_of_getElem? (i := 633) (by decide +kernel), List.mem_of_getElem? (i := 634) (by decide +kernel)⟩
theorem lw_p35 : lw_okq (⟨"BlockStoreModel", "unbind", "(I)V"⟩, 28) := ⟨⟨by decide +kernel, by decide +kernel⟩, List.mem_of_getElem? (i := 470) (by decide +kernel), List.mem_of_getElem? (i := 637) (by decide +kernel), List.mem_of_getElem? (i := 638) (by decide +kernel)⟩
theorem lw_p36 : lw_okq (⟨"BlockStoreModel", "change", "(IZI)I"⟩, 28) := ⟨⟨by decide +kernel, by decide +kernel⟩, List.mem_of_getElem? (i := 470) (by decide +kernel), List.mem_of_getElem? (i := 649) (by decide +kernel), List.mem_of_getElem? (i := 650) (by decide +kernel)⟩
theorem lw_p37 : lw_okq (⟨"BlockStoreModel", "changeAt", "(I)I"⟩, 28) := ⟨⟨by decide +kernel, by decide +kernel⟩, List.mem_of_getElem? (i := 470) (by decide +kernel), List.mem_of_getElem? (i := 653) (by decide +kernel), List.mem_of_getElem? (i := 654) (by decide +kernel)⟩
theorem lw_p38 : lw_okq (⟨"BlockStoreModel", "isSeen", "(I)Z"⟩, 28) := ⟨⟨by decide +kernel, by decide +kernel⟩, List.mem_of_getElem? (i := 470) (by decide +kernel), List.mem_of_getElem? (i := 661) (by decide +kernel), List.mem_of_getElem? (i := 662) (by decide +kernel)⟩
theorem lw_p39 : lw_okq (⟨"BlockStoreModel", "isChanged", "(I)Z"⟩, 28) := ⟨⟨by decide +kernel, by decide +kernel⟩, List.mem_of_getElem? (i := 470) (by decide +kernel), List.mem_of_getElem? (i := 665) (by decide +kernel), List.mem_of_getElem? (i := 666) (by decide +kernel)⟩
theorem lw_p40 : lw_okq (⟨"BlockStoreModel", "treeBlocks", "()I"⟩, 28) := ⟨⟨by decide +kernel, by decide +kernel⟩, List.mem_of_getElem? (i := 470) (by decide +kernel), List.mem_of_getElem? (i := 681) (by decide +kernel), List.mem_of_getElem? (i := 682) (by decide +kernel)⟩
theorem lw_p41 : lw_okq (⟨"BlockStoreModel", "fan", "()I"⟩, 28) := ⟨⟨by decide +kernel, by decide +kernel⟩, List.mem_of_getElem? (i := 470) (by decide +kernel), List.mem_of_getElem? (i := 685) (by decide +kernel), List.mem_of_getElem? (i := 686) (by decide +kernel)⟩
theorem lw_p42 : lw_okq (⟨"BlockStoreModel", "area", "()I"⟩, 28) := ⟨⟨by decide +kernel, by decide +kernel⟩, List.mem_of_getElem? (i := 470) (by decide +kernel), List.mem_of_getElem? (i := 689) (by decide +kernel), List.mem_of_getElem? (i := 690) (by decide +kernel)⟩
theorem lw_p43 : lw_okq (⟨"BlockStoreModel", "beginSeen", "()V"⟩, 28) := ⟨⟨by decide +kernel, by decide +kernel⟩, List.mem_of_getElem? (i := 470) (by decide +kernel), List.mem_of_getElem? (i := 705) (by decide +kernel), List.mem_of_getElem? (i := 706) (by decide +kernel)⟩
theorem lw_p44 : lw_okq (⟨"BlockStoreModel", "next", "()Z"⟩, 28) := ⟨⟨by decide +kernel, by decide +kernel⟩, List.mem_of_getElem? (i := 470) (by decide +kernel), List.mem_of_getElem? (i := 709) (by decide +kernel), List.mem_of_getElem? (i := 710) (by decide +kernel)⟩
def lw_privs_3 : List (MethodName × Nat) := [(⟨"BlockStoreModel", "intAt", "(II)I"⟩, 28), (⟨"BlockStoreModel", "bind", "(II)V"⟩, 28), (⟨"BlockStoreModel", "at", "(I)I"⟩, 28), (⟨"BlockStoreModel", "unbind", "(I)V"⟩, 28), (⟨"BlockStoreModel", "change", "(IZI)I"⟩, 28), (⟨"BlockStoreModel", "changeAt", "(I)I"⟩, 28), (⟨"BlockStoreModel", "isSeen", "(I)Z"⟩, 28), (⟨"BlockStoreModel", "isChanged", "(I)Z"⟩, 28), (⟨"BlockStoreModel", "treeBlocks", "()I"⟩, 28), (⟨"BlockStoreModel", "fan", "()I"⟩, 28), (⟨"BlockStoreModel", "area", "()I"⟩, 28), (⟨"BlockStoreModel", "beginSeen", "()V"⟩, 28), (⟨"BlockStoreModel", "next", "()Z"⟩, 28)]
theorem lw_r3 : ∀ q ∈ lw_privs_3, lw_okq q := List.forall_mem_cons.mpr ⟨lw_p32, List.forall_mem_cons.mpr ⟨lw_p33, List.forall_mem_cons.mpr ⟨lw_p34, List.forall_mem_cons.mpr ⟨lw_p35, List.forall_mem_cons.mpr ⟨lw_p36, List.forall_mem_cons.mpr ⟨lw_p37, List.forall_mem_cons.mpr ⟨lw_p38, List.forall_mem_cons.mpr ⟨lw_p39, List.forall_mem_cons.mpr ⟨lw_p40, List.forall_mem_cons.mpr ⟨lw_p41, List.forall_mem_cons.mpr ⟨lw_p42, List.forall_mem_cons.mpr ⟨lw_p43, List.forall_mem_cons.mpr ⟨lw_p44, fun _ h => absurd h List.not_mem_nil⟩⟩⟩⟩⟩⟩⟩⟩⟩⟩⟩⟩⟩
def lw_privs : List (MethodName × Nat) := lw_privs_1 ++ (lw_privs_2 ++ (lw_privs_3))
def lw_tbl : List Cond := k2_sels lw_privs ++ tables_1
theorem lw_privs_ok : ∀ q ∈ lw_privs, lw_okq q := by
  show ∀ q ∈ lw_privs_1 ++ (lw_privs_2 ++ (lw_privs_3)), lw_okq q
  exact List.forall_mem_append.mpr ⟨lw_r1, List.forall_mem_append.mpr ⟨lw_r2, lw_r3⟩⟩
end
section
def RX0 : String := "BlockStore$Disk"
def TX0 : u_T := fun k => match k with
  | 0 => ("BlockStore$Disk", "words", "[I", true)
  | 1 => ("BlockStore$Disk", "page", "[I", true)
  | 2 => ("BlockStore$Disk", "blocks", "I", false)
  | 3 => ("BlockStore$Disk", "width", "I", false)
  | 4 => ("BlockStore$Disk", "writes", "I", false)
  | _ => ("BlockStore$Disk", "fuse", "I", false)
def tyX0 : Nat → FieldType := fun k => match k with
  | 0 => .array .int
  | 1 => .array .int
  | 2 => .int
  | 3 => .int
  | 4 => .int
  | _ => .int
abbrev wsX00 : List Cond := u_ws RX0 TX0 6
theorem nmX0 : ∀ a, a < 6 → ∀ b, b < 6 → a ≠ b → (TX0 a).2.1 ≠ (TX0 b).2.1 := by decide +kernel
theorem tyX0_ok : ∀ k, k < 6 → parseFieldDescriptor (TX0 k).2.2.1 = some (tyX0 k) := by decide +kernel
abbrev cX0_init : ByteArray := prog_2_method_1_code
def yX0_init : MethodName := ⟨RX0, "<init>", "()V"⟩
abbrev cX0_renew : ByteArray := prog_2_method_2_code
def yX0_renew : MethodName := ⟨RX0, "renew", "(II)V"⟩
abbrev cX0_wordsInBlock : ByteArray := prog_2_method_3_code
def yX0_wordsInBlock : MethodName := ⟨RX0, "wordsInBlock", "()I"⟩
abbrev cX0_writesDone : ByteArray := prog_2_method_4_code
def yX0_writesDone : MethodName := ⟨RX0, "writesDone", "()I"⟩
abbrev cX0_writesToFailure : ByteArray := prog_2_method_5_code
def yX0_writesToFailure : MethodName := ⟨RX0, "writesToFailure", "()I"⟩
abbrev cX0_arm : ByteArray := prog_2_method_6_code
def yX0_arm : MethodName := ⟨RX0, "arm", "(I)V"⟩
abbrev cX0_wordAt : ByteArray := prog_2_method_7_code
def yX0_wordAt : MethodName := ⟨RX0, "wordAt", "(II)I"⟩
abbrev cX0_isGood : ByteArray := prog_2_method_8_code
def yX0_isGood : MethodName := ⟨RX0, "isGood", "(I)Z"⟩
abbrev cX0_clearPage : ByteArray := prog_2_method_9_code
def yX0_clearPage : MethodName := ⟨RX0, "clearPage", "()V"⟩
abbrev cX0_setPage : ByteArray := prog_2_method_10_code
def yX0_setPage : MethodName := ⟨RX0, "setPage", "(II)V"⟩
abbrev cX0_writePage : ByteArray := prog_2_method_11_code
def yX0_writePage : MethodName := ⟨RX0, "writePage", "(I)Z"⟩
abbrev cX0_sumOf : ByteArray := prog_2_method_12_code
def yX0_sumOf : MethodName := ⟨RX0, "sumOf", "(I)I"⟩
def RX1 : String := "BlockStore$Journal"
def TX1 : u_T := fun k => match k with
  | 0 => ("BlockStore$Journal", "device", "LBlockStore$Disk;", true)
  | 1 => ("BlockStore$Journal", "blocks", "I", false)
  | 2 => ("BlockStore$Journal", "place", "I", false)
  | _ => ("BlockStore$Journal", "records", "I", false)
def tyX1 : Nat → FieldType := fun k => match k with
  | 0 => .object "BlockStore$Disk"
  | 1 => .int
  | 2 => .int
  | _ => .int
abbrev wsX10 : List Cond := u_ws RX1 TX1 4
theorem nmX1 : ∀ a, a < 4 → ∀ b, b < 4 → a ≠ b → (TX1 a).2.1 ≠ (TX1 b).2.1 := by decide +kernel
theorem tyX1_ok : ∀ k, k < 4 → parseFieldDescriptor (TX1 k).2.2.1 = some (tyX1 k) := by decide +kernel
abbrev cX1_init : ByteArray := prog_3_method_1_code
def yX1_init : MethodName := ⟨RX1, "<init>", "(LBlockStore$Disk;)V"⟩
abbrev cX1_layOut : ByteArray := prog_3_method_2_code
def yX1_layOut : MethodName := ⟨RX1, "layOut", "(I)V"⟩
abbrev cX1_restart : ByteArray := prog_3_method_3_code
def yX1_restart : MethodName := ⟨RX1, "restart", "()V"⟩
abbrev cX1_usedBlocks : ByteArray := prog_3_method_4_code
def yX1_usedBlocks : MethodName := ⟨RX1, "usedBlocks", "()I"⟩
abbrev cX1_recordCount : ByteArray := prog_3_method_5_code
def yX1_recordCount : MethodName := ⟨RX1, "recordCount", "()I"⟩
abbrev cX1_hasRoom : ByteArray := prog_3_method_6_code
def yX1_hasRoom : MethodName := ⟨RX1, "hasRoom", "(I)Z"⟩
abbrev cX1_append : ByteArray := prog_3_method_7_code
def yX1_append : MethodName := ⟨RX1, "append", "(LBlockStore$KeyMap;LBlockStore$KeyMap;II)Z"⟩
abbrev cX1_replay : ByteArray := prog_3_method_8_code
def yX1_replay : MethodName := ⟨RX1, "replay", "(LBlockStore$KeyMap;I)V"⟩
abbrev cX1_partInts : ByteArray := prog_3_method_9_code
def yX1_partInts : MethodName := ⟨RX1, "partInts", "()I"⟩
abbrev cX1_blocksFor : ByteArray := prog_3_method_10_code
def yX1_blocksFor : MethodName := ⟨RX1, "blocksFor", "(I)I"⟩
abbrev cX1_fillPage : ByteArray := prog_3_method_11_code
def yX1_fillPage : MethodName := ⟨RX1, "fillPage", "(LBlockStore$KeyMap;LBlockStore$KeyMap;I)V"⟩
abbrev cX1_recordInt : ByteArray := prog_3_method_12_code
def yX1_recordInt : MethodName := ⟨RX1, "recordInt", "(LBlockStore$KeyMap;LBlockStore$KeyMap;I)I"⟩
abbrev cX1_wholeParts : ByteArray := prog_3_method_13_code
def yX1_wholeParts : MethodName := ⟨RX1, "wholeParts", "(III)I"⟩
abbrev cX1_isPart : ByteArray := prog_3_method_14_code
def yX1_isPart : MethodName := ⟨RX1, "isPart", "(IIIII)Z"⟩
abbrev cX1_redo : ByteArray := prog_3_method_15_code
def yX1_redo : MethodName := ⟨RX1, "redo", "(LBlockStore$KeyMap;I)V"⟩
abbrev cX1_storedInt : ByteArray := prog_3_method_16_code
def yX1_storedInt : MethodName := ⟨RX1, "storedInt", "(II)I"⟩
def RX2 : String := "BlockStore$KeyMap"
def TX2 : u_T := fun k => match k with
  | 0 => ("BlockStore$KeyMap", "keys", "[I", true)
  | 1 => ("BlockStore$KeyMap", "values", "[I", true)
  | _ => ("BlockStore$KeyMap", "used", "I", false)
def tyX2 : Nat → FieldType := fun k => match k with
  | 0 => .array .int
  | 1 => .array .int
  | _ => .int
abbrev wsX20 : List Cond := u_ws RX2 TX2 3
theorem nmX2 : ∀ a, a < 3 → ∀ b, b < 3 → a ≠ b → (TX2 a).2.1 ≠ (TX2 b).2.1 := by decide +kernel
theorem tyX2_ok : ∀ k, k < 3 → parseFieldDescriptor (TX2 k).2.2.1 = some (tyX2 k) := by decide +kernel
abbrev cX2_init : ByteArray := prog_4_method_1_code
def yX2_init : MethodName := ⟨RX2, "<init>", "(I)V"⟩
abbrev cX2_clear : ByteArray := prog_4_method_2_code
def yX2_clear : MethodName := ⟨RX2, "clear", "()V"⟩
abbrev cX2_entries : ByteArray := prog_4_method_3_code
def yX2_entries : MethodName := ⟨RX2, "entries", "()I"⟩
abbrev cX2_placeOf : ByteArray := prog_4_method_4_code
def yX2_placeOf : MethodName := ⟨RX2, "placeOf", "(I)I"⟩
abbrev cX2_placeBehind : ByteArray := prog_4_method_5_code
def yX2_placeBehind : MethodName := ⟨RX2, "placeBehind", "(I)I"⟩
abbrev cX2_holds : ByteArray := prog_4_method_6_code
def yX2_holds : MethodName := ⟨RX2, "holds", "(I)Z"⟩
abbrev cX2_valueOf : ByteArray := prog_4_method_7_code
def yX2_valueOf : MethodName := ⟨RX2, "valueOf", "(I)I"⟩
abbrev cX2_keyAt : ByteArray := prog_4_method_8_code
def yX2_keyAt : MethodName := ⟨RX2, "keyAt", "(I)I"⟩
abbrev cX2_valueAt : ByteArray := prog_4_method_9_code
def yX2_valueAt : MethodName := ⟨RX2, "valueAt", "(I)I"⟩
abbrev cX2_sumOfValues : ByteArray := prog_4_method_10_code
def yX2_sumOfValues : MethodName := ⟨RX2, "sumOfValues", "(II)J"⟩
abbrev cX2_enter : ByteArray := prog_4_method_11_code
def yX2_enter : MethodName := ⟨RX2, "enter", "(II)V"⟩
abbrev cX2_drop : ByteArray := prog_4_method_12_code
def yX2_drop : MethodName := ⟨RX2, "drop", "(I)V"⟩
abbrev cX2_copyFrom : ByteArray := prog_4_method_13_code
def yX2_copyFrom : MethodName := ⟨RX2, "copyFrom", "(LBlockStore$KeyMap;)V"⟩
abbrev cX2_isAt : ByteArray := prog_4_method_14_code
def yX2_isAt : MethodName := ⟨RX2, "isAt", "(II)Z"⟩
def RX3 : String := "BlockStore$Tree"
def TX3 : u_T := fun k => match k with
  | 0 => ("BlockStore$Tree", "device", "LBlockStore$Disk;", true)
  | 1 => ("BlockStore$Tree", "firstBlock", "I", false)
  | _ => ("BlockStore$Tree", "blocksEach", "I", false)
def tyX3 : Nat → FieldType := fun k => match k with
  | 0 => .object "BlockStore$Disk"
  | 1 => .int
  | _ => .int
abbrev wsX30 : List Cond := u_ws RX3 TX3 3
theorem nmX3 : ∀ a, a < 3 → ∀ b, b < 3 → a ≠ b → (TX3 a).2.1 ≠ (TX3 b).2.1 := by decide +kernel
theorem tyX3_ok : ∀ k, k < 3 → parseFieldDescriptor (TX3 k).2.2.1 = some (tyX3 k) := by decide +kernel
abbrev cX3_init : ByteArray := prog_5_method_1_code
def yX3_init : MethodName := ⟨RX3, "<init>", "(LBlockStore$Disk;)V"⟩
abbrev cX3_layOut : ByteArray := prog_5_method_2_code
def yX3_layOut : MethodName := ⟨RX3, "layOut", "(II)V"⟩
abbrev cX3_areaBlocks : ByteArray := prog_5_method_3_code
def yX3_areaBlocks : MethodName := ⟨RX3, "areaBlocks", "()I"⟩
abbrev cX3_blocksFor : ByteArray := prog_5_method_4_code
def yX3_blocksFor : MethodName := ⟨RX3, "blocksFor", "(I)I"⟩
abbrev cX3_rootOf : ByteArray := prog_5_method_5_code
def yX3_rootOf : MethodName := ⟨RX3, "rootOf", "(II)I"⟩
abbrev cX3_save : ByteArray := prog_5_method_6_code
def yX3_save : MethodName := ⟨RX3, "save", "(LBlockStore$KeyMap;I)Z"⟩
abbrev cX3_load : ByteArray := prog_5_method_7_code
def yX3_load : MethodName := ⟨RX3, "load", "(LBlockStore$KeyMap;II)V"⟩
abbrev cX3_fan : ByteArray := prog_5_method_8_code
def yX3_fan : MethodName := ⟨RX3, "fan", "()I"⟩
abbrev cX3_startOf : ByteArray := prog_5_method_9_code
def yX3_startOf : MethodName := ⟨RX3, "startOf", "(I)I"⟩
abbrev cX3_writeLeaves : ByteArray := prog_5_method_10_code
def yX3_writeLeaves : MethodName := ⟨RX3, "writeLeaves", "(LBlockStore$KeyMap;II)Z"⟩
abbrev cX3_writeNodes : ByteArray := prog_5_method_11_code
def yX3_writeNodes : MethodName := ⟨RX3, "writeNodes", "(II)Z"⟩
abbrev cX3_beginPage : ByteArray := prog_5_method_12_code
def yX3_beginPage : MethodName := ⟨RX3, "beginPage", "(II)V"⟩
abbrev cX3_setPair : ByteArray := prog_5_method_13_code
def yX3_setPair : MethodName := ⟨RX3, "setPair", "(III)V"⟩
def RX4 : String := "BlockStore"
def TX4 : u_T := fun k => match k with
  | 0 => ("BlockStore", "device", "LBlockStore$Disk;", true)
  | 1 => ("BlockStore", "journal", "LBlockStore$Journal;", true)
  | 2 => ("BlockStore", "tree", "LBlockStore$Tree;", true)
  | 3 => ("BlockStore", "committed", "LBlockStore$KeyMap;", true)
  | 4 => ("BlockStore", "seen", "LBlockStore$KeyMap;", true)
  | 5 => ("BlockStore", "changed", "LBlockStore$KeyMap;", true)
  | 6 => ("BlockStore", "status", "I", false)
  | _ => ("BlockStore", "inTransaction", "Z", false)
def tyX4 : Nat → FieldType := fun k => match k with
  | 0 => .object "BlockStore$Disk"
  | 1 => .object "BlockStore$Journal"
  | 2 => .object "BlockStore$Tree"
  | 3 => .object "BlockStore$KeyMap"
  | 4 => .object "BlockStore$KeyMap"
  | 5 => .object "BlockStore$KeyMap"
  | 6 => .int
  | _ => .boolean
abbrev wsX40 : List Cond := u_ws RX4 TX4 8
theorem nmX4 : ∀ a, a < 8 → ∀ b, b < 8 → a ≠ b → (TX4 a).2.1 ≠ (TX4 b).2.1 := by decide +kernel
theorem tyX4_ok : ∀ k, k < 8 → parseFieldDescriptor (TX4 k).2.2.1 = some (tyX4 k) := by decide +kernel
abbrev cX4_init : ByteArray := prog_1_method_1_code
def yX4_init : MethodName := ⟨RX4, "<init>", "()V"⟩
abbrev cX4_disk : ByteArray := prog_1_method_2_code
def yX4_disk : MethodName := ⟨RX4, "disk", "(III)Z"⟩
abbrev cX4_format : ByteArray := prog_1_method_3_code
def yX4_format : MethodName := ⟨RX4, "format", "()I"⟩
abbrev cX4_power : ByteArray := prog_1_method_4_code
def yX4_power : MethodName := ⟨RX4, "power", "(I)I"⟩
abbrev cX4_recover : ByteArray := prog_1_method_5_code
def yX4_recover : MethodName := ⟨RX4, "recover", "()I"⟩
abbrev cX4_begin : ByteArray := prog_1_method_6_code
def yX4_begin : MethodName := ⟨RX4, "begin", "()I"⟩
abbrev cX4_put : ByteArray := prog_1_method_7_code
def yX4_put : MethodName := ⟨RX4, "put", "(II)I"⟩
abbrev cX4_remove : ByteArray := prog_1_method_8_code
def yX4_remove : MethodName := ⟨RX4, "remove", "(I)I"⟩
abbrev cX4_commit : ByteArray := prog_1_method_9_code
def yX4_commit : MethodName := ⟨RX4, "commit", "()I"⟩
abbrev cX4_abort : ByteArray := prog_1_method_10_code
def yX4_abort : MethodName := ⟨RX4, "abort", "()I"⟩
abbrev cX4_checkpoint : ByteArray := prog_1_method_11_code
def yX4_checkpoint : MethodName := ⟨RX4, "checkpoint", "()I"⟩
abbrev cX4_get : ByteArray := prog_1_method_12_code
def yX4_get : MethodName := ⟨RX4, "get", "(I)I"⟩
abbrev cX4_has : ByteArray := prog_1_method_13_code
def yX4_has : MethodName := ⟨RX4, "has", "(I)Z"⟩
abbrev cX4_size : ByteArray := prog_1_method_14_code
def yX4_size : MethodName := ⟨RX4, "size", "()I"⟩
abbrev cX4_key : ByteArray := prog_1_method_15_code
def yX4_key : MethodName := ⟨RX4, "key", "(I)I"⟩
abbrev cX4_sum : ByteArray := prog_1_method_16_code
def yX4_sum : MethodName := ⟨RX4, "sum", "(III)J"⟩
abbrev cX4_word : ByteArray := prog_1_method_17_code
def yX4_word : MethodName := ⟨RX4, "word", "(II)I"⟩
abbrev cX4_state : ByteArray := prog_1_method_18_code
def yX4_state : MethodName := ⟨RX4, "state", "()I"⟩
abbrev cX4_count : ByteArray := prog_1_method_19_code
def yX4_count : MethodName := ⟨RX4, "count", "(I)I"⟩
abbrev cX4_countWhileUp : ByteArray := prog_1_method_20_code
def yX4_countWhileUp : MethodName := ⟨RX4, "countWhileUp", "(I)I"⟩
abbrev cX4_refusal : ByteArray := prog_1_method_21_code
def yX4_refusal : MethodName := ⟨RX4, "refusal", "()I"⟩
abbrev cX4_fail : ByteArray := prog_1_method_22_code
def yX4_fail : MethodName := ⟨RX4, "fail", "()I"⟩
abbrev cX4_comeUp : ByteArray := prog_1_method_23_code
def yX4_comeUp : MethodName := ⟨RX4, "comeUp", "()V"⟩
abbrev cX4_endTransaction : ByteArray := prog_1_method_24_code
def yX4_endTransaction : MethodName := ⟨RX4, "endTransaction", "()V"⟩
abbrev cX4_hasRoomForChange : ByteArray := prog_1_method_25_code
def yX4_hasRoomForChange : MethodName := ⟨RX4, "hasRoomForChange", "(I)Z"⟩
abbrev cX4_writeHead : ByteArray := prog_1_method_26_code
def yX4_writeHead : MethodName := ⟨RX4, "writeHead", "(IIIII)Z"⟩
abbrev cX4_blocksOf : ByteArray := prog_1_method_27_code
def yX4_blocksOf : MethodName := ⟨RX4, "blocksOf", "(II)I"⟩
def RX5 : String := "BlockStoreModel"
def TX5 : u_T := fun k => match k with
  | 0 => ("BlockStoreModel", "disk", "[I", true)
  | 1 => ("BlockStoreModel", "blocks", "I", false)
  | 2 => ("BlockStoreModel", "words", "I", false)
  | 3 => ("BlockStoreModel", "log", "I", false)
  | 4 => ("BlockStoreModel", "state", "I", false)
  | 5 => ("BlockStoreModel", "armed", "I", false)
  | 6 => ("BlockStoreModel", "written", "I", false)
  | 7 => ("BlockStoreModel", "place", "I", false)
  | 8 => ("BlockStoreModel", "epoch", "I", false)
  | 9 => ("BlockStoreModel", "boot", "I", false)
  | 10 => ("BlockStoreModel", "records", "I", false)
  | 11 => ("BlockStoreModel", "keys", "[I", true)
  | 12 => ("BlockStoreModel", "values", "[I", true)
  | 13 => ("BlockStoreModel", "many", "I", false)
  | 14 => ("BlockStoreModel", "open", "Z", false)
  | 15 => ("BlockStoreModel", "changed", "[I", true)
  | 16 => ("BlockStoreModel", "changedTo", "[I", true)
  | 17 => ("BlockStoreModel", "gone", "[Z", true)
  | 18 => ("BlockStoreModel", "changes", "I", false)
  | 19 => ("BlockStoreModel", "block", "[I", true)
  | 20 => ("BlockStoreModel", "least", "[I", true)
  | 21 => ("BlockStoreModel", "below", "[I", true)
  | 22 => ("BlockStoreModel", "ints", "[I", true)
  | 23 => ("BlockStoreModel", "seenMany", "I", false)
  | 24 => ("BlockStoreModel", "seenKey", "I", false)
  | 25 => ("BlockStoreModel", "seenValue", "I", false)
  | 26 => ("BlockStoreModel", "seenAt", "I", false)
  | _ => ("BlockStoreModel", "seenChange", "I", false)
def tyX5 : Nat → FieldType := fun k => match k with
  | 0 => .array .int
  | 1 => .int
  | 2 => .int
  | 3 => .int
  | 4 => .int
  | 5 => .int
  | 6 => .int
  | 7 => .int
  | 8 => .int
  | 9 => .int
  | 10 => .int
  | 11 => .array .int
  | 12 => .array .int
  | 13 => .int
  | 14 => .boolean
  | 15 => .array .int
  | 16 => .array .int
  | 17 => .array .boolean
  | 18 => .int
  | 19 => .array .int
  | 20 => .array .int
  | 21 => .array .int
  | 22 => .array .int
  | 23 => .int
  | 24 => .int
  | 25 => .int
  | 26 => .int
  | _ => .int
abbrev wsX50 : List Cond := u_ws RX5 TX5 28
theorem nmX5 : ∀ a, a < 28 → ∀ b, b < 28 → a ≠ b → (TX5 a).2.1 ≠ (TX5 b).2.1 := by decide +kernel
theorem tyX5_ok : ∀ k, k < 28 → parseFieldDescriptor (TX5 k).2.2.1 = some (tyX5 k) := by decide +kernel
abbrev cX5_init : ByteArray := prog_7_method_1_code
def yX5_init : MethodName := ⟨RX5, "<init>", "()V"⟩
abbrev cX5_sumOf : ByteArray := prog_7_method_2_code
def yX5_sumOf : MethodName := ⟨RX5, "sumOf", "([III)I"⟩
abbrev cX5_isGood : ByteArray := prog_7_method_3_code
def yX5_isGood : MethodName := ⟨RX5, "isGood", "(I)Z"⟩
abbrev cX5_blank : ByteArray := prog_7_method_4_code
def yX5_blank : MethodName := ⟨RX5, "blank", "()V"⟩
abbrev cX5_write : ByteArray := prog_7_method_5_code
def yX5_write : MethodName := ⟨RX5, "write", "(I)Z"⟩
abbrev cX5_writeHead : ByteArray := prog_7_method_6_code
def yX5_writeHead : MethodName := ⟨RX5, "writeHead", "(IIIII)Z"⟩
abbrev cX5_area : ByteArray := prog_7_method_7_code
def yX5_area : MethodName := ⟨RX5, "area", "()I"⟩
abbrev cX5_fan : ByteArray := prog_7_method_8_code
def yX5_fan : MethodName := ⟨RX5, "fan", "()I"⟩
abbrev cX5_part : ByteArray := prog_7_method_9_code
def yX5_part : MethodName := ⟨RX5, "part", "()I"⟩
abbrev cX5_not : ByteArray := prog_7_method_10_code
def yX5_not : MethodName := ⟨RX5, "not", "()I"⟩
abbrev cX5_disk : ByteArray := prog_7_method_11_code
def yX5_disk : MethodName := ⟨RX5, "disk", "(III)Z"⟩
abbrev cX5_format : ByteArray := prog_7_method_12_code
def yX5_format : MethodName := ⟨RX5, "format", "()I"⟩
abbrev cX5_power : ByteArray := prog_7_method_13_code
def yX5_power : MethodName := ⟨RX5, "power", "(I)I"⟩
abbrev cX5_at : ByteArray := prog_7_method_14_code
def yX5_at : MethodName := ⟨RX5, "at", "(I)I"⟩
abbrev cX5_bind : ByteArray := prog_7_method_15_code
def yX5_bind : MethodName := ⟨RX5, "bind", "(II)V"⟩
abbrev cX5_unbind : ByteArray := prog_7_method_16_code
def yX5_unbind : MethodName := ⟨RX5, "unbind", "(I)V"⟩
abbrev cX5_changeAt : ByteArray := prog_7_method_17_code
def yX5_changeAt : MethodName := ⟨RX5, "changeAt", "(I)I"⟩
abbrev cX5_isChanged : ByteArray := prog_7_method_18_code
def yX5_isChanged : MethodName := ⟨RX5, "isChanged", "(I)Z"⟩
abbrev cX5_isPart : ByteArray := prog_7_method_19_code
def yX5_isPart : MethodName := ⟨RX5, "isPart", "(III)Z"⟩
abbrev cX5_needed : ByteArray := prog_7_method_20_code
def yX5_needed : MethodName := ⟨RX5, "needed", "(J)I"⟩
abbrev cX5_redo : ByteArray := prog_7_method_21_code
def yX5_redo : MethodName := ⟨RX5, "redo", "(II)I"⟩
abbrev cX5_intAt : ByteArray := prog_7_method_22_code
def yX5_intAt : MethodName := ⟨RX5, "intAt", "(II)I"⟩
abbrev cX5_load : ByteArray := prog_7_method_23_code
def yX5_load : MethodName := ⟨RX5, "load", "(II)V"⟩
abbrev cX5_recover : ByteArray := prog_7_method_24_code
def yX5_recover : MethodName := ⟨RX5, "recover", "()I"⟩
abbrev cX5_begin : ByteArray := prog_7_method_25_code
def yX5_begin : MethodName := ⟨RX5, "begin", "()I"⟩
abbrev cX5_change : ByteArray := prog_7_method_26_code
def yX5_change : MethodName := ⟨RX5, "change", "(IZI)I"⟩
abbrev cX5_put : ByteArray := prog_7_method_27_code
def yX5_put : MethodName := ⟨RX5, "put", "(II)I"⟩
abbrev cX5_remove : ByteArray := prog_7_method_28_code
def yX5_remove : MethodName := ⟨RX5, "remove", "(I)I"⟩
abbrev cX5_isSeen : ByteArray := prog_7_method_29_code
def yX5_isSeen : MethodName := ⟨RX5, "isSeen", "(I)Z"⟩
abbrev cX5_commit : ByteArray := prog_7_method_30_code
def yX5_commit : MethodName := ⟨RX5, "commit", "()I"⟩
abbrev cX5_abort : ByteArray := prog_7_method_31_code
def yX5_abort : MethodName := ⟨RX5, "abort", "()I"⟩
abbrev cX5_treeBlocks : ByteArray := prog_7_method_32_code
def yX5_treeBlocks : MethodName := ⟨RX5, "treeBlocks", "()I"⟩
abbrev cX5_checkpoint : ByteArray := prog_7_method_33_code
def yX5_checkpoint : MethodName := ⟨RX5, "checkpoint", "()I"⟩
abbrev cX5_beginSeen : ByteArray := prog_7_method_34_code
def yX5_beginSeen : MethodName := ⟨RX5, "beginSeen", "()V"⟩
abbrev cX5_next : ByteArray := prog_7_method_35_code
def yX5_next : MethodName := ⟨RX5, "next", "()Z"⟩
abbrev cX5_get : ByteArray := prog_7_method_36_code
def yX5_get : MethodName := ⟨RX5, "get", "(I)I"⟩
abbrev cX5_has : ByteArray := prog_7_method_37_code
def yX5_has : MethodName := ⟨RX5, "has", "(I)Z"⟩
abbrev cX5_size : ByteArray := prog_7_method_38_code
def yX5_size : MethodName := ⟨RX5, "size", "()I"⟩
abbrev cX5_key : ByteArray := prog_7_method_39_code
def yX5_key : MethodName := ⟨RX5, "key", "(I)I"⟩
abbrev cX5_sum : ByteArray := prog_7_method_40_code
def yX5_sum : MethodName := ⟨RX5, "sum", "(III)J"⟩
abbrev cX5_word : ByteArray := prog_7_method_41_code
def yX5_word : MethodName := ⟨RX5, "word", "(II)I"⟩
abbrev cX5_state : ByteArray := prog_7_method_42_code
def yX5_state : MethodName := ⟨RX5, "state", "()I"⟩
abbrev cX5_count : ByteArray := prog_7_method_43_code
def yX5_count : MethodName := ⟨RX5, "count", "(I)I"⟩
def RJ9 : String := "java/lang/Math"
def TJ9 : u_T := fun k => match k with
  | _ => ("", "", "", false)
def tyJ9 : Nat → FieldType := fun k => match k with
  | _ => .int
abbrev wsJ90 : List Cond := u_ws RJ9 TJ9 0
theorem nmJ9 : ∀ a, a < 0 → ∀ b, b < 0 → a ≠ b → (TJ9 a).2.1 ≠ (TJ9 b).2.1 := by decide +kernel
theorem tyJ9_ok : ∀ k, k < 0 → parseFieldDescriptor (TJ9 k).2.2.1 = some (tyJ9 k) := by decide +kernel
abbrev cJ9_max_7cf53 : ByteArray := prog_8_method_65_code
def yJ9_max_7cf53 : MethodName := ⟨RJ9, "max", "(II)I"⟩
abbrev cJ9_min_7cf53 : ByteArray := prog_8_method_69_code
def yJ9_min_7cf53 : MethodName := ⟨RJ9, "min", "(II)I"⟩
def RJ10 : String := "java/lang/System"
def TJ10 : u_T := fun k => match k with
  | _ => ("", "", "", false)
def tyJ10 : Nat → FieldType := fun k => match k with
  | _ => .int
abbrev wsJ100 : List Cond := u_ws RJ10 TJ10 0
theorem nmJ10 : ∀ a, a < 0 → ∀ b, b < 0 → a ≠ b → (TJ10 a).2.1 ≠ (TJ10 b).2.1 := by decide +kernel
theorem tyJ10_ok : ∀ k, k < 0 → parseFieldDescriptor (TJ10 k).2.2.1 = some (tyJ10 k) := by decide +kernel
def RJ7 : String := "java/util/Arrays"
def TJ7 : u_T := fun k => match k with
  | _ => ("", "", "", false)
def tyJ7 : Nat → FieldType := fun k => match k with
  | _ => .int
abbrev wsJ70 : List Cond := u_ws RJ7 TJ7 0
theorem nmJ7 : ∀ a, a < 0 → ∀ b, b < 0 → a ≠ b → (TJ7 a).2.1 ≠ (TJ7 b).2.1 := by decide +kernel
theorem tyJ7_ok : ∀ k, k < 0 → parseFieldDescriptor (TJ7 k).2.2.1 = some (tyJ7 k) := by decide +kernel
abbrev cJ7_fill_53178 : ByteArray := prog_10_method_103_code
def yJ7_fill_53178 : MethodName := ⟨RJ7, "fill", "([II)V"⟩
def RL : String := "BlockStoreLaw"
abbrev cL_law : ByteArray := code
def yL_law : MethodName := ⟨RL, "law", "([I)Z"⟩
abbrev vwCl : List vw_C := [(RX0, TX0, 6), (RX1, TX1, 4), (RX2, TX2, 3), (RX3, TX3, 3), (RX4, TX4, 8), (RX5, TX5, 28)]
end
section
theorem dX0_init_0 : decode cX0_init 0 = .ok (.aload_n 0, 1) := by decide +kernel
theorem dX0_init_1 : decode cX0_init 1 = .ok (.invokespecial 3, 3) := by decide +kernel
theorem dX0_init_4 : decode cX0_init 4 = .ok (.aload_n 0, 1) := by decide +kernel
theorem dX0_init_5 : decode cX0_init 5 = .ok (.ldc 9, 2) := by decide +kernel
theorem dX0_init_7 : decode cX0_init 7 = .ok (.newarray .int, 2) := by decide +kernel
theorem dX0_init_9 : decode cX0_init 9 = .ok (.putfield 10, 3) := by decide +kernel
theorem dX0_init_12 : decode cX0_init 12 = .ok (.aload_n 0, 1) := by decide +kernel
theorem dX0_init_13 : decode cX0_init 13 = .ok (.bipush 64, 2) := by decide +kernel
theorem dX0_init_15 : decode cX0_init 15 = .ok (.newarray .int, 2) := by decide +kernel
theorem dX0_init_17 : decode cX0_init 17 = .ok (.putfield 16, 3) := by decide +kernel
theorem dX0_init_20 : decode cX0_init 20 = .ok (.aload_n 0, 1) := by decide +kernel
theorem dX0_init_21 : decode cX0_init 21 = .ok (.iconst 0, 1) := by decide +kernel
theorem dX0_init_22 : decode cX0_init 22 = .ok (.putfield 19, 3) := by decide +kernel
theorem dX0_init_25 : decode cX0_init 25 = .ok (.aload_n 0, 1) := by decide +kernel
theorem dX0_init_26 : decode cX0_init 26 = .ok (.iconst 0, 1) := by decide +kernel
theorem dX0_init_27 : decode cX0_init 27 = .ok (.putfield 23, 3) := by decide +kernel
theorem dX0_init_30 : decode cX0_init 30 = .ok (.aload_n 0, 1) := by decide +kernel
theorem dX0_init_31 : decode cX0_init 31 = .ok (.iconst 0, 1) := by decide +kernel
theorem dX0_init_32 : decode cX0_init 32 = .ok (.putfield 26, 3) := by decide +kernel
theorem dX0_init_35 : decode cX0_init 35 = .ok (.aload_n 0, 1) := by decide +kernel
theorem dX0_init_36 : decode cX0_init 36 = .ok (.iconst 0, 1) := by decide +kernel
theorem dX0_init_37 : decode cX0_init 37 = .ok (.putfield 29, 3) := by decide +kernel
theorem dX0_init_40 : decode cX0_init 40 = .ok (.return_, 1) := by decide +kernel
theorem dX0_renew_0 : decode cX0_renew 0 = .ok (.aload_n 0, 1) := by decide +kernel
theorem dX0_renew_1 : decode cX0_renew 1 = .ok (.getfield 10, 3) := by decide +kernel
theorem dX0_renew_4 : decode cX0_renew 4 = .ok (.iconst 0, 1) := by decide +kernel
theorem dX0_renew_5 : decode cX0_renew 5 = .ok (.invokestatic 32, 3) := by decide +kernel
theorem dX0_renew_8 : decode cX0_renew 8 = .ok (.aload_n 0, 1) := by decide +kernel
theorem dX0_renew_9 : decode cX0_renew 9 = .ok (.iload_n 1, 1) := by decide +kernel
theorem dX0_renew_10 : decode cX0_renew 10 = .ok (.putfield 19, 3) := by decide +kernel
theorem dX0_renew_13 : decode cX0_renew 13 = .ok (.aload_n 0, 1) := by decide +kernel
theorem dX0_renew_14 : decode cX0_renew 14 = .ok (.iload_n 2, 1) := by decide +kernel
theorem dX0_renew_15 : decode cX0_renew 15 = .ok (.putfield 23, 3) := by decide +kernel
theorem dX0_renew_18 : decode cX0_renew 18 = .ok (.aload_n 0, 1) := by decide +kernel
theorem dX0_renew_19 : decode cX0_renew 19 = .ok (.iconst 0, 1) := by decide +kernel
theorem dX0_renew_20 : decode cX0_renew 20 = .ok (.putfield 26, 3) := by decide +kernel
theorem dX0_renew_23 : decode cX0_renew 23 = .ok (.aload_n 0, 1) := by decide +kernel
theorem dX0_renew_24 : decode cX0_renew 24 = .ok (.iconst 0, 1) := by decide +kernel
theorem dX0_renew_25 : decode cX0_renew 25 = .ok (.putfield 29, 3) := by decide +kernel
theorem dX0_renew_28 : decode cX0_renew 28 = .ok (.return_, 1) := by decide +kernel
theorem dX0_wordsInBlock_0 : decode cX0_wordsInBlock 0 = .ok (.aload_n 0, 1) := by decide +kernel
theorem dX0_wordsInBlock_1 : decode cX0_wordsInBlock 1 = .ok (.getfield 23, 3) := by decide +kernel
theorem dX0_wordsInBlock_4 : decode cX0_wordsInBlock 4 = .ok (.ireturn, 1) := by decide +kernel
theorem dX0_writesDone_0 : decode cX0_writesDone 0 = .ok (.aload_n 0, 1) := by decide +kernel
theorem dX0_writesDone_1 : decode cX0_writesDone 1 = .ok (.getfield 26, 3) := by decide +kernel
theorem dX0_writesDone_4 : decode cX0_writesDone 4 = .ok (.ireturn, 1) := by decide +kernel
theorem dX0_writesToFailure_0 : decode cX0_writesToFailure 0 = .ok (.aload_n 0, 1) := by decide +kernel
theorem dX0_writesToFailure_1 : decode cX0_writesToFailure 1 = .ok (.getfield 29, 3) := by decide +kernel
theorem dX0_writesToFailure_4 : decode cX0_writesToFailure 4 = .ok (.ireturn, 1) := by decide +kernel
theorem dX0_arm_0 : decode cX0_arm 0 = .ok (.aload_n 0, 1) := by decide +kernel
theorem dX0_arm_1 : decode cX0_arm 1 = .ok (.iload_n 1, 1) := by decide +kernel
theorem dX0_arm_2 : decode cX0_arm 2 = .ok (.iconst 0, 1) := by decide +kernel
theorem dX0_arm_3 : decode cX0_arm 3 = .ok (.invokestatic 38, 3) := by decide +kernel
theorem dX0_arm_6 : decode cX0_arm 6 = .ok (.putfield 29, 3) := by decide +kernel
theorem dX0_arm_9 : decode cX0_arm 9 = .ok (.return_, 1) := by decide +kernel
theorem dX0_wordAt_0 : decode cX0_wordAt 0 = .ok (.iload_n 1, 1) := by decide +kernel
theorem dX0_wordAt_1 : decode cX0_wordAt 1 = .ok (.ifCond .lt 23, 3) := by decide +kernel
theorem dX0_wordAt_4 : decode cX0_wordAt 4 = .ok (.iload_n 1, 1) := by decide +kernel
theorem dX0_wordAt_5 : decode cX0_wordAt 5 = .ok (.aload_n 0, 1) := by decide +kernel
theorem dX0_wordAt_6 : decode cX0_wordAt 6 = .ok (.getfield 19, 3) := by decide +kernel
theorem dX0_wordAt_9 : decode cX0_wordAt 9 = .ok (.if_icmp .ge 15, 3) := by decide +kernel
theorem dX0_wordAt_12 : decode cX0_wordAt 12 = .ok (.iload_n 2, 1) := by decide +kernel
theorem dX0_wordAt_13 : decode cX0_wordAt 13 = .ok (.ifCond .lt 11, 3) := by decide +kernel
theorem dX0_wordAt_16 : decode cX0_wordAt 16 = .ok (.iload_n 2, 1) := by decide +kernel
theorem dX0_wordAt_17 : decode cX0_wordAt 17 = .ok (.aload_n 0, 1) := by decide +kernel
theorem dX0_wordAt_18 : decode cX0_wordAt 18 = .ok (.getfield 23, 3) := by decide +kernel
theorem dX0_wordAt_21 : decode cX0_wordAt 21 = .ok (.if_icmp .lt 5, 3) := by decide +kernel
theorem dX0_wordAt_24 : decode cX0_wordAt 24 = .ok (.iconst 0, 1) := by decide +kernel
theorem dX0_wordAt_25 : decode cX0_wordAt 25 = .ok (.ireturn, 1) := by decide +kernel
theorem dX0_wordAt_26 : decode cX0_wordAt 26 = .ok (.aload_n 0, 1) := by decide +kernel
theorem dX0_wordAt_27 : decode cX0_wordAt 27 = .ok (.getfield 10, 3) := by decide +kernel
theorem dX0_wordAt_30 : decode cX0_wordAt 30 = .ok (.iload_n 1, 1) := by decide +kernel
theorem dX0_wordAt_31 : decode cX0_wordAt 31 = .ok (.aload_n 0, 1) := by decide +kernel
theorem dX0_wordAt_32 : decode cX0_wordAt 32 = .ok (.getfield 23, 3) := by decide +kernel
theorem dX0_wordAt_35 : decode cX0_wordAt 35 = .ok (.imul, 1) := by decide +kernel
theorem dX0_wordAt_36 : decode cX0_wordAt 36 = .ok (.iload_n 2, 1) := by decide +kernel
theorem dX0_wordAt_37 : decode cX0_wordAt 37 = .ok (.iadd, 1) := by decide +kernel
theorem dX0_wordAt_38 : decode cX0_wordAt 38 = .ok (.iaload, 1) := by decide +kernel
theorem dX0_wordAt_39 : decode cX0_wordAt 39 = .ok (.ireturn, 1) := by decide +kernel
theorem dX0_isGood_0 : decode cX0_isGood 0 = .ok (.aload_n 0, 1) := by decide +kernel
theorem dX0_isGood_1 : decode cX0_isGood 1 = .ok (.iload_n 1, 1) := by decide +kernel
theorem dX0_isGood_2 : decode cX0_isGood 2 = .ok (.aload_n 0, 1) := by decide +kernel
theorem dX0_isGood_3 : decode cX0_isGood 3 = .ok (.getfield 23, 3) := by decide +kernel
theorem dX0_isGood_6 : decode cX0_isGood 6 = .ok (.iconst 1, 1) := by decide +kernel
theorem dX0_isGood_7 : decode cX0_isGood 7 = .ok (.isub, 1) := by decide +kernel
theorem dX0_isGood_8 : decode cX0_isGood 8 = .ok (.invokevirtual 44, 3) := by decide +kernel
theorem dX0_isGood_11 : decode cX0_isGood 11 = .ok (.aload_n 0, 1) := by decide +kernel
theorem dX0_isGood_12 : decode cX0_isGood 12 = .ok (.iload_n 1, 1) := by decide +kernel
theorem dX0_isGood_13 : decode cX0_isGood 13 = .ok (.invokevirtual 47, 3) := by decide +kernel
theorem dX0_isGood_16 : decode cX0_isGood 16 = .ok (.if_icmp .ne 7, 3) := by decide +kernel
theorem dX0_isGood_19 : decode cX0_isGood 19 = .ok (.iconst 1, 1) := by decide +kernel
theorem dX0_isGood_20 : decode cX0_isGood 20 = .ok (.goto 4, 3) := by decide +kernel
theorem dX0_isGood_23 : decode cX0_isGood 23 = .ok (.iconst 0, 1) := by decide +kernel
theorem dX0_isGood_24 : decode cX0_isGood 24 = .ok (.ireturn, 1) := by decide +kernel
theorem dX0_clearPage_0 : decode cX0_clearPage 0 = .ok (.aload_n 0, 1) := by decide +kernel
theorem dX0_clearPage_1 : decode cX0_clearPage 1 = .ok (.getfield 16, 3) := by decide +kernel
theorem dX0_clearPage_4 : decode cX0_clearPage 4 = .ok (.iconst 0, 1) := by decide +kernel
theorem dX0_clearPage_5 : decode cX0_clearPage 5 = .ok (.invokestatic 32, 3) := by decide +kernel
theorem dX0_clearPage_8 : decode cX0_clearPage 8 = .ok (.return_, 1) := by decide +kernel
theorem dX0_setPage_0 : decode cX0_setPage 0 = .ok (.iload_n 1, 1) := by decide +kernel
theorem dX0_setPage_1 : decode cX0_setPage 1 = .ok (.ifCond .lt 20, 3) := by decide +kernel
theorem dX0_setPage_4 : decode cX0_setPage 4 = .ok (.iload_n 1, 1) := by decide +kernel
theorem dX0_setPage_5 : decode cX0_setPage 5 = .ok (.aload_n 0, 1) := by decide +kernel
theorem dX0_setPage_6 : decode cX0_setPage 6 = .ok (.getfield 23, 3) := by decide +kernel
theorem dX0_setPage_9 : decode cX0_setPage 9 = .ok (.iconst 1, 1) := by decide +kernel
theorem dX0_setPage_10 : decode cX0_setPage 10 = .ok (.isub, 1) := by decide +kernel
theorem dX0_setPage_11 : decode cX0_setPage 11 = .ok (.if_icmp .ge 10, 3) := by decide +kernel
theorem dX0_setPage_14 : decode cX0_setPage 14 = .ok (.aload_n 0, 1) := by decide +kernel
theorem dX0_setPage_15 : decode cX0_setPage 15 = .ok (.getfield 16, 3) := by decide +kernel
theorem dX0_setPage_18 : decode cX0_setPage 18 = .ok (.iload_n 1, 1) := by decide +kernel
theorem dX0_setPage_19 : decode cX0_setPage 19 = .ok (.iload_n 2, 1) := by decide +kernel
theorem dX0_setPage_20 : decode cX0_setPage 20 = .ok (.iastore, 1) := by decide +kernel
theorem dX0_setPage_21 : decode cX0_setPage 21 = .ok (.return_, 1) := by decide +kernel
theorem dX0_writePage_0 : decode cX0_writePage 0 = .ok (.aload_n 0, 1) := by decide +kernel
theorem dX0_writePage_1 : decode cX0_writePage 1 = .ok (.getfield 23, 3) := by decide +kernel
theorem dX0_writePage_4 : decode cX0_writePage 4 = .ok (.iconst 1, 1) := by decide +kernel
theorem dX0_writePage_5 : decode cX0_writePage 5 = .ok (.if_icmp .lt 15, 3) := by decide +kernel
theorem dX0_writePage_8 : decode cX0_writePage 8 = .ok (.iload_n 1, 1) := by decide +kernel
theorem dX0_writePage_9 : decode cX0_writePage 9 = .ok (.ifCond .lt 11, 3) := by decide +kernel
theorem dX0_writePage_12 : decode cX0_writePage 12 = .ok (.iload_n 1, 1) := by decide +kernel
theorem dX0_writePage_13 : decode cX0_writePage 13 = .ok (.aload_n 0, 1) := by decide +kernel
theorem dX0_writePage_14 : decode cX0_writePage 14 = .ok (.getfield 19, 3) := by decide +kernel
theorem dX0_writePage_17 : decode cX0_writePage 17 = .ok (.if_icmp .lt 5, 3) := by decide +kernel
theorem dX0_writePage_20 : decode cX0_writePage 20 = .ok (.iconst 0, 1) := by decide +kernel
theorem dX0_writePage_21 : decode cX0_writePage 21 = .ok (.ireturn, 1) := by decide +kernel
theorem dX0_writePage_22 : decode cX0_writePage 22 = .ok (.aload_n 0, 1) := by decide +kernel
theorem dX0_writePage_23 : decode cX0_writePage 23 = .ok (.getfield 29, 3) := by decide +kernel
theorem dX0_writePage_26 : decode cX0_writePage 26 = .ok (.ifCond .le 22, 3) := by decide +kernel
theorem dX0_writePage_29 : decode cX0_writePage 29 = .ok (.aload_n 0, 1) := by decide +kernel
theorem dX0_writePage_30 : decode cX0_writePage 30 = .ok (.dup, 1) := by decide +kernel
theorem dX0_writePage_31 : decode cX0_writePage 31 = .ok (.getfield 29, 3) := by decide +kernel
theorem dX0_writePage_34 : decode cX0_writePage 34 = .ok (.iconst 1, 1) := by decide +kernel
theorem dX0_writePage_35 : decode cX0_writePage 35 = .ok (.isub, 1) := by decide +kernel
theorem dX0_writePage_36 : decode cX0_writePage 36 = .ok (.putfield 29, 3) := by decide +kernel
theorem dX0_writePage_39 : decode cX0_writePage 39 = .ok (.aload_n 0, 1) := by decide +kernel
theorem dX0_writePage_40 : decode cX0_writePage 40 = .ok (.getfield 29, 3) := by decide +kernel
theorem dX0_writePage_43 : decode cX0_writePage 43 = .ok (.ifCond .ne 5, 3) := by decide +kernel
theorem dX0_writePage_46 : decode cX0_writePage 46 = .ok (.iconst 0, 1) := by decide +kernel
theorem dX0_writePage_47 : decode cX0_writePage 47 = .ok (.ireturn, 1) := by decide +kernel
theorem dX0_writePage_48 : decode cX0_writePage 48 = .ok (.aload_n 0, 1) := by decide +kernel
theorem dX0_writePage_49 : decode cX0_writePage 49 = .ok (.getfield 16, 3) := by decide +kernel
theorem dX0_writePage_52 : decode cX0_writePage 52 = .ok (.iconst 0, 1) := by decide +kernel
theorem dX0_writePage_53 : decode cX0_writePage 53 = .ok (.aload_n 0, 1) := by decide +kernel
theorem dX0_writePage_54 : decode cX0_writePage 54 = .ok (.getfield 10, 3) := by decide +kernel
theorem dX0_writePage_57 : decode cX0_writePage 57 = .ok (.iload_n 1, 1) := by decide +kernel
theorem dX0_writePage_58 : decode cX0_writePage 58 = .ok (.aload_n 0, 1) := by decide +kernel
theorem dX0_writePage_59 : decode cX0_writePage 59 = .ok (.getfield 23, 3) := by decide +kernel
theorem dX0_writePage_62 : decode cX0_writePage 62 = .ok (.imul, 1) := by decide +kernel
theorem dX0_writePage_63 : decode cX0_writePage 63 = .ok (.aload_n 0, 1) := by decide +kernel
theorem dX0_writePage_64 : decode cX0_writePage 64 = .ok (.getfield 23, 3) := by decide +kernel
theorem dX0_writePage_67 : decode cX0_writePage 67 = .ok (.invokestatic 51, 3) := by decide +kernel
theorem dX0_writePage_70 : decode cX0_writePage 70 = .ok (.aload_n 0, 1) := by decide +kernel
theorem dX0_writePage_71 : decode cX0_writePage 71 = .ok (.getfield 10, 3) := by decide +kernel
theorem dX0_writePage_74 : decode cX0_writePage 74 = .ok (.iload_n 1, 1) := by decide +kernel
theorem dX0_writePage_75 : decode cX0_writePage 75 = .ok (.aload_n 0, 1) := by decide +kernel
theorem dX0_writePage_76 : decode cX0_writePage 76 = .ok (.getfield 23, 3) := by decide +kernel
theorem dX0_writePage_79 : decode cX0_writePage 79 = .ok (.imul, 1) := by decide +kernel
theorem dX0_writePage_80 : decode cX0_writePage 80 = .ok (.aload_n 0, 1) := by decide +kernel
theorem dX0_writePage_81 : decode cX0_writePage 81 = .ok (.getfield 23, 3) := by decide +kernel
theorem dX0_writePage_84 : decode cX0_writePage 84 = .ok (.iadd, 1) := by decide +kernel
theorem dX0_writePage_85 : decode cX0_writePage 85 = .ok (.iconst 1, 1) := by decide +kernel
theorem dX0_writePage_86 : decode cX0_writePage 86 = .ok (.isub, 1) := by decide +kernel
theorem dX0_writePage_87 : decode cX0_writePage 87 = .ok (.aload_n 0, 1) := by decide +kernel
theorem dX0_writePage_88 : decode cX0_writePage 88 = .ok (.iload_n 1, 1) := by decide +kernel
theorem dX0_writePage_89 : decode cX0_writePage 89 = .ok (.invokevirtual 47, 3) := by decide +kernel
theorem dX0_writePage_92 : decode cX0_writePage 92 = .ok (.iastore, 1) := by decide +kernel
theorem dX0_writePage_93 : decode cX0_writePage 93 = .ok (.aload_n 0, 1) := by decide +kernel
theorem dX0_writePage_94 : decode cX0_writePage 94 = .ok (.dup, 1) := by decide +kernel
theorem dX0_writePage_95 : decode cX0_writePage 95 = .ok (.getfield 26, 3) := by decide +kernel
theorem dX0_writePage_98 : decode cX0_writePage 98 = .ok (.iconst 1, 1) := by decide +kernel
theorem dX0_writePage_99 : decode cX0_writePage 99 = .ok (.iadd, 1) := by decide +kernel
theorem dX0_writePage_100 : decode cX0_writePage 100 = .ok (.putfield 26, 3) := by decide +kernel
theorem dX0_writePage_103 : decode cX0_writePage 103 = .ok (.iconst 1, 1) := by decide +kernel
theorem dX0_writePage_104 : decode cX0_writePage 104 = .ok (.ireturn, 1) := by decide +kernel
theorem dX0_sumOf_0 : decode cX0_sumOf 0 = .ok (.bipush 7, 2) := by decide +kernel
theorem dX0_sumOf_2 : decode cX0_sumOf 2 = .ok (.istore_n 2, 1) := by decide +kernel
theorem dX0_sumOf_3 : decode cX0_sumOf 3 = .ok (.iconst 0, 1) := by decide +kernel
theorem dX0_sumOf_4 : decode cX0_sumOf 4 = .ok (.istore_n 3, 1) := by decide +kernel
theorem dX0_sumOf_5 : decode cX0_sumOf 5 = .ok (.iload_n 3, 1) := by decide +kernel
theorem dX0_sumOf_6 : decode cX0_sumOf 6 = .ok (.aload_n 0, 1) := by decide +kernel
theorem dX0_sumOf_7 : decode cX0_sumOf 7 = .ok (.getfield 23, 3) := by decide +kernel
theorem dX0_sumOf_10 : decode cX0_sumOf 10 = .ok (.iconst 1, 1) := by decide +kernel
theorem dX0_sumOf_11 : decode cX0_sumOf 11 = .ok (.isub, 1) := by decide +kernel
theorem dX0_sumOf_12 : decode cX0_sumOf 12 = .ok (.if_icmp .ge 21, 3) := by decide +kernel
theorem dX0_sumOf_15 : decode cX0_sumOf 15 = .ok (.bipush 31, 2) := by decide +kernel
theorem dX0_sumOf_17 : decode cX0_sumOf 17 = .ok (.iload_n 2, 1) := by decide +kernel
theorem dX0_sumOf_18 : decode cX0_sumOf 18 = .ok (.imul, 1) := by decide +kernel
theorem dX0_sumOf_19 : decode cX0_sumOf 19 = .ok (.aload_n 0, 1) := by decide +kernel
theorem dX0_sumOf_20 : decode cX0_sumOf 20 = .ok (.iload_n 1, 1) := by decide +kernel
theorem dX0_sumOf_21 : decode cX0_sumOf 21 = .ok (.iload_n 3, 1) := by decide +kernel
theorem dX0_sumOf_22 : decode cX0_sumOf 22 = .ok (.invokevirtual 44, 3) := by decide +kernel
theorem dX0_sumOf_25 : decode cX0_sumOf 25 = .ok (.iadd, 1) := by decide +kernel
theorem dX0_sumOf_26 : decode cX0_sumOf 26 = .ok (.istore_n 2, 1) := by decide +kernel
theorem dX0_sumOf_27 : decode cX0_sumOf 27 = .ok (.iinc 3 1, 3) := by decide +kernel
theorem dX0_sumOf_30 : decode cX0_sumOf 30 = .ok (.goto (-25), 3) := by decide +kernel
theorem dX0_sumOf_33 : decode cX0_sumOf 33 = .ok (.iload_n 2, 1) := by decide +kernel
theorem dX0_sumOf_34 : decode cX0_sumOf 34 = .ok (.ireturn, 1) := by decide +kernel
theorem dX1_init_0 : decode cX1_init 0 = .ok (.aload_n 0, 1) := by decide +kernel
theorem dX1_init_1 : decode cX1_init 1 = .ok (.invokespecial 1, 3) := by decide +kernel
theorem dX1_init_4 : decode cX1_init 4 = .ok (.aload_n 0, 1) := by decide +kernel
theorem dX1_init_5 : decode cX1_init 5 = .ok (.iconst 0, 1) := by decide +kernel
theorem dX1_init_6 : decode cX1_init 6 = .ok (.putfield 7, 3) := by decide +kernel
theorem dX1_init_9 : decode cX1_init 9 = .ok (.aload_n 0, 1) := by decide +kernel
theorem dX1_init_10 : decode cX1_init 10 = .ok (.iconst 0, 1) := by decide +kernel
theorem dX1_init_11 : decode cX1_init 11 = .ok (.putfield 13, 3) := by decide +kernel
theorem dX1_init_14 : decode cX1_init 14 = .ok (.aload_n 0, 1) := by decide +kernel
theorem dX1_init_15 : decode cX1_init 15 = .ok (.iconst 0, 1) := by decide +kernel
theorem dX1_init_16 : decode cX1_init 16 = .ok (.putfield 16, 3) := by decide +kernel
theorem dX1_init_19 : decode cX1_init 19 = .ok (.aload_n 0, 1) := by decide +kernel
theorem dX1_init_20 : decode cX1_init 20 = .ok (.aload_n 1, 1) := by decide +kernel
theorem dX1_init_21 : decode cX1_init 21 = .ok (.putfield 19, 3) := by decide +kernel
theorem dX1_init_24 : decode cX1_init 24 = .ok (.return_, 1) := by decide +kernel
theorem dX1_layOut_0 : decode cX1_layOut 0 = .ok (.aload_n 0, 1) := by decide +kernel
theorem dX1_layOut_1 : decode cX1_layOut 1 = .ok (.iload_n 1, 1) := by decide +kernel
theorem dX1_layOut_2 : decode cX1_layOut 2 = .ok (.putfield 7, 3) := by decide +kernel
theorem dX1_layOut_5 : decode cX1_layOut 5 = .ok (.aload_n 0, 1) := by decide +kernel
theorem dX1_layOut_6 : decode cX1_layOut 6 = .ok (.invokevirtual 23, 3) := by decide +kernel
theorem dX1_layOut_9 : decode cX1_layOut 9 = .ok (.return_, 1) := by decide +kernel
theorem dX1_restart_0 : decode cX1_restart 0 = .ok (.aload_n 0, 1) := by decide +kernel
theorem dX1_restart_1 : decode cX1_restart 1 = .ok (.iconst 0, 1) := by decide +kernel
theorem dX1_restart_2 : decode cX1_restart 2 = .ok (.putfield 13, 3) := by decide +kernel
theorem dX1_restart_5 : decode cX1_restart 5 = .ok (.aload_n 0, 1) := by decide +kernel
theorem dX1_restart_6 : decode cX1_restart 6 = .ok (.iconst 0, 1) := by decide +kernel
theorem dX1_restart_7 : decode cX1_restart 7 = .ok (.putfield 16, 3) := by decide +kernel
theorem dX1_restart_10 : decode cX1_restart 10 = .ok (.return_, 1) := by decide +kernel
theorem dX1_usedBlocks_0 : decode cX1_usedBlocks 0 = .ok (.aload_n 0, 1) := by decide +kernel
theorem dX1_usedBlocks_1 : decode cX1_usedBlocks 1 = .ok (.getfield 13, 3) := by decide +kernel
theorem dX1_usedBlocks_4 : decode cX1_usedBlocks 4 = .ok (.ireturn, 1) := by decide +kernel
theorem dX1_recordCount_0 : decode cX1_recordCount 0 = .ok (.aload_n 0, 1) := by decide +kernel
theorem dX1_recordCount_1 : decode cX1_recordCount 1 = .ok (.getfield 16, 3) := by decide +kernel
theorem dX1_recordCount_4 : decode cX1_recordCount 4 = .ok (.ireturn, 1) := by decide +kernel
theorem dX1_hasRoom_0 : decode cX1_hasRoom 0 = .ok (.aload_n 0, 1) := by decide +kernel
theorem dX1_hasRoom_1 : decode cX1_hasRoom 1 = .ok (.iload_n 1, 1) := by decide +kernel
theorem dX1_hasRoom_2 : decode cX1_hasRoom 2 = .ok (.invokevirtual 26, 3) := by decide +kernel
theorem dX1_hasRoom_5 : decode cX1_hasRoom 5 = .ok (.aload_n 0, 1) := by decide +kernel
theorem dX1_hasRoom_6 : decode cX1_hasRoom 6 = .ok (.getfield 7, 3) := by decide +kernel
theorem dX1_hasRoom_9 : decode cX1_hasRoom 9 = .ok (.aload_n 0, 1) := by decide +kernel
theorem dX1_hasRoom_10 : decode cX1_hasRoom 10 = .ok (.getfield 13, 3) := by decide +kernel
theorem dX1_hasRoom_13 : decode cX1_hasRoom 13 = .ok (.isub, 1) := by decide +kernel
theorem dX1_hasRoom_14 : decode cX1_hasRoom 14 = .ok (.if_icmp .gt 7, 3) := by decide +kernel
theorem dX1_hasRoom_17 : decode cX1_hasRoom 17 = .ok (.iconst 1, 1) := by decide +kernel
theorem dX1_hasRoom_18 : decode cX1_hasRoom 18 = .ok (.goto 4, 3) := by decide +kernel
theorem dX1_hasRoom_21 : decode cX1_hasRoom 21 = .ok (.iconst 0, 1) := by decide +kernel
theorem dX1_hasRoom_22 : decode cX1_hasRoom 22 = .ok (.ireturn, 1) := by decide +kernel
theorem dX1_append_0 : decode cX1_append 0 = .ok (.aload_n 0, 1) := by decide +kernel
theorem dX1_append_1 : decode cX1_append 1 = .ok (.aload_n 1, 1) := by decide +kernel
theorem dX1_append_2 : decode cX1_append 2 = .ok (.invokevirtual 30, 3) := by decide +kernel
theorem dX1_append_5 : decode cX1_append 5 = .ok (.invokevirtual 26, 3) := by decide +kernel
theorem dX1_append_8 : decode cX1_append 8 = .ok (.istore 5, 2) := by decide +kernel
theorem dX1_append_10 : decode cX1_append 10 = .ok (.iload 5, 2) := by decide +kernel
theorem dX1_append_12 : decode cX1_append 12 = .ok (.ifCond .ne 5, 3) := by decide +kernel
theorem dX1_append_15 : decode cX1_append 15 = .ok (.iconst 1, 1) := by decide +kernel
theorem dX1_append_16 : decode cX1_append 16 = .ok (.ireturn, 1) := by decide +kernel
theorem dX1_append_17 : decode cX1_append 17 = .ok (.iconst 0, 1) := by decide +kernel
theorem dX1_append_18 : decode cX1_append 18 = .ok (.istore 6, 2) := by decide +kernel
theorem dX1_append_20 : decode cX1_append 20 = .ok (.iload 6, 2) := by decide +kernel
theorem dX1_append_22 : decode cX1_append 22 = .ok (.iload 5, 2) := by decide +kernel
theorem dX1_append_24 : decode cX1_append 24 = .ok (.if_icmp .ge 93, 3) := by decide +kernel
theorem dX1_append_27 : decode cX1_append 27 = .ok (.aload_n 0, 1) := by decide +kernel
theorem dX1_append_28 : decode cX1_append 28 = .ok (.getfield 19, 3) := by decide +kernel
theorem dX1_append_31 : decode cX1_append 31 = .ok (.invokevirtual 36, 3) := by decide +kernel
theorem dX1_append_34 : decode cX1_append 34 = .ok (.aload_n 0, 1) := by decide +kernel
theorem dX1_append_35 : decode cX1_append 35 = .ok (.getfield 19, 3) := by decide +kernel
theorem dX1_append_38 : decode cX1_append 38 = .ok (.iconst 0, 1) := by decide +kernel
theorem dX1_append_39 : decode cX1_append 39 = .ok (.iload_n 3, 1) := by decide +kernel
theorem dX1_append_40 : decode cX1_append 40 = .ok (.invokevirtual 41, 3) := by decide +kernel
theorem dX1_append_43 : decode cX1_append 43 = .ok (.aload_n 0, 1) := by decide +kernel
theorem dX1_append_44 : decode cX1_append 44 = .ok (.getfield 19, 3) := by decide +kernel
theorem dX1_append_47 : decode cX1_append 47 = .ok (.iconst 1, 1) := by decide +kernel
theorem dX1_append_48 : decode cX1_append 48 = .ok (.aload_n 0, 1) := by decide +kernel
theorem dX1_append_49 : decode cX1_append 49 = .ok (.getfield 16, 3) := by decide +kernel
theorem dX1_append_52 : decode cX1_append 52 = .ok (.iconst 1, 1) := by decide +kernel
theorem dX1_append_53 : decode cX1_append 53 = .ok (.iadd, 1) := by decide +kernel
theorem dX1_append_54 : decode cX1_append 54 = .ok (.invokevirtual 41, 3) := by decide +kernel
theorem dX1_append_57 : decode cX1_append 57 = .ok (.aload_n 0, 1) := by decide +kernel
theorem dX1_append_58 : decode cX1_append 58 = .ok (.getfield 19, 3) := by decide +kernel
theorem dX1_append_61 : decode cX1_append 61 = .ok (.iconst 2, 1) := by decide +kernel
theorem dX1_append_62 : decode cX1_append 62 = .ok (.iload 6, 2) := by decide +kernel
theorem dX1_append_64 : decode cX1_append 64 = .ok (.invokevirtual 41, 3) := by decide +kernel
theorem dX1_append_67 : decode cX1_append 67 = .ok (.aload_n 0, 1) := by decide +kernel
theorem dX1_append_68 : decode cX1_append 68 = .ok (.getfield 19, 3) := by decide +kernel
theorem dX1_append_71 : decode cX1_append 71 = .ok (.iconst 3, 1) := by decide +kernel
theorem dX1_append_72 : decode cX1_append 72 = .ok (.iload 4, 2) := by decide +kernel
theorem dX1_append_74 : decode cX1_append 74 = .ok (.invokevirtual 41, 3) := by decide +kernel
theorem dX1_append_77 : decode cX1_append 77 = .ok (.aload_n 0, 1) := by decide +kernel
theorem dX1_append_78 : decode cX1_append 78 = .ok (.aload_n 1, 1) := by decide +kernel
theorem dX1_append_79 : decode cX1_append 79 = .ok (.aload_n 2, 1) := by decide +kernel
theorem dX1_append_80 : decode cX1_append 80 = .ok (.iload 6, 2) := by decide +kernel
theorem dX1_append_82 : decode cX1_append 82 = .ok (.aload_n 0, 1) := by decide +kernel
theorem dX1_append_83 : decode cX1_append 83 = .ok (.invokevirtual 45, 3) := by decide +kernel
theorem dX1_append_86 : decode cX1_append 86 = .ok (.imul, 1) := by decide +kernel
theorem dX1_append_87 : decode cX1_append 87 = .ok (.invokevirtual 48, 3) := by decide +kernel
theorem dX1_append_90 : decode cX1_append 90 = .ok (.aload_n 0, 1) := by decide +kernel
theorem dX1_append_91 : decode cX1_append 91 = .ok (.getfield 19, 3) := by decide +kernel
theorem dX1_append_94 : decode cX1_append 94 = .ok (.iconst 1, 1) := by decide +kernel
theorem dX1_append_95 : decode cX1_append 95 = .ok (.aload_n 0, 1) := by decide +kernel
theorem dX1_append_96 : decode cX1_append 96 = .ok (.getfield 13, 3) := by decide +kernel
theorem dX1_append_99 : decode cX1_append 99 = .ok (.iadd, 1) := by decide +kernel
theorem dX1_append_100 : decode cX1_append 100 = .ok (.iload 6, 2) := by decide +kernel
theorem dX1_append_102 : decode cX1_append 102 = .ok (.iadd, 1) := by decide +kernel
theorem dX1_append_103 : decode cX1_append 103 = .ok (.invokevirtual 52, 3) := by decide +kernel
theorem dX1_append_106 : decode cX1_append 106 = .ok (.ifCond .ne 5, 3) := by decide +kernel
theorem dX1_append_109 : decode cX1_append 109 = .ok (.iconst 0, 1) := by decide +kernel
theorem dX1_append_110 : decode cX1_append 110 = .ok (.ireturn, 1) := by decide +kernel
theorem dX1_append_111 : decode cX1_append 111 = .ok (.iinc 6 1, 3) := by decide +kernel
theorem dX1_append_114 : decode cX1_append 114 = .ok (.goto (-94), 3) := by decide +kernel
theorem dX1_append_117 : decode cX1_append 117 = .ok (.aload_n 0, 1) := by decide +kernel
theorem dX1_append_118 : decode cX1_append 118 = .ok (.dup, 1) := by decide +kernel
theorem dX1_append_119 : decode cX1_append 119 = .ok (.getfield 13, 3) := by decide +kernel
theorem dX1_append_122 : decode cX1_append 122 = .ok (.iload 5, 2) := by decide +kernel
theorem dX1_append_124 : decode cX1_append 124 = .ok (.iadd, 1) := by decide +kernel
theorem dX1_append_125 : decode cX1_append 125 = .ok (.putfield 13, 3) := by decide +kernel
theorem dX1_append_128 : decode cX1_append 128 = .ok (.aload_n 0, 1) := by decide +kernel
theorem dX1_append_129 : decode cX1_append 129 = .ok (.dup, 1) := by decide +kernel
theorem dX1_append_130 : decode cX1_append 130 = .ok (.getfield 16, 3) := by decide +kernel
theorem dX1_append_133 : decode cX1_append 133 = .ok (.iconst 1, 1) := by decide +kernel
theorem dX1_append_134 : decode cX1_append 134 = .ok (.iadd, 1) := by decide +kernel
theorem dX1_append_135 : decode cX1_append 135 = .ok (.putfield 16, 3) := by decide +kernel
theorem dX1_append_138 : decode cX1_append 138 = .ok (.iconst 1, 1) := by decide +kernel
theorem dX1_append_139 : decode cX1_append 139 = .ok (.ireturn, 1) := by decide +kernel
theorem dX1_replay_0 : decode cX1_replay 0 = .ok (.aload_n 0, 1) := by decide +kernel
theorem dX1_replay_1 : decode cX1_replay 1 = .ok (.invokevirtual 23, 3) := by decide +kernel
theorem dX1_replay_4 : decode cX1_replay 4 = .ok (.iconst 0, 1) := by decide +kernel
theorem dX1_replay_5 : decode cX1_replay 5 = .ok (.istore_n 3, 1) := by decide +kernel
theorem dX1_replay_6 : decode cX1_replay 6 = .ok (.iload_n 3, 1) := by decide +kernel
theorem dX1_replay_7 : decode cX1_replay 7 = .ok (.aload_n 0, 1) := by decide +kernel
theorem dX1_replay_8 : decode cX1_replay 8 = .ok (.getfield 7, 3) := by decide +kernel
theorem dX1_replay_11 : decode cX1_replay 11 = .ok (.if_icmp .ge 66, 3) := by decide +kernel
theorem dX1_replay_14 : decode cX1_replay 14 = .ok (.iconst 1, 1) := by decide +kernel
theorem dX1_replay_15 : decode cX1_replay 15 = .ok (.aload_n 0, 1) := by decide +kernel
theorem dX1_replay_16 : decode cX1_replay 16 = .ok (.getfield 13, 3) := by decide +kernel
theorem dX1_replay_19 : decode cX1_replay 19 = .ok (.iadd, 1) := by decide +kernel
theorem dX1_replay_20 : decode cX1_replay 20 = .ok (.istore 4, 2) := by decide +kernel
theorem dX1_replay_22 : decode cX1_replay 22 = .ok (.aload_n 0, 1) := by decide +kernel
theorem dX1_replay_23 : decode cX1_replay 23 = .ok (.iload 4, 2) := by decide +kernel
theorem dX1_replay_25 : decode cX1_replay 25 = .ok (.iload_n 2, 1) := by decide +kernel
theorem dX1_replay_26 : decode cX1_replay 26 = .ok (.aload_n 0, 1) := by decide +kernel
theorem dX1_replay_27 : decode cX1_replay 27 = .ok (.getfield 16, 3) := by decide +kernel
theorem dX1_replay_30 : decode cX1_replay 30 = .ok (.iconst 1, 1) := by decide +kernel
theorem dX1_replay_31 : decode cX1_replay 31 = .ok (.iadd, 1) := by decide +kernel
theorem dX1_replay_32 : decode cX1_replay 32 = .ok (.invokevirtual 56, 3) := by decide +kernel
theorem dX1_replay_35 : decode cX1_replay 35 = .ok (.istore 5, 2) := by decide +kernel
theorem dX1_replay_37 : decode cX1_replay 37 = .ok (.iload 5, 2) := by decide +kernel
theorem dX1_replay_39 : decode cX1_replay 39 = .ok (.ifCond .ne 4, 3) := by decide +kernel
theorem dX1_replay_42 : decode cX1_replay 42 = .ok (.return_, 1) := by decide +kernel
theorem dX1_replay_43 : decode cX1_replay 43 = .ok (.aload_n 0, 1) := by decide +kernel
theorem dX1_replay_44 : decode cX1_replay 44 = .ok (.aload_n 1, 1) := by decide +kernel
theorem dX1_replay_45 : decode cX1_replay 45 = .ok (.iload 4, 2) := by decide +kernel
theorem dX1_replay_47 : decode cX1_replay 47 = .ok (.invokevirtual 60, 3) := by decide +kernel
theorem dX1_replay_50 : decode cX1_replay 50 = .ok (.aload_n 0, 1) := by decide +kernel
theorem dX1_replay_51 : decode cX1_replay 51 = .ok (.dup, 1) := by decide +kernel
theorem dX1_replay_52 : decode cX1_replay 52 = .ok (.getfield 13, 3) := by decide +kernel
theorem dX1_replay_55 : decode cX1_replay 55 = .ok (.iload 5, 2) := by decide +kernel
theorem dX1_replay_57 : decode cX1_replay 57 = .ok (.iadd, 1) := by decide +kernel
theorem dX1_replay_58 : decode cX1_replay 58 = .ok (.putfield 13, 3) := by decide +kernel
theorem dX1_replay_61 : decode cX1_replay 61 = .ok (.aload_n 0, 1) := by decide +kernel
theorem dX1_replay_62 : decode cX1_replay 62 = .ok (.dup, 1) := by decide +kernel
theorem dX1_replay_63 : decode cX1_replay 63 = .ok (.getfield 16, 3) := by decide +kernel
theorem dX1_replay_66 : decode cX1_replay 66 = .ok (.iconst 1, 1) := by decide +kernel
theorem dX1_replay_67 : decode cX1_replay 67 = .ok (.iadd, 1) := by decide +kernel
theorem dX1_replay_68 : decode cX1_replay 68 = .ok (.putfield 16, 3) := by decide +kernel
theorem dX1_replay_71 : decode cX1_replay 71 = .ok (.iinc 3 1, 3) := by decide +kernel
theorem dX1_replay_74 : decode cX1_replay 74 = .ok (.goto (-68), 3) := by decide +kernel
theorem dX1_replay_77 : decode cX1_replay 77 = .ok (.return_, 1) := by decide +kernel
theorem dX1_partInts_0 : decode cX1_partInts 0 = .ok (.aload_n 0, 1) := by decide +kernel
theorem dX1_partInts_1 : decode cX1_partInts 1 = .ok (.getfield 19, 3) := by decide +kernel
theorem dX1_partInts_4 : decode cX1_partInts 4 = .ok (.invokevirtual 64, 3) := by decide +kernel
theorem dX1_partInts_7 : decode cX1_partInts 7 = .ok (.iconst 5, 1) := by decide +kernel
theorem dX1_partInts_8 : decode cX1_partInts 8 = .ok (.isub, 1) := by decide +kernel
theorem dX1_partInts_9 : decode cX1_partInts 9 = .ok (.ireturn, 1) := by decide +kernel
theorem dX1_blocksFor_0 : decode cX1_blocksFor 0 = .ok (.iload_n 1, 1) := by decide +kernel
theorem dX1_blocksFor_1 : decode cX1_blocksFor 1 = .ok (.iconst 1, 1) := by decide +kernel
theorem dX1_blocksFor_2 : decode cX1_blocksFor 2 = .ok (.if_icmp .ge 7, 3) := by decide +kernel
theorem dX1_blocksFor_5 : decode cX1_blocksFor 5 = .ok (.iconst 0, 1) := by decide +kernel
theorem dX1_blocksFor_6 : decode cX1_blocksFor 6 = .ok (.goto 15, 3) := by decide +kernel
theorem dX1_blocksFor_9 : decode cX1_blocksFor 9 = .ok (.iconst 1, 1) := by decide +kernel
theorem dX1_blocksFor_10 : decode cX1_blocksFor 10 = .ok (.iconst 3, 1) := by decide +kernel
theorem dX1_blocksFor_11 : decode cX1_blocksFor 11 = .ok (.iload_n 1, 1) := by decide +kernel
theorem dX1_blocksFor_12 : decode cX1_blocksFor 12 = .ok (.imul, 1) := by decide +kernel
theorem dX1_blocksFor_13 : decode cX1_blocksFor 13 = .ok (.iadd, 1) := by decide +kernel
theorem dX1_blocksFor_14 : decode cX1_blocksFor 14 = .ok (.aload_n 0, 1) := by decide +kernel
theorem dX1_blocksFor_15 : decode cX1_blocksFor 15 = .ok (.invokevirtual 45, 3) := by decide +kernel
theorem dX1_blocksFor_18 : decode cX1_blocksFor 18 = .ok (.invokestatic 67, 3) := by decide +kernel
theorem dX1_blocksFor_21 : decode cX1_blocksFor 21 = .ok (.ireturn, 1) := by decide +kernel
theorem dX1_fillPage_0 : decode cX1_fillPage 0 = .ok (.iconst 1, 1) := by decide +kernel
theorem dX1_fillPage_1 : decode cX1_fillPage 1 = .ok (.iconst 3, 1) := by decide +kernel
theorem dX1_fillPage_2 : decode cX1_fillPage 2 = .ok (.aload_n 1, 1) := by decide +kernel
theorem dX1_fillPage_3 : decode cX1_fillPage 3 = .ok (.invokevirtual 30, 3) := by decide +kernel
theorem dX1_fillPage_6 : decode cX1_fillPage 6 = .ok (.imul, 1) := by decide +kernel
theorem dX1_fillPage_7 : decode cX1_fillPage 7 = .ok (.iadd, 1) := by decide +kernel
theorem dX1_fillPage_8 : decode cX1_fillPage 8 = .ok (.istore 4, 2) := by decide +kernel
theorem dX1_fillPage_10 : decode cX1_fillPage 10 = .ok (.iconst 0, 1) := by decide +kernel
theorem dX1_fillPage_11 : decode cX1_fillPage 11 = .ok (.istore 5, 2) := by decide +kernel
theorem dX1_fillPage_13 : decode cX1_fillPage 13 = .ok (.iload 5, 2) := by decide +kernel
theorem dX1_fillPage_15 : decode cX1_fillPage 15 = .ok (.aload_n 0, 1) := by decide +kernel
theorem dX1_fillPage_16 : decode cX1_fillPage 16 = .ok (.invokevirtual 45, 3) := by decide +kernel
theorem dX1_fillPage_19 : decode cX1_fillPage 19 = .ok (.if_icmp .ge 38, 3) := by decide +kernel
theorem dX1_fillPage_22 : decode cX1_fillPage 22 = .ok (.iload_n 3, 1) := by decide +kernel
theorem dX1_fillPage_23 : decode cX1_fillPage 23 = .ok (.iload 5, 2) := by decide +kernel
theorem dX1_fillPage_25 : decode cX1_fillPage 25 = .ok (.iadd, 1) := by decide +kernel
theorem dX1_fillPage_26 : decode cX1_fillPage 26 = .ok (.iload 4, 2) := by decide +kernel
theorem dX1_fillPage_28 : decode cX1_fillPage 28 = .ok (.if_icmp .ge 29, 3) := by decide +kernel
theorem dX1_fillPage_31 : decode cX1_fillPage 31 = .ok (.aload_n 0, 1) := by decide +kernel
theorem dX1_fillPage_32 : decode cX1_fillPage 32 = .ok (.getfield 19, 3) := by decide +kernel
theorem dX1_fillPage_35 : decode cX1_fillPage 35 = .ok (.iconst 4, 1) := by decide +kernel
theorem dX1_fillPage_36 : decode cX1_fillPage 36 = .ok (.iload 5, 2) := by decide +kernel
theorem dX1_fillPage_38 : decode cX1_fillPage 38 = .ok (.iadd, 1) := by decide +kernel
theorem dX1_fillPage_39 : decode cX1_fillPage 39 = .ok (.aload_n 1, 1) := by decide +kernel
theorem dX1_fillPage_40 : decode cX1_fillPage 40 = .ok (.aload_n 2, 1) := by decide +kernel
theorem dX1_fillPage_41 : decode cX1_fillPage 41 = .ok (.iload_n 3, 1) := by decide +kernel
theorem dX1_fillPage_42 : decode cX1_fillPage 42 = .ok (.iload 5, 2) := by decide +kernel
theorem dX1_fillPage_44 : decode cX1_fillPage 44 = .ok (.iadd, 1) := by decide +kernel
theorem dX1_fillPage_45 : decode cX1_fillPage 45 = .ok (.invokestatic 73, 3) := by decide +kernel
theorem dX1_fillPage_48 : decode cX1_fillPage 48 = .ok (.invokevirtual 41, 3) := by decide +kernel
theorem dX1_fillPage_51 : decode cX1_fillPage 51 = .ok (.iinc 5 1, 3) := by decide +kernel
theorem dX1_fillPage_54 : decode cX1_fillPage 54 = .ok (.goto (-41), 3) := by decide +kernel
theorem dX1_fillPage_57 : decode cX1_fillPage 57 = .ok (.return_, 1) := by decide +kernel
theorem dX1_recordInt_0 : decode cX1_recordInt 0 = .ok (.iload_n 2, 1) := by decide +kernel
theorem dX1_recordInt_1 : decode cX1_recordInt 1 = .ok (.ifCond .ne 8, 3) := by decide +kernel
theorem dX1_recordInt_4 : decode cX1_recordInt 4 = .ok (.aload_n 0, 1) := by decide +kernel
theorem dX1_recordInt_5 : decode cX1_recordInt 5 = .ok (.invokevirtual 30, 3) := by decide +kernel
theorem dX1_recordInt_8 : decode cX1_recordInt 8 = .ok (.ireturn, 1) := by decide +kernel
theorem dX1_recordInt_9 : decode cX1_recordInt 9 = .ok (.iload_n 2, 1) := by decide +kernel
theorem dX1_recordInt_10 : decode cX1_recordInt 10 = .ok (.iconst 1, 1) := by decide +kernel
theorem dX1_recordInt_11 : decode cX1_recordInt 11 = .ok (.isub, 1) := by decide +kernel
theorem dX1_recordInt_12 : decode cX1_recordInt 12 = .ok (.iconst 3, 1) := by decide +kernel
theorem dX1_recordInt_13 : decode cX1_recordInt 13 = .ok (.idiv, 1) := by decide +kernel
theorem dX1_recordInt_14 : decode cX1_recordInt 14 = .ok (.istore_n 3, 1) := by decide +kernel
theorem dX1_recordInt_15 : decode cX1_recordInt 15 = .ok (.iload_n 2, 1) := by decide +kernel
theorem dX1_recordInt_16 : decode cX1_recordInt 16 = .ok (.iconst 1, 1) := by decide +kernel
theorem dX1_recordInt_17 : decode cX1_recordInt 17 = .ok (.isub, 1) := by decide +kernel
theorem dX1_recordInt_18 : decode cX1_recordInt 18 = .ok (.iconst 3, 1) := by decide +kernel
theorem dX1_recordInt_19 : decode cX1_recordInt 19 = .ok (.irem, 1) := by decide +kernel
theorem dX1_recordInt_20 : decode cX1_recordInt 20 = .ok (.lookupswitch 52 #[(0, 28), (1, 46)], 28) := by decide +kernel
theorem dX1_recordInt_48 : decode cX1_recordInt 48 = .ok (.aload_n 1, 1) := by decide +kernel
theorem dX1_recordInt_49 : decode cX1_recordInt 49 = .ok (.aload_n 0, 1) := by decide +kernel
theorem dX1_recordInt_50 : decode cX1_recordInt 50 = .ok (.iload_n 3, 1) := by decide +kernel
theorem dX1_recordInt_51 : decode cX1_recordInt 51 = .ok (.invokevirtual 77, 3) := by decide +kernel
theorem dX1_recordInt_54 : decode cX1_recordInt 54 = .ok (.invokevirtual 80, 3) := by decide +kernel
theorem dX1_recordInt_57 : decode cX1_recordInt 57 = .ok (.ifCond .eq 7, 3) := by decide +kernel
theorem dX1_recordInt_60 : decode cX1_recordInt 60 = .ok (.iconst 1, 1) := by decide +kernel
theorem dX1_recordInt_61 : decode cX1_recordInt 61 = .ok (.goto 4, 3) := by decide +kernel
theorem dX1_recordInt_64 : decode cX1_recordInt 64 = .ok (.iconst 2, 1) := by decide +kernel
theorem dX1_recordInt_65 : decode cX1_recordInt 65 = .ok (.ireturn, 1) := by decide +kernel
theorem dX1_recordInt_66 : decode cX1_recordInt 66 = .ok (.aload_n 0, 1) := by decide +kernel
theorem dX1_recordInt_67 : decode cX1_recordInt 67 = .ok (.iload_n 3, 1) := by decide +kernel
theorem dX1_recordInt_68 : decode cX1_recordInt 68 = .ok (.invokevirtual 77, 3) := by decide +kernel
theorem dX1_recordInt_71 : decode cX1_recordInt 71 = .ok (.ireturn, 1) := by decide +kernel
theorem dX1_recordInt_72 : decode cX1_recordInt 72 = .ok (.aload_n 0, 1) := by decide +kernel
theorem dX1_recordInt_73 : decode cX1_recordInt 73 = .ok (.iload_n 3, 1) := by decide +kernel
theorem dX1_recordInt_74 : decode cX1_recordInt 74 = .ok (.invokevirtual 83, 3) := by decide +kernel
theorem dX1_recordInt_77 : decode cX1_recordInt 77 = .ok (.ireturn, 1) := by decide +kernel
theorem dX1_wholeParts_0 : decode cX1_wholeParts 0 = .ok (.iconst 1, 1) := by decide +kernel
theorem dX1_wholeParts_1 : decode cX1_wholeParts 1 = .ok (.aload_n 0, 1) := by decide +kernel
theorem dX1_wholeParts_2 : decode cX1_wholeParts 2 = .ok (.getfield 7, 3) := by decide +kernel
theorem dX1_wholeParts_5 : decode cX1_wholeParts 5 = .ok (.iadd, 1) := by decide +kernel
theorem dX1_wholeParts_6 : decode cX1_wholeParts 6 = .ok (.iload_n 1, 1) := by decide +kernel
theorem dX1_wholeParts_7 : decode cX1_wholeParts 7 = .ok (.isub, 1) := by decide +kernel
theorem dX1_wholeParts_8 : decode cX1_wholeParts 8 = .ok (.istore 4, 2) := by decide +kernel
theorem dX1_wholeParts_10 : decode cX1_wholeParts 10 = .ok (.aload_n 0, 1) := by decide +kernel
theorem dX1_wholeParts_11 : decode cX1_wholeParts 11 = .ok (.getfield 19, 3) := by decide +kernel
theorem dX1_wholeParts_14 : decode cX1_wholeParts 14 = .ok (.iload_n 1, 1) := by decide +kernel
theorem dX1_wholeParts_15 : decode cX1_wholeParts 15 = .ok (.iconst 3, 1) := by decide +kernel
theorem dX1_wholeParts_16 : decode cX1_wholeParts 16 = .ok (.invokevirtual 86, 3) := by decide +kernel
theorem dX1_wholeParts_19 : decode cX1_wholeParts 19 = .ok (.istore 5, 2) := by decide +kernel
theorem dX1_wholeParts_21 : decode cX1_wholeParts 21 = .ok (.iload 4, 2) := by decide +kernel
theorem dX1_wholeParts_23 : decode cX1_wholeParts 23 = .ok (.iconst 1, 1) := by decide +kernel
theorem dX1_wholeParts_24 : decode cX1_wholeParts 24 = .ok (.if_icmp .lt 16, 3) := by decide +kernel
theorem dX1_wholeParts_27 : decode cX1_wholeParts 27 = .ok (.aload_n 0, 1) := by decide +kernel
theorem dX1_wholeParts_28 : decode cX1_wholeParts 28 = .ok (.iload_n 1, 1) := by decide +kernel
theorem dX1_wholeParts_29 : decode cX1_wholeParts 29 = .ok (.iload_n 2, 1) := by decide +kernel
theorem dX1_wholeParts_30 : decode cX1_wholeParts 30 = .ok (.iload_n 3, 1) := by decide +kernel
theorem dX1_wholeParts_31 : decode cX1_wholeParts 31 = .ok (.iconst 0, 1) := by decide +kernel
theorem dX1_wholeParts_32 : decode cX1_wholeParts 32 = .ok (.iload 5, 2) := by decide +kernel
theorem dX1_wholeParts_34 : decode cX1_wholeParts 34 = .ok (.invokevirtual 89, 3) := by decide +kernel
theorem dX1_wholeParts_37 : decode cX1_wholeParts 37 = .ok (.ifCond .ne 5, 3) := by decide +kernel
theorem dX1_wholeParts_40 : decode cX1_wholeParts 40 = .ok (.iconst 0, 1) := by decide +kernel
theorem dX1_wholeParts_41 : decode cX1_wholeParts 41 = .ok (.ireturn, 1) := by decide +kernel
theorem dX1_wholeParts_42 : decode cX1_wholeParts 42 = .ok (.aload_n 0, 1) := by decide +kernel
theorem dX1_wholeParts_43 : decode cX1_wholeParts 43 = .ok (.getfield 19, 3) := by decide +kernel
theorem dX1_wholeParts_46 : decode cX1_wholeParts 46 = .ok (.iload_n 1, 1) := by decide +kernel
theorem dX1_wholeParts_47 : decode cX1_wholeParts 47 = .ok (.iconst 4, 1) := by decide +kernel
theorem dX1_wholeParts_48 : decode cX1_wholeParts 48 = .ok (.invokevirtual 86, 3) := by decide +kernel
theorem dX1_wholeParts_51 : decode cX1_wholeParts 51 = .ok (.istore 6, 2) := by decide +kernel
theorem dX1_wholeParts_53 : decode cX1_wholeParts 53 = .ok (.iload 6, 2) := by decide +kernel
theorem dX1_wholeParts_55 : decode cX1_wholeParts 55 = .ok (.iconst 1, 1) := by decide +kernel
theorem dX1_wholeParts_56 : decode cX1_wholeParts 56 = .ok (.if_icmp .lt 15, 3) := by decide +kernel
theorem dX1_wholeParts_59 : decode cX1_wholeParts 59 = .ok (.iload 6, 2) := by decide +kernel
theorem dX1_wholeParts_61 : decode cX1_wholeParts 61 = .ok (.iload 4, 2) := by decide +kernel
theorem dX1_wholeParts_63 : decode cX1_wholeParts 63 = .ok (.aload_n 0, 1) := by decide +kernel
theorem dX1_wholeParts_64 : decode cX1_wholeParts 64 = .ok (.invokevirtual 45, 3) := by decide +kernel
theorem dX1_wholeParts_67 : decode cX1_wholeParts 67 = .ok (.imul, 1) := by decide +kernel
theorem dX1_wholeParts_68 : decode cX1_wholeParts 68 = .ok (.if_icmp .le 5, 3) := by decide +kernel
theorem dX1_wholeParts_71 : decode cX1_wholeParts 71 = .ok (.iconst 0, 1) := by decide +kernel
theorem dX1_wholeParts_72 : decode cX1_wholeParts 72 = .ok (.ireturn, 1) := by decide +kernel
theorem dX1_wholeParts_73 : decode cX1_wholeParts 73 = .ok (.aload_n 0, 1) := by decide +kernel
theorem dX1_wholeParts_74 : decode cX1_wholeParts 74 = .ok (.iload 6, 2) := by decide +kernel
theorem dX1_wholeParts_76 : decode cX1_wholeParts 76 = .ok (.invokevirtual 26, 3) := by decide +kernel
theorem dX1_wholeParts_79 : decode cX1_wholeParts 79 = .ok (.istore 7, 2) := by decide +kernel
theorem dX1_wholeParts_81 : decode cX1_wholeParts 81 = .ok (.iload 7, 2) := by decide +kernel
theorem dX1_wholeParts_83 : decode cX1_wholeParts 83 = .ok (.iload 4, 2) := by decide +kernel
theorem dX1_wholeParts_85 : decode cX1_wholeParts 85 = .ok (.if_icmp .le 5, 3) := by decide +kernel
theorem dX1_wholeParts_88 : decode cX1_wholeParts 88 = .ok (.iconst 0, 1) := by decide +kernel
theorem dX1_wholeParts_89 : decode cX1_wholeParts 89 = .ok (.ireturn, 1) := by decide +kernel
theorem dX1_wholeParts_90 : decode cX1_wholeParts 90 = .ok (.iconst 1, 1) := by decide +kernel
theorem dX1_wholeParts_91 : decode cX1_wholeParts 91 = .ok (.istore 8, 2) := by decide +kernel
theorem dX1_wholeParts_93 : decode cX1_wholeParts 93 = .ok (.iload 8, 2) := by decide +kernel
theorem dX1_wholeParts_95 : decode cX1_wholeParts 95 = .ok (.iload 7, 2) := by decide +kernel
theorem dX1_wholeParts_97 : decode cX1_wholeParts 97 = .ok (.if_icmp .ge 28, 3) := by decide +kernel
theorem dX1_wholeParts_100 : decode cX1_wholeParts 100 = .ok (.aload_n 0, 1) := by decide +kernel
theorem dX1_wholeParts_101 : decode cX1_wholeParts 101 = .ok (.iload_n 1, 1) := by decide +kernel
theorem dX1_wholeParts_102 : decode cX1_wholeParts 102 = .ok (.iload 8, 2) := by decide +kernel
theorem dX1_wholeParts_104 : decode cX1_wholeParts 104 = .ok (.iadd, 1) := by decide +kernel
theorem dX1_wholeParts_105 : decode cX1_wholeParts 105 = .ok (.iload_n 2, 1) := by decide +kernel
theorem dX1_wholeParts_106 : decode cX1_wholeParts 106 = .ok (.iload_n 3, 1) := by decide +kernel
theorem dX1_wholeParts_107 : decode cX1_wholeParts 107 = .ok (.iload 8, 2) := by decide +kernel
theorem dX1_wholeParts_109 : decode cX1_wholeParts 109 = .ok (.iload 5, 2) := by decide +kernel
theorem dX1_wholeParts_111 : decode cX1_wholeParts 111 = .ok (.invokevirtual 89, 3) := by decide +kernel
theorem dX1_wholeParts_114 : decode cX1_wholeParts 114 = .ok (.ifCond .ne 5, 3) := by decide +kernel
theorem dX1_wholeParts_117 : decode cX1_wholeParts 117 = .ok (.iconst 0, 1) := by decide +kernel
theorem dX1_wholeParts_118 : decode cX1_wholeParts 118 = .ok (.ireturn, 1) := by decide +kernel
theorem dX1_wholeParts_119 : decode cX1_wholeParts 119 = .ok (.iinc 8 1, 3) := by decide +kernel
theorem dX1_wholeParts_122 : decode cX1_wholeParts 122 = .ok (.goto (-29), 3) := by decide +kernel
theorem dX1_wholeParts_125 : decode cX1_wholeParts 125 = .ok (.iload 7, 2) := by decide +kernel
theorem dX1_wholeParts_127 : decode cX1_wholeParts 127 = .ok (.ireturn, 1) := by decide +kernel
theorem dX1_isPart_0 : decode cX1_isPart 0 = .ok (.aload_n 0, 1) := by decide +kernel
theorem dX1_isPart_1 : decode cX1_isPart 1 = .ok (.getfield 19, 3) := by decide +kernel
theorem dX1_isPart_4 : decode cX1_isPart 4 = .ok (.iload_n 1, 1) := by decide +kernel
theorem dX1_isPart_5 : decode cX1_isPart 5 = .ok (.invokevirtual 93, 3) := by decide +kernel
theorem dX1_isPart_8 : decode cX1_isPart 8 = .ok (.ifCond .eq 61, 3) := by decide +kernel
theorem dX1_isPart_11 : decode cX1_isPart 11 = .ok (.aload_n 0, 1) := by decide +kernel
theorem dX1_isPart_12 : decode cX1_isPart 12 = .ok (.getfield 19, 3) := by decide +kernel
theorem dX1_isPart_15 : decode cX1_isPart 15 = .ok (.iload_n 1, 1) := by decide +kernel
theorem dX1_isPart_16 : decode cX1_isPart 16 = .ok (.iconst 0, 1) := by decide +kernel
theorem dX1_isPart_17 : decode cX1_isPart 17 = .ok (.invokevirtual 86, 3) := by decide +kernel
theorem dX1_isPart_20 : decode cX1_isPart 20 = .ok (.iload_n 2, 1) := by decide +kernel
theorem dX1_isPart_21 : decode cX1_isPart 21 = .ok (.if_icmp .ne 48, 3) := by decide +kernel
theorem dX1_isPart_24 : decode cX1_isPart 24 = .ok (.aload_n 0, 1) := by decide +kernel
theorem dX1_isPart_25 : decode cX1_isPart 25 = .ok (.getfield 19, 3) := by decide +kernel
theorem dX1_isPart_28 : decode cX1_isPart 28 = .ok (.iload_n 1, 1) := by decide +kernel
theorem dX1_isPart_29 : decode cX1_isPart 29 = .ok (.iconst 1, 1) := by decide +kernel
theorem dX1_isPart_30 : decode cX1_isPart 30 = .ok (.invokevirtual 86, 3) := by decide +kernel
theorem dX1_isPart_33 : decode cX1_isPart 33 = .ok (.iload_n 3, 1) := by decide +kernel
theorem dX1_isPart_34 : decode cX1_isPart 34 = .ok (.if_icmp .ne 35, 3) := by decide +kernel
theorem dX1_isPart_37 : decode cX1_isPart 37 = .ok (.aload_n 0, 1) := by decide +kernel
theorem dX1_isPart_38 : decode cX1_isPart 38 = .ok (.getfield 19, 3) := by decide +kernel
theorem dX1_isPart_41 : decode cX1_isPart 41 = .ok (.iload_n 1, 1) := by decide +kernel
theorem dX1_isPart_42 : decode cX1_isPart 42 = .ok (.iconst 2, 1) := by decide +kernel
theorem dX1_isPart_43 : decode cX1_isPart 43 = .ok (.invokevirtual 86, 3) := by decide +kernel
theorem dX1_isPart_46 : decode cX1_isPart 46 = .ok (.iload 4, 2) := by decide +kernel
theorem dX1_isPart_48 : decode cX1_isPart 48 = .ok (.if_icmp .ne 21, 3) := by decide +kernel
theorem dX1_isPart_51 : decode cX1_isPart 51 = .ok (.aload_n 0, 1) := by decide +kernel
theorem dX1_isPart_52 : decode cX1_isPart 52 = .ok (.getfield 19, 3) := by decide +kernel
theorem dX1_isPart_55 : decode cX1_isPart 55 = .ok (.iload_n 1, 1) := by decide +kernel
theorem dX1_isPart_56 : decode cX1_isPart 56 = .ok (.iconst 3, 1) := by decide +kernel
theorem dX1_isPart_57 : decode cX1_isPart 57 = .ok (.invokevirtual 86, 3) := by decide +kernel
theorem dX1_isPart_60 : decode cX1_isPart 60 = .ok (.iload 5, 2) := by decide +kernel
theorem dX1_isPart_62 : decode cX1_isPart 62 = .ok (.if_icmp .ne 7, 3) := by decide +kernel
theorem dX1_isPart_65 : decode cX1_isPart 65 = .ok (.iconst 1, 1) := by decide +kernel
theorem dX1_isPart_66 : decode cX1_isPart 66 = .ok (.goto 4, 3) := by decide +kernel
theorem dX1_isPart_69 : decode cX1_isPart 69 = .ok (.iconst 0, 1) := by decide +kernel
theorem dX1_isPart_70 : decode cX1_isPart 70 = .ok (.ireturn, 1) := by decide +kernel
theorem dX1_redo_0 : decode cX1_redo 0 = .ok (.aload_n 0, 1) := by decide +kernel
theorem dX1_redo_1 : decode cX1_redo 1 = .ok (.iload_n 2, 1) := by decide +kernel
theorem dX1_redo_2 : decode cX1_redo 2 = .ok (.iconst 0, 1) := by decide +kernel
theorem dX1_redo_3 : decode cX1_redo 3 = .ok (.invokevirtual 96, 3) := by decide +kernel
theorem dX1_redo_6 : decode cX1_redo 6 = .ok (.istore_n 3, 1) := by decide +kernel
theorem dX1_redo_7 : decode cX1_redo 7 = .ok (.iconst 0, 1) := by decide +kernel
theorem dX1_redo_8 : decode cX1_redo 8 = .ok (.istore 4, 2) := by decide +kernel
theorem dX1_redo_10 : decode cX1_redo 10 = .ok (.iload 4, 2) := by decide +kernel
theorem dX1_redo_12 : decode cX1_redo 12 = .ok (.iload_n 3, 1) := by decide +kernel
theorem dX1_redo_13 : decode cX1_redo 13 = .ok (.if_icmp .ge 63, 3) := by decide +kernel
theorem dX1_redo_16 : decode cX1_redo 16 = .ok (.iconst 1, 1) := by decide +kernel
theorem dX1_redo_17 : decode cX1_redo 17 = .ok (.iconst 3, 1) := by decide +kernel
theorem dX1_redo_18 : decode cX1_redo 18 = .ok (.iload 4, 2) := by decide +kernel
theorem dX1_redo_20 : decode cX1_redo 20 = .ok (.imul, 1) := by decide +kernel
theorem dX1_redo_21 : decode cX1_redo 21 = .ok (.iadd, 1) := by decide +kernel
theorem dX1_redo_22 : decode cX1_redo 22 = .ok (.istore 5, 2) := by decide +kernel
theorem dX1_redo_24 : decode cX1_redo 24 = .ok (.aload_n 0, 1) := by decide +kernel
theorem dX1_redo_25 : decode cX1_redo 25 = .ok (.iload_n 2, 1) := by decide +kernel
theorem dX1_redo_26 : decode cX1_redo 26 = .ok (.iload 5, 2) := by decide +kernel
theorem dX1_redo_28 : decode cX1_redo 28 = .ok (.iconst 1, 1) := by decide +kernel
theorem dX1_redo_29 : decode cX1_redo 29 = .ok (.iadd, 1) := by decide +kernel
theorem dX1_redo_30 : decode cX1_redo 30 = .ok (.invokevirtual 96, 3) := by decide +kernel
theorem dX1_redo_33 : decode cX1_redo 33 = .ok (.istore 6, 2) := by decide +kernel
theorem dX1_redo_35 : decode cX1_redo 35 = .ok (.aload_n 0, 1) := by decide +kernel
theorem dX1_redo_36 : decode cX1_redo 36 = .ok (.iload_n 2, 1) := by decide +kernel
theorem dX1_redo_37 : decode cX1_redo 37 = .ok (.iload 5, 2) := by decide +kernel
theorem dX1_redo_39 : decode cX1_redo 39 = .ok (.invokevirtual 96, 3) := by decide +kernel
theorem dX1_redo_42 : decode cX1_redo 42 = .ok (.iconst 1, 1) := by decide +kernel
theorem dX1_redo_43 : decode cX1_redo 43 = .ok (.if_icmp .ne 21, 3) := by decide +kernel
theorem dX1_redo_46 : decode cX1_redo 46 = .ok (.aload_n 1, 1) := by decide +kernel
theorem dX1_redo_47 : decode cX1_redo 47 = .ok (.iload 6, 2) := by decide +kernel
theorem dX1_redo_49 : decode cX1_redo 49 = .ok (.aload_n 0, 1) := by decide +kernel
theorem dX1_redo_50 : decode cX1_redo 50 = .ok (.iload_n 2, 1) := by decide +kernel
theorem dX1_redo_51 : decode cX1_redo 51 = .ok (.iload 5, 2) := by decide +kernel
theorem dX1_redo_53 : decode cX1_redo 53 = .ok (.iconst 2, 1) := by decide +kernel
theorem dX1_redo_54 : decode cX1_redo 54 = .ok (.iadd, 1) := by decide +kernel
theorem dX1_redo_55 : decode cX1_redo 55 = .ok (.invokevirtual 96, 3) := by decide +kernel
theorem dX1_redo_58 : decode cX1_redo 58 = .ok (.invokevirtual 99, 3) := by decide +kernel
theorem dX1_redo_61 : decode cX1_redo 61 = .ok (.goto 9, 3) := by decide +kernel
theorem dX1_redo_64 : decode cX1_redo 64 = .ok (.aload_n 1, 1) := by decide +kernel
theorem dX1_redo_65 : decode cX1_redo 65 = .ok (.iload 6, 2) := by decide +kernel
theorem dX1_redo_67 : decode cX1_redo 67 = .ok (.invokevirtual 102, 3) := by decide +kernel
theorem dX1_redo_70 : decode cX1_redo 70 = .ok (.iinc 4 1, 3) := by decide +kernel
theorem dX1_redo_73 : decode cX1_redo 73 = .ok (.goto (-63), 3) := by decide +kernel
theorem dX1_redo_76 : decode cX1_redo 76 = .ok (.return_, 1) := by decide +kernel
theorem dX1_storedInt_0 : decode cX1_storedInt 0 = .ok (.aload_n 0, 1) := by decide +kernel
theorem dX1_storedInt_1 : decode cX1_storedInt 1 = .ok (.invokevirtual 45, 3) := by decide +kernel
theorem dX1_storedInt_4 : decode cX1_storedInt 4 = .ok (.istore_n 3, 1) := by decide +kernel
theorem dX1_storedInt_5 : decode cX1_storedInt 5 = .ok (.iload_n 3, 1) := by decide +kernel
theorem dX1_storedInt_6 : decode cX1_storedInt 6 = .ok (.iconst 1, 1) := by decide +kernel
theorem dX1_storedInt_7 : decode cX1_storedInt 7 = .ok (.if_icmp .ge 5, 3) := by decide +kernel
theorem dX1_storedInt_10 : decode cX1_storedInt 10 = .ok (.iconst 0, 1) := by decide +kernel
theorem dX1_storedInt_11 : decode cX1_storedInt 11 = .ok (.ireturn, 1) := by decide +kernel
theorem dX1_storedInt_12 : decode cX1_storedInt 12 = .ok (.aload_n 0, 1) := by decide +kernel
theorem dX1_storedInt_13 : decode cX1_storedInt 13 = .ok (.getfield 19, 3) := by decide +kernel
theorem dX1_storedInt_16 : decode cX1_storedInt 16 = .ok (.iload_n 1, 1) := by decide +kernel
theorem dX1_storedInt_17 : decode cX1_storedInt 17 = .ok (.iload_n 2, 1) := by decide +kernel
theorem dX1_storedInt_18 : decode cX1_storedInt 18 = .ok (.iload_n 3, 1) := by decide +kernel
theorem dX1_storedInt_19 : decode cX1_storedInt 19 = .ok (.idiv, 1) := by decide +kernel
theorem dX1_storedInt_20 : decode cX1_storedInt 20 = .ok (.iadd, 1) := by decide +kernel
theorem dX1_storedInt_21 : decode cX1_storedInt 21 = .ok (.iconst 4, 1) := by decide +kernel
theorem dX1_storedInt_22 : decode cX1_storedInt 22 = .ok (.iload_n 2, 1) := by decide +kernel
theorem dX1_storedInt_23 : decode cX1_storedInt 23 = .ok (.iload_n 3, 1) := by decide +kernel
theorem dX1_storedInt_24 : decode cX1_storedInt 24 = .ok (.irem, 1) := by decide +kernel
theorem dX1_storedInt_25 : decode cX1_storedInt 25 = .ok (.iadd, 1) := by decide +kernel
theorem dX1_storedInt_26 : decode cX1_storedInt 26 = .ok (.invokevirtual 86, 3) := by decide +kernel
theorem dX1_storedInt_29 : decode cX1_storedInt 29 = .ok (.ireturn, 1) := by decide +kernel
theorem dX2_init_0 : decode cX2_init 0 = .ok (.aload_n 0, 1) := by decide +kernel
theorem dX2_init_1 : decode cX2_init 1 = .ok (.invokespecial 1, 3) := by decide +kernel
theorem dX2_init_4 : decode cX2_init 4 = .ok (.aload_n 0, 1) := by decide +kernel
theorem dX2_init_5 : decode cX2_init 5 = .ok (.iconst 0, 1) := by decide +kernel
theorem dX2_init_6 : decode cX2_init 6 = .ok (.putfield 7, 3) := by decide +kernel
theorem dX2_init_9 : decode cX2_init 9 = .ok (.iload_n 1, 1) := by decide +kernel
theorem dX2_init_10 : decode cX2_init 10 = .ok (.iconst 0, 1) := by decide +kernel
theorem dX2_init_11 : decode cX2_init 11 = .ok (.invokestatic 13, 3) := by decide +kernel
theorem dX2_init_14 : decode cX2_init 14 = .ok (.istore_n 2, 1) := by decide +kernel
theorem dX2_init_15 : decode cX2_init 15 = .ok (.aload_n 0, 1) := by decide +kernel
theorem dX2_init_16 : decode cX2_init 16 = .ok (.iload_n 2, 1) := by decide +kernel
theorem dX2_init_17 : decode cX2_init 17 = .ok (.newarray .int, 2) := by decide +kernel
theorem dX2_init_19 : decode cX2_init 19 = .ok (.putfield 19, 3) := by decide +kernel
theorem dX2_init_22 : decode cX2_init 22 = .ok (.aload_n 0, 1) := by decide +kernel
theorem dX2_init_23 : decode cX2_init 23 = .ok (.iload_n 2, 1) := by decide +kernel
theorem dX2_init_24 : decode cX2_init 24 = .ok (.newarray .int, 2) := by decide +kernel
theorem dX2_init_26 : decode cX2_init 26 = .ok (.putfield 23, 3) := by decide +kernel
theorem dX2_init_29 : decode cX2_init 29 = .ok (.return_, 1) := by decide +kernel
theorem dX2_clear_0 : decode cX2_clear 0 = .ok (.aload_n 0, 1) := by decide +kernel
theorem dX2_clear_1 : decode cX2_clear 1 = .ok (.iconst 0, 1) := by decide +kernel
theorem dX2_clear_2 : decode cX2_clear 2 = .ok (.putfield 7, 3) := by decide +kernel
theorem dX2_clear_5 : decode cX2_clear 5 = .ok (.return_, 1) := by decide +kernel
theorem dX2_entries_0 : decode cX2_entries 0 = .ok (.aload_n 0, 1) := by decide +kernel
theorem dX2_entries_1 : decode cX2_entries 1 = .ok (.getfield 7, 3) := by decide +kernel
theorem dX2_entries_4 : decode cX2_entries 4 = .ok (.ireturn, 1) := by decide +kernel
theorem dX2_placeOf_0 : decode cX2_placeOf 0 = .ok (.iconst 0, 1) := by decide +kernel
theorem dX2_placeOf_1 : decode cX2_placeOf 1 = .ok (.istore_n 2, 1) := by decide +kernel
theorem dX2_placeOf_2 : decode cX2_placeOf 2 = .ok (.aload_n 0, 1) := by decide +kernel
theorem dX2_placeOf_3 : decode cX2_placeOf 3 = .ok (.getfield 7, 3) := by decide +kernel
theorem dX2_placeOf_6 : decode cX2_placeOf 6 = .ok (.istore_n 3, 1) := by decide +kernel
theorem dX2_placeOf_7 : decode cX2_placeOf 7 = .ok (.iconst 0, 1) := by decide +kernel
theorem dX2_placeOf_8 : decode cX2_placeOf 8 = .ok (.istore 4, 2) := by decide +kernel
theorem dX2_placeOf_10 : decode cX2_placeOf 10 = .ok (.iload 4, 2) := by decide +kernel
theorem dX2_placeOf_12 : decode cX2_placeOf 12 = .ok (.bipush 32, 2) := by decide +kernel
theorem dX2_placeOf_14 : decode cX2_placeOf 14 = .ok (.if_icmp .ge 43, 3) := by decide +kernel
theorem dX2_placeOf_17 : decode cX2_placeOf 17 = .ok (.iload_n 2, 1) := by decide +kernel
theorem dX2_placeOf_18 : decode cX2_placeOf 18 = .ok (.iload_n 3, 1) := by decide +kernel
theorem dX2_placeOf_19 : decode cX2_placeOf 19 = .ok (.if_icmp .ge 38, 3) := by decide +kernel
theorem dX2_placeOf_22 : decode cX2_placeOf 22 = .ok (.iload_n 2, 1) := by decide +kernel
theorem dX2_placeOf_23 : decode cX2_placeOf 23 = .ok (.iload_n 3, 1) := by decide +kernel
theorem dX2_placeOf_24 : decode cX2_placeOf 24 = .ok (.iadd, 1) := by decide +kernel
theorem dX2_placeOf_25 : decode cX2_placeOf 25 = .ok (.iconst 2, 1) := by decide +kernel
theorem dX2_placeOf_26 : decode cX2_placeOf 26 = .ok (.idiv, 1) := by decide +kernel
theorem dX2_placeOf_27 : decode cX2_placeOf 27 = .ok (.istore 5, 2) := by decide +kernel
theorem dX2_placeOf_29 : decode cX2_placeOf 29 = .ok (.aload_n 0, 1) := by decide +kernel
theorem dX2_placeOf_30 : decode cX2_placeOf 30 = .ok (.getfield 19, 3) := by decide +kernel
theorem dX2_placeOf_33 : decode cX2_placeOf 33 = .ok (.iload 5, 2) := by decide +kernel
theorem dX2_placeOf_35 : decode cX2_placeOf 35 = .ok (.iaload, 1) := by decide +kernel
theorem dX2_placeOf_36 : decode cX2_placeOf 36 = .ok (.iload_n 1, 1) := by decide +kernel
theorem dX2_placeOf_37 : decode cX2_placeOf 37 = .ok (.if_icmp .ge 11, 3) := by decide +kernel
theorem dX2_placeOf_40 : decode cX2_placeOf 40 = .ok (.iload 5, 2) := by decide +kernel
theorem dX2_placeOf_42 : decode cX2_placeOf 42 = .ok (.iconst 1, 1) := by decide +kernel
theorem dX2_placeOf_43 : decode cX2_placeOf 43 = .ok (.iadd, 1) := by decide +kernel
theorem dX2_placeOf_44 : decode cX2_placeOf 44 = .ok (.istore_n 2, 1) := by decide +kernel
theorem dX2_placeOf_45 : decode cX2_placeOf 45 = .ok (.goto 6, 3) := by decide +kernel
theorem dX2_placeOf_48 : decode cX2_placeOf 48 = .ok (.iload 5, 2) := by decide +kernel
theorem dX2_placeOf_50 : decode cX2_placeOf 50 = .ok (.istore_n 3, 1) := by decide +kernel
theorem dX2_placeOf_51 : decode cX2_placeOf 51 = .ok (.iinc 4 1, 3) := by decide +kernel
theorem dX2_placeOf_54 : decode cX2_placeOf 54 = .ok (.goto (-44), 3) := by decide +kernel
theorem dX2_placeOf_57 : decode cX2_placeOf 57 = .ok (.iload_n 2, 1) := by decide +kernel
theorem dX2_placeOf_58 : decode cX2_placeOf 58 = .ok (.ireturn, 1) := by decide +kernel
theorem dX2_placeBehind_0 : decode cX2_placeBehind 0 = .ok (.aload_n 0, 1) := by decide +kernel
theorem dX2_placeBehind_1 : decode cX2_placeBehind 1 = .ok (.iload_n 1, 1) := by decide +kernel
theorem dX2_placeBehind_2 : decode cX2_placeBehind 2 = .ok (.invokevirtual 26, 3) := by decide +kernel
theorem dX2_placeBehind_5 : decode cX2_placeBehind 5 = .ok (.istore_n 2, 1) := by decide +kernel
theorem dX2_placeBehind_6 : decode cX2_placeBehind 6 = .ok (.aload_n 0, 1) := by decide +kernel
theorem dX2_placeBehind_7 : decode cX2_placeBehind 7 = .ok (.iload_n 2, 1) := by decide +kernel
theorem dX2_placeBehind_8 : decode cX2_placeBehind 8 = .ok (.iload_n 1, 1) := by decide +kernel
theorem dX2_placeBehind_9 : decode cX2_placeBehind 9 = .ok (.invokevirtual 30, 3) := by decide +kernel
theorem dX2_placeBehind_12 : decode cX2_placeBehind 12 = .ok (.ifCond .eq 9, 3) := by decide +kernel
theorem dX2_placeBehind_15 : decode cX2_placeBehind 15 = .ok (.iload_n 2, 1) := by decide +kernel
theorem dX2_placeBehind_16 : decode cX2_placeBehind 16 = .ok (.iconst 1, 1) := by decide +kernel
theorem dX2_placeBehind_17 : decode cX2_placeBehind 17 = .ok (.iadd, 1) := by decide +kernel
theorem dX2_placeBehind_18 : decode cX2_placeBehind 18 = .ok (.goto 4, 3) := by decide +kernel
theorem dX2_placeBehind_21 : decode cX2_placeBehind 21 = .ok (.iload_n 2, 1) := by decide +kernel
theorem dX2_placeBehind_22 : decode cX2_placeBehind 22 = .ok (.ireturn, 1) := by decide +kernel
theorem dX2_holds_0 : decode cX2_holds 0 = .ok (.aload_n 0, 1) := by decide +kernel
theorem dX2_holds_1 : decode cX2_holds 1 = .ok (.aload_n 0, 1) := by decide +kernel
theorem dX2_holds_2 : decode cX2_holds 2 = .ok (.iload_n 1, 1) := by decide +kernel
theorem dX2_holds_3 : decode cX2_holds 3 = .ok (.invokevirtual 26, 3) := by decide +kernel
theorem dX2_holds_6 : decode cX2_holds 6 = .ok (.iload_n 1, 1) := by decide +kernel
theorem dX2_holds_7 : decode cX2_holds 7 = .ok (.invokevirtual 30, 3) := by decide +kernel
theorem dX2_holds_10 : decode cX2_holds 10 = .ok (.ireturn, 1) := by decide +kernel
theorem dX2_valueOf_0 : decode cX2_valueOf 0 = .ok (.aload_n 0, 1) := by decide +kernel
theorem dX2_valueOf_1 : decode cX2_valueOf 1 = .ok (.iload_n 1, 1) := by decide +kernel
theorem dX2_valueOf_2 : decode cX2_valueOf 2 = .ok (.invokevirtual 26, 3) := by decide +kernel
theorem dX2_valueOf_5 : decode cX2_valueOf 5 = .ok (.istore_n 2, 1) := by decide +kernel
theorem dX2_valueOf_6 : decode cX2_valueOf 6 = .ok (.aload_n 0, 1) := by decide +kernel
theorem dX2_valueOf_7 : decode cX2_valueOf 7 = .ok (.iload_n 2, 1) := by decide +kernel
theorem dX2_valueOf_8 : decode cX2_valueOf 8 = .ok (.iload_n 1, 1) := by decide +kernel
theorem dX2_valueOf_9 : decode cX2_valueOf 9 = .ok (.invokevirtual 30, 3) := by decide +kernel
theorem dX2_valueOf_12 : decode cX2_valueOf 12 = .ok (.ifCond .eq 12, 3) := by decide +kernel
theorem dX2_valueOf_15 : decode cX2_valueOf 15 = .ok (.aload_n 0, 1) := by decide +kernel
theorem dX2_valueOf_16 : decode cX2_valueOf 16 = .ok (.getfield 23, 3) := by decide +kernel
theorem dX2_valueOf_19 : decode cX2_valueOf 19 = .ok (.iload_n 2, 1) := by decide +kernel
theorem dX2_valueOf_20 : decode cX2_valueOf 20 = .ok (.iaload, 1) := by decide +kernel
theorem dX2_valueOf_21 : decode cX2_valueOf 21 = .ok (.goto 4, 3) := by decide +kernel
theorem dX2_valueOf_24 : decode cX2_valueOf 24 = .ok (.iconst 0, 1) := by decide +kernel
theorem dX2_valueOf_25 : decode cX2_valueOf 25 = .ok (.ireturn, 1) := by decide +kernel
theorem dX2_keyAt_0 : decode cX2_keyAt 0 = .ok (.iload_n 1, 1) := by decide +kernel
theorem dX2_keyAt_1 : decode cX2_keyAt 1 = .ok (.ifCond .lt 20, 3) := by decide +kernel
theorem dX2_keyAt_4 : decode cX2_keyAt 4 = .ok (.iload_n 1, 1) := by decide +kernel
theorem dX2_keyAt_5 : decode cX2_keyAt 5 = .ok (.aload_n 0, 1) := by decide +kernel
theorem dX2_keyAt_6 : decode cX2_keyAt 6 = .ok (.getfield 7, 3) := by decide +kernel
theorem dX2_keyAt_9 : decode cX2_keyAt 9 = .ok (.if_icmp .ge 12, 3) := by decide +kernel
theorem dX2_keyAt_12 : decode cX2_keyAt 12 = .ok (.aload_n 0, 1) := by decide +kernel
theorem dX2_keyAt_13 : decode cX2_keyAt 13 = .ok (.getfield 19, 3) := by decide +kernel
theorem dX2_keyAt_16 : decode cX2_keyAt 16 = .ok (.iload_n 1, 1) := by decide +kernel
theorem dX2_keyAt_17 : decode cX2_keyAt 17 = .ok (.iaload, 1) := by decide +kernel
theorem dX2_keyAt_18 : decode cX2_keyAt 18 = .ok (.goto 4, 3) := by decide +kernel
theorem dX2_keyAt_21 : decode cX2_keyAt 21 = .ok (.iconst 0, 1) := by decide +kernel
theorem dX2_keyAt_22 : decode cX2_keyAt 22 = .ok (.ireturn, 1) := by decide +kernel
theorem dX2_valueAt_0 : decode cX2_valueAt 0 = .ok (.iload_n 1, 1) := by decide +kernel
theorem dX2_valueAt_1 : decode cX2_valueAt 1 = .ok (.ifCond .lt 20, 3) := by decide +kernel
theorem dX2_valueAt_4 : decode cX2_valueAt 4 = .ok (.iload_n 1, 1) := by decide +kernel
theorem dX2_valueAt_5 : decode cX2_valueAt 5 = .ok (.aload_n 0, 1) := by decide +kernel
theorem dX2_valueAt_6 : decode cX2_valueAt 6 = .ok (.getfield 7, 3) := by decide +kernel
theorem dX2_valueAt_9 : decode cX2_valueAt 9 = .ok (.if_icmp .ge 12, 3) := by decide +kernel
theorem dX2_valueAt_12 : decode cX2_valueAt 12 = .ok (.aload_n 0, 1) := by decide +kernel
theorem dX2_valueAt_13 : decode cX2_valueAt 13 = .ok (.getfield 23, 3) := by decide +kernel
theorem dX2_valueAt_16 : decode cX2_valueAt 16 = .ok (.iload_n 1, 1) := by decide +kernel
theorem dX2_valueAt_17 : decode cX2_valueAt 17 = .ok (.iaload, 1) := by decide +kernel
theorem dX2_valueAt_18 : decode cX2_valueAt 18 = .ok (.goto 4, 3) := by decide +kernel
theorem dX2_valueAt_21 : decode cX2_valueAt 21 = .ok (.iconst 0, 1) := by decide +kernel
theorem dX2_valueAt_22 : decode cX2_valueAt 22 = .ok (.ireturn, 1) := by decide +kernel
theorem dX2_sumOfValues_0 : decode cX2_sumOfValues 0 = .ok (.lconst 0, 1) := by decide +kernel
theorem dX2_sumOfValues_1 : decode cX2_sumOfValues 1 = .ok (.lstore_n 3, 1) := by decide +kernel
theorem dX2_sumOfValues_2 : decode cX2_sumOfValues 2 = .ok (.iload_n 1, 1) := by decide +kernel
theorem dX2_sumOfValues_3 : decode cX2_sumOfValues 3 = .ok (.istore 5, 2) := by decide +kernel
theorem dX2_sumOfValues_5 : decode cX2_sumOfValues 5 = .ok (.iload 5, 2) := by decide +kernel
theorem dX2_sumOfValues_7 : decode cX2_sumOfValues 7 = .ok (.iload_n 2, 1) := by decide +kernel
theorem dX2_sumOfValues_8 : decode cX2_sumOfValues 8 = .ok (.if_icmp .ge 19, 3) := by decide +kernel
theorem dX2_sumOfValues_11 : decode cX2_sumOfValues 11 = .ok (.lload_n 3, 1) := by decide +kernel
theorem dX2_sumOfValues_12 : decode cX2_sumOfValues 12 = .ok (.aload_n 0, 1) := by decide +kernel
theorem dX2_sumOfValues_13 : decode cX2_sumOfValues 13 = .ok (.iload 5, 2) := by decide +kernel
theorem dX2_sumOfValues_15 : decode cX2_sumOfValues 15 = .ok (.invokevirtual 34, 3) := by decide +kernel
theorem dX2_sumOfValues_18 : decode cX2_sumOfValues 18 = .ok (.i2l, 1) := by decide +kernel
theorem dX2_sumOfValues_19 : decode cX2_sumOfValues 19 = .ok (.ladd, 1) := by decide +kernel
theorem dX2_sumOfValues_20 : decode cX2_sumOfValues 20 = .ok (.lstore_n 3, 1) := by decide +kernel
theorem dX2_sumOfValues_21 : decode cX2_sumOfValues 21 = .ok (.iinc 5 1, 3) := by decide +kernel
theorem dX2_sumOfValues_24 : decode cX2_sumOfValues 24 = .ok (.goto (-19), 3) := by decide +kernel
theorem dX2_sumOfValues_27 : decode cX2_sumOfValues 27 = .ok (.lload_n 3, 1) := by decide +kernel
theorem dX2_sumOfValues_28 : decode cX2_sumOfValues 28 = .ok (.lreturn, 1) := by decide +kernel
theorem dX2_enter_0 : decode cX2_enter 0 = .ok (.aload_n 0, 1) := by decide +kernel
theorem dX2_enter_1 : decode cX2_enter 1 = .ok (.iload_n 1, 1) := by decide +kernel
theorem dX2_enter_2 : decode cX2_enter 2 = .ok (.invokevirtual 26, 3) := by decide +kernel
theorem dX2_enter_5 : decode cX2_enter 5 = .ok (.istore_n 3, 1) := by decide +kernel
theorem dX2_enter_6 : decode cX2_enter 6 = .ok (.aload_n 0, 1) := by decide +kernel
theorem dX2_enter_7 : decode cX2_enter 7 = .ok (.iload_n 3, 1) := by decide +kernel
theorem dX2_enter_8 : decode cX2_enter 8 = .ok (.iload_n 1, 1) := by decide +kernel
theorem dX2_enter_9 : decode cX2_enter 9 = .ok (.invokevirtual 30, 3) := by decide +kernel
theorem dX2_enter_12 : decode cX2_enter 12 = .ok (.ifCond .eq 11, 3) := by decide +kernel
theorem dX2_enter_15 : decode cX2_enter 15 = .ok (.aload_n 0, 1) := by decide +kernel
theorem dX2_enter_16 : decode cX2_enter 16 = .ok (.getfield 23, 3) := by decide +kernel
theorem dX2_enter_19 : decode cX2_enter 19 = .ok (.iload_n 3, 1) := by decide +kernel
theorem dX2_enter_20 : decode cX2_enter 20 = .ok (.iload_n 2, 1) := by decide +kernel
theorem dX2_enter_21 : decode cX2_enter 21 = .ok (.iastore, 1) := by decide +kernel
theorem dX2_enter_22 : decode cX2_enter 22 = .ok (.return_, 1) := by decide +kernel
theorem dX2_enter_23 : decode cX2_enter 23 = .ok (.aload_n 0, 1) := by decide +kernel
theorem dX2_enter_24 : decode cX2_enter 24 = .ok (.getfield 7, 3) := by decide +kernel
theorem dX2_enter_27 : decode cX2_enter 27 = .ok (.aload_n 0, 1) := by decide +kernel
theorem dX2_enter_28 : decode cX2_enter 28 = .ok (.getfield 19, 3) := by decide +kernel
theorem dX2_enter_31 : decode cX2_enter 31 = .ok (.arraylength, 1) := by decide +kernel
theorem dX2_enter_32 : decode cX2_enter 32 = .ok (.if_icmp .lt 4, 3) := by decide +kernel
theorem dX2_enter_35 : decode cX2_enter 35 = .ok (.return_, 1) := by decide +kernel
theorem dX2_enter_36 : decode cX2_enter 36 = .ok (.aload_n 0, 1) := by decide +kernel
theorem dX2_enter_37 : decode cX2_enter 37 = .ok (.getfield 19, 3) := by decide +kernel
theorem dX2_enter_40 : decode cX2_enter 40 = .ok (.iload_n 3, 1) := by decide +kernel
theorem dX2_enter_41 : decode cX2_enter 41 = .ok (.aload_n 0, 1) := by decide +kernel
theorem dX2_enter_42 : decode cX2_enter 42 = .ok (.getfield 19, 3) := by decide +kernel
theorem dX2_enter_45 : decode cX2_enter 45 = .ok (.iload_n 3, 1) := by decide +kernel
theorem dX2_enter_46 : decode cX2_enter 46 = .ok (.iconst 1, 1) := by decide +kernel
theorem dX2_enter_47 : decode cX2_enter 47 = .ok (.iadd, 1) := by decide +kernel
theorem dX2_enter_48 : decode cX2_enter 48 = .ok (.aload_n 0, 1) := by decide +kernel
theorem dX2_enter_49 : decode cX2_enter 49 = .ok (.getfield 7, 3) := by decide +kernel
theorem dX2_enter_52 : decode cX2_enter 52 = .ok (.iload_n 3, 1) := by decide +kernel
theorem dX2_enter_53 : decode cX2_enter 53 = .ok (.isub, 1) := by decide +kernel
theorem dX2_enter_54 : decode cX2_enter 54 = .ok (.invokestatic 37, 3) := by decide +kernel
theorem dX2_enter_57 : decode cX2_enter 57 = .ok (.aload_n 0, 1) := by decide +kernel
theorem dX2_enter_58 : decode cX2_enter 58 = .ok (.getfield 23, 3) := by decide +kernel
theorem dX2_enter_61 : decode cX2_enter 61 = .ok (.iload_n 3, 1) := by decide +kernel
theorem dX2_enter_62 : decode cX2_enter 62 = .ok (.aload_n 0, 1) := by decide +kernel
theorem dX2_enter_63 : decode cX2_enter 63 = .ok (.getfield 23, 3) := by decide +kernel
theorem dX2_enter_66 : decode cX2_enter 66 = .ok (.iload_n 3, 1) := by decide +kernel
theorem dX2_enter_67 : decode cX2_enter 67 = .ok (.iconst 1, 1) := by decide +kernel
theorem dX2_enter_68 : decode cX2_enter 68 = .ok (.iadd, 1) := by decide +kernel
theorem dX2_enter_69 : decode cX2_enter 69 = .ok (.aload_n 0, 1) := by decide +kernel
theorem dX2_enter_70 : decode cX2_enter 70 = .ok (.getfield 7, 3) := by decide +kernel
theorem dX2_enter_73 : decode cX2_enter 73 = .ok (.iload_n 3, 1) := by decide +kernel
theorem dX2_enter_74 : decode cX2_enter 74 = .ok (.isub, 1) := by decide +kernel
theorem dX2_enter_75 : decode cX2_enter 75 = .ok (.invokestatic 37, 3) := by decide +kernel
theorem dX2_enter_78 : decode cX2_enter 78 = .ok (.aload_n 0, 1) := by decide +kernel
theorem dX2_enter_79 : decode cX2_enter 79 = .ok (.getfield 19, 3) := by decide +kernel
theorem dX2_enter_82 : decode cX2_enter 82 = .ok (.iload_n 3, 1) := by decide +kernel
theorem dX2_enter_83 : decode cX2_enter 83 = .ok (.iload_n 1, 1) := by decide +kernel
theorem dX2_enter_84 : decode cX2_enter 84 = .ok (.iastore, 1) := by decide +kernel
theorem dX2_enter_85 : decode cX2_enter 85 = .ok (.aload_n 0, 1) := by decide +kernel
theorem dX2_enter_86 : decode cX2_enter 86 = .ok (.getfield 23, 3) := by decide +kernel
theorem dX2_enter_89 : decode cX2_enter 89 = .ok (.iload_n 3, 1) := by decide +kernel
theorem dX2_enter_90 : decode cX2_enter 90 = .ok (.iload_n 2, 1) := by decide +kernel
theorem dX2_enter_91 : decode cX2_enter 91 = .ok (.iastore, 1) := by decide +kernel
theorem dX2_enter_92 : decode cX2_enter 92 = .ok (.aload_n 0, 1) := by decide +kernel
theorem dX2_enter_93 : decode cX2_enter 93 = .ok (.dup, 1) := by decide +kernel
theorem dX2_enter_94 : decode cX2_enter 94 = .ok (.getfield 7, 3) := by decide +kernel
theorem dX2_enter_97 : decode cX2_enter 97 = .ok (.iconst 1, 1) := by decide +kernel
theorem dX2_enter_98 : decode cX2_enter 98 = .ok (.iadd, 1) := by decide +kernel
theorem dX2_enter_99 : decode cX2_enter 99 = .ok (.putfield 7, 3) := by decide +kernel
theorem dX2_enter_102 : decode cX2_enter 102 = .ok (.return_, 1) := by decide +kernel
theorem dX2_drop_0 : decode cX2_drop 0 = .ok (.aload_n 0, 1) := by decide +kernel
theorem dX2_drop_1 : decode cX2_drop 1 = .ok (.iload_n 1, 1) := by decide +kernel
theorem dX2_drop_2 : decode cX2_drop 2 = .ok (.invokevirtual 26, 3) := by decide +kernel
theorem dX2_drop_5 : decode cX2_drop 5 = .ok (.istore_n 2, 1) := by decide +kernel
theorem dX2_drop_6 : decode cX2_drop 6 = .ok (.aload_n 0, 1) := by decide +kernel
theorem dX2_drop_7 : decode cX2_drop 7 = .ok (.iload_n 2, 1) := by decide +kernel
theorem dX2_drop_8 : decode cX2_drop 8 = .ok (.iload_n 1, 1) := by decide +kernel
theorem dX2_drop_9 : decode cX2_drop 9 = .ok (.invokevirtual 30, 3) := by decide +kernel
theorem dX2_drop_12 : decode cX2_drop 12 = .ok (.ifCond .ne 4, 3) := by decide +kernel
theorem dX2_drop_15 : decode cX2_drop 15 = .ok (.return_, 1) := by decide +kernel
theorem dX2_drop_16 : decode cX2_drop 16 = .ok (.aload_n 0, 1) := by decide +kernel
theorem dX2_drop_17 : decode cX2_drop 17 = .ok (.dup, 1) := by decide +kernel
theorem dX2_drop_18 : decode cX2_drop 18 = .ok (.getfield 7, 3) := by decide +kernel
theorem dX2_drop_21 : decode cX2_drop 21 = .ok (.iconst 1, 1) := by decide +kernel
theorem dX2_drop_22 : decode cX2_drop 22 = .ok (.isub, 1) := by decide +kernel
theorem dX2_drop_23 : decode cX2_drop 23 = .ok (.putfield 7, 3) := by decide +kernel
theorem dX2_drop_26 : decode cX2_drop 26 = .ok (.aload_n 0, 1) := by decide +kernel
theorem dX2_drop_27 : decode cX2_drop 27 = .ok (.getfield 19, 3) := by decide +kernel
theorem dX2_drop_30 : decode cX2_drop 30 = .ok (.iload_n 2, 1) := by decide +kernel
theorem dX2_drop_31 : decode cX2_drop 31 = .ok (.iconst 1, 1) := by decide +kernel
theorem dX2_drop_32 : decode cX2_drop 32 = .ok (.iadd, 1) := by decide +kernel
theorem dX2_drop_33 : decode cX2_drop 33 = .ok (.aload_n 0, 1) := by decide +kernel
theorem dX2_drop_34 : decode cX2_drop 34 = .ok (.getfield 19, 3) := by decide +kernel
theorem dX2_drop_37 : decode cX2_drop 37 = .ok (.iload_n 2, 1) := by decide +kernel
theorem dX2_drop_38 : decode cX2_drop 38 = .ok (.aload_n 0, 1) := by decide +kernel
theorem dX2_drop_39 : decode cX2_drop 39 = .ok (.getfield 7, 3) := by decide +kernel
theorem dX2_drop_42 : decode cX2_drop 42 = .ok (.iload_n 2, 1) := by decide +kernel
theorem dX2_drop_43 : decode cX2_drop 43 = .ok (.isub, 1) := by decide +kernel
theorem dX2_drop_44 : decode cX2_drop 44 = .ok (.invokestatic 37, 3) := by decide +kernel
theorem dX2_drop_47 : decode cX2_drop 47 = .ok (.aload_n 0, 1) := by decide +kernel
theorem dX2_drop_48 : decode cX2_drop 48 = .ok (.getfield 23, 3) := by decide +kernel
theorem dX2_drop_51 : decode cX2_drop 51 = .ok (.iload_n 2, 1) := by decide +kernel
theorem dX2_drop_52 : decode cX2_drop 52 = .ok (.iconst 1, 1) := by decide +kernel
theorem dX2_drop_53 : decode cX2_drop 53 = .ok (.iadd, 1) := by decide +kernel
theorem dX2_drop_54 : decode cX2_drop 54 = .ok (.aload_n 0, 1) := by decide +kernel
theorem dX2_drop_55 : decode cX2_drop 55 = .ok (.getfield 23, 3) := by decide +kernel
theorem dX2_drop_58 : decode cX2_drop 58 = .ok (.iload_n 2, 1) := by decide +kernel
theorem dX2_drop_59 : decode cX2_drop 59 = .ok (.aload_n 0, 1) := by decide +kernel
theorem dX2_drop_60 : decode cX2_drop 60 = .ok (.getfield 7, 3) := by decide +kernel
theorem dX2_drop_63 : decode cX2_drop 63 = .ok (.iload_n 2, 1) := by decide +kernel
theorem dX2_drop_64 : decode cX2_drop 64 = .ok (.isub, 1) := by decide +kernel
theorem dX2_drop_65 : decode cX2_drop 65 = .ok (.invokestatic 37, 3) := by decide +kernel
theorem dX2_drop_68 : decode cX2_drop 68 = .ok (.return_, 1) := by decide +kernel
theorem dX2_copyFrom_0 : decode cX2_copyFrom 0 = .ok (.aload_n 0, 1) := by decide +kernel
theorem dX2_copyFrom_1 : decode cX2_copyFrom 1 = .ok (.aload_n 1, 1) := by decide +kernel
theorem dX2_copyFrom_2 : decode cX2_copyFrom 2 = .ok (.getfield 7, 3) := by decide +kernel
theorem dX2_copyFrom_5 : decode cX2_copyFrom 5 = .ok (.aload_n 0, 1) := by decide +kernel
theorem dX2_copyFrom_6 : decode cX2_copyFrom 6 = .ok (.getfield 19, 3) := by decide +kernel
theorem dX2_copyFrom_9 : decode cX2_copyFrom 9 = .ok (.arraylength, 1) := by decide +kernel
theorem dX2_copyFrom_10 : decode cX2_copyFrom 10 = .ok (.invokestatic 43, 3) := by decide +kernel
theorem dX2_copyFrom_13 : decode cX2_copyFrom 13 = .ok (.putfield 7, 3) := by decide +kernel
theorem dX2_copyFrom_16 : decode cX2_copyFrom 16 = .ok (.aload_n 1, 1) := by decide +kernel
theorem dX2_copyFrom_17 : decode cX2_copyFrom 17 = .ok (.getfield 19, 3) := by decide +kernel
theorem dX2_copyFrom_20 : decode cX2_copyFrom 20 = .ok (.iconst 0, 1) := by decide +kernel
theorem dX2_copyFrom_21 : decode cX2_copyFrom 21 = .ok (.aload_n 0, 1) := by decide +kernel
theorem dX2_copyFrom_22 : decode cX2_copyFrom 22 = .ok (.getfield 19, 3) := by decide +kernel
theorem dX2_copyFrom_25 : decode cX2_copyFrom 25 = .ok (.iconst 0, 1) := by decide +kernel
theorem dX2_copyFrom_26 : decode cX2_copyFrom 26 = .ok (.aload_n 0, 1) := by decide +kernel
theorem dX2_copyFrom_27 : decode cX2_copyFrom 27 = .ok (.getfield 7, 3) := by decide +kernel
theorem dX2_copyFrom_30 : decode cX2_copyFrom 30 = .ok (.invokestatic 37, 3) := by decide +kernel
theorem dX2_copyFrom_33 : decode cX2_copyFrom 33 = .ok (.aload_n 1, 1) := by decide +kernel
theorem dX2_copyFrom_34 : decode cX2_copyFrom 34 = .ok (.getfield 23, 3) := by decide +kernel
theorem dX2_copyFrom_37 : decode cX2_copyFrom 37 = .ok (.iconst 0, 1) := by decide +kernel
theorem dX2_copyFrom_38 : decode cX2_copyFrom 38 = .ok (.aload_n 0, 1) := by decide +kernel
theorem dX2_copyFrom_39 : decode cX2_copyFrom 39 = .ok (.getfield 23, 3) := by decide +kernel
theorem dX2_copyFrom_42 : decode cX2_copyFrom 42 = .ok (.iconst 0, 1) := by decide +kernel
theorem dX2_copyFrom_43 : decode cX2_copyFrom 43 = .ok (.aload_n 0, 1) := by decide +kernel
theorem dX2_copyFrom_44 : decode cX2_copyFrom 44 = .ok (.getfield 7, 3) := by decide +kernel
theorem dX2_copyFrom_47 : decode cX2_copyFrom 47 = .ok (.invokestatic 37, 3) := by decide +kernel
theorem dX2_copyFrom_50 : decode cX2_copyFrom 50 = .ok (.return_, 1) := by decide +kernel
theorem dX2_isAt_0 : decode cX2_isAt 0 = .ok (.iload_n 1, 1) := by decide +kernel
theorem dX2_isAt_1 : decode cX2_isAt 1 = .ok (.ifCond .lt 25, 3) := by decide +kernel
theorem dX2_isAt_4 : decode cX2_isAt 4 = .ok (.iload_n 1, 1) := by decide +kernel
theorem dX2_isAt_5 : decode cX2_isAt 5 = .ok (.aload_n 0, 1) := by decide +kernel
theorem dX2_isAt_6 : decode cX2_isAt 6 = .ok (.getfield 7, 3) := by decide +kernel
theorem dX2_isAt_9 : decode cX2_isAt 9 = .ok (.if_icmp .ge 17, 3) := by decide +kernel
theorem dX2_isAt_12 : decode cX2_isAt 12 = .ok (.aload_n 0, 1) := by decide +kernel
theorem dX2_isAt_13 : decode cX2_isAt 13 = .ok (.getfield 19, 3) := by decide +kernel
theorem dX2_isAt_16 : decode cX2_isAt 16 = .ok (.iload_n 1, 1) := by decide +kernel
theorem dX2_isAt_17 : decode cX2_isAt 17 = .ok (.iaload, 1) := by decide +kernel
theorem dX2_isAt_18 : decode cX2_isAt 18 = .ok (.iload_n 2, 1) := by decide +kernel
theorem dX2_isAt_19 : decode cX2_isAt 19 = .ok (.if_icmp .ne 7, 3) := by decide +kernel
theorem dX2_isAt_22 : decode cX2_isAt 22 = .ok (.iconst 1, 1) := by decide +kernel
theorem dX2_isAt_23 : decode cX2_isAt 23 = .ok (.goto 4, 3) := by decide +kernel
theorem dX2_isAt_26 : decode cX2_isAt 26 = .ok (.iconst 0, 1) := by decide +kernel
theorem dX2_isAt_27 : decode cX2_isAt 27 = .ok (.ireturn, 1) := by decide +kernel
theorem dX3_init_0 : decode cX3_init 0 = .ok (.aload_n 0, 1) := by decide +kernel
theorem dX3_init_1 : decode cX3_init 1 = .ok (.invokespecial 3, 3) := by decide +kernel
theorem dX3_init_4 : decode cX3_init 4 = .ok (.aload_n 0, 1) := by decide +kernel
theorem dX3_init_5 : decode cX3_init 5 = .ok (.iconst 0, 1) := by decide +kernel
theorem dX3_init_6 : decode cX3_init 6 = .ok (.putfield 9, 3) := by decide +kernel
theorem dX3_init_9 : decode cX3_init 9 = .ok (.aload_n 0, 1) := by decide +kernel
theorem dX3_init_10 : decode cX3_init 10 = .ok (.iconst 0, 1) := by decide +kernel
theorem dX3_init_11 : decode cX3_init 11 = .ok (.putfield 15, 3) := by decide +kernel
theorem dX3_init_14 : decode cX3_init 14 = .ok (.aload_n 0, 1) := by decide +kernel
theorem dX3_init_15 : decode cX3_init 15 = .ok (.aload_n 1, 1) := by decide +kernel
theorem dX3_init_16 : decode cX3_init 16 = .ok (.putfield 18, 3) := by decide +kernel
theorem dX3_init_19 : decode cX3_init 19 = .ok (.return_, 1) := by decide +kernel
theorem dX3_layOut_0 : decode cX3_layOut 0 = .ok (.aload_n 0, 1) := by decide +kernel
theorem dX3_layOut_1 : decode cX3_layOut 1 = .ok (.iload_n 1, 1) := by decide +kernel
theorem dX3_layOut_2 : decode cX3_layOut 2 = .ok (.putfield 9, 3) := by decide +kernel
theorem dX3_layOut_5 : decode cX3_layOut 5 = .ok (.aload_n 0, 1) := by decide +kernel
theorem dX3_layOut_6 : decode cX3_layOut 6 = .ok (.iload_n 2, 1) := by decide +kernel
theorem dX3_layOut_7 : decode cX3_layOut 7 = .ok (.putfield 15, 3) := by decide +kernel
theorem dX3_layOut_10 : decode cX3_layOut 10 = .ok (.return_, 1) := by decide +kernel
theorem dX3_areaBlocks_0 : decode cX3_areaBlocks 0 = .ok (.aload_n 0, 1) := by decide +kernel
theorem dX3_areaBlocks_1 : decode cX3_areaBlocks 1 = .ok (.getfield 15, 3) := by decide +kernel
theorem dX3_areaBlocks_4 : decode cX3_areaBlocks 4 = .ok (.ireturn, 1) := by decide +kernel
theorem dX3_blocksFor_0 : decode cX3_blocksFor 0 = .ok (.iload_n 1, 1) := by decide +kernel
theorem dX3_blocksFor_1 : decode cX3_blocksFor 1 = .ok (.aload_n 0, 1) := by decide +kernel
theorem dX3_blocksFor_2 : decode cX3_blocksFor 2 = .ok (.invokevirtual 22, 3) := by decide +kernel
theorem dX3_blocksFor_5 : decode cX3_blocksFor 5 = .ok (.invokestatic 26, 3) := by decide +kernel
theorem dX3_blocksFor_8 : decode cX3_blocksFor 8 = .ok (.istore_n 2, 1) := by decide +kernel
theorem dX3_blocksFor_9 : decode cX3_blocksFor 9 = .ok (.iload_n 2, 1) := by decide +kernel
theorem dX3_blocksFor_10 : decode cX3_blocksFor 10 = .ok (.istore_n 3, 1) := by decide +kernel
theorem dX3_blocksFor_11 : decode cX3_blocksFor 11 = .ok (.iconst 0, 1) := by decide +kernel
theorem dX3_blocksFor_12 : decode cX3_blocksFor 12 = .ok (.istore 4, 2) := by decide +kernel
theorem dX3_blocksFor_14 : decode cX3_blocksFor 14 = .ok (.iload 4, 2) := by decide +kernel
theorem dX3_blocksFor_16 : decode cX3_blocksFor 16 = .ok (.bipush 32, 2) := by decide +kernel
theorem dX3_blocksFor_18 : decode cX3_blocksFor 18 = .ok (.if_icmp .ge 27, 3) := by decide +kernel
theorem dX3_blocksFor_21 : decode cX3_blocksFor 21 = .ok (.iload_n 2, 1) := by decide +kernel
theorem dX3_blocksFor_22 : decode cX3_blocksFor 22 = .ok (.iconst 1, 1) := by decide +kernel
theorem dX3_blocksFor_23 : decode cX3_blocksFor 23 = .ok (.if_icmp .le 22, 3) := by decide +kernel
theorem dX3_blocksFor_26 : decode cX3_blocksFor 26 = .ok (.iload_n 2, 1) := by decide +kernel
theorem dX3_blocksFor_27 : decode cX3_blocksFor 27 = .ok (.aload_n 0, 1) := by decide +kernel
theorem dX3_blocksFor_28 : decode cX3_blocksFor 28 = .ok (.invokevirtual 22, 3) := by decide +kernel
theorem dX3_blocksFor_31 : decode cX3_blocksFor 31 = .ok (.invokestatic 26, 3) := by decide +kernel
theorem dX3_blocksFor_34 : decode cX3_blocksFor 34 = .ok (.istore_n 2, 1) := by decide +kernel
theorem dX3_blocksFor_35 : decode cX3_blocksFor 35 = .ok (.iload_n 3, 1) := by decide +kernel
theorem dX3_blocksFor_36 : decode cX3_blocksFor 36 = .ok (.iload_n 2, 1) := by decide +kernel
theorem dX3_blocksFor_37 : decode cX3_blocksFor 37 = .ok (.iadd, 1) := by decide +kernel
theorem dX3_blocksFor_38 : decode cX3_blocksFor 38 = .ok (.istore_n 3, 1) := by decide +kernel
theorem dX3_blocksFor_39 : decode cX3_blocksFor 39 = .ok (.iinc 4 1, 3) := by decide +kernel
theorem dX3_blocksFor_42 : decode cX3_blocksFor 42 = .ok (.goto (-28), 3) := by decide +kernel
theorem dX3_blocksFor_45 : decode cX3_blocksFor 45 = .ok (.iload_n 3, 1) := by decide +kernel
theorem dX3_blocksFor_46 : decode cX3_blocksFor 46 = .ok (.ireturn, 1) := by decide +kernel
theorem dX3_rootOf_0 : decode cX3_rootOf 0 = .ok (.iload_n 2, 1) := by decide +kernel
theorem dX3_rootOf_1 : decode cX3_rootOf 1 = .ok (.iconst 1, 1) := by decide +kernel
theorem dX3_rootOf_2 : decode cX3_rootOf 2 = .ok (.if_icmp .ge 7, 3) := by decide +kernel
theorem dX3_rootOf_5 : decode cX3_rootOf 5 = .ok (.iconst 0, 1) := by decide +kernel
theorem dX3_rootOf_6 : decode cX3_rootOf 6 = .ok (.goto 16, 3) := by decide +kernel
theorem dX3_rootOf_9 : decode cX3_rootOf 9 = .ok (.aload_n 0, 1) := by decide +kernel
theorem dX3_rootOf_10 : decode cX3_rootOf 10 = .ok (.iload_n 1, 1) := by decide +kernel
theorem dX3_rootOf_11 : decode cX3_rootOf 11 = .ok (.invokevirtual 30, 3) := by decide +kernel
theorem dX3_rootOf_14 : decode cX3_rootOf 14 = .ok (.aload_n 0, 1) := by decide +kernel
theorem dX3_rootOf_15 : decode cX3_rootOf 15 = .ok (.iload_n 2, 1) := by decide +kernel
theorem dX3_rootOf_16 : decode cX3_rootOf 16 = .ok (.invokevirtual 34, 3) := by decide +kernel
theorem dX3_rootOf_19 : decode cX3_rootOf 19 = .ok (.iadd, 1) := by decide +kernel
theorem dX3_rootOf_20 : decode cX3_rootOf 20 = .ok (.iconst 1, 1) := by decide +kernel
theorem dX3_rootOf_21 : decode cX3_rootOf 21 = .ok (.isub, 1) := by decide +kernel
theorem dX3_rootOf_22 : decode cX3_rootOf 22 = .ok (.ireturn, 1) := by decide +kernel
theorem dX3_save_0 : decode cX3_save 0 = .ok (.aload_n 0, 1) := by decide +kernel
theorem dX3_save_1 : decode cX3_save 1 = .ok (.iload_n 2, 1) := by decide +kernel
theorem dX3_save_2 : decode cX3_save 2 = .ok (.invokevirtual 30, 3) := by decide +kernel
theorem dX3_save_5 : decode cX3_save 5 = .ok (.istore_n 3, 1) := by decide +kernel
theorem dX3_save_6 : decode cX3_save 6 = .ok (.aload_n 1, 1) := by decide +kernel
theorem dX3_save_7 : decode cX3_save 7 = .ok (.invokevirtual 37, 3) := by decide +kernel
theorem dX3_save_10 : decode cX3_save 10 = .ok (.aload_n 0, 1) := by decide +kernel
theorem dX3_save_11 : decode cX3_save 11 = .ok (.invokevirtual 22, 3) := by decide +kernel
theorem dX3_save_14 : decode cX3_save 14 = .ok (.invokestatic 26, 3) := by decide +kernel
theorem dX3_save_17 : decode cX3_save 17 = .ok (.istore 4, 2) := by decide +kernel
theorem dX3_save_19 : decode cX3_save 19 = .ok (.aload_n 0, 1) := by decide +kernel
theorem dX3_save_20 : decode cX3_save 20 = .ok (.aload_n 1, 1) := by decide +kernel
theorem dX3_save_21 : decode cX3_save 21 = .ok (.iload_n 3, 1) := by decide +kernel
theorem dX3_save_22 : decode cX3_save 22 = .ok (.iload 4, 2) := by decide +kernel
theorem dX3_save_24 : decode cX3_save 24 = .ok (.invokevirtual 42, 3) := by decide +kernel
theorem dX3_save_27 : decode cX3_save 27 = .ok (.ifCond .ne 5, 3) := by decide +kernel
theorem dX3_save_30 : decode cX3_save 30 = .ok (.iconst 0, 1) := by decide +kernel
theorem dX3_save_31 : decode cX3_save 31 = .ok (.ireturn, 1) := by decide +kernel
theorem dX3_save_32 : decode cX3_save 32 = .ok (.iconst 0, 1) := by decide +kernel
theorem dX3_save_33 : decode cX3_save 33 = .ok (.istore 5, 2) := by decide +kernel
theorem dX3_save_35 : decode cX3_save 35 = .ok (.iload 5, 2) := by decide +kernel
theorem dX3_save_37 : decode cX3_save 37 = .ok (.bipush 32, 2) := by decide +kernel
theorem dX3_save_39 : decode cX3_save 39 = .ok (.if_icmp .ge 43, 3) := by decide +kernel
theorem dX3_save_42 : decode cX3_save 42 = .ok (.iload 4, 2) := by decide +kernel
theorem dX3_save_44 : decode cX3_save 44 = .ok (.iconst 1, 1) := by decide +kernel
theorem dX3_save_45 : decode cX3_save 45 = .ok (.if_icmp .le 37, 3) := by decide +kernel
theorem dX3_save_48 : decode cX3_save 48 = .ok (.aload_n 0, 1) := by decide +kernel
theorem dX3_save_49 : decode cX3_save 49 = .ok (.iload_n 3, 1) := by decide +kernel
theorem dX3_save_50 : decode cX3_save 50 = .ok (.iload 4, 2) := by decide +kernel
theorem dX3_save_52 : decode cX3_save 52 = .ok (.invokevirtual 46, 3) := by decide +kernel
theorem dX3_save_55 : decode cX3_save 55 = .ok (.ifCond .ne 5, 3) := by decide +kernel
theorem dX3_save_58 : decode cX3_save 58 = .ok (.iconst 0, 1) := by decide +kernel
theorem dX3_save_59 : decode cX3_save 59 = .ok (.ireturn, 1) := by decide +kernel
theorem dX3_save_60 : decode cX3_save 60 = .ok (.iload_n 3, 1) := by decide +kernel
theorem dX3_save_61 : decode cX3_save 61 = .ok (.iload 4, 2) := by decide +kernel
theorem dX3_save_63 : decode cX3_save 63 = .ok (.iadd, 1) := by decide +kernel
theorem dX3_save_64 : decode cX3_save 64 = .ok (.istore_n 3, 1) := by decide +kernel
theorem dX3_save_65 : decode cX3_save 65 = .ok (.iload 4, 2) := by decide +kernel
theorem dX3_save_67 : decode cX3_save 67 = .ok (.aload_n 0, 1) := by decide +kernel
theorem dX3_save_68 : decode cX3_save 68 = .ok (.invokevirtual 22, 3) := by decide +kernel
theorem dX3_save_71 : decode cX3_save 71 = .ok (.invokestatic 26, 3) := by decide +kernel
theorem dX3_save_74 : decode cX3_save 74 = .ok (.istore 4, 2) := by decide +kernel
theorem dX3_save_76 : decode cX3_save 76 = .ok (.iinc 5 1, 3) := by decide +kernel
theorem dX3_save_79 : decode cX3_save 79 = .ok (.goto (-44), 3) := by decide +kernel
theorem dX3_save_82 : decode cX3_save 82 = .ok (.iconst 1, 1) := by decide +kernel
theorem dX3_save_83 : decode cX3_save 83 = .ok (.ireturn, 1) := by decide +kernel
theorem dX3_load_0 : decode cX3_load 0 = .ok (.aload_n 1, 1) := by decide +kernel
theorem dX3_load_1 : decode cX3_load 1 = .ok (.invokevirtual 50, 3) := by decide +kernel
theorem dX3_load_4 : decode cX3_load 4 = .ok (.aload_n 0, 1) := by decide +kernel
theorem dX3_load_5 : decode cX3_load 5 = .ok (.iload_n 2, 1) := by decide +kernel
theorem dX3_load_6 : decode cX3_load 6 = .ok (.invokevirtual 30, 3) := by decide +kernel
theorem dX3_load_9 : decode cX3_load 9 = .ok (.istore 4, 2) := by decide +kernel
theorem dX3_load_11 : decode cX3_load 11 = .ok (.aload_n 0, 1) := by decide +kernel
theorem dX3_load_12 : decode cX3_load 12 = .ok (.invokevirtual 22, 3) := by decide +kernel
theorem dX3_load_15 : decode cX3_load 15 = .ok (.istore 5, 2) := by decide +kernel
theorem dX3_load_17 : decode cX3_load 17 = .ok (.iload 5, 2) := by decide +kernel
theorem dX3_load_19 : decode cX3_load 19 = .ok (.iconst 1, 1) := by decide +kernel
theorem dX3_load_20 : decode cX3_load 20 = .ok (.if_icmp .ge 4, 3) := by decide +kernel
theorem dX3_load_23 : decode cX3_load 23 = .ok (.return_, 1) := by decide +kernel
theorem dX3_load_24 : decode cX3_load 24 = .ok (.iconst 0, 1) := by decide +kernel
theorem dX3_load_25 : decode cX3_load 25 = .ok (.istore 6, 2) := by decide +kernel
theorem dX3_load_27 : decode cX3_load 27 = .ok (.iload 6, 2) := by decide +kernel
theorem dX3_load_29 : decode cX3_load 29 = .ok (.iload_n 3, 1) := by decide +kernel
theorem dX3_load_30 : decode cX3_load 30 = .ok (.if_icmp .ge 66, 3) := by decide +kernel
theorem dX3_load_33 : decode cX3_load 33 = .ok (.iload 6, 2) := by decide +kernel
theorem dX3_load_35 : decode cX3_load 35 = .ok (.sipush 8700, 3) := by decide +kernel
theorem dX3_load_38 : decode cX3_load 38 = .ok (.if_icmp .ge 58, 3) := by decide +kernel
theorem dX3_load_41 : decode cX3_load 41 = .ok (.iload 4, 2) := by decide +kernel
theorem dX3_load_43 : decode cX3_load 43 = .ok (.iload 6, 2) := by decide +kernel
theorem dX3_load_45 : decode cX3_load 45 = .ok (.iload 5, 2) := by decide +kernel
theorem dX3_load_47 : decode cX3_load 47 = .ok (.idiv, 1) := by decide +kernel
theorem dX3_load_48 : decode cX3_load 48 = .ok (.iadd, 1) := by decide +kernel
theorem dX3_load_49 : decode cX3_load 49 = .ok (.istore 7, 2) := by decide +kernel
theorem dX3_load_51 : decode cX3_load 51 = .ok (.iconst 2, 1) := by decide +kernel
theorem dX3_load_52 : decode cX3_load 52 = .ok (.iconst 2, 1) := by decide +kernel
theorem dX3_load_53 : decode cX3_load 53 = .ok (.iload 6, 2) := by decide +kernel
theorem dX3_load_55 : decode cX3_load 55 = .ok (.iload 5, 2) := by decide +kernel
theorem dX3_load_57 : decode cX3_load 57 = .ok (.irem, 1) := by decide +kernel
theorem dX3_load_58 : decode cX3_load 58 = .ok (.imul, 1) := by decide +kernel
theorem dX3_load_59 : decode cX3_load 59 = .ok (.iadd, 1) := by decide +kernel
theorem dX3_load_60 : decode cX3_load 60 = .ok (.istore 8, 2) := by decide +kernel
theorem dX3_load_62 : decode cX3_load 62 = .ok (.aload_n 1, 1) := by decide +kernel
theorem dX3_load_63 : decode cX3_load 63 = .ok (.aload_n 0, 1) := by decide +kernel
theorem dX3_load_64 : decode cX3_load 64 = .ok (.getfield 18, 3) := by decide +kernel
theorem dX3_load_67 : decode cX3_load 67 = .ok (.iload 7, 2) := by decide +kernel
theorem dX3_load_69 : decode cX3_load 69 = .ok (.iload 8, 2) := by decide +kernel
theorem dX3_load_71 : decode cX3_load 71 = .ok (.invokevirtual 53, 3) := by decide +kernel
theorem dX3_load_74 : decode cX3_load 74 = .ok (.aload_n 0, 1) := by decide +kernel
theorem dX3_load_75 : decode cX3_load 75 = .ok (.getfield 18, 3) := by decide +kernel
theorem dX3_load_78 : decode cX3_load 78 = .ok (.iload 7, 2) := by decide +kernel
theorem dX3_load_80 : decode cX3_load 80 = .ok (.iload 8, 2) := by decide +kernel
theorem dX3_load_82 : decode cX3_load 82 = .ok (.iconst 1, 1) := by decide +kernel
theorem dX3_load_83 : decode cX3_load 83 = .ok (.iadd, 1) := by decide +kernel
theorem dX3_load_84 : decode cX3_load 84 = .ok (.invokevirtual 53, 3) := by decide +kernel
theorem dX3_load_87 : decode cX3_load 87 = .ok (.invokevirtual 58, 3) := by decide +kernel
theorem dX3_load_90 : decode cX3_load 90 = .ok (.iinc 6 1, 3) := by decide +kernel
theorem dX3_load_93 : decode cX3_load 93 = .ok (.goto (-66), 3) := by decide +kernel
theorem dX3_load_96 : decode cX3_load 96 = .ok (.return_, 1) := by decide +kernel
theorem dX3_fan_0 : decode cX3_fan 0 = .ok (.aload_n 0, 1) := by decide +kernel
theorem dX3_fan_1 : decode cX3_fan 1 = .ok (.getfield 18, 3) := by decide +kernel
theorem dX3_fan_4 : decode cX3_fan 4 = .ok (.invokevirtual 62, 3) := by decide +kernel
theorem dX3_fan_7 : decode cX3_fan 7 = .ok (.iconst 3, 1) := by decide +kernel
theorem dX3_fan_8 : decode cX3_fan 8 = .ok (.isub, 1) := by decide +kernel
theorem dX3_fan_9 : decode cX3_fan 9 = .ok (.iconst 2, 1) := by decide +kernel
theorem dX3_fan_10 : decode cX3_fan 10 = .ok (.idiv, 1) := by decide +kernel
theorem dX3_fan_11 : decode cX3_fan 11 = .ok (.ireturn, 1) := by decide +kernel
theorem dX3_startOf_0 : decode cX3_startOf 0 = .ok (.iload_n 1, 1) := by decide +kernel
theorem dX3_startOf_1 : decode cX3_startOf 1 = .ok (.ifCond .ne 10, 3) := by decide +kernel
theorem dX3_startOf_4 : decode cX3_startOf 4 = .ok (.aload_n 0, 1) := by decide +kernel
theorem dX3_startOf_5 : decode cX3_startOf 5 = .ok (.getfield 9, 3) := by decide +kernel
theorem dX3_startOf_8 : decode cX3_startOf 8 = .ok (.goto 12, 3) := by decide +kernel
theorem dX3_startOf_11 : decode cX3_startOf 11 = .ok (.aload_n 0, 1) := by decide +kernel
theorem dX3_startOf_12 : decode cX3_startOf 12 = .ok (.getfield 9, 3) := by decide +kernel
theorem dX3_startOf_15 : decode cX3_startOf 15 = .ok (.aload_n 0, 1) := by decide +kernel
theorem dX3_startOf_16 : decode cX3_startOf 16 = .ok (.getfield 15, 3) := by decide +kernel
theorem dX3_startOf_19 : decode cX3_startOf 19 = .ok (.iadd, 1) := by decide +kernel
theorem dX3_startOf_20 : decode cX3_startOf 20 = .ok (.ireturn, 1) := by decide +kernel
theorem dX3_writeLeaves_0 : decode cX3_writeLeaves 0 = .ok (.iconst 0, 1) := by decide +kernel
theorem dX3_writeLeaves_1 : decode cX3_writeLeaves 1 = .ok (.istore 4, 2) := by decide +kernel
theorem dX3_writeLeaves_3 : decode cX3_writeLeaves 3 = .ok (.iload 4, 2) := by decide +kernel
theorem dX3_writeLeaves_5 : decode cX3_writeLeaves 5 = .ok (.iload_n 3, 1) := by decide +kernel
theorem dX3_writeLeaves_6 : decode cX3_writeLeaves 6 = .ok (.if_icmp .ge 97, 3) := by decide +kernel
theorem dX3_writeLeaves_9 : decode cX3_writeLeaves 9 = .ok (.iload 4, 2) := by decide +kernel
theorem dX3_writeLeaves_11 : decode cX3_writeLeaves 11 = .ok (.aload_n 0, 1) := by decide +kernel
theorem dX3_writeLeaves_12 : decode cX3_writeLeaves 12 = .ok (.invokevirtual 22, 3) := by decide +kernel
theorem dX3_writeLeaves_15 : decode cX3_writeLeaves 15 = .ok (.imul, 1) := by decide +kernel
theorem dX3_writeLeaves_16 : decode cX3_writeLeaves 16 = .ok (.istore 5, 2) := by decide +kernel
theorem dX3_writeLeaves_18 : decode cX3_writeLeaves 18 = .ok (.aload_n 0, 1) := by decide +kernel
theorem dX3_writeLeaves_19 : decode cX3_writeLeaves 19 = .ok (.invokevirtual 22, 3) := by decide +kernel
theorem dX3_writeLeaves_22 : decode cX3_writeLeaves 22 = .ok (.aload_n 1, 1) := by decide +kernel
theorem dX3_writeLeaves_23 : decode cX3_writeLeaves 23 = .ok (.invokevirtual 37, 3) := by decide +kernel
theorem dX3_writeLeaves_26 : decode cX3_writeLeaves 26 = .ok (.iload 5, 2) := by decide +kernel
theorem dX3_writeLeaves_28 : decode cX3_writeLeaves 28 = .ok (.isub, 1) := by decide +kernel
theorem dX3_writeLeaves_29 : decode cX3_writeLeaves 29 = .ok (.invokestatic 65, 3) := by decide +kernel
theorem dX3_writeLeaves_32 : decode cX3_writeLeaves 32 = .ok (.istore 6, 2) := by decide +kernel
theorem dX3_writeLeaves_34 : decode cX3_writeLeaves 34 = .ok (.aload_n 0, 1) := by decide +kernel
theorem dX3_writeLeaves_35 : decode cX3_writeLeaves 35 = .ok (.iconst 1, 1) := by decide +kernel
theorem dX3_writeLeaves_36 : decode cX3_writeLeaves 36 = .ok (.iload 6, 2) := by decide +kernel
theorem dX3_writeLeaves_38 : decode cX3_writeLeaves 38 = .ok (.invokevirtual 70, 3) := by decide +kernel
theorem dX3_writeLeaves_41 : decode cX3_writeLeaves 41 = .ok (.iconst 0, 1) := by decide +kernel
theorem dX3_writeLeaves_42 : decode cX3_writeLeaves 42 = .ok (.istore 7, 2) := by decide +kernel
theorem dX3_writeLeaves_44 : decode cX3_writeLeaves 44 = .ok (.iload 7, 2) := by decide +kernel
theorem dX3_writeLeaves_46 : decode cX3_writeLeaves 46 = .ok (.iload 6, 2) := by decide +kernel
theorem dX3_writeLeaves_48 : decode cX3_writeLeaves 48 = .ok (.if_icmp .ge 33, 3) := by decide +kernel
theorem dX3_writeLeaves_51 : decode cX3_writeLeaves 51 = .ok (.aload_n 0, 1) := by decide +kernel
theorem dX3_writeLeaves_52 : decode cX3_writeLeaves 52 = .ok (.iload 7, 2) := by decide +kernel
theorem dX3_writeLeaves_54 : decode cX3_writeLeaves 54 = .ok (.aload_n 1, 1) := by decide +kernel
theorem dX3_writeLeaves_55 : decode cX3_writeLeaves 55 = .ok (.iload 5, 2) := by decide +kernel
theorem dX3_writeLeaves_57 : decode cX3_writeLeaves 57 = .ok (.iload 7, 2) := by decide +kernel
theorem dX3_writeLeaves_59 : decode cX3_writeLeaves 59 = .ok (.iadd, 1) := by decide +kernel
theorem dX3_writeLeaves_60 : decode cX3_writeLeaves 60 = .ok (.invokevirtual 73, 3) := by decide +kernel
theorem dX3_writeLeaves_63 : decode cX3_writeLeaves 63 = .ok (.aload_n 1, 1) := by decide +kernel
theorem dX3_writeLeaves_64 : decode cX3_writeLeaves 64 = .ok (.iload 5, 2) := by decide +kernel
theorem dX3_writeLeaves_66 : decode cX3_writeLeaves 66 = .ok (.iload 7, 2) := by decide +kernel
theorem dX3_writeLeaves_68 : decode cX3_writeLeaves 68 = .ok (.iadd, 1) := by decide +kernel
theorem dX3_writeLeaves_69 : decode cX3_writeLeaves 69 = .ok (.invokevirtual 76, 3) := by decide +kernel
theorem dX3_writeLeaves_72 : decode cX3_writeLeaves 72 = .ok (.invokevirtual 79, 3) := by decide +kernel
theorem dX3_writeLeaves_75 : decode cX3_writeLeaves 75 = .ok (.iinc 7 1, 3) := by decide +kernel
theorem dX3_writeLeaves_78 : decode cX3_writeLeaves 78 = .ok (.goto (-34), 3) := by decide +kernel
theorem dX3_writeLeaves_81 : decode cX3_writeLeaves 81 = .ok (.aload_n 0, 1) := by decide +kernel
theorem dX3_writeLeaves_82 : decode cX3_writeLeaves 82 = .ok (.getfield 18, 3) := by decide +kernel
theorem dX3_writeLeaves_85 : decode cX3_writeLeaves 85 = .ok (.iload_n 2, 1) := by decide +kernel
theorem dX3_writeLeaves_86 : decode cX3_writeLeaves 86 = .ok (.iload 4, 2) := by decide +kernel
theorem dX3_writeLeaves_88 : decode cX3_writeLeaves 88 = .ok (.iadd, 1) := by decide +kernel
theorem dX3_writeLeaves_89 : decode cX3_writeLeaves 89 = .ok (.invokevirtual 83, 3) := by decide +kernel
theorem dX3_writeLeaves_92 : decode cX3_writeLeaves 92 = .ok (.ifCond .ne 5, 3) := by decide +kernel
theorem dX3_writeLeaves_95 : decode cX3_writeLeaves 95 = .ok (.iconst 0, 1) := by decide +kernel
theorem dX3_writeLeaves_96 : decode cX3_writeLeaves 96 = .ok (.ireturn, 1) := by decide +kernel
theorem dX3_writeLeaves_97 : decode cX3_writeLeaves 97 = .ok (.iinc 4 1, 3) := by decide +kernel
theorem dX3_writeLeaves_100 : decode cX3_writeLeaves 100 = .ok (.goto (-97), 3) := by decide +kernel
theorem dX3_writeLeaves_103 : decode cX3_writeLeaves 103 = .ok (.iconst 1, 1) := by decide +kernel
theorem dX3_writeLeaves_104 : decode cX3_writeLeaves 104 = .ok (.ireturn, 1) := by decide +kernel
theorem dX3_writeNodes_0 : decode cX3_writeNodes 0 = .ok (.iload_n 2, 1) := by decide +kernel
theorem dX3_writeNodes_1 : decode cX3_writeNodes 1 = .ok (.aload_n 0, 1) := by decide +kernel
theorem dX3_writeNodes_2 : decode cX3_writeNodes 2 = .ok (.invokevirtual 22, 3) := by decide +kernel
theorem dX3_writeNodes_5 : decode cX3_writeNodes 5 = .ok (.invokestatic 26, 3) := by decide +kernel
theorem dX3_writeNodes_8 : decode cX3_writeNodes 8 = .ok (.istore_n 3, 1) := by decide +kernel
theorem dX3_writeNodes_9 : decode cX3_writeNodes 9 = .ok (.iconst 0, 1) := by decide +kernel
theorem dX3_writeNodes_10 : decode cX3_writeNodes 10 = .ok (.istore 4, 2) := by decide +kernel
theorem dX3_writeNodes_12 : decode cX3_writeNodes 12 = .ok (.iload 4, 2) := by decide +kernel
theorem dX3_writeNodes_14 : decode cX3_writeNodes 14 = .ok (.iload_n 3, 1) := by decide +kernel
theorem dX3_writeNodes_15 : decode cX3_writeNodes 15 = .ok (.if_icmp .ge 99, 3) := by decide +kernel
theorem dX3_writeNodes_18 : decode cX3_writeNodes 18 = .ok (.iload 4, 2) := by decide +kernel
theorem dX3_writeNodes_20 : decode cX3_writeNodes 20 = .ok (.aload_n 0, 1) := by decide +kernel
theorem dX3_writeNodes_21 : decode cX3_writeNodes 21 = .ok (.invokevirtual 22, 3) := by decide +kernel
theorem dX3_writeNodes_24 : decode cX3_writeNodes 24 = .ok (.imul, 1) := by decide +kernel
theorem dX3_writeNodes_25 : decode cX3_writeNodes 25 = .ok (.istore 5, 2) := by decide +kernel
theorem dX3_writeNodes_27 : decode cX3_writeNodes 27 = .ok (.aload_n 0, 1) := by decide +kernel
theorem dX3_writeNodes_28 : decode cX3_writeNodes 28 = .ok (.invokevirtual 22, 3) := by decide +kernel
theorem dX3_writeNodes_31 : decode cX3_writeNodes 31 = .ok (.iload_n 2, 1) := by decide +kernel
theorem dX3_writeNodes_32 : decode cX3_writeNodes 32 = .ok (.iload 5, 2) := by decide +kernel
theorem dX3_writeNodes_34 : decode cX3_writeNodes 34 = .ok (.isub, 1) := by decide +kernel
theorem dX3_writeNodes_35 : decode cX3_writeNodes 35 = .ok (.invokestatic 65, 3) := by decide +kernel
theorem dX3_writeNodes_38 : decode cX3_writeNodes 38 = .ok (.istore 6, 2) := by decide +kernel
theorem dX3_writeNodes_40 : decode cX3_writeNodes 40 = .ok (.aload_n 0, 1) := by decide +kernel
theorem dX3_writeNodes_41 : decode cX3_writeNodes 41 = .ok (.iconst 2, 1) := by decide +kernel
theorem dX3_writeNodes_42 : decode cX3_writeNodes 42 = .ok (.iload 6, 2) := by decide +kernel
theorem dX3_writeNodes_44 : decode cX3_writeNodes 44 = .ok (.invokevirtual 70, 3) := by decide +kernel
theorem dX3_writeNodes_47 : decode cX3_writeNodes 47 = .ok (.iconst 0, 1) := by decide +kernel
theorem dX3_writeNodes_48 : decode cX3_writeNodes 48 = .ok (.istore 7, 2) := by decide +kernel
theorem dX3_writeNodes_50 : decode cX3_writeNodes 50 = .ok (.iload 7, 2) := by decide +kernel
theorem dX3_writeNodes_52 : decode cX3_writeNodes 52 = .ok (.iload 6, 2) := by decide +kernel
theorem dX3_writeNodes_54 : decode cX3_writeNodes 54 = .ok (.if_icmp .ge 36, 3) := by decide +kernel
theorem dX3_writeNodes_57 : decode cX3_writeNodes 57 = .ok (.iload_n 1, 1) := by decide +kernel
theorem dX3_writeNodes_58 : decode cX3_writeNodes 58 = .ok (.iload 5, 2) := by decide +kernel
theorem dX3_writeNodes_60 : decode cX3_writeNodes 60 = .ok (.iadd, 1) := by decide +kernel
theorem dX3_writeNodes_61 : decode cX3_writeNodes 61 = .ok (.iload 7, 2) := by decide +kernel
theorem dX3_writeNodes_63 : decode cX3_writeNodes 63 = .ok (.iadd, 1) := by decide +kernel
theorem dX3_writeNodes_64 : decode cX3_writeNodes 64 = .ok (.istore 8, 2) := by decide +kernel
theorem dX3_writeNodes_66 : decode cX3_writeNodes 66 = .ok (.aload_n 0, 1) := by decide +kernel
theorem dX3_writeNodes_67 : decode cX3_writeNodes 67 = .ok (.iload 7, 2) := by decide +kernel
theorem dX3_writeNodes_69 : decode cX3_writeNodes 69 = .ok (.aload_n 0, 1) := by decide +kernel
theorem dX3_writeNodes_70 : decode cX3_writeNodes 70 = .ok (.getfield 18, 3) := by decide +kernel
theorem dX3_writeNodes_73 : decode cX3_writeNodes 73 = .ok (.iload 8, 2) := by decide +kernel
theorem dX3_writeNodes_75 : decode cX3_writeNodes 75 = .ok (.iconst 2, 1) := by decide +kernel
theorem dX3_writeNodes_76 : decode cX3_writeNodes 76 = .ok (.invokevirtual 53, 3) := by decide +kernel
theorem dX3_writeNodes_79 : decode cX3_writeNodes 79 = .ok (.iload 8, 2) := by decide +kernel
theorem dX3_writeNodes_81 : decode cX3_writeNodes 81 = .ok (.invokevirtual 79, 3) := by decide +kernel
theorem dX3_writeNodes_84 : decode cX3_writeNodes 84 = .ok (.iinc 7 1, 3) := by decide +kernel
theorem dX3_writeNodes_87 : decode cX3_writeNodes 87 = .ok (.goto (-37), 3) := by decide +kernel
theorem dX3_writeNodes_90 : decode cX3_writeNodes 90 = .ok (.aload_n 0, 1) := by decide +kernel
theorem dX3_writeNodes_91 : decode cX3_writeNodes 91 = .ok (.getfield 18, 3) := by decide +kernel
theorem dX3_writeNodes_94 : decode cX3_writeNodes 94 = .ok (.iload_n 1, 1) := by decide +kernel
theorem dX3_writeNodes_95 : decode cX3_writeNodes 95 = .ok (.iload_n 2, 1) := by decide +kernel
theorem dX3_writeNodes_96 : decode cX3_writeNodes 96 = .ok (.iadd, 1) := by decide +kernel
theorem dX3_writeNodes_97 : decode cX3_writeNodes 97 = .ok (.iload 4, 2) := by decide +kernel
theorem dX3_writeNodes_99 : decode cX3_writeNodes 99 = .ok (.iadd, 1) := by decide +kernel
theorem dX3_writeNodes_100 : decode cX3_writeNodes 100 = .ok (.invokevirtual 83, 3) := by decide +kernel
theorem dX3_writeNodes_103 : decode cX3_writeNodes 103 = .ok (.ifCond .ne 5, 3) := by decide +kernel
theorem dX3_writeNodes_106 : decode cX3_writeNodes 106 = .ok (.iconst 0, 1) := by decide +kernel
theorem dX3_writeNodes_107 : decode cX3_writeNodes 107 = .ok (.ireturn, 1) := by decide +kernel
theorem dX3_writeNodes_108 : decode cX3_writeNodes 108 = .ok (.iinc 4 1, 3) := by decide +kernel
theorem dX3_writeNodes_111 : decode cX3_writeNodes 111 = .ok (.goto (-99), 3) := by decide +kernel
theorem dX3_writeNodes_114 : decode cX3_writeNodes 114 = .ok (.iconst 1, 1) := by decide +kernel
theorem dX3_writeNodes_115 : decode cX3_writeNodes 115 = .ok (.ireturn, 1) := by decide +kernel
theorem dX3_beginPage_0 : decode cX3_beginPage 0 = .ok (.aload_n 0, 1) := by decide +kernel
theorem dX3_beginPage_1 : decode cX3_beginPage 1 = .ok (.getfield 18, 3) := by decide +kernel
theorem dX3_beginPage_4 : decode cX3_beginPage 4 = .ok (.invokevirtual 87, 3) := by decide +kernel
theorem dX3_beginPage_7 : decode cX3_beginPage 7 = .ok (.aload_n 0, 1) := by decide +kernel
theorem dX3_beginPage_8 : decode cX3_beginPage 8 = .ok (.getfield 18, 3) := by decide +kernel
theorem dX3_beginPage_11 : decode cX3_beginPage 11 = .ok (.iconst 0, 1) := by decide +kernel
theorem dX3_beginPage_12 : decode cX3_beginPage 12 = .ok (.iload_n 1, 1) := by decide +kernel
theorem dX3_beginPage_13 : decode cX3_beginPage 13 = .ok (.invokevirtual 90, 3) := by decide +kernel
theorem dX3_beginPage_16 : decode cX3_beginPage 16 = .ok (.aload_n 0, 1) := by decide +kernel
theorem dX3_beginPage_17 : decode cX3_beginPage 17 = .ok (.getfield 18, 3) := by decide +kernel
theorem dX3_beginPage_20 : decode cX3_beginPage 20 = .ok (.iconst 1, 1) := by decide +kernel
theorem dX3_beginPage_21 : decode cX3_beginPage 21 = .ok (.iload_n 2, 1) := by decide +kernel
theorem dX3_beginPage_22 : decode cX3_beginPage 22 = .ok (.invokevirtual 90, 3) := by decide +kernel
theorem dX3_beginPage_25 : decode cX3_beginPage 25 = .ok (.return_, 1) := by decide +kernel
theorem dX3_setPair_0 : decode cX3_setPair 0 = .ok (.aload_n 0, 1) := by decide +kernel
theorem dX3_setPair_1 : decode cX3_setPair 1 = .ok (.getfield 18, 3) := by decide +kernel
theorem dX3_setPair_4 : decode cX3_setPair 4 = .ok (.iconst 2, 1) := by decide +kernel
theorem dX3_setPair_5 : decode cX3_setPair 5 = .ok (.iconst 2, 1) := by decide +kernel
theorem dX3_setPair_6 : decode cX3_setPair 6 = .ok (.iload_n 1, 1) := by decide +kernel
theorem dX3_setPair_7 : decode cX3_setPair 7 = .ok (.imul, 1) := by decide +kernel
theorem dX3_setPair_8 : decode cX3_setPair 8 = .ok (.iadd, 1) := by decide +kernel
theorem dX3_setPair_9 : decode cX3_setPair 9 = .ok (.iload_n 2, 1) := by decide +kernel
theorem dX3_setPair_10 : decode cX3_setPair 10 = .ok (.invokevirtual 90, 3) := by decide +kernel
theorem dX3_setPair_13 : decode cX3_setPair 13 = .ok (.aload_n 0, 1) := by decide +kernel
theorem dX3_setPair_14 : decode cX3_setPair 14 = .ok (.getfield 18, 3) := by decide +kernel
theorem dX3_setPair_17 : decode cX3_setPair 17 = .ok (.iconst 2, 1) := by decide +kernel
theorem dX3_setPair_18 : decode cX3_setPair 18 = .ok (.iconst 2, 1) := by decide +kernel
theorem dX3_setPair_19 : decode cX3_setPair 19 = .ok (.iload_n 1, 1) := by decide +kernel
theorem dX3_setPair_20 : decode cX3_setPair 20 = .ok (.imul, 1) := by decide +kernel
theorem dX3_setPair_21 : decode cX3_setPair 21 = .ok (.iadd, 1) := by decide +kernel
theorem dX3_setPair_22 : decode cX3_setPair 22 = .ok (.iconst 1, 1) := by decide +kernel
theorem dX3_setPair_23 : decode cX3_setPair 23 = .ok (.iadd, 1) := by decide +kernel
theorem dX3_setPair_24 : decode cX3_setPair 24 = .ok (.iload_n 3, 1) := by decide +kernel
theorem dX3_setPair_25 : decode cX3_setPair 25 = .ok (.invokevirtual 90, 3) := by decide +kernel
theorem dX3_setPair_28 : decode cX3_setPair 28 = .ok (.return_, 1) := by decide +kernel
theorem dJ7_fill_53178_0 : decode cJ7_fill_53178 0 = .ok (.iconst 0, 1) := by decide +kernel
theorem dJ7_fill_53178_1 : decode cJ7_fill_53178 1 = .ok (.istore_n 2, 1) := by decide +kernel
theorem dJ7_fill_53178_2 : decode cJ7_fill_53178 2 = .ok (.aload_n 0, 1) := by decide +kernel
theorem dJ7_fill_53178_3 : decode cJ7_fill_53178 3 = .ok (.arraylength, 1) := by decide +kernel
theorem dJ7_fill_53178_4 : decode cJ7_fill_53178 4 = .ok (.istore_n 3, 1) := by decide +kernel
theorem dJ7_fill_53178_5 : decode cJ7_fill_53178 5 = .ok (.iload_n 2, 1) := by decide +kernel
theorem dJ7_fill_53178_6 : decode cJ7_fill_53178 6 = .ok (.iload_n 3, 1) := by decide +kernel
theorem dJ7_fill_53178_7 : decode cJ7_fill_53178 7 = .ok (.if_icmp .ge 13, 3) := by decide +kernel
theorem dJ7_fill_53178_10 : decode cJ7_fill_53178 10 = .ok (.aload_n 0, 1) := by decide +kernel
theorem dJ7_fill_53178_11 : decode cJ7_fill_53178 11 = .ok (.iload_n 2, 1) := by decide +kernel
theorem dJ7_fill_53178_12 : decode cJ7_fill_53178 12 = .ok (.iload_n 1, 1) := by decide +kernel
theorem dJ7_fill_53178_13 : decode cJ7_fill_53178 13 = .ok (.iastore, 1) := by decide +kernel
theorem dJ7_fill_53178_14 : decode cJ7_fill_53178 14 = .ok (.iinc 2 1, 3) := by decide +kernel
theorem dJ7_fill_53178_17 : decode cJ7_fill_53178 17 = .ok (.goto (-12), 3) := by decide +kernel
theorem dJ7_fill_53178_20 : decode cJ7_fill_53178 20 = .ok (.return_, 1) := by decide +kernel
end
section
theorem dX4_init_0 : decode cX4_init 0 = .ok (.aload_n 0, 1) := by decide +kernel
theorem dX4_init_1 : decode cX4_init 1 = .ok (.invokespecial 1, 3) := by decide +kernel
theorem dX4_init_4 : decode cX4_init 4 = .ok (.aload_n 0, 1) := by decide +kernel
theorem dX4_init_5 : decode cX4_init 5 = .ok (.new 7, 3) := by decide +kernel
theorem dX4_init_8 : decode cX4_init 8 = .ok (.dup, 1) := by decide +kernel
theorem dX4_init_9 : decode cX4_init 9 = .ok (.invokespecial 9, 3) := by decide +kernel
theorem dX4_init_12 : decode cX4_init 12 = .ok (.putfield 10, 3) := by decide +kernel
theorem dX4_init_15 : decode cX4_init 15 = .ok (.aload_n 0, 1) := by decide +kernel
theorem dX4_init_16 : decode cX4_init 16 = .ok (.new 16, 3) := by decide +kernel
theorem dX4_init_19 : decode cX4_init 19 = .ok (.dup, 1) := by decide +kernel
theorem dX4_init_20 : decode cX4_init 20 = .ok (.aload_n 0, 1) := by decide +kernel
theorem dX4_init_21 : decode cX4_init 21 = .ok (.getfield 10, 3) := by decide +kernel
theorem dX4_init_24 : decode cX4_init 24 = .ok (.invokespecial 18, 3) := by decide +kernel
theorem dX4_init_27 : decode cX4_init 27 = .ok (.putfield 21, 3) := by decide +kernel
theorem dX4_init_30 : decode cX4_init 30 = .ok (.aload_n 0, 1) := by decide +kernel
theorem dX4_init_31 : decode cX4_init 31 = .ok (.new 25, 3) := by decide +kernel
theorem dX4_init_34 : decode cX4_init 34 = .ok (.dup, 1) := by decide +kernel
theorem dX4_init_35 : decode cX4_init 35 = .ok (.aload_n 0, 1) := by decide +kernel
theorem dX4_init_36 : decode cX4_init 36 = .ok (.getfield 10, 3) := by decide +kernel
theorem dX4_init_39 : decode cX4_init 39 = .ok (.invokespecial 27, 3) := by decide +kernel
theorem dX4_init_42 : decode cX4_init 42 = .ok (.putfield 28, 3) := by decide +kernel
theorem dX4_init_45 : decode cX4_init 45 = .ok (.aload_n 0, 1) := by decide +kernel
theorem dX4_init_46 : decode cX4_init 46 = .ok (.new 32, 3) := by decide +kernel
theorem dX4_init_49 : decode cX4_init 49 = .ok (.dup, 1) := by decide +kernel
theorem dX4_init_50 : decode cX4_init 50 = .ok (.sipush 8700, 3) := by decide +kernel
theorem dX4_init_53 : decode cX4_init 53 = .ok (.invokespecial 34, 3) := by decide +kernel
theorem dX4_init_56 : decode cX4_init 56 = .ok (.putfield 37, 3) := by decide +kernel
theorem dX4_init_59 : decode cX4_init 59 = .ok (.aload_n 0, 1) := by decide +kernel
theorem dX4_init_60 : decode cX4_init 60 = .ok (.new 32, 3) := by decide +kernel
theorem dX4_init_63 : decode cX4_init 63 = .ok (.dup, 1) := by decide +kernel
theorem dX4_init_64 : decode cX4_init 64 = .ok (.sipush 8700, 3) := by decide +kernel
theorem dX4_init_67 : decode cX4_init 67 = .ok (.invokespecial 34, 3) := by decide +kernel
theorem dX4_init_70 : decode cX4_init 70 = .ok (.putfield 41, 3) := by decide +kernel
theorem dX4_init_73 : decode cX4_init 73 = .ok (.aload_n 0, 1) := by decide +kernel
theorem dX4_init_74 : decode cX4_init 74 = .ok (.new 32, 3) := by decide +kernel
theorem dX4_init_77 : decode cX4_init 77 = .ok (.dup, 1) := by decide +kernel
theorem dX4_init_78 : decode cX4_init 78 = .ok (.sipush 600, 3) := by decide +kernel
theorem dX4_init_81 : decode cX4_init 81 = .ok (.invokespecial 34, 3) := by decide +kernel
theorem dX4_init_84 : decode cX4_init 84 = .ok (.putfield 44, 3) := by decide +kernel
theorem dX4_init_87 : decode cX4_init 87 = .ok (.aload_n 0, 1) := by decide +kernel
theorem dX4_init_88 : decode cX4_init 88 = .ok (.iconst 0, 1) := by decide +kernel
theorem dX4_init_89 : decode cX4_init 89 = .ok (.putfield 47, 3) := by decide +kernel
theorem dX4_init_92 : decode cX4_init 92 = .ok (.aload_n 0, 1) := by decide +kernel
theorem dX4_init_93 : decode cX4_init 93 = .ok (.iconst 0, 1) := by decide +kernel
theorem dX4_init_94 : decode cX4_init 94 = .ok (.putfield 51, 3) := by decide +kernel
theorem dX4_init_97 : decode cX4_init 97 = .ok (.return_, 1) := by decide +kernel
theorem dX4_disk_0 : decode cX4_disk 0 = .ok (.iload_n 1, 1) := by decide +kernel
theorem dX4_disk_1 : decode cX4_disk 1 = .ok (.bipush 16, 2) := by decide +kernel
theorem dX4_disk_3 : decode cX4_disk 3 = .ok (.if_icmp .lt 10, 3) := by decide +kernel
theorem dX4_disk_6 : decode cX4_disk 6 = .ok (.iload_n 1, 1) := by decide +kernel
theorem dX4_disk_7 : decode cX4_disk 7 = .ok (.sipush 512, 3) := by decide +kernel
theorem dX4_disk_10 : decode cX4_disk 10 = .ok (.if_icmp .le 5, 3) := by decide +kernel
theorem dX4_disk_13 : decode cX4_disk 13 = .ok (.iconst 0, 1) := by decide +kernel
theorem dX4_disk_14 : decode cX4_disk 14 = .ok (.ireturn, 1) := by decide +kernel
theorem dX4_disk_15 : decode cX4_disk 15 = .ok (.iload_n 2, 1) := by decide +kernel
theorem dX4_disk_16 : decode cX4_disk 16 = .ok (.bipush 16, 2) := by decide +kernel
theorem dX4_disk_18 : decode cX4_disk 18 = .ok (.if_icmp .lt 9, 3) := by decide +kernel
theorem dX4_disk_21 : decode cX4_disk 21 = .ok (.iload_n 2, 1) := by decide +kernel
theorem dX4_disk_22 : decode cX4_disk 22 = .ok (.bipush 64, 2) := by decide +kernel
theorem dX4_disk_24 : decode cX4_disk 24 = .ok (.if_icmp .le 5, 3) := by decide +kernel
theorem dX4_disk_27 : decode cX4_disk 27 = .ok (.iconst 0, 1) := by decide +kernel
theorem dX4_disk_28 : decode cX4_disk 28 = .ok (.ireturn, 1) := by decide +kernel
theorem dX4_disk_29 : decode cX4_disk 29 = .ok (.iload_n 3, 1) := by decide +kernel
theorem dX4_disk_30 : decode cX4_disk 30 = .ok (.iconst 4, 1) := by decide +kernel
theorem dX4_disk_31 : decode cX4_disk 31 = .ok (.if_icmp .lt 19, 3) := by decide +kernel
theorem dX4_disk_34 : decode cX4_disk 34 = .ok (.iload_n 3, 1) := by decide +kernel
theorem dX4_disk_35 : decode cX4_disk 35 = .ok (.sipush 128, 3) := by decide +kernel
theorem dX4_disk_38 : decode cX4_disk 38 = .ok (.if_icmp .gt 12, 3) := by decide +kernel
theorem dX4_disk_41 : decode cX4_disk 41 = .ok (.iload_n 1, 1) := by decide +kernel
theorem dX4_disk_42 : decode cX4_disk 42 = .ok (.iconst 1, 1) := by decide +kernel
theorem dX4_disk_43 : decode cX4_disk 43 = .ok (.isub, 1) := by decide +kernel
theorem dX4_disk_44 : decode cX4_disk 44 = .ok (.iload_n 3, 1) := by decide +kernel
theorem dX4_disk_45 : decode cX4_disk 45 = .ok (.isub, 1) := by decide +kernel
theorem dX4_disk_46 : decode cX4_disk 46 = .ok (.iconst 4, 1) := by decide +kernel
theorem dX4_disk_47 : decode cX4_disk 47 = .ok (.if_icmp .ge 5, 3) := by decide +kernel
theorem dX4_disk_50 : decode cX4_disk 50 = .ok (.iconst 0, 1) := by decide +kernel
theorem dX4_disk_51 : decode cX4_disk 51 = .ok (.ireturn, 1) := by decide +kernel
theorem dX4_disk_52 : decode cX4_disk 52 = .ok (.aload_n 0, 1) := by decide +kernel
theorem dX4_disk_53 : decode cX4_disk 53 = .ok (.getfield 10, 3) := by decide +kernel
theorem dX4_disk_56 : decode cX4_disk 56 = .ok (.iload_n 1, 1) := by decide +kernel
theorem dX4_disk_57 : decode cX4_disk 57 = .ok (.iload_n 2, 1) := by decide +kernel
theorem dX4_disk_58 : decode cX4_disk 58 = .ok (.invokevirtual 55, 3) := by decide +kernel
theorem dX4_disk_61 : decode cX4_disk 61 = .ok (.aload_n 0, 1) := by decide +kernel
theorem dX4_disk_62 : decode cX4_disk 62 = .ok (.getfield 21, 3) := by decide +kernel
theorem dX4_disk_65 : decode cX4_disk 65 = .ok (.iload_n 3, 1) := by decide +kernel
theorem dX4_disk_66 : decode cX4_disk 66 = .ok (.invokevirtual 59, 3) := by decide +kernel
theorem dX4_disk_69 : decode cX4_disk 69 = .ok (.aload_n 0, 1) := by decide +kernel
theorem dX4_disk_70 : decode cX4_disk 70 = .ok (.getfield 28, 3) := by decide +kernel
theorem dX4_disk_73 : decode cX4_disk 73 = .ok (.iload_n 3, 1) := by decide +kernel
theorem dX4_disk_74 : decode cX4_disk 74 = .ok (.iconst 1, 1) := by decide +kernel
theorem dX4_disk_75 : decode cX4_disk 75 = .ok (.iadd, 1) := by decide +kernel
theorem dX4_disk_76 : decode cX4_disk 76 = .ok (.iload_n 1, 1) := by decide +kernel
theorem dX4_disk_77 : decode cX4_disk 77 = .ok (.iconst 1, 1) := by decide +kernel
theorem dX4_disk_78 : decode cX4_disk 78 = .ok (.isub, 1) := by decide +kernel
theorem dX4_disk_79 : decode cX4_disk 79 = .ok (.iload_n 3, 1) := by decide +kernel
theorem dX4_disk_80 : decode cX4_disk 80 = .ok (.isub, 1) := by decide +kernel
theorem dX4_disk_81 : decode cX4_disk 81 = .ok (.iconst 2, 1) := by decide +kernel
theorem dX4_disk_82 : decode cX4_disk 82 = .ok (.idiv, 1) := by decide +kernel
theorem dX4_disk_83 : decode cX4_disk 83 = .ok (.invokevirtual 62, 3) := by decide +kernel
theorem dX4_disk_86 : decode cX4_disk 86 = .ok (.aload_n 0, 1) := by decide +kernel
theorem dX4_disk_87 : decode cX4_disk 87 = .ok (.iconst 1, 1) := by decide +kernel
theorem dX4_disk_88 : decode cX4_disk 88 = .ok (.putfield 47, 3) := by decide +kernel
theorem dX4_disk_91 : decode cX4_disk 91 = .ok (.iconst 1, 1) := by decide +kernel
theorem dX4_disk_92 : decode cX4_disk 92 = .ok (.ireturn, 1) := by decide +kernel
theorem dX4_format_0 : decode cX4_format 0 = .ok (.aload_n 0, 1) := by decide +kernel
theorem dX4_format_1 : decode cX4_format 1 = .ok (.getfield 47, 3) := by decide +kernel
theorem dX4_format_4 : decode cX4_format 4 = .ok (.iconst 1, 1) := by decide +kernel
theorem dX4_format_5 : decode cX4_format 5 = .ok (.if_icmp .eq 16, 3) := by decide +kernel
theorem dX4_format_8 : decode cX4_format 8 = .ok (.aload_n 0, 1) := by decide +kernel
theorem dX4_format_9 : decode cX4_format 9 = .ok (.getfield 47, 3) := by decide +kernel
theorem dX4_format_12 : decode cX4_format 12 = .ok (.iconst 2, 1) := by decide +kernel
theorem dX4_format_13 : decode cX4_format 13 = .ok (.if_icmp .eq 8, 3) := by decide +kernel
theorem dX4_format_16 : decode cX4_format 16 = .ok (.aload_n 0, 1) := by decide +kernel
theorem dX4_format_17 : decode cX4_format 17 = .ok (.invokevirtual 64, 3) := by decide +kernel
theorem dX4_format_20 : decode cX4_format 20 = .ok (.ireturn, 1) := by decide +kernel
theorem dX4_format_21 : decode cX4_format 21 = .ok (.aload_n 0, 1) := by decide +kernel
theorem dX4_format_22 : decode cX4_format 22 = .ok (.getfield 10, 3) := by decide +kernel
theorem dX4_format_25 : decode cX4_format 25 = .ok (.iconst 0, 1) := by decide +kernel
theorem dX4_format_26 : decode cX4_format 26 = .ok (.iconst 1, 1) := by decide +kernel
theorem dX4_format_27 : decode cX4_format 27 = .ok (.invokevirtual 68, 3) := by decide +kernel
theorem dX4_format_30 : decode cX4_format 30 = .ok (.iconst 1, 1) := by decide +kernel
theorem dX4_format_31 : decode cX4_format 31 = .ok (.iadd, 1) := by decide +kernel
theorem dX4_format_32 : decode cX4_format 32 = .ok (.istore_n 1, 1) := by decide +kernel
theorem dX4_format_33 : decode cX4_format 33 = .ok (.aload_n 0, 1) := by decide +kernel
theorem dX4_format_34 : decode cX4_format 34 = .ok (.getfield 10, 3) := by decide +kernel
theorem dX4_format_37 : decode cX4_format 37 = .ok (.invokevirtual 72, 3) := by decide +kernel
theorem dX4_format_40 : decode cX4_format 40 = .ok (.aload_n 0, 1) := by decide +kernel
theorem dX4_format_41 : decode cX4_format 41 = .ok (.getfield 10, 3) := by decide +kernel
theorem dX4_format_44 : decode cX4_format 44 = .ok (.iconst 1, 1) := by decide +kernel
theorem dX4_format_45 : decode cX4_format 45 = .ok (.iload_n 1, 1) := by decide +kernel
theorem dX4_format_46 : decode cX4_format 46 = .ok (.invokevirtual 75, 3) := by decide +kernel
theorem dX4_format_49 : decode cX4_format 49 = .ok (.aload_n 0, 1) := by decide +kernel
theorem dX4_format_50 : decode cX4_format 50 = .ok (.getfield 10, 3) := by decide +kernel
theorem dX4_format_53 : decode cX4_format 53 = .ok (.iconst 0, 1) := by decide +kernel
theorem dX4_format_54 : decode cX4_format 54 = .ok (.invokevirtual 78, 3) := by decide +kernel
theorem dX4_format_57 : decode cX4_format 57 = .ok (.ifCond .ne 8, 3) := by decide +kernel
theorem dX4_format_60 : decode cX4_format 60 = .ok (.aload_n 0, 1) := by decide +kernel
theorem dX4_format_61 : decode cX4_format 61 = .ok (.invokevirtual 82, 3) := by decide +kernel
theorem dX4_format_64 : decode cX4_format 64 = .ok (.ireturn, 1) := by decide +kernel
theorem dX4_format_65 : decode cX4_format 65 = .ok (.aload_n 0, 1) := by decide +kernel
theorem dX4_format_66 : decode cX4_format 66 = .ok (.iload_n 1, 1) := by decide +kernel
theorem dX4_format_67 : decode cX4_format 67 = .ok (.iconst 1, 1) := by decide +kernel
theorem dX4_format_68 : decode cX4_format 68 = .ok (.iconst 0, 1) := by decide +kernel
theorem dX4_format_69 : decode cX4_format 69 = .ok (.iconst 0, 1) := by decide +kernel
theorem dX4_format_70 : decode cX4_format 70 = .ok (.iconst 0, 1) := by decide +kernel
theorem dX4_format_71 : decode cX4_format 71 = .ok (.invokevirtual 85, 3) := by decide +kernel
theorem dX4_format_74 : decode cX4_format 74 = .ok (.ifCond .ne 8, 3) := by decide +kernel
theorem dX4_format_77 : decode cX4_format 77 = .ok (.aload_n 0, 1) := by decide +kernel
theorem dX4_format_78 : decode cX4_format 78 = .ok (.invokevirtual 82, 3) := by decide +kernel
theorem dX4_format_81 : decode cX4_format 81 = .ok (.ireturn, 1) := by decide +kernel
theorem dX4_format_82 : decode cX4_format 82 = .ok (.aload_n 0, 1) := by decide +kernel
theorem dX4_format_83 : decode cX4_format 83 = .ok (.getfield 37, 3) := by decide +kernel
theorem dX4_format_86 : decode cX4_format 86 = .ok (.invokevirtual 89, 3) := by decide +kernel
theorem dX4_format_89 : decode cX4_format 89 = .ok (.aload_n 0, 1) := by decide +kernel
theorem dX4_format_90 : decode cX4_format 90 = .ok (.getfield 21, 3) := by decide +kernel
theorem dX4_format_93 : decode cX4_format 93 = .ok (.invokevirtual 92, 3) := by decide +kernel
theorem dX4_format_96 : decode cX4_format 96 = .ok (.aload_n 0, 1) := by decide +kernel
theorem dX4_format_97 : decode cX4_format 97 = .ok (.invokevirtual 95, 3) := by decide +kernel
theorem dX4_format_100 : decode cX4_format 100 = .ok (.iconst 0, 1) := by decide +kernel
theorem dX4_format_101 : decode cX4_format 101 = .ok (.ireturn, 1) := by decide +kernel
theorem dX4_power_0 : decode cX4_power 0 = .ok (.aload_n 0, 1) := by decide +kernel
theorem dX4_power_1 : decode cX4_power 1 = .ok (.getfield 47, 3) := by decide +kernel
theorem dX4_power_4 : decode cX4_power 4 = .ok (.ifCond .ne 6, 3) := by decide +kernel
theorem dX4_power_7 : decode cX4_power 7 = .ok (.bipush (-7), 2) := by decide +kernel
theorem dX4_power_9 : decode cX4_power 9 = .ok (.ireturn, 1) := by decide +kernel
theorem dX4_power_10 : decode cX4_power 10 = .ok (.aload_n 0, 1) := by decide +kernel
theorem dX4_power_11 : decode cX4_power 11 = .ok (.getfield 10, 3) := by decide +kernel
theorem dX4_power_14 : decode cX4_power 14 = .ok (.iload_n 1, 1) := by decide +kernel
theorem dX4_power_15 : decode cX4_power 15 = .ok (.invokevirtual 98, 3) := by decide +kernel
theorem dX4_power_18 : decode cX4_power 18 = .ok (.iconst 0, 1) := by decide +kernel
theorem dX4_power_19 : decode cX4_power 19 = .ok (.ireturn, 1) := by decide +kernel
theorem dX4_recover_0 : decode cX4_recover 0 = .ok (.aload_n 0, 1) := by decide +kernel
theorem dX4_recover_1 : decode cX4_recover 1 = .ok (.getfield 47, 3) := by decide +kernel
theorem dX4_recover_4 : decode cX4_recover 4 = .ok (.ifCond .ne 6, 3) := by decide +kernel
theorem dX4_recover_7 : decode cX4_recover 7 = .ok (.bipush (-7), 2) := by decide +kernel
theorem dX4_recover_9 : decode cX4_recover 9 = .ok (.ireturn, 1) := by decide +kernel
theorem dX4_recover_10 : decode cX4_recover 10 = .ok (.aload_n 0, 1) := by decide +kernel
theorem dX4_recover_11 : decode cX4_recover 11 = .ok (.getfield 10, 3) := by decide +kernel
theorem dX4_recover_14 : decode cX4_recover 14 = .ok (.iconst 0, 1) := by decide +kernel
theorem dX4_recover_15 : decode cX4_recover 15 = .ok (.invokevirtual 101, 3) := by decide +kernel
theorem dX4_recover_18 : decode cX4_recover 18 = .ok (.ifCond .eq 17, 3) := by decide +kernel
theorem dX4_recover_21 : decode cX4_recover 21 = .ok (.aload_n 0, 1) := by decide +kernel
theorem dX4_recover_22 : decode cX4_recover 22 = .ok (.getfield 10, 3) := by decide +kernel
theorem dX4_recover_25 : decode cX4_recover 25 = .ok (.iconst 0, 1) := by decide +kernel
theorem dX4_recover_26 : decode cX4_recover 26 = .ok (.iconst 0, 1) := by decide +kernel
theorem dX4_recover_27 : decode cX4_recover 27 = .ok (.invokevirtual 68, 3) := by decide +kernel
theorem dX4_recover_30 : decode cX4_recover 30 = .ok (.ldc 104, 2) := by decide +kernel
theorem dX4_recover_32 : decode cX4_recover 32 = .ok (.if_icmp .eq 11, 3) := by decide +kernel
theorem dX4_recover_35 : decode cX4_recover 35 = .ok (.aload_n 0, 1) := by decide +kernel
theorem dX4_recover_36 : decode cX4_recover 36 = .ok (.iconst 1, 1) := by decide +kernel
theorem dX4_recover_37 : decode cX4_recover 37 = .ok (.putfield 47, 3) := by decide +kernel
theorem dX4_recover_40 : decode cX4_recover 40 = .ok (.bipush (-2), 2) := by decide +kernel
theorem dX4_recover_42 : decode cX4_recover 42 = .ok (.ireturn, 1) := by decide +kernel
theorem dX4_recover_43 : decode cX4_recover 43 = .ok (.aload_n 0, 1) := by decide +kernel
theorem dX4_recover_44 : decode cX4_recover 44 = .ok (.getfield 10, 3) := by decide +kernel
theorem dX4_recover_47 : decode cX4_recover 47 = .ok (.iconst 0, 1) := by decide +kernel
theorem dX4_recover_48 : decode cX4_recover 48 = .ok (.iconst 1, 1) := by decide +kernel
theorem dX4_recover_49 : decode cX4_recover 49 = .ok (.invokevirtual 68, 3) := by decide +kernel
theorem dX4_recover_52 : decode cX4_recover 52 = .ok (.istore_n 1, 1) := by decide +kernel
theorem dX4_recover_53 : decode cX4_recover 53 = .ok (.aload_n 0, 1) := by decide +kernel
theorem dX4_recover_54 : decode cX4_recover 54 = .ok (.getfield 10, 3) := by decide +kernel
theorem dX4_recover_57 : decode cX4_recover 57 = .ok (.iconst 0, 1) := by decide +kernel
theorem dX4_recover_58 : decode cX4_recover 58 = .ok (.iconst 3, 1) := by decide +kernel
theorem dX4_recover_59 : decode cX4_recover 59 = .ok (.invokevirtual 68, 3) := by decide +kernel
theorem dX4_recover_62 : decode cX4_recover 62 = .ok (.istore_n 2, 1) := by decide +kernel
theorem dX4_recover_63 : decode cX4_recover 63 = .ok (.aload_n 0, 1) := by decide +kernel
theorem dX4_recover_64 : decode cX4_recover 64 = .ok (.getfield 10, 3) := by decide +kernel
theorem dX4_recover_67 : decode cX4_recover 67 = .ok (.iconst 0, 1) := by decide +kernel
theorem dX4_recover_68 : decode cX4_recover 68 = .ok (.iconst 4, 1) := by decide +kernel
theorem dX4_recover_69 : decode cX4_recover 69 = .ok (.invokevirtual 68, 3) := by decide +kernel
theorem dX4_recover_72 : decode cX4_recover 72 = .ok (.istore_n 3, 1) := by decide +kernel
theorem dX4_recover_73 : decode cX4_recover 73 = .ok (.aload_n 0, 1) := by decide +kernel
theorem dX4_recover_74 : decode cX4_recover 74 = .ok (.getfield 10, 3) := by decide +kernel
theorem dX4_recover_77 : decode cX4_recover 77 = .ok (.iconst 0, 1) := by decide +kernel
theorem dX4_recover_78 : decode cX4_recover 78 = .ok (.iconst 5, 1) := by decide +kernel
theorem dX4_recover_79 : decode cX4_recover 79 = .ok (.invokevirtual 68, 3) := by decide +kernel
theorem dX4_recover_82 : decode cX4_recover 82 = .ok (.istore 4, 2) := by decide +kernel
theorem dX4_recover_84 : decode cX4_recover 84 = .ok (.aload_n 0, 1) := by decide +kernel
theorem dX4_recover_85 : decode cX4_recover 85 = .ok (.getfield 28, 3) := by decide +kernel
theorem dX4_recover_88 : decode cX4_recover 88 = .ok (.aload_n 0, 1) := by decide +kernel
theorem dX4_recover_89 : decode cX4_recover 89 = .ok (.getfield 37, 3) := by decide +kernel
theorem dX4_recover_92 : decode cX4_recover 92 = .ok (.iload_n 2, 1) := by decide +kernel
theorem dX4_recover_93 : decode cX4_recover 93 = .ok (.iload 4, 2) := by decide +kernel
theorem dX4_recover_95 : decode cX4_recover 95 = .ok (.invokevirtual 105, 3) := by decide +kernel
theorem dX4_recover_98 : decode cX4_recover 98 = .ok (.aload_n 0, 1) := by decide +kernel
theorem dX4_recover_99 : decode cX4_recover 99 = .ok (.getfield 21, 3) := by decide +kernel
theorem dX4_recover_102 : decode cX4_recover 102 = .ok (.aload_n 0, 1) := by decide +kernel
theorem dX4_recover_103 : decode cX4_recover 103 = .ok (.getfield 37, 3) := by decide +kernel
theorem dX4_recover_106 : decode cX4_recover 106 = .ok (.iload_n 1, 1) := by decide +kernel
theorem dX4_recover_107 : decode cX4_recover 107 = .ok (.invokevirtual 109, 3) := by decide +kernel
theorem dX4_recover_110 : decode cX4_recover 110 = .ok (.aload_n 0, 1) := by decide +kernel
theorem dX4_recover_111 : decode cX4_recover 111 = .ok (.iload_n 1, 1) := by decide +kernel
theorem dX4_recover_112 : decode cX4_recover 112 = .ok (.aload_n 0, 1) := by decide +kernel
theorem dX4_recover_113 : decode cX4_recover 113 = .ok (.getfield 10, 3) := by decide +kernel
theorem dX4_recover_116 : decode cX4_recover 116 = .ok (.iconst 0, 1) := by decide +kernel
theorem dX4_recover_117 : decode cX4_recover 117 = .ok (.iconst 2, 1) := by decide +kernel
theorem dX4_recover_118 : decode cX4_recover 118 = .ok (.invokevirtual 68, 3) := by decide +kernel
theorem dX4_recover_121 : decode cX4_recover 121 = .ok (.iconst 1, 1) := by decide +kernel
theorem dX4_recover_122 : decode cX4_recover 122 = .ok (.iadd, 1) := by decide +kernel
theorem dX4_recover_123 : decode cX4_recover 123 = .ok (.iload_n 2, 1) := by decide +kernel
theorem dX4_recover_124 : decode cX4_recover 124 = .ok (.iload_n 3, 1) := by decide +kernel
theorem dX4_recover_125 : decode cX4_recover 125 = .ok (.iload 4, 2) := by decide +kernel
theorem dX4_recover_127 : decode cX4_recover 127 = .ok (.invokevirtual 85, 3) := by decide +kernel
theorem dX4_recover_130 : decode cX4_recover 130 = .ok (.ifCond .ne 8, 3) := by decide +kernel
theorem dX4_recover_133 : decode cX4_recover 133 = .ok (.aload_n 0, 1) := by decide +kernel
theorem dX4_recover_134 : decode cX4_recover 134 = .ok (.invokevirtual 82, 3) := by decide +kernel
theorem dX4_recover_137 : decode cX4_recover 137 = .ok (.ireturn, 1) := by decide +kernel
theorem dX4_recover_138 : decode cX4_recover 138 = .ok (.aload_n 0, 1) := by decide +kernel
theorem dX4_recover_139 : decode cX4_recover 139 = .ok (.invokevirtual 95, 3) := by decide +kernel
theorem dX4_recover_142 : decode cX4_recover 142 = .ok (.iconst 0, 1) := by decide +kernel
theorem dX4_recover_143 : decode cX4_recover 143 = .ok (.ireturn, 1) := by decide +kernel
theorem dX4_begin_0 : decode cX4_begin 0 = .ok (.aload_n 0, 1) := by decide +kernel
theorem dX4_begin_1 : decode cX4_begin 1 = .ok (.getfield 47, 3) := by decide +kernel
theorem dX4_begin_4 : decode cX4_begin 4 = .ok (.iconst 2, 1) := by decide +kernel
theorem dX4_begin_5 : decode cX4_begin 5 = .ok (.if_icmp .eq 8, 3) := by decide +kernel
theorem dX4_begin_8 : decode cX4_begin 8 = .ok (.aload_n 0, 1) := by decide +kernel
theorem dX4_begin_9 : decode cX4_begin 9 = .ok (.invokevirtual 64, 3) := by decide +kernel
theorem dX4_begin_12 : decode cX4_begin 12 = .ok (.ireturn, 1) := by decide +kernel
theorem dX4_begin_13 : decode cX4_begin 13 = .ok (.aload_n 0, 1) := by decide +kernel
theorem dX4_begin_14 : decode cX4_begin 14 = .ok (.getfield 51, 3) := by decide +kernel
theorem dX4_begin_17 : decode cX4_begin 17 = .ok (.ifCond .eq 6, 3) := by decide +kernel
theorem dX4_begin_20 : decode cX4_begin 20 = .ok (.bipush (-4), 2) := by decide +kernel
theorem dX4_begin_22 : decode cX4_begin 22 = .ok (.ireturn, 1) := by decide +kernel
theorem dX4_begin_23 : decode cX4_begin 23 = .ok (.aload_n 0, 1) := by decide +kernel
theorem dX4_begin_24 : decode cX4_begin 24 = .ok (.iconst 1, 1) := by decide +kernel
theorem dX4_begin_25 : decode cX4_begin 25 = .ok (.putfield 51, 3) := by decide +kernel
theorem dX4_begin_28 : decode cX4_begin 28 = .ok (.iconst 0, 1) := by decide +kernel
theorem dX4_begin_29 : decode cX4_begin 29 = .ok (.ireturn, 1) := by decide +kernel
theorem dX4_put_0 : decode cX4_put 0 = .ok (.aload_n 0, 1) := by decide +kernel
theorem dX4_put_1 : decode cX4_put 1 = .ok (.getfield 47, 3) := by decide +kernel
theorem dX4_put_4 : decode cX4_put 4 = .ok (.iconst 2, 1) := by decide +kernel
theorem dX4_put_5 : decode cX4_put 5 = .ok (.if_icmp .eq 8, 3) := by decide +kernel
theorem dX4_put_8 : decode cX4_put 8 = .ok (.aload_n 0, 1) := by decide +kernel
theorem dX4_put_9 : decode cX4_put 9 = .ok (.invokevirtual 64, 3) := by decide +kernel
theorem dX4_put_12 : decode cX4_put 12 = .ok (.ireturn, 1) := by decide +kernel
theorem dX4_put_13 : decode cX4_put 13 = .ok (.aload_n 0, 1) := by decide +kernel
theorem dX4_put_14 : decode cX4_put 14 = .ok (.getfield 51, 3) := by decide +kernel
theorem dX4_put_17 : decode cX4_put 17 = .ok (.ifCond .ne 6, 3) := by decide +kernel
theorem dX4_put_20 : decode cX4_put 20 = .ok (.bipush (-3), 2) := by decide +kernel
theorem dX4_put_22 : decode cX4_put 22 = .ok (.ireturn, 1) := by decide +kernel
theorem dX4_put_23 : decode cX4_put 23 = .ok (.aload_n 0, 1) := by decide +kernel
theorem dX4_put_24 : decode cX4_put 24 = .ok (.iload_n 1, 1) := by decide +kernel
theorem dX4_put_25 : decode cX4_put 25 = .ok (.invokevirtual 113, 3) := by decide +kernel
theorem dX4_put_28 : decode cX4_put 28 = .ok (.ifCond .ne 6, 3) := by decide +kernel
theorem dX4_put_31 : decode cX4_put 31 = .ok (.bipush (-6), 2) := by decide +kernel
theorem dX4_put_33 : decode cX4_put 33 = .ok (.ireturn, 1) := by decide +kernel
theorem dX4_put_34 : decode cX4_put 34 = .ok (.aload_n 0, 1) := by decide +kernel
theorem dX4_put_35 : decode cX4_put 35 = .ok (.getfield 44, 3) := by decide +kernel
theorem dX4_put_38 : decode cX4_put 38 = .ok (.iload_n 1, 1) := by decide +kernel
theorem dX4_put_39 : decode cX4_put 39 = .ok (.iload_n 2, 1) := by decide +kernel
theorem dX4_put_40 : decode cX4_put 40 = .ok (.invokevirtual 116, 3) := by decide +kernel
theorem dX4_put_43 : decode cX4_put 43 = .ok (.aload_n 0, 1) := by decide +kernel
theorem dX4_put_44 : decode cX4_put 44 = .ok (.getfield 41, 3) := by decide +kernel
theorem dX4_put_47 : decode cX4_put 47 = .ok (.iload_n 1, 1) := by decide +kernel
theorem dX4_put_48 : decode cX4_put 48 = .ok (.iload_n 2, 1) := by decide +kernel
theorem dX4_put_49 : decode cX4_put 49 = .ok (.invokevirtual 116, 3) := by decide +kernel
theorem dX4_put_52 : decode cX4_put 52 = .ok (.iconst 0, 1) := by decide +kernel
theorem dX4_put_53 : decode cX4_put 53 = .ok (.ireturn, 1) := by decide +kernel
theorem dX4_remove_0 : decode cX4_remove 0 = .ok (.aload_n 0, 1) := by decide +kernel
theorem dX4_remove_1 : decode cX4_remove 1 = .ok (.getfield 47, 3) := by decide +kernel
theorem dX4_remove_4 : decode cX4_remove 4 = .ok (.iconst 2, 1) := by decide +kernel
theorem dX4_remove_5 : decode cX4_remove 5 = .ok (.if_icmp .eq 8, 3) := by decide +kernel
theorem dX4_remove_8 : decode cX4_remove 8 = .ok (.aload_n 0, 1) := by decide +kernel
theorem dX4_remove_9 : decode cX4_remove 9 = .ok (.invokevirtual 64, 3) := by decide +kernel
theorem dX4_remove_12 : decode cX4_remove 12 = .ok (.ireturn, 1) := by decide +kernel
theorem dX4_remove_13 : decode cX4_remove 13 = .ok (.aload_n 0, 1) := by decide +kernel
theorem dX4_remove_14 : decode cX4_remove 14 = .ok (.getfield 51, 3) := by decide +kernel
theorem dX4_remove_17 : decode cX4_remove 17 = .ok (.ifCond .ne 6, 3) := by decide +kernel
theorem dX4_remove_20 : decode cX4_remove 20 = .ok (.bipush (-3), 2) := by decide +kernel
theorem dX4_remove_22 : decode cX4_remove 22 = .ok (.ireturn, 1) := by decide +kernel
theorem dX4_remove_23 : decode cX4_remove 23 = .ok (.aload_n 0, 1) := by decide +kernel
theorem dX4_remove_24 : decode cX4_remove 24 = .ok (.getfield 41, 3) := by decide +kernel
theorem dX4_remove_27 : decode cX4_remove 27 = .ok (.iload_n 1, 1) := by decide +kernel
theorem dX4_remove_28 : decode cX4_remove 28 = .ok (.invokevirtual 119, 3) := by decide +kernel
theorem dX4_remove_31 : decode cX4_remove 31 = .ok (.ifCond .ne 6, 3) := by decide +kernel
theorem dX4_remove_34 : decode cX4_remove 34 = .ok (.bipush (-5), 2) := by decide +kernel
theorem dX4_remove_36 : decode cX4_remove 36 = .ok (.ireturn, 1) := by decide +kernel
theorem dX4_remove_37 : decode cX4_remove 37 = .ok (.aload_n 0, 1) := by decide +kernel
theorem dX4_remove_38 : decode cX4_remove 38 = .ok (.iload_n 1, 1) := by decide +kernel
theorem dX4_remove_39 : decode cX4_remove 39 = .ok (.invokevirtual 113, 3) := by decide +kernel
theorem dX4_remove_42 : decode cX4_remove 42 = .ok (.ifCond .ne 6, 3) := by decide +kernel
theorem dX4_remove_45 : decode cX4_remove 45 = .ok (.bipush (-6), 2) := by decide +kernel
theorem dX4_remove_47 : decode cX4_remove 47 = .ok (.ireturn, 1) := by decide +kernel
theorem dX4_remove_48 : decode cX4_remove 48 = .ok (.aload_n 0, 1) := by decide +kernel
theorem dX4_remove_49 : decode cX4_remove 49 = .ok (.getfield 44, 3) := by decide +kernel
theorem dX4_remove_52 : decode cX4_remove 52 = .ok (.iload_n 1, 1) := by decide +kernel
theorem dX4_remove_53 : decode cX4_remove 53 = .ok (.iconst 0, 1) := by decide +kernel
theorem dX4_remove_54 : decode cX4_remove 54 = .ok (.invokevirtual 116, 3) := by decide +kernel
theorem dX4_remove_57 : decode cX4_remove 57 = .ok (.aload_n 0, 1) := by decide +kernel
theorem dX4_remove_58 : decode cX4_remove 58 = .ok (.getfield 41, 3) := by decide +kernel
theorem dX4_remove_61 : decode cX4_remove 61 = .ok (.iload_n 1, 1) := by decide +kernel
theorem dX4_remove_62 : decode cX4_remove 62 = .ok (.invokevirtual 122, 3) := by decide +kernel
theorem dX4_remove_65 : decode cX4_remove 65 = .ok (.iconst 0, 1) := by decide +kernel
theorem dX4_remove_66 : decode cX4_remove 66 = .ok (.ireturn, 1) := by decide +kernel
theorem dX4_commit_0 : decode cX4_commit 0 = .ok (.aload_n 0, 1) := by decide +kernel
theorem dX4_commit_1 : decode cX4_commit 1 = .ok (.getfield 47, 3) := by decide +kernel
theorem dX4_commit_4 : decode cX4_commit 4 = .ok (.iconst 2, 1) := by decide +kernel
theorem dX4_commit_5 : decode cX4_commit 5 = .ok (.if_icmp .eq 8, 3) := by decide +kernel
theorem dX4_commit_8 : decode cX4_commit 8 = .ok (.aload_n 0, 1) := by decide +kernel
theorem dX4_commit_9 : decode cX4_commit 9 = .ok (.invokevirtual 64, 3) := by decide +kernel
theorem dX4_commit_12 : decode cX4_commit 12 = .ok (.ireturn, 1) := by decide +kernel
theorem dX4_commit_13 : decode cX4_commit 13 = .ok (.aload_n 0, 1) := by decide +kernel
theorem dX4_commit_14 : decode cX4_commit 14 = .ok (.getfield 51, 3) := by decide +kernel
theorem dX4_commit_17 : decode cX4_commit 17 = .ok (.ifCond .ne 6, 3) := by decide +kernel
theorem dX4_commit_20 : decode cX4_commit 20 = .ok (.bipush (-3), 2) := by decide +kernel
theorem dX4_commit_22 : decode cX4_commit 22 = .ok (.ireturn, 1) := by decide +kernel
theorem dX4_commit_23 : decode cX4_commit 23 = .ok (.aload_n 0, 1) := by decide +kernel
theorem dX4_commit_24 : decode cX4_commit 24 = .ok (.getfield 21, 3) := by decide +kernel
theorem dX4_commit_27 : decode cX4_commit 27 = .ok (.aload_n 0, 1) := by decide +kernel
theorem dX4_commit_28 : decode cX4_commit 28 = .ok (.getfield 44, 3) := by decide +kernel
theorem dX4_commit_31 : decode cX4_commit 31 = .ok (.invokevirtual 125, 3) := by decide +kernel
theorem dX4_commit_34 : decode cX4_commit 34 = .ok (.invokevirtual 128, 3) := by decide +kernel
theorem dX4_commit_37 : decode cX4_commit 37 = .ok (.ifCond .ne 6, 3) := by decide +kernel
theorem dX4_commit_40 : decode cX4_commit 40 = .ok (.bipush (-6), 2) := by decide +kernel
theorem dX4_commit_42 : decode cX4_commit 42 = .ok (.ireturn, 1) := by decide +kernel
theorem dX4_commit_43 : decode cX4_commit 43 = .ok (.aload_n 0, 1) := by decide +kernel
theorem dX4_commit_44 : decode cX4_commit 44 = .ok (.getfield 10, 3) := by decide +kernel
theorem dX4_commit_47 : decode cX4_commit 47 = .ok (.iconst 0, 1) := by decide +kernel
theorem dX4_commit_48 : decode cX4_commit 48 = .ok (.iconst 1, 1) := by decide +kernel
theorem dX4_commit_49 : decode cX4_commit 49 = .ok (.invokevirtual 68, 3) := by decide +kernel
theorem dX4_commit_52 : decode cX4_commit 52 = .ok (.istore_n 1, 1) := by decide +kernel
theorem dX4_commit_53 : decode cX4_commit 53 = .ok (.aload_n 0, 1) := by decide +kernel
theorem dX4_commit_54 : decode cX4_commit 54 = .ok (.getfield 10, 3) := by decide +kernel
theorem dX4_commit_57 : decode cX4_commit 57 = .ok (.iconst 0, 1) := by decide +kernel
theorem dX4_commit_58 : decode cX4_commit 58 = .ok (.iconst 2, 1) := by decide +kernel
theorem dX4_commit_59 : decode cX4_commit 59 = .ok (.invokevirtual 68, 3) := by decide +kernel
theorem dX4_commit_62 : decode cX4_commit 62 = .ok (.istore_n 2, 1) := by decide +kernel
theorem dX4_commit_63 : decode cX4_commit 63 = .ok (.aload_n 0, 1) := by decide +kernel
theorem dX4_commit_64 : decode cX4_commit 64 = .ok (.getfield 21, 3) := by decide +kernel
theorem dX4_commit_67 : decode cX4_commit 67 = .ok (.aload_n 0, 1) := by decide +kernel
theorem dX4_commit_68 : decode cX4_commit 68 = .ok (.getfield 44, 3) := by decide +kernel
theorem dX4_commit_71 : decode cX4_commit 71 = .ok (.aload_n 0, 1) := by decide +kernel
theorem dX4_commit_72 : decode cX4_commit 72 = .ok (.getfield 41, 3) := by decide +kernel
theorem dX4_commit_75 : decode cX4_commit 75 = .ok (.iload_n 1, 1) := by decide +kernel
theorem dX4_commit_76 : decode cX4_commit 76 = .ok (.iload_n 2, 1) := by decide +kernel
theorem dX4_commit_77 : decode cX4_commit 77 = .ok (.invokevirtual 131, 3) := by decide +kernel
theorem dX4_commit_80 : decode cX4_commit 80 = .ok (.ifCond .ne 8, 3) := by decide +kernel
theorem dX4_commit_83 : decode cX4_commit 83 = .ok (.aload_n 0, 1) := by decide +kernel
theorem dX4_commit_84 : decode cX4_commit 84 = .ok (.invokevirtual 82, 3) := by decide +kernel
theorem dX4_commit_87 : decode cX4_commit 87 = .ok (.ireturn, 1) := by decide +kernel
theorem dX4_commit_88 : decode cX4_commit 88 = .ok (.aload_n 0, 1) := by decide +kernel
theorem dX4_commit_89 : decode cX4_commit 89 = .ok (.getfield 37, 3) := by decide +kernel
theorem dX4_commit_92 : decode cX4_commit 92 = .ok (.aload_n 0, 1) := by decide +kernel
theorem dX4_commit_93 : decode cX4_commit 93 = .ok (.getfield 41, 3) := by decide +kernel
theorem dX4_commit_96 : decode cX4_commit 96 = .ok (.invokevirtual 135, 3) := by decide +kernel
theorem dX4_commit_99 : decode cX4_commit 99 = .ok (.aload_n 0, 1) := by decide +kernel
theorem dX4_commit_100 : decode cX4_commit 100 = .ok (.invokevirtual 139, 3) := by decide +kernel
theorem dX4_commit_103 : decode cX4_commit 103 = .ok (.iconst 0, 1) := by decide +kernel
theorem dX4_commit_104 : decode cX4_commit 104 = .ok (.ireturn, 1) := by decide +kernel
theorem dX4_abort_0 : decode cX4_abort 0 = .ok (.aload_n 0, 1) := by decide +kernel
theorem dX4_abort_1 : decode cX4_abort 1 = .ok (.getfield 47, 3) := by decide +kernel
theorem dX4_abort_4 : decode cX4_abort 4 = .ok (.iconst 2, 1) := by decide +kernel
theorem dX4_abort_5 : decode cX4_abort 5 = .ok (.if_icmp .eq 8, 3) := by decide +kernel
theorem dX4_abort_8 : decode cX4_abort 8 = .ok (.aload_n 0, 1) := by decide +kernel
theorem dX4_abort_9 : decode cX4_abort 9 = .ok (.invokevirtual 64, 3) := by decide +kernel
theorem dX4_abort_12 : decode cX4_abort 12 = .ok (.ireturn, 1) := by decide +kernel
theorem dX4_abort_13 : decode cX4_abort 13 = .ok (.aload_n 0, 1) := by decide +kernel
theorem dX4_abort_14 : decode cX4_abort 14 = .ok (.getfield 51, 3) := by decide +kernel
theorem dX4_abort_17 : decode cX4_abort 17 = .ok (.ifCond .ne 6, 3) := by decide +kernel
theorem dX4_abort_20 : decode cX4_abort 20 = .ok (.bipush (-3), 2) := by decide +kernel
theorem dX4_abort_22 : decode cX4_abort 22 = .ok (.ireturn, 1) := by decide +kernel
theorem dX4_abort_23 : decode cX4_abort 23 = .ok (.aload_n 0, 1) := by decide +kernel
theorem dX4_abort_24 : decode cX4_abort 24 = .ok (.invokevirtual 139, 3) := by decide +kernel
theorem dX4_abort_27 : decode cX4_abort 27 = .ok (.iconst 0, 1) := by decide +kernel
theorem dX4_abort_28 : decode cX4_abort 28 = .ok (.ireturn, 1) := by decide +kernel
theorem dX4_checkpoint_0 : decode cX4_checkpoint 0 = .ok (.aload_n 0, 1) := by decide +kernel
theorem dX4_checkpoint_1 : decode cX4_checkpoint 1 = .ok (.getfield 47, 3) := by decide +kernel
theorem dX4_checkpoint_4 : decode cX4_checkpoint 4 = .ok (.iconst 2, 1) := by decide +kernel
theorem dX4_checkpoint_5 : decode cX4_checkpoint 5 = .ok (.if_icmp .eq 8, 3) := by decide +kernel
theorem dX4_checkpoint_8 : decode cX4_checkpoint 8 = .ok (.aload_n 0, 1) := by decide +kernel
theorem dX4_checkpoint_9 : decode cX4_checkpoint 9 = .ok (.invokevirtual 64, 3) := by decide +kernel
theorem dX4_checkpoint_12 : decode cX4_checkpoint 12 = .ok (.ireturn, 1) := by decide +kernel
theorem dX4_checkpoint_13 : decode cX4_checkpoint 13 = .ok (.aload_n 0, 1) := by decide +kernel
theorem dX4_checkpoint_14 : decode cX4_checkpoint 14 = .ok (.getfield 51, 3) := by decide +kernel
theorem dX4_checkpoint_17 : decode cX4_checkpoint 17 = .ok (.ifCond .eq 6, 3) := by decide +kernel
theorem dX4_checkpoint_20 : decode cX4_checkpoint 20 = .ok (.bipush (-4), 2) := by decide +kernel
theorem dX4_checkpoint_22 : decode cX4_checkpoint 22 = .ok (.ireturn, 1) := by decide +kernel
theorem dX4_checkpoint_23 : decode cX4_checkpoint 23 = .ok (.aload_n 0, 1) := by decide +kernel
theorem dX4_checkpoint_24 : decode cX4_checkpoint 24 = .ok (.getfield 37, 3) := by decide +kernel
theorem dX4_checkpoint_27 : decode cX4_checkpoint 27 = .ok (.invokevirtual 125, 3) := by decide +kernel
theorem dX4_checkpoint_30 : decode cX4_checkpoint 30 = .ok (.istore_n 1, 1) := by decide +kernel
theorem dX4_checkpoint_31 : decode cX4_checkpoint 31 = .ok (.aload_n 0, 1) := by decide +kernel
theorem dX4_checkpoint_32 : decode cX4_checkpoint 32 = .ok (.getfield 28, 3) := by decide +kernel
theorem dX4_checkpoint_35 : decode cX4_checkpoint 35 = .ok (.iload_n 1, 1) := by decide +kernel
theorem dX4_checkpoint_36 : decode cX4_checkpoint 36 = .ok (.invokevirtual 142, 3) := by decide +kernel
theorem dX4_checkpoint_39 : decode cX4_checkpoint 39 = .ok (.aload_n 0, 1) := by decide +kernel
theorem dX4_checkpoint_40 : decode cX4_checkpoint 40 = .ok (.getfield 28, 3) := by decide +kernel
theorem dX4_checkpoint_43 : decode cX4_checkpoint 43 = .ok (.invokevirtual 146, 3) := by decide +kernel
theorem dX4_checkpoint_46 : decode cX4_checkpoint 46 = .ok (.if_icmp .le 6, 3) := by decide +kernel
theorem dX4_checkpoint_49 : decode cX4_checkpoint 49 = .ok (.bipush (-6), 2) := by decide +kernel
theorem dX4_checkpoint_51 : decode cX4_checkpoint 51 = .ok (.ireturn, 1) := by decide +kernel
theorem dX4_checkpoint_52 : decode cX4_checkpoint 52 = .ok (.aload_n 0, 1) := by decide +kernel
theorem dX4_checkpoint_53 : decode cX4_checkpoint 53 = .ok (.getfield 10, 3) := by decide +kernel
theorem dX4_checkpoint_56 : decode cX4_checkpoint 56 = .ok (.iconst 0, 1) := by decide +kernel
theorem dX4_checkpoint_57 : decode cX4_checkpoint 57 = .ok (.iconst 3, 1) := by decide +kernel
theorem dX4_checkpoint_58 : decode cX4_checkpoint 58 = .ok (.invokevirtual 68, 3) := by decide +kernel
theorem dX4_checkpoint_61 : decode cX4_checkpoint 61 = .ok (.ifCond .ne 7, 3) := by decide +kernel
theorem dX4_checkpoint_64 : decode cX4_checkpoint 64 = .ok (.iconst 1, 1) := by decide +kernel
theorem dX4_checkpoint_65 : decode cX4_checkpoint 65 = .ok (.goto 4, 3) := by decide +kernel
theorem dX4_checkpoint_68 : decode cX4_checkpoint 68 = .ok (.iconst 0, 1) := by decide +kernel
theorem dX4_checkpoint_69 : decode cX4_checkpoint 69 = .ok (.istore_n 2, 1) := by decide +kernel
theorem dX4_checkpoint_70 : decode cX4_checkpoint 70 = .ok (.aload_n 0, 1) := by decide +kernel
theorem dX4_checkpoint_71 : decode cX4_checkpoint 71 = .ok (.getfield 28, 3) := by decide +kernel
theorem dX4_checkpoint_74 : decode cX4_checkpoint 74 = .ok (.aload_n 0, 1) := by decide +kernel
theorem dX4_checkpoint_75 : decode cX4_checkpoint 75 = .ok (.getfield 37, 3) := by decide +kernel
theorem dX4_checkpoint_78 : decode cX4_checkpoint 78 = .ok (.iload_n 2, 1) := by decide +kernel
theorem dX4_checkpoint_79 : decode cX4_checkpoint 79 = .ok (.invokevirtual 149, 3) := by decide +kernel
theorem dX4_checkpoint_82 : decode cX4_checkpoint 82 = .ok (.ifCond .ne 8, 3) := by decide +kernel
theorem dX4_checkpoint_85 : decode cX4_checkpoint 85 = .ok (.aload_n 0, 1) := by decide +kernel
theorem dX4_checkpoint_86 : decode cX4_checkpoint 86 = .ok (.invokevirtual 82, 3) := by decide +kernel
theorem dX4_checkpoint_89 : decode cX4_checkpoint 89 = .ok (.ireturn, 1) := by decide +kernel
theorem dX4_checkpoint_90 : decode cX4_checkpoint 90 = .ok (.aload_n 0, 1) := by decide +kernel
theorem dX4_checkpoint_91 : decode cX4_checkpoint 91 = .ok (.getfield 10, 3) := by decide +kernel
theorem dX4_checkpoint_94 : decode cX4_checkpoint 94 = .ok (.iconst 0, 1) := by decide +kernel
theorem dX4_checkpoint_95 : decode cX4_checkpoint 95 = .ok (.iconst 1, 1) := by decide +kernel
theorem dX4_checkpoint_96 : decode cX4_checkpoint 96 = .ok (.invokevirtual 68, 3) := by decide +kernel
theorem dX4_checkpoint_99 : decode cX4_checkpoint 99 = .ok (.iconst 1, 1) := by decide +kernel
theorem dX4_checkpoint_100 : decode cX4_checkpoint 100 = .ok (.iadd, 1) := by decide +kernel
theorem dX4_checkpoint_101 : decode cX4_checkpoint 101 = .ok (.istore_n 3, 1) := by decide +kernel
theorem dX4_checkpoint_102 : decode cX4_checkpoint 102 = .ok (.aload_n 0, 1) := by decide +kernel
theorem dX4_checkpoint_103 : decode cX4_checkpoint 103 = .ok (.getfield 10, 3) := by decide +kernel
theorem dX4_checkpoint_106 : decode cX4_checkpoint 106 = .ok (.iconst 0, 1) := by decide +kernel
theorem dX4_checkpoint_107 : decode cX4_checkpoint 107 = .ok (.iconst 2, 1) := by decide +kernel
theorem dX4_checkpoint_108 : decode cX4_checkpoint 108 = .ok (.invokevirtual 68, 3) := by decide +kernel
theorem dX4_checkpoint_111 : decode cX4_checkpoint 111 = .ok (.istore 4, 2) := by decide +kernel
theorem dX4_checkpoint_113 : decode cX4_checkpoint 113 = .ok (.aload_n 0, 1) := by decide +kernel
theorem dX4_checkpoint_114 : decode cX4_checkpoint 114 = .ok (.iload_n 3, 1) := by decide +kernel
theorem dX4_checkpoint_115 : decode cX4_checkpoint 115 = .ok (.iload 4, 2) := by decide +kernel
theorem dX4_checkpoint_117 : decode cX4_checkpoint 117 = .ok (.iload_n 2, 1) := by decide +kernel
theorem dX4_checkpoint_118 : decode cX4_checkpoint 118 = .ok (.aload_n 0, 1) := by decide +kernel
theorem dX4_checkpoint_119 : decode cX4_checkpoint 119 = .ok (.getfield 28, 3) := by decide +kernel
theorem dX4_checkpoint_122 : decode cX4_checkpoint 122 = .ok (.iload_n 2, 1) := by decide +kernel
theorem dX4_checkpoint_123 : decode cX4_checkpoint 123 = .ok (.iload_n 1, 1) := by decide +kernel
theorem dX4_checkpoint_124 : decode cX4_checkpoint 124 = .ok (.invokevirtual 153, 3) := by decide +kernel
theorem dX4_checkpoint_127 : decode cX4_checkpoint 127 = .ok (.iload_n 1, 1) := by decide +kernel
theorem dX4_checkpoint_128 : decode cX4_checkpoint 128 = .ok (.invokevirtual 85, 3) := by decide +kernel
theorem dX4_checkpoint_131 : decode cX4_checkpoint 131 = .ok (.ifCond .ne 8, 3) := by decide +kernel
theorem dX4_checkpoint_134 : decode cX4_checkpoint 134 = .ok (.aload_n 0, 1) := by decide +kernel
theorem dX4_checkpoint_135 : decode cX4_checkpoint 135 = .ok (.invokevirtual 82, 3) := by decide +kernel
theorem dX4_checkpoint_138 : decode cX4_checkpoint 138 = .ok (.ireturn, 1) := by decide +kernel
theorem dX4_checkpoint_139 : decode cX4_checkpoint 139 = .ok (.aload_n 0, 1) := by decide +kernel
theorem dX4_checkpoint_140 : decode cX4_checkpoint 140 = .ok (.getfield 21, 3) := by decide +kernel
theorem dX4_checkpoint_143 : decode cX4_checkpoint 143 = .ok (.invokevirtual 92, 3) := by decide +kernel
theorem dX4_checkpoint_146 : decode cX4_checkpoint 146 = .ok (.iconst 0, 1) := by decide +kernel
theorem dX4_checkpoint_147 : decode cX4_checkpoint 147 = .ok (.ireturn, 1) := by decide +kernel
theorem dX4_get_0 : decode cX4_get 0 = .ok (.aload_n 0, 1) := by decide +kernel
theorem dX4_get_1 : decode cX4_get 1 = .ok (.getfield 47, 3) := by decide +kernel
theorem dX4_get_4 : decode cX4_get 4 = .ok (.iconst 2, 1) := by decide +kernel
theorem dX4_get_5 : decode cX4_get 5 = .ok (.if_icmp .ne 14, 3) := by decide +kernel
theorem dX4_get_8 : decode cX4_get 8 = .ok (.aload_n 0, 1) := by decide +kernel
theorem dX4_get_9 : decode cX4_get 9 = .ok (.getfield 41, 3) := by decide +kernel
theorem dX4_get_12 : decode cX4_get 12 = .ok (.iload_n 1, 1) := by decide +kernel
theorem dX4_get_13 : decode cX4_get 13 = .ok (.invokevirtual 156, 3) := by decide +kernel
theorem dX4_get_16 : decode cX4_get 16 = .ok (.goto 4, 3) := by decide +kernel
theorem dX4_get_19 : decode cX4_get 19 = .ok (.iconst 0, 1) := by decide +kernel
theorem dX4_get_20 : decode cX4_get 20 = .ok (.ireturn, 1) := by decide +kernel
theorem dX4_has_0 : decode cX4_has 0 = .ok (.aload_n 0, 1) := by decide +kernel
theorem dX4_has_1 : decode cX4_has 1 = .ok (.getfield 47, 3) := by decide +kernel
theorem dX4_has_4 : decode cX4_has 4 = .ok (.iconst 2, 1) := by decide +kernel
theorem dX4_has_5 : decode cX4_has 5 = .ok (.if_icmp .ne 18, 3) := by decide +kernel
theorem dX4_has_8 : decode cX4_has 8 = .ok (.aload_n 0, 1) := by decide +kernel
theorem dX4_has_9 : decode cX4_has 9 = .ok (.getfield 41, 3) := by decide +kernel
theorem dX4_has_12 : decode cX4_has 12 = .ok (.iload_n 1, 1) := by decide +kernel
theorem dX4_has_13 : decode cX4_has 13 = .ok (.invokevirtual 119, 3) := by decide +kernel
theorem dX4_has_16 : decode cX4_has 16 = .ok (.ifCond .eq 7, 3) := by decide +kernel
theorem dX4_has_19 : decode cX4_has 19 = .ok (.iconst 1, 1) := by decide +kernel
theorem dX4_has_20 : decode cX4_has 20 = .ok (.goto 4, 3) := by decide +kernel
theorem dX4_has_23 : decode cX4_has 23 = .ok (.iconst 0, 1) := by decide +kernel
theorem dX4_has_24 : decode cX4_has 24 = .ok (.ireturn, 1) := by decide +kernel
theorem dX4_size_0 : decode cX4_size 0 = .ok (.aload_n 0, 1) := by decide +kernel
theorem dX4_size_1 : decode cX4_size 1 = .ok (.getfield 47, 3) := by decide +kernel
theorem dX4_size_4 : decode cX4_size 4 = .ok (.iconst 2, 1) := by decide +kernel
theorem dX4_size_5 : decode cX4_size 5 = .ok (.if_icmp .ne 13, 3) := by decide +kernel
theorem dX4_size_8 : decode cX4_size 8 = .ok (.aload_n 0, 1) := by decide +kernel
theorem dX4_size_9 : decode cX4_size 9 = .ok (.getfield 41, 3) := by decide +kernel
theorem dX4_size_12 : decode cX4_size 12 = .ok (.invokevirtual 125, 3) := by decide +kernel
theorem dX4_size_15 : decode cX4_size 15 = .ok (.goto 4, 3) := by decide +kernel
theorem dX4_size_18 : decode cX4_size 18 = .ok (.iconst 0, 1) := by decide +kernel
theorem dX4_size_19 : decode cX4_size 19 = .ok (.ireturn, 1) := by decide +kernel
theorem dX4_key_0 : decode cX4_key 0 = .ok (.aload_n 0, 1) := by decide +kernel
theorem dX4_key_1 : decode cX4_key 1 = .ok (.getfield 47, 3) := by decide +kernel
theorem dX4_key_4 : decode cX4_key 4 = .ok (.iconst 2, 1) := by decide +kernel
theorem dX4_key_5 : decode cX4_key 5 = .ok (.if_icmp .ne 14, 3) := by decide +kernel
theorem dX4_key_8 : decode cX4_key 8 = .ok (.aload_n 0, 1) := by decide +kernel
theorem dX4_key_9 : decode cX4_key 9 = .ok (.getfield 41, 3) := by decide +kernel
theorem dX4_key_12 : decode cX4_key 12 = .ok (.iload_n 1, 1) := by decide +kernel
theorem dX4_key_13 : decode cX4_key 13 = .ok (.invokevirtual 159, 3) := by decide +kernel
theorem dX4_key_16 : decode cX4_key 16 = .ok (.goto 4, 3) := by decide +kernel
theorem dX4_key_19 : decode cX4_key 19 = .ok (.iconst 0, 1) := by decide +kernel
theorem dX4_key_20 : decode cX4_key 20 = .ok (.ireturn, 1) := by decide +kernel
theorem dX4_sum_0 : decode cX4_sum 0 = .ok (.aload_n 0, 1) := by decide +kernel
theorem dX4_sum_1 : decode cX4_sum 1 = .ok (.getfield 47, 3) := by decide +kernel
theorem dX4_sum_4 : decode cX4_sum 4 = .ok (.iconst 2, 1) := by decide +kernel
theorem dX4_sum_5 : decode cX4_sum 5 = .ok (.if_icmp .eq 5, 3) := by decide +kernel
theorem dX4_sum_8 : decode cX4_sum 8 = .ok (.lconst 0, 1) := by decide +kernel
theorem dX4_sum_9 : decode cX4_sum 9 = .ok (.lreturn, 1) := by decide +kernel
theorem dX4_sum_10 : decode cX4_sum 10 = .ok (.aload_n 0, 1) := by decide +kernel
theorem dX4_sum_11 : decode cX4_sum 11 = .ok (.getfield 41, 3) := by decide +kernel
theorem dX4_sum_14 : decode cX4_sum 14 = .ok (.iload_n 1, 1) := by decide +kernel
theorem dX4_sum_15 : decode cX4_sum 15 = .ok (.invokevirtual 162, 3) := by decide +kernel
theorem dX4_sum_18 : decode cX4_sum 18 = .ok (.istore 4, 2) := by decide +kernel
theorem dX4_sum_20 : decode cX4_sum 20 = .ok (.aload_n 0, 1) := by decide +kernel
theorem dX4_sum_21 : decode cX4_sum 21 = .ok (.getfield 41, 3) := by decide +kernel
theorem dX4_sum_24 : decode cX4_sum 24 = .ok (.iload_n 2, 1) := by decide +kernel
theorem dX4_sum_25 : decode cX4_sum 25 = .ok (.invokevirtual 165, 3) := by decide +kernel
theorem dX4_sum_28 : decode cX4_sum 28 = .ok (.istore 5, 2) := by decide +kernel
theorem dX4_sum_30 : decode cX4_sum 30 = .ok (.iload 4, 2) := by decide +kernel
theorem dX4_sum_32 : decode cX4_sum 32 = .ok (.iload 5, 2) := by decide +kernel
theorem dX4_sum_34 : decode cX4_sum 34 = .ok (.if_icmp .lt 5, 3) := by decide +kernel
theorem dX4_sum_37 : decode cX4_sum 37 = .ok (.lconst 0, 1) := by decide +kernel
theorem dX4_sum_38 : decode cX4_sum 38 = .ok (.lreturn, 1) := by decide +kernel
theorem dX4_sum_39 : decode cX4_sum 39 = .ok (.iload_n 3, 1) := by decide +kernel
theorem dX4_sum_40 : decode cX4_sum 40 = .ok (.tableswitch 75 0 3 #[32, 39, 51, 62], 32) := by decide +kernel
theorem dX4_sum_72 : decode cX4_sum 72 = .ok (.iload 5, 2) := by decide +kernel
theorem dX4_sum_74 : decode cX4_sum 74 = .ok (.iload 4, 2) := by decide +kernel
theorem dX4_sum_76 : decode cX4_sum 76 = .ok (.isub, 1) := by decide +kernel
theorem dX4_sum_77 : decode cX4_sum 77 = .ok (.i2l, 1) := by decide +kernel
theorem dX4_sum_78 : decode cX4_sum 78 = .ok (.lreturn, 1) := by decide +kernel
theorem dX4_sum_79 : decode cX4_sum 79 = .ok (.aload_n 0, 1) := by decide +kernel
theorem dX4_sum_80 : decode cX4_sum 80 = .ok (.getfield 41, 3) := by decide +kernel
theorem dX4_sum_83 : decode cX4_sum 83 = .ok (.iload 4, 2) := by decide +kernel
theorem dX4_sum_85 : decode cX4_sum 85 = .ok (.iload 5, 2) := by decide +kernel
theorem dX4_sum_87 : decode cX4_sum 87 = .ok (.invokevirtual 168, 3) := by decide +kernel
theorem dX4_sum_90 : decode cX4_sum 90 = .ok (.lreturn, 1) := by decide +kernel
theorem dX4_sum_91 : decode cX4_sum 91 = .ok (.aload_n 0, 1) := by decide +kernel
theorem dX4_sum_92 : decode cX4_sum 92 = .ok (.getfield 41, 3) := by decide +kernel
theorem dX4_sum_95 : decode cX4_sum 95 = .ok (.iload 4, 2) := by decide +kernel
theorem dX4_sum_97 : decode cX4_sum 97 = .ok (.invokevirtual 159, 3) := by decide +kernel
theorem dX4_sum_100 : decode cX4_sum 100 = .ok (.i2l, 1) := by decide +kernel
theorem dX4_sum_101 : decode cX4_sum 101 = .ok (.lreturn, 1) := by decide +kernel
theorem dX4_sum_102 : decode cX4_sum 102 = .ok (.aload_n 0, 1) := by decide +kernel
theorem dX4_sum_103 : decode cX4_sum 103 = .ok (.getfield 41, 3) := by decide +kernel
theorem dX4_sum_106 : decode cX4_sum 106 = .ok (.iload 5, 2) := by decide +kernel
theorem dX4_sum_108 : decode cX4_sum 108 = .ok (.iconst 1, 1) := by decide +kernel
theorem dX4_sum_109 : decode cX4_sum 109 = .ok (.isub, 1) := by decide +kernel
theorem dX4_sum_110 : decode cX4_sum 110 = .ok (.invokevirtual 159, 3) := by decide +kernel
theorem dX4_sum_113 : decode cX4_sum 113 = .ok (.i2l, 1) := by decide +kernel
theorem dX4_sum_114 : decode cX4_sum 114 = .ok (.lreturn, 1) := by decide +kernel
theorem dX4_sum_115 : decode cX4_sum 115 = .ok (.lconst 0, 1) := by decide +kernel
theorem dX4_sum_116 : decode cX4_sum 116 = .ok (.lreturn, 1) := by decide +kernel
theorem dX4_word_0 : decode cX4_word 0 = .ok (.aload_n 0, 1) := by decide +kernel
theorem dX4_word_1 : decode cX4_word 1 = .ok (.getfield 10, 3) := by decide +kernel
theorem dX4_word_4 : decode cX4_word 4 = .ok (.iload_n 1, 1) := by decide +kernel
theorem dX4_word_5 : decode cX4_word 5 = .ok (.iload_n 2, 1) := by decide +kernel
theorem dX4_word_6 : decode cX4_word 6 = .ok (.invokevirtual 68, 3) := by decide +kernel
theorem dX4_word_9 : decode cX4_word 9 = .ok (.ireturn, 1) := by decide +kernel
theorem dX4_state_0 : decode cX4_state 0 = .ok (.aload_n 0, 1) := by decide +kernel
theorem dX4_state_1 : decode cX4_state 1 = .ok (.getfield 47, 3) := by decide +kernel
theorem dX4_state_4 : decode cX4_state 4 = .ok (.ireturn, 1) := by decide +kernel
theorem dX4_count_0 : decode cX4_count 0 = .ok (.iload_n 1, 1) := by decide +kernel
theorem dX4_count_1 : decode cX4_count 1 = .ok (.lookupswitch 59 #[(0, 35), (1, 43), (8, 51)], 35) := by decide +kernel
theorem dX4_count_36 : decode cX4_count 36 = .ok (.aload_n 0, 1) := by decide +kernel
theorem dX4_count_37 : decode cX4_count 37 = .ok (.getfield 10, 3) := by decide +kernel
theorem dX4_count_40 : decode cX4_count 40 = .ok (.invokevirtual 172, 3) := by decide +kernel
theorem dX4_count_43 : decode cX4_count 43 = .ok (.ireturn, 1) := by decide +kernel
theorem dX4_count_44 : decode cX4_count 44 = .ok (.aload_n 0, 1) := by decide +kernel
theorem dX4_count_45 : decode cX4_count 45 = .ok (.getfield 10, 3) := by decide +kernel
theorem dX4_count_48 : decode cX4_count 48 = .ok (.invokevirtual 175, 3) := by decide +kernel
theorem dX4_count_51 : decode cX4_count 51 = .ok (.ireturn, 1) := by decide +kernel
theorem dX4_count_52 : decode cX4_count 52 = .ok (.aload_n 0, 1) := by decide +kernel
theorem dX4_count_53 : decode cX4_count 53 = .ok (.getfield 28, 3) := by decide +kernel
theorem dX4_count_56 : decode cX4_count 56 = .ok (.invokevirtual 146, 3) := by decide +kernel
theorem dX4_count_59 : decode cX4_count 59 = .ok (.ireturn, 1) := by decide +kernel
theorem dX4_count_60 : decode cX4_count 60 = .ok (.aload_n 0, 1) := by decide +kernel
theorem dX4_count_61 : decode cX4_count 61 = .ok (.getfield 47, 3) := by decide +kernel
theorem dX4_count_64 : decode cX4_count 64 = .ok (.iconst 2, 1) := by decide +kernel
theorem dX4_count_65 : decode cX4_count 65 = .ok (.if_icmp .ne 11, 3) := by decide +kernel
theorem dX4_count_68 : decode cX4_count 68 = .ok (.aload_n 0, 1) := by decide +kernel
theorem dX4_count_69 : decode cX4_count 69 = .ok (.iload_n 1, 1) := by decide +kernel
theorem dX4_count_70 : decode cX4_count 70 = .ok (.invokevirtual 178, 3) := by decide +kernel
theorem dX4_count_73 : decode cX4_count 73 = .ok (.goto 4, 3) := by decide +kernel
theorem dX4_count_76 : decode cX4_count 76 = .ok (.iconst 0, 1) := by decide +kernel
theorem dX4_count_77 : decode cX4_count 77 = .ok (.ireturn, 1) := by decide +kernel
theorem dX4_countWhileUp_0 : decode cX4_countWhileUp 0 = .ok (.iload_n 1, 1) := by decide +kernel
theorem dX4_countWhileUp_1 : decode cX4_countWhileUp 1 = .ok (.tableswitch 110 2 7 #[39, 47, 57, 67, 75, 95], 39) := by decide +kernel
theorem dX4_countWhileUp_40 : decode cX4_countWhileUp 40 = .ok (.aload_n 0, 1) := by decide +kernel
theorem dX4_countWhileUp_41 : decode cX4_countWhileUp 41 = .ok (.getfield 21, 3) := by decide +kernel
theorem dX4_countWhileUp_44 : decode cX4_countWhileUp 44 = .ok (.invokevirtual 181, 3) := by decide +kernel
theorem dX4_countWhileUp_47 : decode cX4_countWhileUp 47 = .ok (.ireturn, 1) := by decide +kernel
theorem dX4_countWhileUp_48 : decode cX4_countWhileUp 48 = .ok (.aload_n 0, 1) := by decide +kernel
theorem dX4_countWhileUp_49 : decode cX4_countWhileUp 49 = .ok (.getfield 10, 3) := by decide +kernel
theorem dX4_countWhileUp_52 : decode cX4_countWhileUp 52 = .ok (.iconst 0, 1) := by decide +kernel
theorem dX4_countWhileUp_53 : decode cX4_countWhileUp 53 = .ok (.iconst 1, 1) := by decide +kernel
theorem dX4_countWhileUp_54 : decode cX4_countWhileUp 54 = .ok (.invokevirtual 68, 3) := by decide +kernel
theorem dX4_countWhileUp_57 : decode cX4_countWhileUp 57 = .ok (.ireturn, 1) := by decide +kernel
theorem dX4_countWhileUp_58 : decode cX4_countWhileUp 58 = .ok (.aload_n 0, 1) := by decide +kernel
theorem dX4_countWhileUp_59 : decode cX4_countWhileUp 59 = .ok (.getfield 10, 3) := by decide +kernel
theorem dX4_countWhileUp_62 : decode cX4_countWhileUp 62 = .ok (.iconst 0, 1) := by decide +kernel
theorem dX4_countWhileUp_63 : decode cX4_countWhileUp 63 = .ok (.iconst 2, 1) := by decide +kernel
theorem dX4_countWhileUp_64 : decode cX4_countWhileUp 64 = .ok (.invokevirtual 68, 3) := by decide +kernel
theorem dX4_countWhileUp_67 : decode cX4_countWhileUp 67 = .ok (.ireturn, 1) := by decide +kernel
theorem dX4_countWhileUp_68 : decode cX4_countWhileUp 68 = .ok (.aload_n 0, 1) := by decide +kernel
theorem dX4_countWhileUp_69 : decode cX4_countWhileUp 69 = .ok (.getfield 21, 3) := by decide +kernel
theorem dX4_countWhileUp_72 : decode cX4_countWhileUp 72 = .ok (.invokevirtual 184, 3) := by decide +kernel
theorem dX4_countWhileUp_75 : decode cX4_countWhileUp 75 = .ok (.ireturn, 1) := by decide +kernel
theorem dX4_countWhileUp_76 : decode cX4_countWhileUp 76 = .ok (.aload_n 0, 1) := by decide +kernel
theorem dX4_countWhileUp_77 : decode cX4_countWhileUp 77 = .ok (.getfield 51, 3) := by decide +kernel
theorem dX4_countWhileUp_80 : decode cX4_countWhileUp 80 = .ok (.ifCond .eq 13, 3) := by decide +kernel
theorem dX4_countWhileUp_83 : decode cX4_countWhileUp 83 = .ok (.aload_n 0, 1) := by decide +kernel
theorem dX4_countWhileUp_84 : decode cX4_countWhileUp 84 = .ok (.getfield 44, 3) := by decide +kernel
theorem dX4_countWhileUp_87 : decode cX4_countWhileUp 87 = .ok (.invokevirtual 125, 3) := by decide +kernel
theorem dX4_countWhileUp_90 : decode cX4_countWhileUp 90 = .ok (.goto 5, 3) := by decide +kernel
theorem dX4_countWhileUp_93 : decode cX4_countWhileUp 93 = .ok (.bipush (-3), 2) := by decide +kernel
theorem dX4_countWhileUp_95 : decode cX4_countWhileUp 95 = .ok (.ireturn, 1) := by decide +kernel
theorem dX4_countWhileUp_96 : decode cX4_countWhileUp 96 = .ok (.aload_n 0, 1) := by decide +kernel
theorem dX4_countWhileUp_97 : decode cX4_countWhileUp 97 = .ok (.getfield 28, 3) := by decide +kernel
theorem dX4_countWhileUp_100 : decode cX4_countWhileUp 100 = .ok (.aload_n 0, 1) := by decide +kernel
theorem dX4_countWhileUp_101 : decode cX4_countWhileUp 101 = .ok (.getfield 37, 3) := by decide +kernel
theorem dX4_countWhileUp_104 : decode cX4_countWhileUp 104 = .ok (.invokevirtual 125, 3) := by decide +kernel
theorem dX4_countWhileUp_107 : decode cX4_countWhileUp 107 = .ok (.invokevirtual 142, 3) := by decide +kernel
theorem dX4_countWhileUp_110 : decode cX4_countWhileUp 110 = .ok (.ireturn, 1) := by decide +kernel
theorem dX4_countWhileUp_111 : decode cX4_countWhileUp 111 = .ok (.iconst 0, 1) := by decide +kernel
theorem dX4_countWhileUp_112 : decode cX4_countWhileUp 112 = .ok (.ireturn, 1) := by decide +kernel
theorem dX4_refusal_0 : decode cX4_refusal 0 = .ok (.aload_n 0, 1) := by decide +kernel
theorem dX4_refusal_1 : decode cX4_refusal 1 = .ok (.getfield 47, 3) := by decide +kernel
theorem dX4_refusal_4 : decode cX4_refusal 4 = .ok (.lookupswitch 34 #[(0, 28), (1, 31)], 28) := by decide +kernel
theorem dX4_refusal_32 : decode cX4_refusal 32 = .ok (.bipush (-7), 2) := by decide +kernel
theorem dX4_refusal_34 : decode cX4_refusal 34 = .ok (.ireturn, 1) := by decide +kernel
theorem dX4_refusal_35 : decode cX4_refusal 35 = .ok (.bipush (-2), 2) := by decide +kernel
theorem dX4_refusal_37 : decode cX4_refusal 37 = .ok (.ireturn, 1) := by decide +kernel
theorem dX4_refusal_38 : decode cX4_refusal 38 = .ok (.iconst (-1), 1) := by decide +kernel
theorem dX4_refusal_39 : decode cX4_refusal 39 = .ok (.ireturn, 1) := by decide +kernel
theorem dX4_fail_0 : decode cX4_fail 0 = .ok (.aload_n 0, 1) := by decide +kernel
theorem dX4_fail_1 : decode cX4_fail 1 = .ok (.iconst 3, 1) := by decide +kernel
theorem dX4_fail_2 : decode cX4_fail 2 = .ok (.putfield 47, 3) := by decide +kernel
theorem dX4_fail_5 : decode cX4_fail 5 = .ok (.iconst (-1), 1) := by decide +kernel
theorem dX4_fail_6 : decode cX4_fail 6 = .ok (.ireturn, 1) := by decide +kernel
theorem dX4_comeUp_0 : decode cX4_comeUp 0 = .ok (.aload_n 0, 1) := by decide +kernel
theorem dX4_comeUp_1 : decode cX4_comeUp 1 = .ok (.invokevirtual 139, 3) := by decide +kernel
theorem dX4_comeUp_4 : decode cX4_comeUp 4 = .ok (.aload_n 0, 1) := by decide +kernel
theorem dX4_comeUp_5 : decode cX4_comeUp 5 = .ok (.iconst 2, 1) := by decide +kernel
theorem dX4_comeUp_6 : decode cX4_comeUp 6 = .ok (.putfield 47, 3) := by decide +kernel
theorem dX4_comeUp_9 : decode cX4_comeUp 9 = .ok (.return_, 1) := by decide +kernel
theorem dX4_endTransaction_0 : decode cX4_endTransaction 0 = .ok (.aload_n 0, 1) := by decide +kernel
theorem dX4_endTransaction_1 : decode cX4_endTransaction 1 = .ok (.getfield 41, 3) := by decide +kernel
theorem dX4_endTransaction_4 : decode cX4_endTransaction 4 = .ok (.aload_n 0, 1) := by decide +kernel
theorem dX4_endTransaction_5 : decode cX4_endTransaction 5 = .ok (.getfield 37, 3) := by decide +kernel
theorem dX4_endTransaction_8 : decode cX4_endTransaction 8 = .ok (.invokevirtual 135, 3) := by decide +kernel
theorem dX4_endTransaction_11 : decode cX4_endTransaction 11 = .ok (.aload_n 0, 1) := by decide +kernel
theorem dX4_endTransaction_12 : decode cX4_endTransaction 12 = .ok (.getfield 44, 3) := by decide +kernel
theorem dX4_endTransaction_15 : decode cX4_endTransaction 15 = .ok (.invokevirtual 89, 3) := by decide +kernel
theorem dX4_endTransaction_18 : decode cX4_endTransaction 18 = .ok (.aload_n 0, 1) := by decide +kernel
theorem dX4_endTransaction_19 : decode cX4_endTransaction 19 = .ok (.iconst 0, 1) := by decide +kernel
theorem dX4_endTransaction_20 : decode cX4_endTransaction 20 = .ok (.putfield 51, 3) := by decide +kernel
theorem dX4_endTransaction_23 : decode cX4_endTransaction 23 = .ok (.return_, 1) := by decide +kernel
theorem dX4_hasRoomForChange_0 : decode cX4_hasRoomForChange 0 = .ok (.aload_n 0, 1) := by decide +kernel
theorem dX4_hasRoomForChange_1 : decode cX4_hasRoomForChange 1 = .ok (.getfield 44, 3) := by decide +kernel
theorem dX4_hasRoomForChange_4 : decode cX4_hasRoomForChange 4 = .ok (.invokevirtual 125, 3) := by decide +kernel
theorem dX4_hasRoomForChange_7 : decode cX4_hasRoomForChange 7 = .ok (.sipush 600, 3) := by decide +kernel
theorem dX4_hasRoomForChange_10 : decode cX4_hasRoomForChange 10 = .ok (.if_icmp .lt 14, 3) := by decide +kernel
theorem dX4_hasRoomForChange_13 : decode cX4_hasRoomForChange 13 = .ok (.aload_n 0, 1) := by decide +kernel
theorem dX4_hasRoomForChange_14 : decode cX4_hasRoomForChange 14 = .ok (.getfield 44, 3) := by decide +kernel
theorem dX4_hasRoomForChange_17 : decode cX4_hasRoomForChange 17 = .ok (.iload_n 1, 1) := by decide +kernel
theorem dX4_hasRoomForChange_18 : decode cX4_hasRoomForChange 18 = .ok (.invokevirtual 119, 3) := by decide +kernel
theorem dX4_hasRoomForChange_21 : decode cX4_hasRoomForChange 21 = .ok (.ifCond .eq 7, 3) := by decide +kernel
theorem dX4_hasRoomForChange_24 : decode cX4_hasRoomForChange 24 = .ok (.iconst 1, 1) := by decide +kernel
theorem dX4_hasRoomForChange_25 : decode cX4_hasRoomForChange 25 = .ok (.goto 4, 3) := by decide +kernel
theorem dX4_hasRoomForChange_28 : decode cX4_hasRoomForChange 28 = .ok (.iconst 0, 1) := by decide +kernel
theorem dX4_hasRoomForChange_29 : decode cX4_hasRoomForChange 29 = .ok (.ireturn, 1) := by decide +kernel
theorem dX4_writeHead_0 : decode cX4_writeHead 0 = .ok (.aload_n 0, 1) := by decide +kernel
theorem dX4_writeHead_1 : decode cX4_writeHead 1 = .ok (.getfield 10, 3) := by decide +kernel
theorem dX4_writeHead_4 : decode cX4_writeHead 4 = .ok (.invokevirtual 72, 3) := by decide +kernel
theorem dX4_writeHead_7 : decode cX4_writeHead 7 = .ok (.aload_n 0, 1) := by decide +kernel
theorem dX4_writeHead_8 : decode cX4_writeHead 8 = .ok (.getfield 10, 3) := by decide +kernel
theorem dX4_writeHead_11 : decode cX4_writeHead 11 = .ok (.iconst 0, 1) := by decide +kernel
theorem dX4_writeHead_12 : decode cX4_writeHead 12 = .ok (.ldc 104, 2) := by decide +kernel
theorem dX4_writeHead_14 : decode cX4_writeHead 14 = .ok (.invokevirtual 75, 3) := by decide +kernel
theorem dX4_writeHead_17 : decode cX4_writeHead 17 = .ok (.aload_n 0, 1) := by decide +kernel
theorem dX4_writeHead_18 : decode cX4_writeHead 18 = .ok (.getfield 10, 3) := by decide +kernel
theorem dX4_writeHead_21 : decode cX4_writeHead 21 = .ok (.iconst 1, 1) := by decide +kernel
theorem dX4_writeHead_22 : decode cX4_writeHead 22 = .ok (.iload_n 1, 1) := by decide +kernel
theorem dX4_writeHead_23 : decode cX4_writeHead 23 = .ok (.invokevirtual 75, 3) := by decide +kernel
theorem dX4_writeHead_26 : decode cX4_writeHead 26 = .ok (.aload_n 0, 1) := by decide +kernel
theorem dX4_writeHead_27 : decode cX4_writeHead 27 = .ok (.getfield 10, 3) := by decide +kernel
theorem dX4_writeHead_30 : decode cX4_writeHead 30 = .ok (.iconst 2, 1) := by decide +kernel
theorem dX4_writeHead_31 : decode cX4_writeHead 31 = .ok (.iload_n 2, 1) := by decide +kernel
theorem dX4_writeHead_32 : decode cX4_writeHead 32 = .ok (.invokevirtual 75, 3) := by decide +kernel
theorem dX4_writeHead_35 : decode cX4_writeHead 35 = .ok (.aload_n 0, 1) := by decide +kernel
theorem dX4_writeHead_36 : decode cX4_writeHead 36 = .ok (.getfield 10, 3) := by decide +kernel
theorem dX4_writeHead_39 : decode cX4_writeHead 39 = .ok (.iconst 3, 1) := by decide +kernel
theorem dX4_writeHead_40 : decode cX4_writeHead 40 = .ok (.iload_n 3, 1) := by decide +kernel
theorem dX4_writeHead_41 : decode cX4_writeHead 41 = .ok (.invokevirtual 75, 3) := by decide +kernel
theorem dX4_writeHead_44 : decode cX4_writeHead 44 = .ok (.aload_n 0, 1) := by decide +kernel
theorem dX4_writeHead_45 : decode cX4_writeHead 45 = .ok (.getfield 10, 3) := by decide +kernel
theorem dX4_writeHead_48 : decode cX4_writeHead 48 = .ok (.iconst 4, 1) := by decide +kernel
theorem dX4_writeHead_49 : decode cX4_writeHead 49 = .ok (.iload 4, 2) := by decide +kernel
theorem dX4_writeHead_51 : decode cX4_writeHead 51 = .ok (.invokevirtual 75, 3) := by decide +kernel
theorem dX4_writeHead_54 : decode cX4_writeHead 54 = .ok (.aload_n 0, 1) := by decide +kernel
theorem dX4_writeHead_55 : decode cX4_writeHead 55 = .ok (.getfield 10, 3) := by decide +kernel
theorem dX4_writeHead_58 : decode cX4_writeHead 58 = .ok (.iconst 5, 1) := by decide +kernel
theorem dX4_writeHead_59 : decode cX4_writeHead 59 = .ok (.iload 5, 2) := by decide +kernel
theorem dX4_writeHead_61 : decode cX4_writeHead 61 = .ok (.invokevirtual 75, 3) := by decide +kernel
theorem dX4_writeHead_64 : decode cX4_writeHead 64 = .ok (.aload_n 0, 1) := by decide +kernel
theorem dX4_writeHead_65 : decode cX4_writeHead 65 = .ok (.getfield 10, 3) := by decide +kernel
theorem dX4_writeHead_68 : decode cX4_writeHead 68 = .ok (.iconst 0, 1) := by decide +kernel
theorem dX4_writeHead_69 : decode cX4_writeHead 69 = .ok (.invokevirtual 78, 3) := by decide +kernel
theorem dX4_writeHead_72 : decode cX4_writeHead 72 = .ok (.ireturn, 1) := by decide +kernel
theorem dX4_blocksOf_0 : decode cX4_blocksOf 0 = .ok (.iload_n 0, 1) := by decide +kernel
theorem dX4_blocksOf_1 : decode cX4_blocksOf 1 = .ok (.iconst 1, 1) := by decide +kernel
theorem dX4_blocksOf_2 : decode cX4_blocksOf 2 = .ok (.if_icmp .lt 8, 3) := by decide +kernel
theorem dX4_blocksOf_5 : decode cX4_blocksOf 5 = .ok (.iload_n 1, 1) := by decide +kernel
theorem dX4_blocksOf_6 : decode cX4_blocksOf 6 = .ok (.iconst 1, 1) := by decide +kernel
theorem dX4_blocksOf_7 : decode cX4_blocksOf 7 = .ok (.if_icmp .ge 5, 3) := by decide +kernel
theorem dX4_blocksOf_10 : decode cX4_blocksOf 10 = .ok (.iconst 0, 1) := by decide +kernel
theorem dX4_blocksOf_11 : decode cX4_blocksOf 11 = .ok (.ireturn, 1) := by decide +kernel
theorem dX4_blocksOf_12 : decode cX4_blocksOf 12 = .ok (.iload_n 0, 1) := by decide +kernel
theorem dX4_blocksOf_13 : decode cX4_blocksOf 13 = .ok (.iconst 1, 1) := by decide +kernel
theorem dX4_blocksOf_14 : decode cX4_blocksOf 14 = .ok (.isub, 1) := by decide +kernel
theorem dX4_blocksOf_15 : decode cX4_blocksOf 15 = .ok (.iload_n 1, 1) := by decide +kernel
theorem dX4_blocksOf_16 : decode cX4_blocksOf 16 = .ok (.idiv, 1) := by decide +kernel
theorem dX4_blocksOf_17 : decode cX4_blocksOf 17 = .ok (.iconst 1, 1) := by decide +kernel
theorem dX4_blocksOf_18 : decode cX4_blocksOf 18 = .ok (.iadd, 1) := by decide +kernel
theorem dX4_blocksOf_19 : decode cX4_blocksOf 19 = .ok (.ireturn, 1) := by decide +kernel
theorem dL_law_0 : decode cL_law 0 = .ok (.new 7, 3) := by decide +kernel
theorem dL_law_3 : decode cL_law 3 = .ok (.dup, 1) := by decide +kernel
theorem dL_law_4 : decode cL_law 4 = .ok (.invokespecial 9, 3) := by decide +kernel
theorem dL_law_7 : decode cL_law 7 = .ok (.astore_n 1, 1) := by decide +kernel
theorem dL_law_8 : decode cL_law 8 = .ok (.new 10, 3) := by decide +kernel
theorem dL_law_11 : decode cL_law 11 = .ok (.dup, 1) := by decide +kernel
theorem dL_law_12 : decode cL_law 12 = .ok (.invokespecial 12, 3) := by decide +kernel
theorem dL_law_15 : decode cL_law 15 = .ok (.astore_n 2, 1) := by decide +kernel
theorem dL_law_16 : decode cL_law 16 = .ok (.iconst 0, 1) := by decide +kernel
theorem dL_law_17 : decode cL_law 17 = .ok (.istore_n 3, 1) := by decide +kernel
theorem dL_law_18 : decode cL_law 18 = .ok (.iload_n 3, 1) := by decide +kernel
theorem dL_law_19 : decode cL_law 19 = .ok (.aload_n 0, 1) := by decide +kernel
theorem dL_law_20 : decode cL_law 20 = .ok (.arraylength, 1) := by decide +kernel
theorem dL_law_21 : decode cL_law 21 = .ok (.iconst 4, 1) := by decide +kernel
theorem dL_law_22 : decode cL_law 22 = .ok (.isub, 1) := by decide +kernel
theorem dL_law_23 : decode cL_law 23 = .ok (.if_icmp .gt 498, 3) := by decide +kernel
theorem dL_law_26 : decode cL_law 26 = .ok (.aload_n 0, 1) := by decide +kernel
theorem dL_law_27 : decode cL_law 27 = .ok (.iload_n 3, 1) := by decide +kernel
theorem dL_law_28 : decode cL_law 28 = .ok (.iaload, 1) := by decide +kernel
theorem dL_law_29 : decode cL_law 29 = .ok (.bipush 31, 2) := by decide +kernel
theorem dL_law_31 : decode cL_law 31 = .ok (.iand, 1) := by decide +kernel
theorem dL_law_32 : decode cL_law 32 = .ok (.tableswitch 483 0 17 #[88, 131, 144, 167, 180, 193, 226, 249, 262, 275, 288, 311, 334, 347, 370, 414, 447, 460], 88) := by decide +kernel
theorem dL_law_120 : decode cL_law 120 = .ok (.aload_n 1, 1) := by decide +kernel
theorem dL_law_121 : decode cL_law 121 = .ok (.aload_n 0, 1) := by decide +kernel
theorem dL_law_122 : decode cL_law 122 = .ok (.iload_n 3, 1) := by decide +kernel
theorem dL_law_123 : decode cL_law 123 = .ok (.iconst 1, 1) := by decide +kernel
theorem dL_law_124 : decode cL_law 124 = .ok (.iadd, 1) := by decide +kernel
theorem dL_law_125 : decode cL_law 125 = .ok (.iaload, 1) := by decide +kernel
theorem dL_law_126 : decode cL_law 126 = .ok (.aload_n 0, 1) := by decide +kernel
theorem dL_law_127 : decode cL_law 127 = .ok (.iload_n 3, 1) := by decide +kernel
theorem dL_law_128 : decode cL_law 128 = .ok (.iconst 2, 1) := by decide +kernel
theorem dL_law_129 : decode cL_law 129 = .ok (.iadd, 1) := by decide +kernel
theorem dL_law_130 : decode cL_law 130 = .ok (.iaload, 1) := by decide +kernel
theorem dL_law_131 : decode cL_law 131 = .ok (.aload_n 0, 1) := by decide +kernel
theorem dL_law_132 : decode cL_law 132 = .ok (.iload_n 3, 1) := by decide +kernel
theorem dL_law_133 : decode cL_law 133 = .ok (.iconst 3, 1) := by decide +kernel
theorem dL_law_134 : decode cL_law 134 = .ok (.iadd, 1) := by decide +kernel
theorem dL_law_135 : decode cL_law 135 = .ok (.iaload, 1) := by decide +kernel
theorem dL_law_136 : decode cL_law 136 = .ok (.invokevirtual 13, 3) := by decide +kernel
theorem dL_law_139 : decode cL_law 139 = .ok (.aload_n 2, 1) := by decide +kernel
theorem dL_law_140 : decode cL_law 140 = .ok (.aload_n 0, 1) := by decide +kernel
theorem dL_law_141 : decode cL_law 141 = .ok (.iload_n 3, 1) := by decide +kernel
theorem dL_law_142 : decode cL_law 142 = .ok (.iconst 1, 1) := by decide +kernel
theorem dL_law_143 : decode cL_law 143 = .ok (.iadd, 1) := by decide +kernel
theorem dL_law_144 : decode cL_law 144 = .ok (.iaload, 1) := by decide +kernel
theorem dL_law_145 : decode cL_law 145 = .ok (.aload_n 0, 1) := by decide +kernel
theorem dL_law_146 : decode cL_law 146 = .ok (.iload_n 3, 1) := by decide +kernel
theorem dL_law_147 : decode cL_law 147 = .ok (.iconst 2, 1) := by decide +kernel
theorem dL_law_148 : decode cL_law 148 = .ok (.iadd, 1) := by decide +kernel
theorem dL_law_149 : decode cL_law 149 = .ok (.iaload, 1) := by decide +kernel
theorem dL_law_150 : decode cL_law 150 = .ok (.aload_n 0, 1) := by decide +kernel
theorem dL_law_151 : decode cL_law 151 = .ok (.iload_n 3, 1) := by decide +kernel
theorem dL_law_152 : decode cL_law 152 = .ok (.iconst 3, 1) := by decide +kernel
theorem dL_law_153 : decode cL_law 153 = .ok (.iadd, 1) := by decide +kernel
theorem dL_law_154 : decode cL_law 154 = .ok (.iaload, 1) := by decide +kernel
theorem dL_law_155 : decode cL_law 155 = .ok (.invokevirtual 17, 3) := by decide +kernel
theorem dL_law_158 : decode cL_law 158 = .ok (.if_icmp .eq 357, 3) := by decide +kernel
theorem dL_law_161 : decode cL_law 161 = .ok (.iconst 0, 1) := by decide +kernel
theorem dL_law_162 : decode cL_law 162 = .ok (.ireturn, 1) := by decide +kernel
theorem dL_law_163 : decode cL_law 163 = .ok (.aload_n 1, 1) := by decide +kernel
theorem dL_law_164 : decode cL_law 164 = .ok (.invokevirtual 18, 3) := by decide +kernel
theorem dL_law_167 : decode cL_law 167 = .ok (.aload_n 2, 1) := by decide +kernel
theorem dL_law_168 : decode cL_law 168 = .ok (.invokevirtual 22, 3) := by decide +kernel
theorem dL_law_171 : decode cL_law 171 = .ok (.if_icmp .eq 344, 3) := by decide +kernel
theorem dL_law_174 : decode cL_law 174 = .ok (.iconst 0, 1) := by decide +kernel
theorem dL_law_175 : decode cL_law 175 = .ok (.ireturn, 1) := by decide +kernel
theorem dL_law_176 : decode cL_law 176 = .ok (.aload_n 1, 1) := by decide +kernel
theorem dL_law_177 : decode cL_law 177 = .ok (.aload_n 0, 1) := by decide +kernel
theorem dL_law_178 : decode cL_law 178 = .ok (.iload_n 3, 1) := by decide +kernel
theorem dL_law_179 : decode cL_law 179 = .ok (.iconst 1, 1) := by decide +kernel
theorem dL_law_180 : decode cL_law 180 = .ok (.iadd, 1) := by decide +kernel
theorem dL_law_181 : decode cL_law 181 = .ok (.iaload, 1) := by decide +kernel
theorem dL_law_182 : decode cL_law 182 = .ok (.invokevirtual 23, 3) := by decide +kernel
theorem dL_law_185 : decode cL_law 185 = .ok (.aload_n 2, 1) := by decide +kernel
theorem dL_law_186 : decode cL_law 186 = .ok (.aload_n 0, 1) := by decide +kernel
theorem dL_law_187 : decode cL_law 187 = .ok (.iload_n 3, 1) := by decide +kernel
theorem dL_law_188 : decode cL_law 188 = .ok (.iconst 1, 1) := by decide +kernel
theorem dL_law_189 : decode cL_law 189 = .ok (.iadd, 1) := by decide +kernel
theorem dL_law_190 : decode cL_law 190 = .ok (.iaload, 1) := by decide +kernel
theorem dL_law_191 : decode cL_law 191 = .ok (.invokevirtual 27, 3) := by decide +kernel
theorem dL_law_194 : decode cL_law 194 = .ok (.if_icmp .eq 321, 3) := by decide +kernel
theorem dL_law_197 : decode cL_law 197 = .ok (.iconst 0, 1) := by decide +kernel
theorem dL_law_198 : decode cL_law 198 = .ok (.ireturn, 1) := by decide +kernel
theorem dL_law_199 : decode cL_law 199 = .ok (.aload_n 1, 1) := by decide +kernel
theorem dL_law_200 : decode cL_law 200 = .ok (.invokevirtual 28, 3) := by decide +kernel
theorem dL_law_203 : decode cL_law 203 = .ok (.aload_n 2, 1) := by decide +kernel
theorem dL_law_204 : decode cL_law 204 = .ok (.invokevirtual 31, 3) := by decide +kernel
theorem dL_law_207 : decode cL_law 207 = .ok (.if_icmp .eq 308, 3) := by decide +kernel
theorem dL_law_210 : decode cL_law 210 = .ok (.iconst 0, 1) := by decide +kernel
theorem dL_law_211 : decode cL_law 211 = .ok (.ireturn, 1) := by decide +kernel
theorem dL_law_212 : decode cL_law 212 = .ok (.aload_n 1, 1) := by decide +kernel
theorem dL_law_213 : decode cL_law 213 = .ok (.invokevirtual 32, 3) := by decide +kernel
theorem dL_law_216 : decode cL_law 216 = .ok (.aload_n 2, 1) := by decide +kernel
theorem dL_law_217 : decode cL_law 217 = .ok (.invokevirtual 35, 3) := by decide +kernel
theorem dL_law_220 : decode cL_law 220 = .ok (.if_icmp .eq 295, 3) := by decide +kernel
theorem dL_law_223 : decode cL_law 223 = .ok (.iconst 0, 1) := by decide +kernel
theorem dL_law_224 : decode cL_law 224 = .ok (.ireturn, 1) := by decide +kernel
theorem dL_law_225 : decode cL_law 225 = .ok (.aload_n 1, 1) := by decide +kernel
theorem dL_law_226 : decode cL_law 226 = .ok (.aload_n 0, 1) := by decide +kernel
theorem dL_law_227 : decode cL_law 227 = .ok (.iload_n 3, 1) := by decide +kernel
theorem dL_law_228 : decode cL_law 228 = .ok (.iconst 1, 1) := by decide +kernel
theorem dL_law_229 : decode cL_law 229 = .ok (.iadd, 1) := by decide +kernel
theorem dL_law_230 : decode cL_law 230 = .ok (.iaload, 1) := by decide +kernel
theorem dL_law_231 : decode cL_law 231 = .ok (.aload_n 0, 1) := by decide +kernel
theorem dL_law_232 : decode cL_law 232 = .ok (.iload_n 3, 1) := by decide +kernel
theorem dL_law_233 : decode cL_law 233 = .ok (.iconst 2, 1) := by decide +kernel
theorem dL_law_234 : decode cL_law 234 = .ok (.iadd, 1) := by decide +kernel
theorem dL_law_235 : decode cL_law 235 = .ok (.iaload, 1) := by decide +kernel
theorem dL_law_236 : decode cL_law 236 = .ok (.invokevirtual 36, 3) := by decide +kernel
theorem dL_law_239 : decode cL_law 239 = .ok (.aload_n 2, 1) := by decide +kernel
theorem dL_law_240 : decode cL_law 240 = .ok (.aload_n 0, 1) := by decide +kernel
theorem dL_law_241 : decode cL_law 241 = .ok (.iload_n 3, 1) := by decide +kernel
theorem dL_law_242 : decode cL_law 242 = .ok (.iconst 1, 1) := by decide +kernel
theorem dL_law_243 : decode cL_law 243 = .ok (.iadd, 1) := by decide +kernel
theorem dL_law_244 : decode cL_law 244 = .ok (.iaload, 1) := by decide +kernel
theorem dL_law_245 : decode cL_law 245 = .ok (.aload_n 0, 1) := by decide +kernel
theorem dL_law_246 : decode cL_law 246 = .ok (.iload_n 3, 1) := by decide +kernel
theorem dL_law_247 : decode cL_law 247 = .ok (.iconst 2, 1) := by decide +kernel
theorem dL_law_248 : decode cL_law 248 = .ok (.iadd, 1) := by decide +kernel
theorem dL_law_249 : decode cL_law 249 = .ok (.iaload, 1) := by decide +kernel
theorem dL_law_250 : decode cL_law 250 = .ok (.invokevirtual 40, 3) := by decide +kernel
theorem dL_law_253 : decode cL_law 253 = .ok (.if_icmp .eq 262, 3) := by decide +kernel
theorem dL_law_256 : decode cL_law 256 = .ok (.iconst 0, 1) := by decide +kernel
theorem dL_law_257 : decode cL_law 257 = .ok (.ireturn, 1) := by decide +kernel
theorem dL_law_258 : decode cL_law 258 = .ok (.aload_n 1, 1) := by decide +kernel
theorem dL_law_259 : decode cL_law 259 = .ok (.aload_n 0, 1) := by decide +kernel
theorem dL_law_260 : decode cL_law 260 = .ok (.iload_n 3, 1) := by decide +kernel
theorem dL_law_261 : decode cL_law 261 = .ok (.iconst 1, 1) := by decide +kernel
theorem dL_law_262 : decode cL_law 262 = .ok (.iadd, 1) := by decide +kernel
theorem dL_law_263 : decode cL_law 263 = .ok (.iaload, 1) := by decide +kernel
theorem dL_law_264 : decode cL_law 264 = .ok (.invokevirtual 41, 3) := by decide +kernel
theorem dL_law_267 : decode cL_law 267 = .ok (.aload_n 2, 1) := by decide +kernel
theorem dL_law_268 : decode cL_law 268 = .ok (.aload_n 0, 1) := by decide +kernel
theorem dL_law_269 : decode cL_law 269 = .ok (.iload_n 3, 1) := by decide +kernel
theorem dL_law_270 : decode cL_law 270 = .ok (.iconst 1, 1) := by decide +kernel
theorem dL_law_271 : decode cL_law 271 = .ok (.iadd, 1) := by decide +kernel
theorem dL_law_272 : decode cL_law 272 = .ok (.iaload, 1) := by decide +kernel
theorem dL_law_273 : decode cL_law 273 = .ok (.invokevirtual 44, 3) := by decide +kernel
theorem dL_law_276 : decode cL_law 276 = .ok (.if_icmp .eq 239, 3) := by decide +kernel
theorem dL_law_279 : decode cL_law 279 = .ok (.iconst 0, 1) := by decide +kernel
theorem dL_law_280 : decode cL_law 280 = .ok (.ireturn, 1) := by decide +kernel
theorem dL_law_281 : decode cL_law 281 = .ok (.aload_n 1, 1) := by decide +kernel
theorem dL_law_282 : decode cL_law 282 = .ok (.invokevirtual 45, 3) := by decide +kernel
theorem dL_law_285 : decode cL_law 285 = .ok (.aload_n 2, 1) := by decide +kernel
theorem dL_law_286 : decode cL_law 286 = .ok (.invokevirtual 48, 3) := by decide +kernel
theorem dL_law_289 : decode cL_law 289 = .ok (.if_icmp .eq 226, 3) := by decide +kernel
theorem dL_law_292 : decode cL_law 292 = .ok (.iconst 0, 1) := by decide +kernel
theorem dL_law_293 : decode cL_law 293 = .ok (.ireturn, 1) := by decide +kernel
theorem dL_law_294 : decode cL_law 294 = .ok (.aload_n 1, 1) := by decide +kernel
theorem dL_law_295 : decode cL_law 295 = .ok (.invokevirtual 49, 3) := by decide +kernel
theorem dL_law_298 : decode cL_law 298 = .ok (.aload_n 2, 1) := by decide +kernel
theorem dL_law_299 : decode cL_law 299 = .ok (.invokevirtual 52, 3) := by decide +kernel
theorem dL_law_302 : decode cL_law 302 = .ok (.if_icmp .eq 213, 3) := by decide +kernel
theorem dL_law_305 : decode cL_law 305 = .ok (.iconst 0, 1) := by decide +kernel
theorem dL_law_306 : decode cL_law 306 = .ok (.ireturn, 1) := by decide +kernel
theorem dL_law_307 : decode cL_law 307 = .ok (.aload_n 1, 1) := by decide +kernel
theorem dL_law_308 : decode cL_law 308 = .ok (.invokevirtual 53, 3) := by decide +kernel
theorem dL_law_311 : decode cL_law 311 = .ok (.aload_n 2, 1) := by decide +kernel
theorem dL_law_312 : decode cL_law 312 = .ok (.invokevirtual 56, 3) := by decide +kernel
theorem dL_law_315 : decode cL_law 315 = .ok (.if_icmp .eq 200, 3) := by decide +kernel
theorem dL_law_318 : decode cL_law 318 = .ok (.iconst 0, 1) := by decide +kernel
theorem dL_law_319 : decode cL_law 319 = .ok (.ireturn, 1) := by decide +kernel
theorem dL_law_320 : decode cL_law 320 = .ok (.aload_n 1, 1) := by decide +kernel
theorem dL_law_321 : decode cL_law 321 = .ok (.aload_n 0, 1) := by decide +kernel
theorem dL_law_322 : decode cL_law 322 = .ok (.iload_n 3, 1) := by decide +kernel
theorem dL_law_323 : decode cL_law 323 = .ok (.iconst 1, 1) := by decide +kernel
theorem dL_law_324 : decode cL_law 324 = .ok (.iadd, 1) := by decide +kernel
theorem dL_law_325 : decode cL_law 325 = .ok (.iaload, 1) := by decide +kernel
theorem dL_law_326 : decode cL_law 326 = .ok (.invokevirtual 57, 3) := by decide +kernel
theorem dL_law_329 : decode cL_law 329 = .ok (.aload_n 2, 1) := by decide +kernel
theorem dL_law_330 : decode cL_law 330 = .ok (.aload_n 0, 1) := by decide +kernel
theorem dL_law_331 : decode cL_law 331 = .ok (.iload_n 3, 1) := by decide +kernel
theorem dL_law_332 : decode cL_law 332 = .ok (.iconst 1, 1) := by decide +kernel
theorem dL_law_333 : decode cL_law 333 = .ok (.iadd, 1) := by decide +kernel
theorem dL_law_334 : decode cL_law 334 = .ok (.iaload, 1) := by decide +kernel
theorem dL_law_335 : decode cL_law 335 = .ok (.invokevirtual 60, 3) := by decide +kernel
theorem dL_law_338 : decode cL_law 338 = .ok (.if_icmp .eq 177, 3) := by decide +kernel
theorem dL_law_341 : decode cL_law 341 = .ok (.iconst 0, 1) := by decide +kernel
theorem dL_law_342 : decode cL_law 342 = .ok (.ireturn, 1) := by decide +kernel
theorem dL_law_343 : decode cL_law 343 = .ok (.aload_n 1, 1) := by decide +kernel
theorem dL_law_344 : decode cL_law 344 = .ok (.aload_n 0, 1) := by decide +kernel
theorem dL_law_345 : decode cL_law 345 = .ok (.iload_n 3, 1) := by decide +kernel
theorem dL_law_346 : decode cL_law 346 = .ok (.iconst 1, 1) := by decide +kernel
theorem dL_law_347 : decode cL_law 347 = .ok (.iadd, 1) := by decide +kernel
theorem dL_law_348 : decode cL_law 348 = .ok (.iaload, 1) := by decide +kernel
theorem dL_law_349 : decode cL_law 349 = .ok (.invokevirtual 61, 3) := by decide +kernel
theorem dL_law_352 : decode cL_law 352 = .ok (.aload_n 2, 1) := by decide +kernel
theorem dL_law_353 : decode cL_law 353 = .ok (.aload_n 0, 1) := by decide +kernel
theorem dL_law_354 : decode cL_law 354 = .ok (.iload_n 3, 1) := by decide +kernel
theorem dL_law_355 : decode cL_law 355 = .ok (.iconst 1, 1) := by decide +kernel
theorem dL_law_356 : decode cL_law 356 = .ok (.iadd, 1) := by decide +kernel
theorem dL_law_357 : decode cL_law 357 = .ok (.iaload, 1) := by decide +kernel
theorem dL_law_358 : decode cL_law 358 = .ok (.invokevirtual 65, 3) := by decide +kernel
theorem dL_law_361 : decode cL_law 361 = .ok (.if_icmp .eq 154, 3) := by decide +kernel
theorem dL_law_364 : decode cL_law 364 = .ok (.iconst 0, 1) := by decide +kernel
theorem dL_law_365 : decode cL_law 365 = .ok (.ireturn, 1) := by decide +kernel
theorem dL_law_366 : decode cL_law 366 = .ok (.aload_n 1, 1) := by decide +kernel
theorem dL_law_367 : decode cL_law 367 = .ok (.invokevirtual 66, 3) := by decide +kernel
theorem dL_law_370 : decode cL_law 370 = .ok (.aload_n 2, 1) := by decide +kernel
theorem dL_law_371 : decode cL_law 371 = .ok (.invokevirtual 69, 3) := by decide +kernel
theorem dL_law_374 : decode cL_law 374 = .ok (.if_icmp .eq 141, 3) := by decide +kernel
theorem dL_law_377 : decode cL_law 377 = .ok (.iconst 0, 1) := by decide +kernel
theorem dL_law_378 : decode cL_law 378 = .ok (.ireturn, 1) := by decide +kernel
theorem dL_law_379 : decode cL_law 379 = .ok (.aload_n 1, 1) := by decide +kernel
theorem dL_law_380 : decode cL_law 380 = .ok (.aload_n 0, 1) := by decide +kernel
theorem dL_law_381 : decode cL_law 381 = .ok (.iload_n 3, 1) := by decide +kernel
theorem dL_law_382 : decode cL_law 382 = .ok (.iconst 1, 1) := by decide +kernel
theorem dL_law_383 : decode cL_law 383 = .ok (.iadd, 1) := by decide +kernel
theorem dL_law_384 : decode cL_law 384 = .ok (.iaload, 1) := by decide +kernel
theorem dL_law_385 : decode cL_law 385 = .ok (.invokevirtual 70, 3) := by decide +kernel
theorem dL_law_388 : decode cL_law 388 = .ok (.aload_n 2, 1) := by decide +kernel
theorem dL_law_389 : decode cL_law 389 = .ok (.aload_n 0, 1) := by decide +kernel
theorem dL_law_390 : decode cL_law 390 = .ok (.iload_n 3, 1) := by decide +kernel
theorem dL_law_391 : decode cL_law 391 = .ok (.iconst 1, 1) := by decide +kernel
theorem dL_law_392 : decode cL_law 392 = .ok (.iadd, 1) := by decide +kernel
theorem dL_law_393 : decode cL_law 393 = .ok (.iaload, 1) := by decide +kernel
theorem dL_law_394 : decode cL_law 394 = .ok (.invokevirtual 73, 3) := by decide +kernel
theorem dL_law_397 : decode cL_law 397 = .ok (.if_icmp .eq 118, 3) := by decide +kernel
theorem dL_law_400 : decode cL_law 400 = .ok (.iconst 0, 1) := by decide +kernel
theorem dL_law_401 : decode cL_law 401 = .ok (.ireturn, 1) := by decide +kernel
theorem dL_law_402 : decode cL_law 402 = .ok (.aload_n 1, 1) := by decide +kernel
theorem dL_law_403 : decode cL_law 403 = .ok (.aload_n 0, 1) := by decide +kernel
theorem dL_law_404 : decode cL_law 404 = .ok (.iload_n 3, 1) := by decide +kernel
theorem dL_law_405 : decode cL_law 405 = .ok (.iconst 1, 1) := by decide +kernel
theorem dL_law_406 : decode cL_law 406 = .ok (.iadd, 1) := by decide +kernel
theorem dL_law_407 : decode cL_law 407 = .ok (.iaload, 1) := by decide +kernel
theorem dL_law_408 : decode cL_law 408 = .ok (.aload_n 0, 1) := by decide +kernel
theorem dL_law_409 : decode cL_law 409 = .ok (.iload_n 3, 1) := by decide +kernel
theorem dL_law_410 : decode cL_law 410 = .ok (.iconst 2, 1) := by decide +kernel
theorem dL_law_411 : decode cL_law 411 = .ok (.iadd, 1) := by decide +kernel
theorem dL_law_412 : decode cL_law 412 = .ok (.iaload, 1) := by decide +kernel
theorem dL_law_413 : decode cL_law 413 = .ok (.aload_n 0, 1) := by decide +kernel
theorem dL_law_414 : decode cL_law 414 = .ok (.iload_n 3, 1) := by decide +kernel
theorem dL_law_415 : decode cL_law 415 = .ok (.iconst 3, 1) := by decide +kernel
theorem dL_law_416 : decode cL_law 416 = .ok (.iadd, 1) := by decide +kernel
theorem dL_law_417 : decode cL_law 417 = .ok (.iaload, 1) := by decide +kernel
theorem dL_law_418 : decode cL_law 418 = .ok (.invokevirtual 74, 3) := by decide +kernel
theorem dL_law_421 : decode cL_law 421 = .ok (.aload_n 2, 1) := by decide +kernel
theorem dL_law_422 : decode cL_law 422 = .ok (.aload_n 0, 1) := by decide +kernel
theorem dL_law_423 : decode cL_law 423 = .ok (.iload_n 3, 1) := by decide +kernel
theorem dL_law_424 : decode cL_law 424 = .ok (.iconst 1, 1) := by decide +kernel
theorem dL_law_425 : decode cL_law 425 = .ok (.iadd, 1) := by decide +kernel
theorem dL_law_426 : decode cL_law 426 = .ok (.iaload, 1) := by decide +kernel
theorem dL_law_427 : decode cL_law 427 = .ok (.aload_n 0, 1) := by decide +kernel
theorem dL_law_428 : decode cL_law 428 = .ok (.iload_n 3, 1) := by decide +kernel
theorem dL_law_429 : decode cL_law 429 = .ok (.iconst 2, 1) := by decide +kernel
theorem dL_law_430 : decode cL_law 430 = .ok (.iadd, 1) := by decide +kernel
theorem dL_law_431 : decode cL_law 431 = .ok (.iaload, 1) := by decide +kernel
theorem dL_law_432 : decode cL_law 432 = .ok (.aload_n 0, 1) := by decide +kernel
theorem dL_law_433 : decode cL_law 433 = .ok (.iload_n 3, 1) := by decide +kernel
theorem dL_law_434 : decode cL_law 434 = .ok (.iconst 3, 1) := by decide +kernel
theorem dL_law_435 : decode cL_law 435 = .ok (.iadd, 1) := by decide +kernel
theorem dL_law_436 : decode cL_law 436 = .ok (.iaload, 1) := by decide +kernel
theorem dL_law_437 : decode cL_law 437 = .ok (.invokevirtual 78, 3) := by decide +kernel
theorem dL_law_440 : decode cL_law 440 = .ok (.lcmp, 1) := by decide +kernel
theorem dL_law_441 : decode cL_law 441 = .ok (.ifCond .eq 74, 3) := by decide +kernel
theorem dL_law_444 : decode cL_law 444 = .ok (.iconst 0, 1) := by decide +kernel
theorem dL_law_445 : decode cL_law 445 = .ok (.ireturn, 1) := by decide +kernel
theorem dL_law_446 : decode cL_law 446 = .ok (.aload_n 1, 1) := by decide +kernel
theorem dL_law_447 : decode cL_law 447 = .ok (.aload_n 0, 1) := by decide +kernel
theorem dL_law_448 : decode cL_law 448 = .ok (.iload_n 3, 1) := by decide +kernel
theorem dL_law_449 : decode cL_law 449 = .ok (.iconst 1, 1) := by decide +kernel
theorem dL_law_450 : decode cL_law 450 = .ok (.iadd, 1) := by decide +kernel
theorem dL_law_451 : decode cL_law 451 = .ok (.iaload, 1) := by decide +kernel
theorem dL_law_452 : decode cL_law 452 = .ok (.aload_n 0, 1) := by decide +kernel
theorem dL_law_453 : decode cL_law 453 = .ok (.iload_n 3, 1) := by decide +kernel
theorem dL_law_454 : decode cL_law 454 = .ok (.iconst 2, 1) := by decide +kernel
theorem dL_law_455 : decode cL_law 455 = .ok (.iadd, 1) := by decide +kernel
theorem dL_law_456 : decode cL_law 456 = .ok (.iaload, 1) := by decide +kernel
theorem dL_law_457 : decode cL_law 457 = .ok (.invokevirtual 79, 3) := by decide +kernel
theorem dL_law_460 : decode cL_law 460 = .ok (.aload_n 2, 1) := by decide +kernel
theorem dL_law_461 : decode cL_law 461 = .ok (.aload_n 0, 1) := by decide +kernel
theorem dL_law_462 : decode cL_law 462 = .ok (.iload_n 3, 1) := by decide +kernel
theorem dL_law_463 : decode cL_law 463 = .ok (.iconst 1, 1) := by decide +kernel
theorem dL_law_464 : decode cL_law 464 = .ok (.iadd, 1) := by decide +kernel
theorem dL_law_465 : decode cL_law 465 = .ok (.iaload, 1) := by decide +kernel
theorem dL_law_466 : decode cL_law 466 = .ok (.aload_n 0, 1) := by decide +kernel
theorem dL_law_467 : decode cL_law 467 = .ok (.iload_n 3, 1) := by decide +kernel
theorem dL_law_468 : decode cL_law 468 = .ok (.iconst 2, 1) := by decide +kernel
theorem dL_law_469 : decode cL_law 469 = .ok (.iadd, 1) := by decide +kernel
theorem dL_law_470 : decode cL_law 470 = .ok (.iaload, 1) := by decide +kernel
theorem dL_law_471 : decode cL_law 471 = .ok (.invokevirtual 82, 3) := by decide +kernel
theorem dL_law_474 : decode cL_law 474 = .ok (.if_icmp .eq 41, 3) := by decide +kernel
theorem dL_law_477 : decode cL_law 477 = .ok (.iconst 0, 1) := by decide +kernel
theorem dL_law_478 : decode cL_law 478 = .ok (.ireturn, 1) := by decide +kernel
theorem dL_law_479 : decode cL_law 479 = .ok (.aload_n 1, 1) := by decide +kernel
theorem dL_law_480 : decode cL_law 480 = .ok (.invokevirtual 83, 3) := by decide +kernel
theorem dL_law_483 : decode cL_law 483 = .ok (.aload_n 2, 1) := by decide +kernel
theorem dL_law_484 : decode cL_law 484 = .ok (.invokevirtual 86, 3) := by decide +kernel
theorem dL_law_487 : decode cL_law 487 = .ok (.if_icmp .eq 28, 3) := by decide +kernel
theorem dL_law_490 : decode cL_law 490 = .ok (.iconst 0, 1) := by decide +kernel
theorem dL_law_491 : decode cL_law 491 = .ok (.ireturn, 1) := by decide +kernel
theorem dL_law_492 : decode cL_law 492 = .ok (.aload_n 1, 1) := by decide +kernel
theorem dL_law_493 : decode cL_law 493 = .ok (.aload_n 0, 1) := by decide +kernel
theorem dL_law_494 : decode cL_law 494 = .ok (.iload_n 3, 1) := by decide +kernel
theorem dL_law_495 : decode cL_law 495 = .ok (.iconst 1, 1) := by decide +kernel
theorem dL_law_496 : decode cL_law 496 = .ok (.iadd, 1) := by decide +kernel
theorem dL_law_497 : decode cL_law 497 = .ok (.iaload, 1) := by decide +kernel
theorem dL_law_498 : decode cL_law 498 = .ok (.invokevirtual 87, 3) := by decide +kernel
theorem dL_law_501 : decode cL_law 501 = .ok (.aload_n 2, 1) := by decide +kernel
theorem dL_law_502 : decode cL_law 502 = .ok (.aload_n 0, 1) := by decide +kernel
theorem dL_law_503 : decode cL_law 503 = .ok (.iload_n 3, 1) := by decide +kernel
theorem dL_law_504 : decode cL_law 504 = .ok (.iconst 1, 1) := by decide +kernel
theorem dL_law_505 : decode cL_law 505 = .ok (.iadd, 1) := by decide +kernel
theorem dL_law_506 : decode cL_law 506 = .ok (.iaload, 1) := by decide +kernel
theorem dL_law_507 : decode cL_law 507 = .ok (.invokevirtual 90, 3) := by decide +kernel
theorem dL_law_510 : decode cL_law 510 = .ok (.if_icmp .eq 5, 3) := by decide +kernel
theorem dL_law_513 : decode cL_law 513 = .ok (.iconst 0, 1) := by decide +kernel
theorem dL_law_514 : decode cL_law 514 = .ok (.ireturn, 1) := by decide +kernel
theorem dL_law_515 : decode cL_law 515 = .ok (.iinc 3 4, 3) := by decide +kernel
theorem dL_law_518 : decode cL_law 518 = .ok (.goto (-500), 3) := by decide +kernel
theorem dL_law_521 : decode cL_law 521 = .ok (.iconst 1, 1) := by decide +kernel
theorem dL_law_522 : decode cL_law 522 = .ok (.ireturn, 1) := by decide +kernel
end
section
theorem dX5_init_0 : decode cX5_init 0 = .ok (.aload_n 0, 1) := by decide +kernel
theorem dX5_init_1 : decode cX5_init 1 = .ok (.invokespecial 1, 3) := by decide +kernel
theorem dX5_init_4 : decode cX5_init 4 = .ok (.aload_n 0, 1) := by decide +kernel
theorem dX5_init_5 : decode cX5_init 5 = .ok (.ldc 7, 2) := by decide +kernel
theorem dX5_init_7 : decode cX5_init 7 = .ok (.newarray .int, 2) := by decide +kernel
theorem dX5_init_9 : decode cX5_init 9 = .ok (.putfield 8, 3) := by decide +kernel
theorem dX5_init_12 : decode cX5_init 12 = .ok (.aload_n 0, 1) := by decide +kernel
theorem dX5_init_13 : decode cX5_init 13 = .ok (.sipush 12000, 3) := by decide +kernel
theorem dX5_init_16 : decode cX5_init 16 = .ok (.newarray .int, 2) := by decide +kernel
theorem dX5_init_18 : decode cX5_init 18 = .ok (.putfield 14, 3) := by decide +kernel
theorem dX5_init_21 : decode cX5_init 21 = .ok (.aload_n 0, 1) := by decide +kernel
theorem dX5_init_22 : decode cX5_init 22 = .ok (.sipush 12000, 3) := by decide +kernel
theorem dX5_init_25 : decode cX5_init 25 = .ok (.newarray .int, 2) := by decide +kernel
theorem dX5_init_27 : decode cX5_init 27 = .ok (.putfield 17, 3) := by decide +kernel
theorem dX5_init_30 : decode cX5_init 30 = .ok (.aload_n 0, 1) := by decide +kernel
theorem dX5_init_31 : decode cX5_init 31 = .ok (.sipush 600, 3) := by decide +kernel
theorem dX5_init_34 : decode cX5_init 34 = .ok (.newarray .int, 2) := by decide +kernel
theorem dX5_init_36 : decode cX5_init 36 = .ok (.putfield 20, 3) := by decide +kernel
theorem dX5_init_39 : decode cX5_init 39 = .ok (.aload_n 0, 1) := by decide +kernel
theorem dX5_init_40 : decode cX5_init 40 = .ok (.sipush 600, 3) := by decide +kernel
theorem dX5_init_43 : decode cX5_init 43 = .ok (.newarray .int, 2) := by decide +kernel
theorem dX5_init_45 : decode cX5_init 45 = .ok (.putfield 23, 3) := by decide +kernel
theorem dX5_init_48 : decode cX5_init 48 = .ok (.aload_n 0, 1) := by decide +kernel
theorem dX5_init_49 : decode cX5_init 49 = .ok (.sipush 600, 3) := by decide +kernel
theorem dX5_init_52 : decode cX5_init 52 = .ok (.newarray .boolean, 2) := by decide +kernel
theorem dX5_init_54 : decode cX5_init 54 = .ok (.putfield 26, 3) := by decide +kernel
theorem dX5_init_57 : decode cX5_init 57 = .ok (.aload_n 0, 1) := by decide +kernel
theorem dX5_init_58 : decode cX5_init 58 = .ok (.bipush 64, 2) := by decide +kernel
theorem dX5_init_60 : decode cX5_init 60 = .ok (.newarray .int, 2) := by decide +kernel
theorem dX5_init_62 : decode cX5_init 62 = .ok (.putfield 30, 3) := by decide +kernel
theorem dX5_init_65 : decode cX5_init 65 = .ok (.aload_n 0, 1) := by decide +kernel
theorem dX5_init_66 : decode cX5_init 66 = .ok (.sipush 512, 3) := by decide +kernel
theorem dX5_init_69 : decode cX5_init 69 = .ok (.newarray .int, 2) := by decide +kernel
theorem dX5_init_71 : decode cX5_init 71 = .ok (.putfield 33, 3) := by decide +kernel
theorem dX5_init_74 : decode cX5_init 74 = .ok (.aload_n 0, 1) := by decide +kernel
theorem dX5_init_75 : decode cX5_init 75 = .ok (.sipush 512, 3) := by decide +kernel
theorem dX5_init_78 : decode cX5_init 78 = .ok (.newarray .int, 2) := by decide +kernel
theorem dX5_init_80 : decode cX5_init 80 = .ok (.putfield 36, 3) := by decide +kernel
theorem dX5_init_83 : decode cX5_init 83 = .ok (.aload_n 0, 1) := by decide +kernel
theorem dX5_init_84 : decode cX5_init 84 = .ok (.sipush 1801, 3) := by decide +kernel
theorem dX5_init_87 : decode cX5_init 87 = .ok (.newarray .int, 2) := by decide +kernel
theorem dX5_init_89 : decode cX5_init 89 = .ok (.putfield 39, 3) := by decide +kernel
theorem dX5_init_92 : decode cX5_init 92 = .ok (.return_, 1) := by decide +kernel
theorem dX5_sumOf_0 : decode cX5_sumOf 0 = .ok (.bipush 7, 2) := by decide +kernel
theorem dX5_sumOf_2 : decode cX5_sumOf 2 = .ok (.istore_n 3, 1) := by decide +kernel
theorem dX5_sumOf_3 : decode cX5_sumOf 3 = .ok (.iconst 0, 1) := by decide +kernel
theorem dX5_sumOf_4 : decode cX5_sumOf 4 = .ok (.istore 4, 2) := by decide +kernel
theorem dX5_sumOf_6 : decode cX5_sumOf 6 = .ok (.iload 4, 2) := by decide +kernel
theorem dX5_sumOf_8 : decode cX5_sumOf 8 = .ok (.iload_n 2, 1) := by decide +kernel
theorem dX5_sumOf_9 : decode cX5_sumOf 9 = .ok (.if_icmp .ge 21, 3) := by decide +kernel
theorem dX5_sumOf_12 : decode cX5_sumOf 12 = .ok (.bipush 31, 2) := by decide +kernel
theorem dX5_sumOf_14 : decode cX5_sumOf 14 = .ok (.iload_n 3, 1) := by decide +kernel
theorem dX5_sumOf_15 : decode cX5_sumOf 15 = .ok (.imul, 1) := by decide +kernel
theorem dX5_sumOf_16 : decode cX5_sumOf 16 = .ok (.aload_n 0, 1) := by decide +kernel
theorem dX5_sumOf_17 : decode cX5_sumOf 17 = .ok (.iload_n 1, 1) := by decide +kernel
theorem dX5_sumOf_18 : decode cX5_sumOf 18 = .ok (.iload 4, 2) := by decide +kernel
theorem dX5_sumOf_20 : decode cX5_sumOf 20 = .ok (.iadd, 1) := by decide +kernel
theorem dX5_sumOf_21 : decode cX5_sumOf 21 = .ok (.iaload, 1) := by decide +kernel
theorem dX5_sumOf_22 : decode cX5_sumOf 22 = .ok (.iadd, 1) := by decide +kernel
theorem dX5_sumOf_23 : decode cX5_sumOf 23 = .ok (.istore_n 3, 1) := by decide +kernel
theorem dX5_sumOf_24 : decode cX5_sumOf 24 = .ok (.iinc 4 1, 3) := by decide +kernel
theorem dX5_sumOf_27 : decode cX5_sumOf 27 = .ok (.goto (-21), 3) := by decide +kernel
theorem dX5_sumOf_30 : decode cX5_sumOf 30 = .ok (.iload_n 3, 1) := by decide +kernel
theorem dX5_sumOf_31 : decode cX5_sumOf 31 = .ok (.ireturn, 1) := by decide +kernel
theorem dX5_isGood_0 : decode cX5_isGood 0 = .ok (.aload_n 0, 1) := by decide +kernel
theorem dX5_isGood_1 : decode cX5_isGood 1 = .ok (.getfield 8, 3) := by decide +kernel
theorem dX5_isGood_4 : decode cX5_isGood 4 = .ok (.aload_n 0, 1) := by decide +kernel
theorem dX5_isGood_5 : decode cX5_isGood 5 = .ok (.getfield 42, 3) := by decide +kernel
theorem dX5_isGood_8 : decode cX5_isGood 8 = .ok (.iload_n 1, 1) := by decide +kernel
theorem dX5_isGood_9 : decode cX5_isGood 9 = .ok (.imul, 1) := by decide +kernel
theorem dX5_isGood_10 : decode cX5_isGood 10 = .ok (.aload_n 0, 1) := by decide +kernel
theorem dX5_isGood_11 : decode cX5_isGood 11 = .ok (.getfield 42, 3) := by decide +kernel
theorem dX5_isGood_14 : decode cX5_isGood 14 = .ok (.iadd, 1) := by decide +kernel
theorem dX5_isGood_15 : decode cX5_isGood 15 = .ok (.iconst 1, 1) := by decide +kernel
theorem dX5_isGood_16 : decode cX5_isGood 16 = .ok (.isub, 1) := by decide +kernel
theorem dX5_isGood_17 : decode cX5_isGood 17 = .ok (.iaload, 1) := by decide +kernel
theorem dX5_isGood_18 : decode cX5_isGood 18 = .ok (.aload_n 0, 1) := by decide +kernel
theorem dX5_isGood_19 : decode cX5_isGood 19 = .ok (.getfield 8, 3) := by decide +kernel
theorem dX5_isGood_22 : decode cX5_isGood 22 = .ok (.aload_n 0, 1) := by decide +kernel
theorem dX5_isGood_23 : decode cX5_isGood 23 = .ok (.getfield 42, 3) := by decide +kernel
theorem dX5_isGood_26 : decode cX5_isGood 26 = .ok (.iload_n 1, 1) := by decide +kernel
theorem dX5_isGood_27 : decode cX5_isGood 27 = .ok (.imul, 1) := by decide +kernel
theorem dX5_isGood_28 : decode cX5_isGood 28 = .ok (.aload_n 0, 1) := by decide +kernel
theorem dX5_isGood_29 : decode cX5_isGood 29 = .ok (.getfield 42, 3) := by decide +kernel
theorem dX5_isGood_32 : decode cX5_isGood 32 = .ok (.iconst 1, 1) := by decide +kernel
theorem dX5_isGood_33 : decode cX5_isGood 33 = .ok (.isub, 1) := by decide +kernel
theorem dX5_isGood_34 : decode cX5_isGood 34 = .ok (.invokestatic 46, 3) := by decide +kernel
theorem dX5_isGood_37 : decode cX5_isGood 37 = .ok (.if_icmp .ne 7, 3) := by decide +kernel
theorem dX5_isGood_40 : decode cX5_isGood 40 = .ok (.iconst 1, 1) := by decide +kernel
theorem dX5_isGood_41 : decode cX5_isGood 41 = .ok (.goto 4, 3) := by decide +kernel
theorem dX5_isGood_44 : decode cX5_isGood 44 = .ok (.iconst 0, 1) := by decide +kernel
theorem dX5_isGood_45 : decode cX5_isGood 45 = .ok (.ireturn, 1) := by decide +kernel
theorem dX5_blank_0 : decode cX5_blank 0 = .ok (.iconst 0, 1) := by decide +kernel
theorem dX5_blank_1 : decode cX5_blank 1 = .ok (.istore_n 1, 1) := by decide +kernel
theorem dX5_blank_2 : decode cX5_blank 2 = .ok (.iload_n 1, 1) := by decide +kernel
theorem dX5_blank_3 : decode cX5_blank 3 = .ok (.bipush 64, 2) := by decide +kernel
theorem dX5_blank_5 : decode cX5_blank 5 = .ok (.if_icmp .ge 16, 3) := by decide +kernel
theorem dX5_blank_8 : decode cX5_blank 8 = .ok (.aload_n 0, 1) := by decide +kernel
theorem dX5_blank_9 : decode cX5_blank 9 = .ok (.getfield 30, 3) := by decide +kernel
theorem dX5_blank_12 : decode cX5_blank 12 = .ok (.iload_n 1, 1) := by decide +kernel
theorem dX5_blank_13 : decode cX5_blank 13 = .ok (.iconst 0, 1) := by decide +kernel
theorem dX5_blank_14 : decode cX5_blank 14 = .ok (.iastore, 1) := by decide +kernel
theorem dX5_blank_15 : decode cX5_blank 15 = .ok (.iinc 1 1, 3) := by decide +kernel
theorem dX5_blank_18 : decode cX5_blank 18 = .ok (.goto (-16), 3) := by decide +kernel
theorem dX5_blank_21 : decode cX5_blank 21 = .ok (.return_, 1) := by decide +kernel
theorem dX5_write_0 : decode cX5_write 0 = .ok (.aload_n 0, 1) := by decide +kernel
theorem dX5_write_1 : decode cX5_write 1 = .ok (.getfield 50, 3) := by decide +kernel
theorem dX5_write_4 : decode cX5_write 4 = .ok (.ifCond .le 32, 3) := by decide +kernel
theorem dX5_write_7 : decode cX5_write 7 = .ok (.aload_n 0, 1) := by decide +kernel
theorem dX5_write_8 : decode cX5_write 8 = .ok (.dup, 1) := by decide +kernel
theorem dX5_write_9 : decode cX5_write 9 = .ok (.getfield 50, 3) := by decide +kernel
theorem dX5_write_12 : decode cX5_write 12 = .ok (.iconst 1, 1) := by decide +kernel
theorem dX5_write_13 : decode cX5_write 13 = .ok (.isub, 1) := by decide +kernel
theorem dX5_write_14 : decode cX5_write 14 = .ok (.putfield 50, 3) := by decide +kernel
theorem dX5_write_17 : decode cX5_write 17 = .ok (.aload_n 0, 1) := by decide +kernel
theorem dX5_write_18 : decode cX5_write 18 = .ok (.getfield 50, 3) := by decide +kernel
theorem dX5_write_21 : decode cX5_write 21 = .ok (.ifCond .ne 15, 3) := by decide +kernel
theorem dX5_write_24 : decode cX5_write 24 = .ok (.aload_n 0, 1) := by decide +kernel
theorem dX5_write_25 : decode cX5_write 25 = .ok (.iconst 3, 1) := by decide +kernel
theorem dX5_write_26 : decode cX5_write 26 = .ok (.putfield 53, 3) := by decide +kernel
theorem dX5_write_29 : decode cX5_write 29 = .ok (.aload_n 0, 1) := by decide +kernel
theorem dX5_write_30 : decode cX5_write 30 = .ok (.iconst 0, 1) := by decide +kernel
theorem dX5_write_31 : decode cX5_write 31 = .ok (.putfield 56, 3) := by decide +kernel
theorem dX5_write_34 : decode cX5_write 34 = .ok (.iconst 0, 1) := by decide +kernel
theorem dX5_write_35 : decode cX5_write 35 = .ok (.ireturn, 1) := by decide +kernel
theorem dX5_write_36 : decode cX5_write 36 = .ok (.aload_n 0, 1) := by decide +kernel
theorem dX5_write_37 : decode cX5_write 37 = .ok (.getfield 30, 3) := by decide +kernel
theorem dX5_write_40 : decode cX5_write 40 = .ok (.aload_n 0, 1) := by decide +kernel
theorem dX5_write_41 : decode cX5_write 41 = .ok (.getfield 42, 3) := by decide +kernel
theorem dX5_write_44 : decode cX5_write 44 = .ok (.iconst 1, 1) := by decide +kernel
theorem dX5_write_45 : decode cX5_write 45 = .ok (.isub, 1) := by decide +kernel
theorem dX5_write_46 : decode cX5_write 46 = .ok (.aload_n 0, 1) := by decide +kernel
theorem dX5_write_47 : decode cX5_write 47 = .ok (.getfield 30, 3) := by decide +kernel
theorem dX5_write_50 : decode cX5_write 50 = .ok (.iconst 0, 1) := by decide +kernel
theorem dX5_write_51 : decode cX5_write 51 = .ok (.aload_n 0, 1) := by decide +kernel
theorem dX5_write_52 : decode cX5_write 52 = .ok (.getfield 42, 3) := by decide +kernel
theorem dX5_write_55 : decode cX5_write 55 = .ok (.iconst 1, 1) := by decide +kernel
theorem dX5_write_56 : decode cX5_write 56 = .ok (.isub, 1) := by decide +kernel
theorem dX5_write_57 : decode cX5_write 57 = .ok (.invokestatic 46, 3) := by decide +kernel
theorem dX5_write_60 : decode cX5_write 60 = .ok (.iastore, 1) := by decide +kernel
theorem dX5_write_61 : decode cX5_write 61 = .ok (.iconst 0, 1) := by decide +kernel
theorem dX5_write_62 : decode cX5_write 62 = .ok (.istore_n 2, 1) := by decide +kernel
theorem dX5_write_63 : decode cX5_write 63 = .ok (.iload_n 2, 1) := by decide +kernel
theorem dX5_write_64 : decode cX5_write 64 = .ok (.aload_n 0, 1) := by decide +kernel
theorem dX5_write_65 : decode cX5_write 65 = .ok (.getfield 42, 3) := by decide +kernel
theorem dX5_write_68 : decode cX5_write 68 = .ok (.if_icmp .ge 28, 3) := by decide +kernel
theorem dX5_write_71 : decode cX5_write 71 = .ok (.aload_n 0, 1) := by decide +kernel
theorem dX5_write_72 : decode cX5_write 72 = .ok (.getfield 8, 3) := by decide +kernel
theorem dX5_write_75 : decode cX5_write 75 = .ok (.aload_n 0, 1) := by decide +kernel
theorem dX5_write_76 : decode cX5_write 76 = .ok (.getfield 42, 3) := by decide +kernel
theorem dX5_write_79 : decode cX5_write 79 = .ok (.iload_n 1, 1) := by decide +kernel
theorem dX5_write_80 : decode cX5_write 80 = .ok (.imul, 1) := by decide +kernel
theorem dX5_write_81 : decode cX5_write 81 = .ok (.iload_n 2, 1) := by decide +kernel
theorem dX5_write_82 : decode cX5_write 82 = .ok (.iadd, 1) := by decide +kernel
theorem dX5_write_83 : decode cX5_write 83 = .ok (.aload_n 0, 1) := by decide +kernel
theorem dX5_write_84 : decode cX5_write 84 = .ok (.getfield 30, 3) := by decide +kernel
theorem dX5_write_87 : decode cX5_write 87 = .ok (.iload_n 2, 1) := by decide +kernel
theorem dX5_write_88 : decode cX5_write 88 = .ok (.iaload, 1) := by decide +kernel
theorem dX5_write_89 : decode cX5_write 89 = .ok (.iastore, 1) := by decide +kernel
theorem dX5_write_90 : decode cX5_write 90 = .ok (.iinc 2 1, 3) := by decide +kernel
theorem dX5_write_93 : decode cX5_write 93 = .ok (.goto (-30), 3) := by decide +kernel
theorem dX5_write_96 : decode cX5_write 96 = .ok (.aload_n 0, 1) := by decide +kernel
theorem dX5_write_97 : decode cX5_write 97 = .ok (.dup, 1) := by decide +kernel
theorem dX5_write_98 : decode cX5_write 98 = .ok (.getfield 60, 3) := by decide +kernel
theorem dX5_write_101 : decode cX5_write 101 = .ok (.iconst 1, 1) := by decide +kernel
theorem dX5_write_102 : decode cX5_write 102 = .ok (.iadd, 1) := by decide +kernel
theorem dX5_write_103 : decode cX5_write 103 = .ok (.putfield 60, 3) := by decide +kernel
theorem dX5_write_106 : decode cX5_write 106 = .ok (.iconst 1, 1) := by decide +kernel
theorem dX5_write_107 : decode cX5_write 107 = .ok (.ireturn, 1) := by decide +kernel
theorem dX5_writeHead_0 : decode cX5_writeHead 0 = .ok (.aload_n 0, 1) := by decide +kernel
theorem dX5_writeHead_1 : decode cX5_writeHead 1 = .ok (.invokevirtual 63, 3) := by decide +kernel
theorem dX5_writeHead_4 : decode cX5_writeHead 4 = .ok (.aload_n 0, 1) := by decide +kernel
theorem dX5_writeHead_5 : decode cX5_writeHead 5 = .ok (.getfield 30, 3) := by decide +kernel
theorem dX5_writeHead_8 : decode cX5_writeHead 8 = .ok (.iconst 0, 1) := by decide +kernel
theorem dX5_writeHead_9 : decode cX5_writeHead 9 = .ok (.ldc 66, 2) := by decide +kernel
theorem dX5_writeHead_11 : decode cX5_writeHead 11 = .ok (.iastore, 1) := by decide +kernel
theorem dX5_writeHead_12 : decode cX5_writeHead 12 = .ok (.aload_n 0, 1) := by decide +kernel
theorem dX5_writeHead_13 : decode cX5_writeHead 13 = .ok (.getfield 30, 3) := by decide +kernel
theorem dX5_writeHead_16 : decode cX5_writeHead 16 = .ok (.iconst 1, 1) := by decide +kernel
theorem dX5_writeHead_17 : decode cX5_writeHead 17 = .ok (.iload_n 1, 1) := by decide +kernel
theorem dX5_writeHead_18 : decode cX5_writeHead 18 = .ok (.iastore, 1) := by decide +kernel
theorem dX5_writeHead_19 : decode cX5_writeHead 19 = .ok (.aload_n 0, 1) := by decide +kernel
theorem dX5_writeHead_20 : decode cX5_writeHead 20 = .ok (.getfield 30, 3) := by decide +kernel
theorem dX5_writeHead_23 : decode cX5_writeHead 23 = .ok (.iconst 2, 1) := by decide +kernel
theorem dX5_writeHead_24 : decode cX5_writeHead 24 = .ok (.iload_n 2, 1) := by decide +kernel
theorem dX5_writeHead_25 : decode cX5_writeHead 25 = .ok (.iastore, 1) := by decide +kernel
theorem dX5_writeHead_26 : decode cX5_writeHead 26 = .ok (.aload_n 0, 1) := by decide +kernel
theorem dX5_writeHead_27 : decode cX5_writeHead 27 = .ok (.getfield 30, 3) := by decide +kernel
theorem dX5_writeHead_30 : decode cX5_writeHead 30 = .ok (.iconst 3, 1) := by decide +kernel
theorem dX5_writeHead_31 : decode cX5_writeHead 31 = .ok (.iload_n 3, 1) := by decide +kernel
theorem dX5_writeHead_32 : decode cX5_writeHead 32 = .ok (.iastore, 1) := by decide +kernel
theorem dX5_writeHead_33 : decode cX5_writeHead 33 = .ok (.aload_n 0, 1) := by decide +kernel
theorem dX5_writeHead_34 : decode cX5_writeHead 34 = .ok (.getfield 30, 3) := by decide +kernel
theorem dX5_writeHead_37 : decode cX5_writeHead 37 = .ok (.iconst 4, 1) := by decide +kernel
theorem dX5_writeHead_38 : decode cX5_writeHead 38 = .ok (.iload 4, 2) := by decide +kernel
theorem dX5_writeHead_40 : decode cX5_writeHead 40 = .ok (.iastore, 1) := by decide +kernel
theorem dX5_writeHead_41 : decode cX5_writeHead 41 = .ok (.aload_n 0, 1) := by decide +kernel
theorem dX5_writeHead_42 : decode cX5_writeHead 42 = .ok (.getfield 30, 3) := by decide +kernel
theorem dX5_writeHead_45 : decode cX5_writeHead 45 = .ok (.iconst 5, 1) := by decide +kernel
theorem dX5_writeHead_46 : decode cX5_writeHead 46 = .ok (.iload 5, 2) := by decide +kernel
theorem dX5_writeHead_48 : decode cX5_writeHead 48 = .ok (.iastore, 1) := by decide +kernel
theorem dX5_writeHead_49 : decode cX5_writeHead 49 = .ok (.aload_n 0, 1) := by decide +kernel
theorem dX5_writeHead_50 : decode cX5_writeHead 50 = .ok (.iconst 0, 1) := by decide +kernel
theorem dX5_writeHead_51 : decode cX5_writeHead 51 = .ok (.invokevirtual 67, 3) := by decide +kernel
theorem dX5_writeHead_54 : decode cX5_writeHead 54 = .ok (.ireturn, 1) := by decide +kernel
theorem dX5_area_0 : decode cX5_area 0 = .ok (.aload_n 0, 1) := by decide +kernel
theorem dX5_area_1 : decode cX5_area 1 = .ok (.getfield 71, 3) := by decide +kernel
theorem dX5_area_4 : decode cX5_area 4 = .ok (.iconst 1, 1) := by decide +kernel
theorem dX5_area_5 : decode cX5_area 5 = .ok (.isub, 1) := by decide +kernel
theorem dX5_area_6 : decode cX5_area 6 = .ok (.aload_n 0, 1) := by decide +kernel
theorem dX5_area_7 : decode cX5_area 7 = .ok (.getfield 74, 3) := by decide +kernel
theorem dX5_area_10 : decode cX5_area 10 = .ok (.isub, 1) := by decide +kernel
theorem dX5_area_11 : decode cX5_area 11 = .ok (.iconst 2, 1) := by decide +kernel
theorem dX5_area_12 : decode cX5_area 12 = .ok (.idiv, 1) := by decide +kernel
theorem dX5_area_13 : decode cX5_area 13 = .ok (.ireturn, 1) := by decide +kernel
theorem dX5_fan_0 : decode cX5_fan 0 = .ok (.aload_n 0, 1) := by decide +kernel
theorem dX5_fan_1 : decode cX5_fan 1 = .ok (.getfield 42, 3) := by decide +kernel
theorem dX5_fan_4 : decode cX5_fan 4 = .ok (.iconst 3, 1) := by decide +kernel
theorem dX5_fan_5 : decode cX5_fan 5 = .ok (.isub, 1) := by decide +kernel
theorem dX5_fan_6 : decode cX5_fan 6 = .ok (.iconst 2, 1) := by decide +kernel
theorem dX5_fan_7 : decode cX5_fan 7 = .ok (.idiv, 1) := by decide +kernel
theorem dX5_fan_8 : decode cX5_fan 8 = .ok (.ireturn, 1) := by decide +kernel
theorem dX5_part_0 : decode cX5_part 0 = .ok (.aload_n 0, 1) := by decide +kernel
theorem dX5_part_1 : decode cX5_part 1 = .ok (.getfield 42, 3) := by decide +kernel
theorem dX5_part_4 : decode cX5_part 4 = .ok (.iconst 5, 1) := by decide +kernel
theorem dX5_part_5 : decode cX5_part 5 = .ok (.isub, 1) := by decide +kernel
theorem dX5_part_6 : decode cX5_part 6 = .ok (.ireturn, 1) := by decide +kernel
theorem dX5_not_0 : decode cX5_not 0 = .ok (.aload_n 0, 1) := by decide +kernel
theorem dX5_not_1 : decode cX5_not 1 = .ok (.getfield 53, 3) := by decide +kernel
theorem dX5_not_4 : decode cX5_not 4 = .ok (.ifCond .ne 8, 3) := by decide +kernel
theorem dX5_not_7 : decode cX5_not 7 = .ok (.bipush (-7), 2) := by decide +kernel
theorem dX5_not_9 : decode cX5_not 9 = .ok (.goto 29, 3) := by decide +kernel
theorem dX5_not_12 : decode cX5_not 12 = .ok (.aload_n 0, 1) := by decide +kernel
theorem dX5_not_13 : decode cX5_not 13 = .ok (.getfield 53, 3) := by decide +kernel
theorem dX5_not_16 : decode cX5_not 16 = .ok (.iconst 1, 1) := by decide +kernel
theorem dX5_not_17 : decode cX5_not 17 = .ok (.if_icmp .ne 8, 3) := by decide +kernel
theorem dX5_not_20 : decode cX5_not 20 = .ok (.bipush (-2), 2) := by decide +kernel
theorem dX5_not_22 : decode cX5_not 22 = .ok (.goto 16, 3) := by decide +kernel
theorem dX5_not_25 : decode cX5_not 25 = .ok (.aload_n 0, 1) := by decide +kernel
theorem dX5_not_26 : decode cX5_not 26 = .ok (.getfield 53, 3) := by decide +kernel
theorem dX5_not_29 : decode cX5_not 29 = .ok (.iconst 3, 1) := by decide +kernel
theorem dX5_not_30 : decode cX5_not 30 = .ok (.if_icmp .ne 7, 3) := by decide +kernel
theorem dX5_not_33 : decode cX5_not 33 = .ok (.iconst (-1), 1) := by decide +kernel
theorem dX5_not_34 : decode cX5_not 34 = .ok (.goto 4, 3) := by decide +kernel
theorem dX5_not_37 : decode cX5_not 37 = .ok (.iconst 0, 1) := by decide +kernel
theorem dX5_not_38 : decode cX5_not 38 = .ok (.ireturn, 1) := by decide +kernel
theorem dX5_disk_0 : decode cX5_disk 0 = .ok (.iload_n 1, 1) := by decide +kernel
theorem dX5_disk_1 : decode cX5_disk 1 = .ok (.bipush 16, 2) := by decide +kernel
theorem dX5_disk_3 : decode cX5_disk 3 = .ok (.if_icmp .lt 43, 3) := by decide +kernel
theorem dX5_disk_6 : decode cX5_disk 6 = .ok (.iload_n 1, 1) := by decide +kernel
theorem dX5_disk_7 : decode cX5_disk 7 = .ok (.sipush 512, 3) := by decide +kernel
theorem dX5_disk_10 : decode cX5_disk 10 = .ok (.if_icmp .gt 36, 3) := by decide +kernel
theorem dX5_disk_13 : decode cX5_disk 13 = .ok (.iload_n 2, 1) := by decide +kernel
theorem dX5_disk_14 : decode cX5_disk 14 = .ok (.bipush 16, 2) := by decide +kernel
theorem dX5_disk_16 : decode cX5_disk 16 = .ok (.if_icmp .lt 30, 3) := by decide +kernel
theorem dX5_disk_19 : decode cX5_disk 19 = .ok (.iload_n 2, 1) := by decide +kernel
theorem dX5_disk_20 : decode cX5_disk 20 = .ok (.bipush 64, 2) := by decide +kernel
theorem dX5_disk_22 : decode cX5_disk 22 = .ok (.if_icmp .gt 24, 3) := by decide +kernel
theorem dX5_disk_25 : decode cX5_disk 25 = .ok (.iload_n 3, 1) := by decide +kernel
theorem dX5_disk_26 : decode cX5_disk 26 = .ok (.iconst 4, 1) := by decide +kernel
theorem dX5_disk_27 : decode cX5_disk 27 = .ok (.if_icmp .lt 19, 3) := by decide +kernel
theorem dX5_disk_30 : decode cX5_disk 30 = .ok (.iload_n 3, 1) := by decide +kernel
theorem dX5_disk_31 : decode cX5_disk 31 = .ok (.sipush 128, 3) := by decide +kernel
theorem dX5_disk_34 : decode cX5_disk 34 = .ok (.if_icmp .gt 12, 3) := by decide +kernel
theorem dX5_disk_37 : decode cX5_disk 37 = .ok (.iload_n 1, 1) := by decide +kernel
theorem dX5_disk_38 : decode cX5_disk 38 = .ok (.iconst 1, 1) := by decide +kernel
theorem dX5_disk_39 : decode cX5_disk 39 = .ok (.isub, 1) := by decide +kernel
theorem dX5_disk_40 : decode cX5_disk 40 = .ok (.iload_n 3, 1) := by decide +kernel
theorem dX5_disk_41 : decode cX5_disk 41 = .ok (.isub, 1) := by decide +kernel
theorem dX5_disk_42 : decode cX5_disk 42 = .ok (.iconst 4, 1) := by decide +kernel
theorem dX5_disk_43 : decode cX5_disk 43 = .ok (.if_icmp .ge 5, 3) := by decide +kernel
theorem dX5_disk_46 : decode cX5_disk 46 = .ok (.iconst 0, 1) := by decide +kernel
theorem dX5_disk_47 : decode cX5_disk 47 = .ok (.ireturn, 1) := by decide +kernel
theorem dX5_disk_48 : decode cX5_disk 48 = .ok (.aload_n 0, 1) := by decide +kernel
theorem dX5_disk_49 : decode cX5_disk 49 = .ok (.iload_n 1, 1) := by decide +kernel
theorem dX5_disk_50 : decode cX5_disk 50 = .ok (.putfield 71, 3) := by decide +kernel
theorem dX5_disk_53 : decode cX5_disk 53 = .ok (.aload_n 0, 1) := by decide +kernel
theorem dX5_disk_54 : decode cX5_disk 54 = .ok (.iload_n 2, 1) := by decide +kernel
theorem dX5_disk_55 : decode cX5_disk 55 = .ok (.putfield 42, 3) := by decide +kernel
theorem dX5_disk_58 : decode cX5_disk 58 = .ok (.aload_n 0, 1) := by decide +kernel
theorem dX5_disk_59 : decode cX5_disk 59 = .ok (.iload_n 3, 1) := by decide +kernel
theorem dX5_disk_60 : decode cX5_disk 60 = .ok (.putfield 74, 3) := by decide +kernel
theorem dX5_disk_63 : decode cX5_disk 63 = .ok (.iconst 0, 1) := by decide +kernel
theorem dX5_disk_64 : decode cX5_disk 64 = .ok (.istore 4, 2) := by decide +kernel
theorem dX5_disk_66 : decode cX5_disk 66 = .ok (.iload 4, 2) := by decide +kernel
theorem dX5_disk_68 : decode cX5_disk 68 = .ok (.aload_n 0, 1) := by decide +kernel
theorem dX5_disk_69 : decode cX5_disk 69 = .ok (.getfield 8, 3) := by decide +kernel
theorem dX5_disk_72 : decode cX5_disk 72 = .ok (.arraylength, 1) := by decide +kernel
theorem dX5_disk_73 : decode cX5_disk 73 = .ok (.if_icmp .ge 17, 3) := by decide +kernel
theorem dX5_disk_76 : decode cX5_disk 76 = .ok (.aload_n 0, 1) := by decide +kernel
theorem dX5_disk_77 : decode cX5_disk 77 = .ok (.getfield 8, 3) := by decide +kernel
theorem dX5_disk_80 : decode cX5_disk 80 = .ok (.iload 4, 2) := by decide +kernel
theorem dX5_disk_82 : decode cX5_disk 82 = .ok (.iconst 0, 1) := by decide +kernel
theorem dX5_disk_83 : decode cX5_disk 83 = .ok (.iastore, 1) := by decide +kernel
theorem dX5_disk_84 : decode cX5_disk 84 = .ok (.iinc 4 1, 3) := by decide +kernel
theorem dX5_disk_87 : decode cX5_disk 87 = .ok (.goto (-21), 3) := by decide +kernel
theorem dX5_disk_90 : decode cX5_disk 90 = .ok (.aload_n 0, 1) := by decide +kernel
theorem dX5_disk_91 : decode cX5_disk 91 = .ok (.iconst 1, 1) := by decide +kernel
theorem dX5_disk_92 : decode cX5_disk 92 = .ok (.putfield 53, 3) := by decide +kernel
theorem dX5_disk_95 : decode cX5_disk 95 = .ok (.aload_n 0, 1) := by decide +kernel
theorem dX5_disk_96 : decode cX5_disk 96 = .ok (.iconst 0, 1) := by decide +kernel
theorem dX5_disk_97 : decode cX5_disk 97 = .ok (.putfield 50, 3) := by decide +kernel
theorem dX5_disk_100 : decode cX5_disk 100 = .ok (.aload_n 0, 1) := by decide +kernel
theorem dX5_disk_101 : decode cX5_disk 101 = .ok (.iconst 0, 1) := by decide +kernel
theorem dX5_disk_102 : decode cX5_disk 102 = .ok (.putfield 60, 3) := by decide +kernel
theorem dX5_disk_105 : decode cX5_disk 105 = .ok (.aload_n 0, 1) := by decide +kernel
theorem dX5_disk_106 : decode cX5_disk 106 = .ok (.iconst 0, 1) := by decide +kernel
theorem dX5_disk_107 : decode cX5_disk 107 = .ok (.putfield 56, 3) := by decide +kernel
theorem dX5_disk_110 : decode cX5_disk 110 = .ok (.iconst 1, 1) := by decide +kernel
theorem dX5_disk_111 : decode cX5_disk 111 = .ok (.ireturn, 1) := by decide +kernel
theorem dX5_format_0 : decode cX5_format 0 = .ok (.aload_n 0, 1) := by decide +kernel
theorem dX5_format_1 : decode cX5_format 1 = .ok (.getfield 53, 3) := by decide +kernel
theorem dX5_format_4 : decode cX5_format 4 = .ok (.ifCond .eq 11, 3) := by decide +kernel
theorem dX5_format_7 : decode cX5_format 7 = .ok (.aload_n 0, 1) := by decide +kernel
theorem dX5_format_8 : decode cX5_format 8 = .ok (.getfield 53, 3) := by decide +kernel
theorem dX5_format_11 : decode cX5_format 11 = .ok (.iconst 3, 1) := by decide +kernel
theorem dX5_format_12 : decode cX5_format 12 = .ok (.if_icmp .ne 8, 3) := by decide +kernel
theorem dX5_format_15 : decode cX5_format 15 = .ok (.aload_n 0, 1) := by decide +kernel
theorem dX5_format_16 : decode cX5_format 16 = .ok (.invokevirtual 77, 3) := by decide +kernel
theorem dX5_format_19 : decode cX5_format 19 = .ok (.ireturn, 1) := by decide +kernel
theorem dX5_format_20 : decode cX5_format 20 = .ok (.aload_n 0, 1) := by decide +kernel
theorem dX5_format_21 : decode cX5_format 21 = .ok (.getfield 8, 3) := by decide +kernel
theorem dX5_format_24 : decode cX5_format 24 = .ok (.iconst 1, 1) := by decide +kernel
theorem dX5_format_25 : decode cX5_format 25 = .ok (.iaload, 1) := by decide +kernel
theorem dX5_format_26 : decode cX5_format 26 = .ok (.iconst 1, 1) := by decide +kernel
theorem dX5_format_27 : decode cX5_format 27 = .ok (.iadd, 1) := by decide +kernel
theorem dX5_format_28 : decode cX5_format 28 = .ok (.istore_n 1, 1) := by decide +kernel
theorem dX5_format_29 : decode cX5_format 29 = .ok (.aload_n 0, 1) := by decide +kernel
theorem dX5_format_30 : decode cX5_format 30 = .ok (.iconst 0, 1) := by decide +kernel
theorem dX5_format_31 : decode cX5_format 31 = .ok (.putfield 56, 3) := by decide +kernel
theorem dX5_format_34 : decode cX5_format 34 = .ok (.aload_n 0, 1) := by decide +kernel
theorem dX5_format_35 : decode cX5_format 35 = .ok (.invokevirtual 63, 3) := by decide +kernel
theorem dX5_format_38 : decode cX5_format 38 = .ok (.aload_n 0, 1) := by decide +kernel
theorem dX5_format_39 : decode cX5_format 39 = .ok (.getfield 30, 3) := by decide +kernel
theorem dX5_format_42 : decode cX5_format 42 = .ok (.iconst 1, 1) := by decide +kernel
theorem dX5_format_43 : decode cX5_format 43 = .ok (.iload_n 1, 1) := by decide +kernel
theorem dX5_format_44 : decode cX5_format 44 = .ok (.iastore, 1) := by decide +kernel
theorem dX5_format_45 : decode cX5_format 45 = .ok (.aload_n 0, 1) := by decide +kernel
theorem dX5_format_46 : decode cX5_format 46 = .ok (.iconst 0, 1) := by decide +kernel
theorem dX5_format_47 : decode cX5_format 47 = .ok (.invokevirtual 67, 3) := by decide +kernel
theorem dX5_format_50 : decode cX5_format 50 = .ok (.ifCond .ne 5, 3) := by decide +kernel
theorem dX5_format_53 : decode cX5_format 53 = .ok (.iconst (-1), 1) := by decide +kernel
theorem dX5_format_54 : decode cX5_format 54 = .ok (.ireturn, 1) := by decide +kernel
theorem dX5_format_55 : decode cX5_format 55 = .ok (.aload_n 0, 1) := by decide +kernel
theorem dX5_format_56 : decode cX5_format 56 = .ok (.iload_n 1, 1) := by decide +kernel
theorem dX5_format_57 : decode cX5_format 57 = .ok (.iconst 1, 1) := by decide +kernel
theorem dX5_format_58 : decode cX5_format 58 = .ok (.iconst 0, 1) := by decide +kernel
theorem dX5_format_59 : decode cX5_format 59 = .ok (.iconst 0, 1) := by decide +kernel
theorem dX5_format_60 : decode cX5_format 60 = .ok (.iconst 0, 1) := by decide +kernel
theorem dX5_format_61 : decode cX5_format 61 = .ok (.invokevirtual 81, 3) := by decide +kernel
theorem dX5_format_64 : decode cX5_format 64 = .ok (.ifCond .ne 5, 3) := by decide +kernel
theorem dX5_format_67 : decode cX5_format 67 = .ok (.iconst (-1), 1) := by decide +kernel
theorem dX5_format_68 : decode cX5_format 68 = .ok (.ireturn, 1) := by decide +kernel
theorem dX5_format_69 : decode cX5_format 69 = .ok (.aload_n 0, 1) := by decide +kernel
theorem dX5_format_70 : decode cX5_format 70 = .ok (.iconst 2, 1) := by decide +kernel
theorem dX5_format_71 : decode cX5_format 71 = .ok (.putfield 53, 3) := by decide +kernel
theorem dX5_format_74 : decode cX5_format 74 = .ok (.aload_n 0, 1) := by decide +kernel
theorem dX5_format_75 : decode cX5_format 75 = .ok (.iload_n 1, 1) := by decide +kernel
theorem dX5_format_76 : decode cX5_format 76 = .ok (.putfield 85, 3) := by decide +kernel
theorem dX5_format_79 : decode cX5_format 79 = .ok (.aload_n 0, 1) := by decide +kernel
theorem dX5_format_80 : decode cX5_format 80 = .ok (.iconst 1, 1) := by decide +kernel
theorem dX5_format_81 : decode cX5_format 81 = .ok (.putfield 88, 3) := by decide +kernel
theorem dX5_format_84 : decode cX5_format 84 = .ok (.aload_n 0, 1) := by decide +kernel
theorem dX5_format_85 : decode cX5_format 85 = .ok (.iconst 0, 1) := by decide +kernel
theorem dX5_format_86 : decode cX5_format 86 = .ok (.putfield 91, 3) := by decide +kernel
theorem dX5_format_89 : decode cX5_format 89 = .ok (.aload_n 0, 1) := by decide +kernel
theorem dX5_format_90 : decode cX5_format 90 = .ok (.iconst 0, 1) := by decide +kernel
theorem dX5_format_91 : decode cX5_format 91 = .ok (.putfield 94, 3) := by decide +kernel
theorem dX5_format_94 : decode cX5_format 94 = .ok (.aload_n 0, 1) := by decide +kernel
theorem dX5_format_95 : decode cX5_format 95 = .ok (.iconst 0, 1) := by decide +kernel
theorem dX5_format_96 : decode cX5_format 96 = .ok (.putfield 97, 3) := by decide +kernel
theorem dX5_format_99 : decode cX5_format 99 = .ok (.iconst 0, 1) := by decide +kernel
theorem dX5_format_100 : decode cX5_format 100 = .ok (.ireturn, 1) := by decide +kernel
theorem dX5_power_0 : decode cX5_power 0 = .ok (.aload_n 0, 1) := by decide +kernel
theorem dX5_power_1 : decode cX5_power 1 = .ok (.getfield 53, 3) := by decide +kernel
theorem dX5_power_4 : decode cX5_power 4 = .ok (.ifCond .ne 6, 3) := by decide +kernel
theorem dX5_power_7 : decode cX5_power 7 = .ok (.bipush (-7), 2) := by decide +kernel
theorem dX5_power_9 : decode cX5_power 9 = .ok (.ireturn, 1) := by decide +kernel
theorem dX5_power_10 : decode cX5_power 10 = .ok (.aload_n 0, 1) := by decide +kernel
theorem dX5_power_11 : decode cX5_power 11 = .ok (.iload_n 1, 1) := by decide +kernel
theorem dX5_power_12 : decode cX5_power 12 = .ok (.iconst 1, 1) := by decide +kernel
theorem dX5_power_13 : decode cX5_power 13 = .ok (.if_icmp .ge 7, 3) := by decide +kernel
theorem dX5_power_16 : decode cX5_power 16 = .ok (.iconst 0, 1) := by decide +kernel
theorem dX5_power_17 : decode cX5_power 17 = .ok (.goto 4, 3) := by decide +kernel
theorem dX5_power_20 : decode cX5_power 20 = .ok (.iload_n 1, 1) := by decide +kernel
theorem dX5_power_21 : decode cX5_power 21 = .ok (.putfield 50, 3) := by decide +kernel
theorem dX5_power_24 : decode cX5_power 24 = .ok (.iconst 0, 1) := by decide +kernel
theorem dX5_power_25 : decode cX5_power 25 = .ok (.ireturn, 1) := by decide +kernel
theorem dX5_at_0 : decode cX5_at 0 = .ok (.iconst 0, 1) := by decide +kernel
theorem dX5_at_1 : decode cX5_at 1 = .ok (.istore_n 2, 1) := by decide +kernel
theorem dX5_at_2 : decode cX5_at 2 = .ok (.aload_n 0, 1) := by decide +kernel
theorem dX5_at_3 : decode cX5_at 3 = .ok (.getfield 97, 3) := by decide +kernel
theorem dX5_at_6 : decode cX5_at 6 = .ok (.istore_n 3, 1) := by decide +kernel
theorem dX5_at_7 : decode cX5_at 7 = .ok (.iload_n 2, 1) := by decide +kernel
theorem dX5_at_8 : decode cX5_at 8 = .ok (.iload_n 3, 1) := by decide +kernel
theorem dX5_at_9 : decode cX5_at 9 = .ok (.if_icmp .ge 35, 3) := by decide +kernel
theorem dX5_at_12 : decode cX5_at 12 = .ok (.iload_n 2, 1) := by decide +kernel
theorem dX5_at_13 : decode cX5_at 13 = .ok (.iload_n 3, 1) := by decide +kernel
theorem dX5_at_14 : decode cX5_at 14 = .ok (.iadd, 1) := by decide +kernel
theorem dX5_at_15 : decode cX5_at 15 = .ok (.iconst 2, 1) := by decide +kernel
theorem dX5_at_16 : decode cX5_at 16 = .ok (.idiv, 1) := by decide +kernel
theorem dX5_at_17 : decode cX5_at 17 = .ok (.istore 4, 2) := by decide +kernel
theorem dX5_at_19 : decode cX5_at 19 = .ok (.aload_n 0, 1) := by decide +kernel
theorem dX5_at_20 : decode cX5_at 20 = .ok (.getfield 14, 3) := by decide +kernel
theorem dX5_at_23 : decode cX5_at 23 = .ok (.iload 4, 2) := by decide +kernel
theorem dX5_at_25 : decode cX5_at 25 = .ok (.iaload, 1) := by decide +kernel
theorem dX5_at_26 : decode cX5_at 26 = .ok (.iload_n 1, 1) := by decide +kernel
theorem dX5_at_27 : decode cX5_at 27 = .ok (.if_icmp .ge 11, 3) := by decide +kernel
theorem dX5_at_30 : decode cX5_at 30 = .ok (.iload 4, 2) := by decide +kernel
theorem dX5_at_32 : decode cX5_at 32 = .ok (.iconst 1, 1) := by decide +kernel
theorem dX5_at_33 : decode cX5_at 33 = .ok (.iadd, 1) := by decide +kernel
theorem dX5_at_34 : decode cX5_at 34 = .ok (.istore_n 2, 1) := by decide +kernel
theorem dX5_at_35 : decode cX5_at 35 = .ok (.goto 6, 3) := by decide +kernel
theorem dX5_at_38 : decode cX5_at 38 = .ok (.iload 4, 2) := by decide +kernel
theorem dX5_at_40 : decode cX5_at 40 = .ok (.istore_n 3, 1) := by decide +kernel
theorem dX5_at_41 : decode cX5_at 41 = .ok (.goto (-34), 3) := by decide +kernel
theorem dX5_at_44 : decode cX5_at 44 = .ok (.iload_n 2, 1) := by decide +kernel
theorem dX5_at_45 : decode cX5_at 45 = .ok (.ireturn, 1) := by decide +kernel
theorem dX5_bind_0 : decode cX5_bind 0 = .ok (.aload_n 0, 1) := by decide +kernel
theorem dX5_bind_1 : decode cX5_bind 1 = .ok (.iload_n 1, 1) := by decide +kernel
theorem dX5_bind_2 : decode cX5_bind 2 = .ok (.invokevirtual 100, 3) := by decide +kernel
theorem dX5_bind_5 : decode cX5_bind 5 = .ok (.istore_n 3, 1) := by decide +kernel
theorem dX5_bind_6 : decode cX5_bind 6 = .ok (.iload_n 3, 1) := by decide +kernel
theorem dX5_bind_7 : decode cX5_bind 7 = .ok (.aload_n 0, 1) := by decide +kernel
theorem dX5_bind_8 : decode cX5_bind 8 = .ok (.getfield 97, 3) := by decide +kernel
theorem dX5_bind_11 : decode cX5_bind 11 = .ok (.if_icmp .eq 13, 3) := by decide +kernel
theorem dX5_bind_14 : decode cX5_bind 14 = .ok (.aload_n 0, 1) := by decide +kernel
theorem dX5_bind_15 : decode cX5_bind 15 = .ok (.getfield 14, 3) := by decide +kernel
theorem dX5_bind_18 : decode cX5_bind 18 = .ok (.iload_n 3, 1) := by decide +kernel
theorem dX5_bind_19 : decode cX5_bind 19 = .ok (.iaload, 1) := by decide +kernel
theorem dX5_bind_20 : decode cX5_bind 20 = .ok (.iload_n 1, 1) := by decide +kernel
theorem dX5_bind_21 : decode cX5_bind 21 = .ok (.if_icmp .eq 70, 3) := by decide +kernel
theorem dX5_bind_24 : decode cX5_bind 24 = .ok (.aload_n 0, 1) := by decide +kernel
theorem dX5_bind_25 : decode cX5_bind 25 = .ok (.getfield 97, 3) := by decide +kernel
theorem dX5_bind_28 : decode cX5_bind 28 = .ok (.istore 4, 2) := by decide +kernel
theorem dX5_bind_30 : decode cX5_bind 30 = .ok (.iload 4, 2) := by decide +kernel
theorem dX5_bind_32 : decode cX5_bind 32 = .ok (.iload_n 3, 1) := by decide +kernel
theorem dX5_bind_33 : decode cX5_bind 33 = .ok (.if_icmp .le 41, 3) := by decide +kernel
theorem dX5_bind_36 : decode cX5_bind 36 = .ok (.aload_n 0, 1) := by decide +kernel
theorem dX5_bind_37 : decode cX5_bind 37 = .ok (.getfield 14, 3) := by decide +kernel
theorem dX5_bind_40 : decode cX5_bind 40 = .ok (.iload 4, 2) := by decide +kernel
theorem dX5_bind_42 : decode cX5_bind 42 = .ok (.aload_n 0, 1) := by decide +kernel
theorem dX5_bind_43 : decode cX5_bind 43 = .ok (.getfield 14, 3) := by decide +kernel
theorem dX5_bind_46 : decode cX5_bind 46 = .ok (.iload 4, 2) := by decide +kernel
theorem dX5_bind_48 : decode cX5_bind 48 = .ok (.iconst 1, 1) := by decide +kernel
theorem dX5_bind_49 : decode cX5_bind 49 = .ok (.isub, 1) := by decide +kernel
theorem dX5_bind_50 : decode cX5_bind 50 = .ok (.iaload, 1) := by decide +kernel
theorem dX5_bind_51 : decode cX5_bind 51 = .ok (.iastore, 1) := by decide +kernel
theorem dX5_bind_52 : decode cX5_bind 52 = .ok (.aload_n 0, 1) := by decide +kernel
theorem dX5_bind_53 : decode cX5_bind 53 = .ok (.getfield 17, 3) := by decide +kernel
theorem dX5_bind_56 : decode cX5_bind 56 = .ok (.iload 4, 2) := by decide +kernel
theorem dX5_bind_58 : decode cX5_bind 58 = .ok (.aload_n 0, 1) := by decide +kernel
theorem dX5_bind_59 : decode cX5_bind 59 = .ok (.getfield 17, 3) := by decide +kernel
theorem dX5_bind_62 : decode cX5_bind 62 = .ok (.iload 4, 2) := by decide +kernel
theorem dX5_bind_64 : decode cX5_bind 64 = .ok (.iconst 1, 1) := by decide +kernel
theorem dX5_bind_65 : decode cX5_bind 65 = .ok (.isub, 1) := by decide +kernel
theorem dX5_bind_66 : decode cX5_bind 66 = .ok (.iaload, 1) := by decide +kernel
theorem dX5_bind_67 : decode cX5_bind 67 = .ok (.iastore, 1) := by decide +kernel
theorem dX5_bind_68 : decode cX5_bind 68 = .ok (.iinc 4 (-1), 3) := by decide +kernel
theorem dX5_bind_71 : decode cX5_bind 71 = .ok (.goto (-41), 3) := by decide +kernel
theorem dX5_bind_74 : decode cX5_bind 74 = .ok (.aload_n 0, 1) := by decide +kernel
theorem dX5_bind_75 : decode cX5_bind 75 = .ok (.getfield 14, 3) := by decide +kernel
theorem dX5_bind_78 : decode cX5_bind 78 = .ok (.iload_n 3, 1) := by decide +kernel
theorem dX5_bind_79 : decode cX5_bind 79 = .ok (.iload_n 1, 1) := by decide +kernel
theorem dX5_bind_80 : decode cX5_bind 80 = .ok (.iastore, 1) := by decide +kernel
theorem dX5_bind_81 : decode cX5_bind 81 = .ok (.aload_n 0, 1) := by decide +kernel
theorem dX5_bind_82 : decode cX5_bind 82 = .ok (.dup, 1) := by decide +kernel
theorem dX5_bind_83 : decode cX5_bind 83 = .ok (.getfield 97, 3) := by decide +kernel
theorem dX5_bind_86 : decode cX5_bind 86 = .ok (.iconst 1, 1) := by decide +kernel
theorem dX5_bind_87 : decode cX5_bind 87 = .ok (.iadd, 1) := by decide +kernel
theorem dX5_bind_88 : decode cX5_bind 88 = .ok (.putfield 97, 3) := by decide +kernel
theorem dX5_bind_91 : decode cX5_bind 91 = .ok (.aload_n 0, 1) := by decide +kernel
theorem dX5_bind_92 : decode cX5_bind 92 = .ok (.getfield 17, 3) := by decide +kernel
theorem dX5_bind_95 : decode cX5_bind 95 = .ok (.iload_n 3, 1) := by decide +kernel
theorem dX5_bind_96 : decode cX5_bind 96 = .ok (.iload_n 2, 1) := by decide +kernel
theorem dX5_bind_97 : decode cX5_bind 97 = .ok (.iastore, 1) := by decide +kernel
theorem dX5_bind_98 : decode cX5_bind 98 = .ok (.return_, 1) := by decide +kernel
theorem dX5_unbind_0 : decode cX5_unbind 0 = .ok (.aload_n 0, 1) := by decide +kernel
theorem dX5_unbind_1 : decode cX5_unbind 1 = .ok (.iload_n 1, 1) := by decide +kernel
theorem dX5_unbind_2 : decode cX5_unbind 2 = .ok (.invokevirtual 100, 3) := by decide +kernel
theorem dX5_unbind_5 : decode cX5_unbind 5 = .ok (.istore_n 2, 1) := by decide +kernel
theorem dX5_unbind_6 : decode cX5_unbind 6 = .ok (.iload_n 2, 1) := by decide +kernel
theorem dX5_unbind_7 : decode cX5_unbind 7 = .ok (.aload_n 0, 1) := by decide +kernel
theorem dX5_unbind_8 : decode cX5_unbind 8 = .ok (.getfield 97, 3) := by decide +kernel
theorem dX5_unbind_11 : decode cX5_unbind 11 = .ok (.if_icmp .eq 13, 3) := by decide +kernel
theorem dX5_unbind_14 : decode cX5_unbind 14 = .ok (.aload_n 0, 1) := by decide +kernel
theorem dX5_unbind_15 : decode cX5_unbind 15 = .ok (.getfield 14, 3) := by decide +kernel
theorem dX5_unbind_18 : decode cX5_unbind 18 = .ok (.iload_n 2, 1) := by decide +kernel
theorem dX5_unbind_19 : decode cX5_unbind 19 = .ok (.iaload, 1) := by decide +kernel
theorem dX5_unbind_20 : decode cX5_unbind 20 = .ok (.iload_n 1, 1) := by decide +kernel
theorem dX5_unbind_21 : decode cX5_unbind 21 = .ok (.if_icmp .eq 4, 3) := by decide +kernel
theorem dX5_unbind_24 : decode cX5_unbind 24 = .ok (.return_, 1) := by decide +kernel
theorem dX5_unbind_25 : decode cX5_unbind 25 = .ok (.aload_n 0, 1) := by decide +kernel
theorem dX5_unbind_26 : decode cX5_unbind 26 = .ok (.dup, 1) := by decide +kernel
theorem dX5_unbind_27 : decode cX5_unbind 27 = .ok (.getfield 97, 3) := by decide +kernel
theorem dX5_unbind_30 : decode cX5_unbind 30 = .ok (.iconst 1, 1) := by decide +kernel
theorem dX5_unbind_31 : decode cX5_unbind 31 = .ok (.isub, 1) := by decide +kernel
theorem dX5_unbind_32 : decode cX5_unbind 32 = .ok (.putfield 97, 3) := by decide +kernel
theorem dX5_unbind_35 : decode cX5_unbind 35 = .ok (.iload_n 2, 1) := by decide +kernel
theorem dX5_unbind_36 : decode cX5_unbind 36 = .ok (.istore_n 3, 1) := by decide +kernel
theorem dX5_unbind_37 : decode cX5_unbind 37 = .ok (.iload_n 3, 1) := by decide +kernel
theorem dX5_unbind_38 : decode cX5_unbind 38 = .ok (.aload_n 0, 1) := by decide +kernel
theorem dX5_unbind_39 : decode cX5_unbind 39 = .ok (.getfield 97, 3) := by decide +kernel
theorem dX5_unbind_42 : decode cX5_unbind 42 = .ok (.if_icmp .ge 37, 3) := by decide +kernel
theorem dX5_unbind_45 : decode cX5_unbind 45 = .ok (.aload_n 0, 1) := by decide +kernel
theorem dX5_unbind_46 : decode cX5_unbind 46 = .ok (.getfield 14, 3) := by decide +kernel
theorem dX5_unbind_49 : decode cX5_unbind 49 = .ok (.iload_n 3, 1) := by decide +kernel
theorem dX5_unbind_50 : decode cX5_unbind 50 = .ok (.aload_n 0, 1) := by decide +kernel
theorem dX5_unbind_51 : decode cX5_unbind 51 = .ok (.getfield 14, 3) := by decide +kernel
theorem dX5_unbind_54 : decode cX5_unbind 54 = .ok (.iload_n 3, 1) := by decide +kernel
theorem dX5_unbind_55 : decode cX5_unbind 55 = .ok (.iconst 1, 1) := by decide +kernel
theorem dX5_unbind_56 : decode cX5_unbind 56 = .ok (.iadd, 1) := by decide +kernel
theorem dX5_unbind_57 : decode cX5_unbind 57 = .ok (.iaload, 1) := by decide +kernel
theorem dX5_unbind_58 : decode cX5_unbind 58 = .ok (.iastore, 1) := by decide +kernel
theorem dX5_unbind_59 : decode cX5_unbind 59 = .ok (.aload_n 0, 1) := by decide +kernel
theorem dX5_unbind_60 : decode cX5_unbind 60 = .ok (.getfield 17, 3) := by decide +kernel
theorem dX5_unbind_63 : decode cX5_unbind 63 = .ok (.iload_n 3, 1) := by decide +kernel
theorem dX5_unbind_64 : decode cX5_unbind 64 = .ok (.aload_n 0, 1) := by decide +kernel
theorem dX5_unbind_65 : decode cX5_unbind 65 = .ok (.getfield 17, 3) := by decide +kernel
theorem dX5_unbind_68 : decode cX5_unbind 68 = .ok (.iload_n 3, 1) := by decide +kernel
theorem dX5_unbind_69 : decode cX5_unbind 69 = .ok (.iconst 1, 1) := by decide +kernel
theorem dX5_unbind_70 : decode cX5_unbind 70 = .ok (.iadd, 1) := by decide +kernel
theorem dX5_unbind_71 : decode cX5_unbind 71 = .ok (.iaload, 1) := by decide +kernel
theorem dX5_unbind_72 : decode cX5_unbind 72 = .ok (.iastore, 1) := by decide +kernel
theorem dX5_unbind_73 : decode cX5_unbind 73 = .ok (.iinc 3 1, 3) := by decide +kernel
theorem dX5_unbind_76 : decode cX5_unbind 76 = .ok (.goto (-39), 3) := by decide +kernel
theorem dX5_unbind_79 : decode cX5_unbind 79 = .ok (.return_, 1) := by decide +kernel
theorem dX5_changeAt_0 : decode cX5_changeAt 0 = .ok (.iconst 0, 1) := by decide +kernel
theorem dX5_changeAt_1 : decode cX5_changeAt 1 = .ok (.istore_n 2, 1) := by decide +kernel
theorem dX5_changeAt_2 : decode cX5_changeAt 2 = .ok (.iload_n 2, 1) := by decide +kernel
theorem dX5_changeAt_3 : decode cX5_changeAt 3 = .ok (.aload_n 0, 1) := by decide +kernel
theorem dX5_changeAt_4 : decode cX5_changeAt 4 = .ok (.getfield 104, 3) := by decide +kernel
theorem dX5_changeAt_7 : decode cX5_changeAt 7 = .ok (.if_icmp .ge 19, 3) := by decide +kernel
theorem dX5_changeAt_10 : decode cX5_changeAt 10 = .ok (.aload_n 0, 1) := by decide +kernel
theorem dX5_changeAt_11 : decode cX5_changeAt 11 = .ok (.getfield 20, 3) := by decide +kernel
theorem dX5_changeAt_14 : decode cX5_changeAt 14 = .ok (.iload_n 2, 1) := by decide +kernel
theorem dX5_changeAt_15 : decode cX5_changeAt 15 = .ok (.iaload, 1) := by decide +kernel
theorem dX5_changeAt_16 : decode cX5_changeAt 16 = .ok (.iload_n 1, 1) := by decide +kernel
theorem dX5_changeAt_17 : decode cX5_changeAt 17 = .ok (.if_icmp .ge 9, 3) := by decide +kernel
theorem dX5_changeAt_20 : decode cX5_changeAt 20 = .ok (.iinc 2 1, 3) := by decide +kernel
theorem dX5_changeAt_23 : decode cX5_changeAt 23 = .ok (.goto (-21), 3) := by decide +kernel
theorem dX5_changeAt_26 : decode cX5_changeAt 26 = .ok (.iload_n 2, 1) := by decide +kernel
theorem dX5_changeAt_27 : decode cX5_changeAt 27 = .ok (.ireturn, 1) := by decide +kernel
theorem dX5_isChanged_0 : decode cX5_isChanged 0 = .ok (.aload_n 0, 1) := by decide +kernel
theorem dX5_isChanged_1 : decode cX5_isChanged 1 = .ok (.iload_n 1, 1) := by decide +kernel
theorem dX5_isChanged_2 : decode cX5_isChanged 2 = .ok (.invokevirtual 107, 3) := by decide +kernel
theorem dX5_isChanged_5 : decode cX5_isChanged 5 = .ok (.istore_n 2, 1) := by decide +kernel
theorem dX5_isChanged_6 : decode cX5_isChanged 6 = .ok (.aload_n 0, 1) := by decide +kernel
theorem dX5_isChanged_7 : decode cX5_isChanged 7 = .ok (.getfield 56, 3) := by decide +kernel
theorem dX5_isChanged_10 : decode cX5_isChanged 10 = .ok (.ifCond .eq 25, 3) := by decide +kernel
theorem dX5_isChanged_13 : decode cX5_isChanged 13 = .ok (.iload_n 2, 1) := by decide +kernel
theorem dX5_isChanged_14 : decode cX5_isChanged 14 = .ok (.aload_n 0, 1) := by decide +kernel
theorem dX5_isChanged_15 : decode cX5_isChanged 15 = .ok (.getfield 104, 3) := by decide +kernel
theorem dX5_isChanged_18 : decode cX5_isChanged 18 = .ok (.if_icmp .ge 17, 3) := by decide +kernel
theorem dX5_isChanged_21 : decode cX5_isChanged 21 = .ok (.aload_n 0, 1) := by decide +kernel
theorem dX5_isChanged_22 : decode cX5_isChanged 22 = .ok (.getfield 20, 3) := by decide +kernel
theorem dX5_isChanged_25 : decode cX5_isChanged 25 = .ok (.iload_n 2, 1) := by decide +kernel
theorem dX5_isChanged_26 : decode cX5_isChanged 26 = .ok (.iaload, 1) := by decide +kernel
theorem dX5_isChanged_27 : decode cX5_isChanged 27 = .ok (.iload_n 1, 1) := by decide +kernel
theorem dX5_isChanged_28 : decode cX5_isChanged 28 = .ok (.if_icmp .ne 7, 3) := by decide +kernel
theorem dX5_isChanged_31 : decode cX5_isChanged 31 = .ok (.iconst 1, 1) := by decide +kernel
theorem dX5_isChanged_32 : decode cX5_isChanged 32 = .ok (.goto 4, 3) := by decide +kernel
theorem dX5_isChanged_35 : decode cX5_isChanged 35 = .ok (.iconst 0, 1) := by decide +kernel
theorem dX5_isChanged_36 : decode cX5_isChanged 36 = .ok (.ireturn, 1) := by decide +kernel
theorem dX5_isPart_0 : decode cX5_isPart 0 = .ok (.aload_n 0, 1) := by decide +kernel
theorem dX5_isPart_1 : decode cX5_isPart 1 = .ok (.getfield 42, 3) := by decide +kernel
theorem dX5_isPart_4 : decode cX5_isPart 4 = .ok (.iload_n 1, 1) := by decide +kernel
theorem dX5_isPart_5 : decode cX5_isPart 5 = .ok (.imul, 1) := by decide +kernel
theorem dX5_isPart_6 : decode cX5_isPart 6 = .ok (.istore 4, 2) := by decide +kernel
theorem dX5_isPart_8 : decode cX5_isPart 8 = .ok (.aload_n 0, 1) := by decide +kernel
theorem dX5_isPart_9 : decode cX5_isPart 9 = .ok (.iload_n 1, 1) := by decide +kernel
theorem dX5_isPart_10 : decode cX5_isPart 10 = .ok (.invokevirtual 110, 3) := by decide +kernel
theorem dX5_isPart_13 : decode cX5_isPart 13 = .ok (.ifCond .eq 47, 3) := by decide +kernel
theorem dX5_isPart_16 : decode cX5_isPart 16 = .ok (.aload_n 0, 1) := by decide +kernel
theorem dX5_isPart_17 : decode cX5_isPart 17 = .ok (.getfield 8, 3) := by decide +kernel
theorem dX5_isPart_20 : decode cX5_isPart 20 = .ok (.iload 4, 2) := by decide +kernel
theorem dX5_isPart_22 : decode cX5_isPart 22 = .ok (.iaload, 1) := by decide +kernel
theorem dX5_isPart_23 : decode cX5_isPart 23 = .ok (.aload_n 0, 1) := by decide +kernel
theorem dX5_isPart_24 : decode cX5_isPart 24 = .ok (.getfield 85, 3) := by decide +kernel
theorem dX5_isPart_27 : decode cX5_isPart 27 = .ok (.if_icmp .ne 33, 3) := by decide +kernel
theorem dX5_isPart_30 : decode cX5_isPart 30 = .ok (.aload_n 0, 1) := by decide +kernel
theorem dX5_isPart_31 : decode cX5_isPart 31 = .ok (.getfield 8, 3) := by decide +kernel
theorem dX5_isPart_34 : decode cX5_isPart 34 = .ok (.iload 4, 2) := by decide +kernel
theorem dX5_isPart_36 : decode cX5_isPart 36 = .ok (.iconst 1, 1) := by decide +kernel
theorem dX5_isPart_37 : decode cX5_isPart 37 = .ok (.iadd, 1) := by decide +kernel
theorem dX5_isPart_38 : decode cX5_isPart 38 = .ok (.iaload, 1) := by decide +kernel
theorem dX5_isPart_39 : decode cX5_isPart 39 = .ok (.iload_n 2, 1) := by decide +kernel
theorem dX5_isPart_40 : decode cX5_isPart 40 = .ok (.if_icmp .ne 20, 3) := by decide +kernel
theorem dX5_isPart_43 : decode cX5_isPart 43 = .ok (.aload_n 0, 1) := by decide +kernel
theorem dX5_isPart_44 : decode cX5_isPart 44 = .ok (.getfield 8, 3) := by decide +kernel
theorem dX5_isPart_47 : decode cX5_isPart 47 = .ok (.iload 4, 2) := by decide +kernel
theorem dX5_isPart_49 : decode cX5_isPart 49 = .ok (.iconst 2, 1) := by decide +kernel
theorem dX5_isPart_50 : decode cX5_isPart 50 = .ok (.iadd, 1) := by decide +kernel
theorem dX5_isPart_51 : decode cX5_isPart 51 = .ok (.iaload, 1) := by decide +kernel
theorem dX5_isPart_52 : decode cX5_isPart 52 = .ok (.iload_n 3, 1) := by decide +kernel
theorem dX5_isPart_53 : decode cX5_isPart 53 = .ok (.if_icmp .ne 7, 3) := by decide +kernel
theorem dX5_isPart_56 : decode cX5_isPart 56 = .ok (.iconst 1, 1) := by decide +kernel
theorem dX5_isPart_57 : decode cX5_isPart 57 = .ok (.goto 4, 3) := by decide +kernel
theorem dX5_isPart_60 : decode cX5_isPart 60 = .ok (.iconst 0, 1) := by decide +kernel
theorem dX5_isPart_61 : decode cX5_isPart 61 = .ok (.ireturn, 1) := by decide +kernel
theorem dX5_needed_0 : decode cX5_needed 0 = .ok (.lconst 1, 1) := by decide +kernel
theorem dX5_needed_1 : decode cX5_needed 1 = .ok (.ldc2_w 113, 3) := by decide +kernel
theorem dX5_needed_4 : decode cX5_needed 4 = .ok (.lload_n 1, 1) := by decide +kernel
theorem dX5_needed_5 : decode cX5_needed 5 = .ok (.lmul, 1) := by decide +kernel
theorem dX5_needed_6 : decode cX5_needed 6 = .ok (.ladd, 1) := by decide +kernel
theorem dX5_needed_7 : decode cX5_needed 7 = .ok (.lstore_n 3, 1) := by decide +kernel
theorem dX5_needed_8 : decode cX5_needed 8 = .ok (.lload_n 3, 1) := by decide +kernel
theorem dX5_needed_9 : decode cX5_needed 9 = .ok (.aload_n 0, 1) := by decide +kernel
theorem dX5_needed_10 : decode cX5_needed 10 = .ok (.invokevirtual 115, 3) := by decide +kernel
theorem dX5_needed_13 : decode cX5_needed 13 = .ok (.i2l, 1) := by decide +kernel
theorem dX5_needed_14 : decode cX5_needed 14 = .ok (.ladd, 1) := by decide +kernel
theorem dX5_needed_15 : decode cX5_needed 15 = .ok (.lconst 1, 1) := by decide +kernel
theorem dX5_needed_16 : decode cX5_needed 16 = .ok (.lsub, 1) := by decide +kernel
theorem dX5_needed_17 : decode cX5_needed 17 = .ok (.aload_n 0, 1) := by decide +kernel
theorem dX5_needed_18 : decode cX5_needed 18 = .ok (.invokevirtual 115, 3) := by decide +kernel
theorem dX5_needed_21 : decode cX5_needed 21 = .ok (.i2l, 1) := by decide +kernel
theorem dX5_needed_22 : decode cX5_needed 22 = .ok (.ldiv, 1) := by decide +kernel
theorem dX5_needed_23 : decode cX5_needed 23 = .ok (.lstore 5, 2) := by decide +kernel
theorem dX5_needed_25 : decode cX5_needed 25 = .ok (.lload 5, 2) := by decide +kernel
theorem dX5_needed_27 : decode cX5_needed 27 = .ok (.ldc2_w 118, 3) := by decide +kernel
theorem dX5_needed_30 : decode cX5_needed 30 = .ok (.lcmp, 1) := by decide +kernel
theorem dX5_needed_31 : decode cX5_needed 31 = .ok (.ifCond .le 9, 3) := by decide +kernel
theorem dX5_needed_34 : decode cX5_needed 34 = .ok (.sipush 1000, 3) := by decide +kernel
theorem dX5_needed_37 : decode cX5_needed 37 = .ok (.goto 6, 3) := by decide +kernel
theorem dX5_needed_40 : decode cX5_needed 40 = .ok (.lload 5, 2) := by decide +kernel
theorem dX5_needed_42 : decode cX5_needed 42 = .ok (.l2i, 1) := by decide +kernel
theorem dX5_needed_43 : decode cX5_needed 43 = .ok (.ireturn, 1) := by decide +kernel
theorem dX5_redo_0 : decode cX5_redo 0 = .ok (.iload_n 1, 1) := by decide +kernel
theorem dX5_redo_1 : decode cX5_redo 1 = .ok (.aload_n 0, 1) := by decide +kernel
theorem dX5_redo_2 : decode cX5_redo 2 = .ok (.getfield 74, 3) := by decide +kernel
theorem dX5_redo_5 : decode cX5_redo 5 = .ok (.if_icmp .gt 13, 3) := by decide +kernel
theorem dX5_redo_8 : decode cX5_redo 8 = .ok (.aload_n 0, 1) := by decide +kernel
theorem dX5_redo_9 : decode cX5_redo 9 = .ok (.iload_n 1, 1) := by decide +kernel
theorem dX5_redo_10 : decode cX5_redo 10 = .ok (.iload_n 2, 1) := by decide +kernel
theorem dX5_redo_11 : decode cX5_redo 11 = .ok (.iconst 0, 1) := by decide +kernel
theorem dX5_redo_12 : decode cX5_redo 12 = .ok (.invokevirtual 120, 3) := by decide +kernel
theorem dX5_redo_15 : decode cX5_redo 15 = .ok (.ifCond .ne 5, 3) := by decide +kernel
theorem dX5_redo_18 : decode cX5_redo 18 = .ok (.iconst 0, 1) := by decide +kernel
theorem dX5_redo_19 : decode cX5_redo 19 = .ok (.ireturn, 1) := by decide +kernel
theorem dX5_redo_20 : decode cX5_redo 20 = .ok (.aload_n 0, 1) := by decide +kernel
theorem dX5_redo_21 : decode cX5_redo 21 = .ok (.getfield 8, 3) := by decide +kernel
theorem dX5_redo_24 : decode cX5_redo 24 = .ok (.aload_n 0, 1) := by decide +kernel
theorem dX5_redo_25 : decode cX5_redo 25 = .ok (.getfield 42, 3) := by decide +kernel
theorem dX5_redo_28 : decode cX5_redo 28 = .ok (.iload_n 1, 1) := by decide +kernel
theorem dX5_redo_29 : decode cX5_redo 29 = .ok (.imul, 1) := by decide +kernel
theorem dX5_redo_30 : decode cX5_redo 30 = .ok (.iconst 4, 1) := by decide +kernel
theorem dX5_redo_31 : decode cX5_redo 31 = .ok (.iadd, 1) := by decide +kernel
theorem dX5_redo_32 : decode cX5_redo 32 = .ok (.iaload, 1) := by decide +kernel
theorem dX5_redo_33 : decode cX5_redo 33 = .ok (.istore_n 3, 1) := by decide +kernel
theorem dX5_redo_34 : decode cX5_redo 34 = .ok (.aload_n 0, 1) := by decide +kernel
theorem dX5_redo_35 : decode cX5_redo 35 = .ok (.getfield 8, 3) := by decide +kernel
theorem dX5_redo_38 : decode cX5_redo 38 = .ok (.aload_n 0, 1) := by decide +kernel
theorem dX5_redo_39 : decode cX5_redo 39 = .ok (.getfield 42, 3) := by decide +kernel
theorem dX5_redo_42 : decode cX5_redo 42 = .ok (.iload_n 1, 1) := by decide +kernel
theorem dX5_redo_43 : decode cX5_redo 43 = .ok (.imul, 1) := by decide +kernel
theorem dX5_redo_44 : decode cX5_redo 44 = .ok (.iconst 3, 1) := by decide +kernel
theorem dX5_redo_45 : decode cX5_redo 45 = .ok (.iadd, 1) := by decide +kernel
theorem dX5_redo_46 : decode cX5_redo 46 = .ok (.iaload, 1) := by decide +kernel
theorem dX5_redo_47 : decode cX5_redo 47 = .ok (.istore 4, 2) := by decide +kernel
theorem dX5_redo_49 : decode cX5_redo 49 = .ok (.iload_n 3, 1) := by decide +kernel
theorem dX5_redo_50 : decode cX5_redo 50 = .ok (.iconst 1, 1) := by decide +kernel
theorem dX5_redo_51 : decode cX5_redo 51 = .ok (.if_icmp .ge 5, 3) := by decide +kernel
theorem dX5_redo_54 : decode cX5_redo 54 = .ok (.iconst 0, 1) := by decide +kernel
theorem dX5_redo_55 : decode cX5_redo 55 = .ok (.ireturn, 1) := by decide +kernel
theorem dX5_redo_56 : decode cX5_redo 56 = .ok (.aload_n 0, 1) := by decide +kernel
theorem dX5_redo_57 : decode cX5_redo 57 = .ok (.iload_n 3, 1) := by decide +kernel
theorem dX5_redo_58 : decode cX5_redo 58 = .ok (.i2l, 1) := by decide +kernel
theorem dX5_redo_59 : decode cX5_redo 59 = .ok (.invokevirtual 124, 3) := by decide +kernel
theorem dX5_redo_62 : decode cX5_redo 62 = .ok (.istore 5, 2) := by decide +kernel
theorem dX5_redo_64 : decode cX5_redo 64 = .ok (.iload_n 1, 1) := by decide +kernel
theorem dX5_redo_65 : decode cX5_redo 65 = .ok (.iload 5, 2) := by decide +kernel
theorem dX5_redo_67 : decode cX5_redo 67 = .ok (.iadd, 1) := by decide +kernel
theorem dX5_redo_68 : decode cX5_redo 68 = .ok (.iconst 1, 1) := by decide +kernel
theorem dX5_redo_69 : decode cX5_redo 69 = .ok (.isub, 1) := by decide +kernel
theorem dX5_redo_70 : decode cX5_redo 70 = .ok (.aload_n 0, 1) := by decide +kernel
theorem dX5_redo_71 : decode cX5_redo 71 = .ok (.getfield 74, 3) := by decide +kernel
theorem dX5_redo_74 : decode cX5_redo 74 = .ok (.if_icmp .le 5, 3) := by decide +kernel
theorem dX5_redo_77 : decode cX5_redo 77 = .ok (.iconst 0, 1) := by decide +kernel
theorem dX5_redo_78 : decode cX5_redo 78 = .ok (.ireturn, 1) := by decide +kernel
theorem dX5_redo_79 : decode cX5_redo 79 = .ok (.iconst 1, 1) := by decide +kernel
theorem dX5_redo_80 : decode cX5_redo 80 = .ok (.istore 6, 2) := by decide +kernel
theorem dX5_redo_82 : decode cX5_redo 82 = .ok (.iload 6, 2) := by decide +kernel
theorem dX5_redo_84 : decode cX5_redo 84 = .ok (.iload 5, 2) := by decide +kernel
theorem dX5_redo_86 : decode cX5_redo 86 = .ok (.if_icmp .ge 46, 3) := by decide +kernel
theorem dX5_redo_89 : decode cX5_redo 89 = .ok (.aload_n 0, 1) := by decide +kernel
theorem dX5_redo_90 : decode cX5_redo 90 = .ok (.iload_n 1, 1) := by decide +kernel
theorem dX5_redo_91 : decode cX5_redo 91 = .ok (.iload 6, 2) := by decide +kernel
theorem dX5_redo_93 : decode cX5_redo 93 = .ok (.iadd, 1) := by decide +kernel
theorem dX5_redo_94 : decode cX5_redo 94 = .ok (.iload_n 2, 1) := by decide +kernel
theorem dX5_redo_95 : decode cX5_redo 95 = .ok (.iload 6, 2) := by decide +kernel
theorem dX5_redo_97 : decode cX5_redo 97 = .ok (.invokevirtual 120, 3) := by decide +kernel
theorem dX5_redo_100 : decode cX5_redo 100 = .ok (.ifCond .eq 24, 3) := by decide +kernel
theorem dX5_redo_103 : decode cX5_redo 103 = .ok (.aload_n 0, 1) := by decide +kernel
theorem dX5_redo_104 : decode cX5_redo 104 = .ok (.getfield 8, 3) := by decide +kernel
theorem dX5_redo_107 : decode cX5_redo 107 = .ok (.aload_n 0, 1) := by decide +kernel
theorem dX5_redo_108 : decode cX5_redo 108 = .ok (.getfield 42, 3) := by decide +kernel
theorem dX5_redo_111 : decode cX5_redo 111 = .ok (.iload_n 1, 1) := by decide +kernel
theorem dX5_redo_112 : decode cX5_redo 112 = .ok (.iload 6, 2) := by decide +kernel
theorem dX5_redo_114 : decode cX5_redo 114 = .ok (.iadd, 1) := by decide +kernel
theorem dX5_redo_115 : decode cX5_redo 115 = .ok (.imul, 1) := by decide +kernel
theorem dX5_redo_116 : decode cX5_redo 116 = .ok (.iconst 3, 1) := by decide +kernel
theorem dX5_redo_117 : decode cX5_redo 117 = .ok (.iadd, 1) := by decide +kernel
theorem dX5_redo_118 : decode cX5_redo 118 = .ok (.iaload, 1) := by decide +kernel
theorem dX5_redo_119 : decode cX5_redo 119 = .ok (.iload 4, 2) := by decide +kernel
theorem dX5_redo_121 : decode cX5_redo 121 = .ok (.if_icmp .eq 5, 3) := by decide +kernel
theorem dX5_redo_124 : decode cX5_redo 124 = .ok (.iconst 0, 1) := by decide +kernel
theorem dX5_redo_125 : decode cX5_redo 125 = .ok (.ireturn, 1) := by decide +kernel
theorem dX5_redo_126 : decode cX5_redo 126 = .ok (.iinc 6 1, 3) := by decide +kernel
theorem dX5_redo_129 : decode cX5_redo 129 = .ok (.goto (-47), 3) := by decide +kernel
theorem dX5_redo_132 : decode cX5_redo 132 = .ok (.iconst 0, 1) := by decide +kernel
theorem dX5_redo_133 : decode cX5_redo 133 = .ok (.istore 6, 2) := by decide +kernel
theorem dX5_redo_135 : decode cX5_redo 135 = .ok (.iload 6, 2) := by decide +kernel
theorem dX5_redo_137 : decode cX5_redo 137 = .ok (.iload_n 3, 1) := by decide +kernel
theorem dX5_redo_138 : decode cX5_redo 138 = .ok (.if_icmp .ge 67, 3) := by decide +kernel
theorem dX5_redo_141 : decode cX5_redo 141 = .ok (.aload_n 0, 1) := by decide +kernel
theorem dX5_redo_142 : decode cX5_redo 142 = .ok (.iload_n 1, 1) := by decide +kernel
theorem dX5_redo_143 : decode cX5_redo 143 = .ok (.iconst 1, 1) := by decide +kernel
theorem dX5_redo_144 : decode cX5_redo 144 = .ok (.iconst 3, 1) := by decide +kernel
theorem dX5_redo_145 : decode cX5_redo 145 = .ok (.iload 6, 2) := by decide +kernel
theorem dX5_redo_147 : decode cX5_redo 147 = .ok (.imul, 1) := by decide +kernel
theorem dX5_redo_148 : decode cX5_redo 148 = .ok (.iadd, 1) := by decide +kernel
theorem dX5_redo_149 : decode cX5_redo 149 = .ok (.invokevirtual 128, 3) := by decide +kernel
theorem dX5_redo_152 : decode cX5_redo 152 = .ok (.istore 7, 2) := by decide +kernel
theorem dX5_redo_154 : decode cX5_redo 154 = .ok (.aload_n 0, 1) := by decide +kernel
theorem dX5_redo_155 : decode cX5_redo 155 = .ok (.iload_n 1, 1) := by decide +kernel
theorem dX5_redo_156 : decode cX5_redo 156 = .ok (.iconst 2, 1) := by decide +kernel
theorem dX5_redo_157 : decode cX5_redo 157 = .ok (.iconst 3, 1) := by decide +kernel
theorem dX5_redo_158 : decode cX5_redo 158 = .ok (.iload 6, 2) := by decide +kernel
theorem dX5_redo_160 : decode cX5_redo 160 = .ok (.imul, 1) := by decide +kernel
theorem dX5_redo_161 : decode cX5_redo 161 = .ok (.iadd, 1) := by decide +kernel
theorem dX5_redo_162 : decode cX5_redo 162 = .ok (.invokevirtual 128, 3) := by decide +kernel
theorem dX5_redo_165 : decode cX5_redo 165 = .ok (.istore 8, 2) := by decide +kernel
theorem dX5_redo_167 : decode cX5_redo 167 = .ok (.iload 7, 2) := by decide +kernel
theorem dX5_redo_169 : decode cX5_redo 169 = .ok (.iconst 1, 1) := by decide +kernel
theorem dX5_redo_170 : decode cX5_redo 170 = .ok (.if_icmp .ne 23, 3) := by decide +kernel
theorem dX5_redo_173 : decode cX5_redo 173 = .ok (.aload_n 0, 1) := by decide +kernel
theorem dX5_redo_174 : decode cX5_redo 174 = .ok (.iload 8, 2) := by decide +kernel
theorem dX5_redo_176 : decode cX5_redo 176 = .ok (.aload_n 0, 1) := by decide +kernel
theorem dX5_redo_177 : decode cX5_redo 177 = .ok (.iload_n 1, 1) := by decide +kernel
theorem dX5_redo_178 : decode cX5_redo 178 = .ok (.iconst 3, 1) := by decide +kernel
theorem dX5_redo_179 : decode cX5_redo 179 = .ok (.iconst 3, 1) := by decide +kernel
theorem dX5_redo_180 : decode cX5_redo 180 = .ok (.iload 6, 2) := by decide +kernel
theorem dX5_redo_182 : decode cX5_redo 182 = .ok (.imul, 1) := by decide +kernel
theorem dX5_redo_183 : decode cX5_redo 183 = .ok (.iadd, 1) := by decide +kernel
theorem dX5_redo_184 : decode cX5_redo 184 = .ok (.invokevirtual 128, 3) := by decide +kernel
theorem dX5_redo_187 : decode cX5_redo 187 = .ok (.invokevirtual 132, 3) := by decide +kernel
theorem dX5_redo_190 : decode cX5_redo 190 = .ok (.goto 9, 3) := by decide +kernel
theorem dX5_redo_193 : decode cX5_redo 193 = .ok (.aload_n 0, 1) := by decide +kernel
theorem dX5_redo_194 : decode cX5_redo 194 = .ok (.iload 8, 2) := by decide +kernel
theorem dX5_redo_196 : decode cX5_redo 196 = .ok (.invokevirtual 136, 3) := by decide +kernel
theorem dX5_redo_199 : decode cX5_redo 199 = .ok (.iinc 6 1, 3) := by decide +kernel
theorem dX5_redo_202 : decode cX5_redo 202 = .ok (.goto (-67), 3) := by decide +kernel
theorem dX5_redo_205 : decode cX5_redo 205 = .ok (.iload 5, 2) := by decide +kernel
theorem dX5_redo_207 : decode cX5_redo 207 = .ok (.ireturn, 1) := by decide +kernel
theorem dX5_intAt_0 : decode cX5_intAt 0 = .ok (.aload_n 0, 1) := by decide +kernel
theorem dX5_intAt_1 : decode cX5_intAt 1 = .ok (.getfield 8, 3) := by decide +kernel
theorem dX5_intAt_4 : decode cX5_intAt 4 = .ok (.aload_n 0, 1) := by decide +kernel
theorem dX5_intAt_5 : decode cX5_intAt 5 = .ok (.getfield 42, 3) := by decide +kernel
theorem dX5_intAt_8 : decode cX5_intAt 8 = .ok (.iload_n 1, 1) := by decide +kernel
theorem dX5_intAt_9 : decode cX5_intAt 9 = .ok (.iload_n 2, 1) := by decide +kernel
theorem dX5_intAt_10 : decode cX5_intAt 10 = .ok (.aload_n 0, 1) := by decide +kernel
theorem dX5_intAt_11 : decode cX5_intAt 11 = .ok (.invokevirtual 115, 3) := by decide +kernel
theorem dX5_intAt_14 : decode cX5_intAt 14 = .ok (.idiv, 1) := by decide +kernel
theorem dX5_intAt_15 : decode cX5_intAt 15 = .ok (.iadd, 1) := by decide +kernel
theorem dX5_intAt_16 : decode cX5_intAt 16 = .ok (.imul, 1) := by decide +kernel
theorem dX5_intAt_17 : decode cX5_intAt 17 = .ok (.iconst 4, 1) := by decide +kernel
theorem dX5_intAt_18 : decode cX5_intAt 18 = .ok (.iadd, 1) := by decide +kernel
theorem dX5_intAt_19 : decode cX5_intAt 19 = .ok (.iload_n 2, 1) := by decide +kernel
theorem dX5_intAt_20 : decode cX5_intAt 20 = .ok (.aload_n 0, 1) := by decide +kernel
theorem dX5_intAt_21 : decode cX5_intAt 21 = .ok (.invokevirtual 115, 3) := by decide +kernel
theorem dX5_intAt_24 : decode cX5_intAt 24 = .ok (.irem, 1) := by decide +kernel
theorem dX5_intAt_25 : decode cX5_intAt 25 = .ok (.iadd, 1) := by decide +kernel
theorem dX5_intAt_26 : decode cX5_intAt 26 = .ok (.iaload, 1) := by decide +kernel
theorem dX5_intAt_27 : decode cX5_intAt 27 = .ok (.ireturn, 1) := by decide +kernel
theorem dX5_load_0 : decode cX5_load 0 = .ok (.aload_n 0, 1) := by decide +kernel
theorem dX5_load_1 : decode cX5_load 1 = .ok (.iconst 0, 1) := by decide +kernel
theorem dX5_load_2 : decode cX5_load 2 = .ok (.putfield 97, 3) := by decide +kernel
theorem dX5_load_5 : decode cX5_load 5 = .ok (.iload_n 1, 1) := by decide +kernel
theorem dX5_load_6 : decode cX5_load 6 = .ok (.ifCond .ne 4, 3) := by decide +kernel
theorem dX5_load_9 : decode cX5_load 9 = .ok (.return_, 1) := by decide +kernel
theorem dX5_load_10 : decode cX5_load 10 = .ok (.iload_n 1, 1) := by decide +kernel
theorem dX5_load_11 : decode cX5_load 11 = .ok (.istore_n 3, 1) := by decide +kernel
theorem dX5_load_12 : decode cX5_load 12 = .ok (.aload_n 0, 1) := by decide +kernel
theorem dX5_load_13 : decode cX5_load 13 = .ok (.getfield 8, 3) := by decide +kernel
theorem dX5_load_16 : decode cX5_load 16 = .ok (.aload_n 0, 1) := by decide +kernel
theorem dX5_load_17 : decode cX5_load 17 = .ok (.getfield 42, 3) := by decide +kernel
theorem dX5_load_20 : decode cX5_load 20 = .ok (.iload_n 3, 1) := by decide +kernel
theorem dX5_load_21 : decode cX5_load 21 = .ok (.imul, 1) := by decide +kernel
theorem dX5_load_22 : decode cX5_load 22 = .ok (.iaload, 1) := by decide +kernel
theorem dX5_load_23 : decode cX5_load 23 = .ok (.iconst 2, 1) := by decide +kernel
theorem dX5_load_24 : decode cX5_load 24 = .ok (.if_icmp .ne 20, 3) := by decide +kernel
theorem dX5_load_27 : decode cX5_load 27 = .ok (.aload_n 0, 1) := by decide +kernel
theorem dX5_load_28 : decode cX5_load 28 = .ok (.getfield 8, 3) := by decide +kernel
theorem dX5_load_31 : decode cX5_load 31 = .ok (.aload_n 0, 1) := by decide +kernel
theorem dX5_load_32 : decode cX5_load 32 = .ok (.getfield 42, 3) := by decide +kernel
theorem dX5_load_35 : decode cX5_load 35 = .ok (.iload_n 3, 1) := by decide +kernel
theorem dX5_load_36 : decode cX5_load 36 = .ok (.imul, 1) := by decide +kernel
theorem dX5_load_37 : decode cX5_load 37 = .ok (.iconst 3, 1) := by decide +kernel
theorem dX5_load_38 : decode cX5_load 38 = .ok (.iadd, 1) := by decide +kernel
theorem dX5_load_39 : decode cX5_load 39 = .ok (.iaload, 1) := by decide +kernel
theorem dX5_load_40 : decode cX5_load 40 = .ok (.istore_n 3, 1) := by decide +kernel
theorem dX5_load_41 : decode cX5_load 41 = .ok (.goto (-29), 3) := by decide +kernel
theorem dX5_load_44 : decode cX5_load 44 = .ok (.aload_n 0, 1) := by decide +kernel
theorem dX5_load_45 : decode cX5_load 45 = .ok (.getfield 97, 3) := by decide +kernel
theorem dX5_load_48 : decode cX5_load 48 = .ok (.iload_n 2, 1) := by decide +kernel
theorem dX5_load_49 : decode cX5_load 49 = .ok (.if_icmp .ge 96, 3) := by decide +kernel
theorem dX5_load_52 : decode cX5_load 52 = .ok (.aload_n 0, 1) := by decide +kernel
theorem dX5_load_53 : decode cX5_load 53 = .ok (.getfield 42, 3) := by decide +kernel
theorem dX5_load_56 : decode cX5_load 56 = .ok (.iload_n 3, 1) := by decide +kernel
theorem dX5_load_57 : decode cX5_load 57 = .ok (.imul, 1) := by decide +kernel
theorem dX5_load_58 : decode cX5_load 58 = .ok (.istore 4, 2) := by decide +kernel
theorem dX5_load_60 : decode cX5_load 60 = .ok (.iconst 0, 1) := by decide +kernel
theorem dX5_load_61 : decode cX5_load 61 = .ok (.istore 5, 2) := by decide +kernel
theorem dX5_load_63 : decode cX5_load 63 = .ok (.iload 5, 2) := by decide +kernel
theorem dX5_load_65 : decode cX5_load 65 = .ok (.aload_n 0, 1) := by decide +kernel
theorem dX5_load_66 : decode cX5_load 66 = .ok (.getfield 8, 3) := by decide +kernel
theorem dX5_load_69 : decode cX5_load 69 = .ok (.iload 4, 2) := by decide +kernel
theorem dX5_load_71 : decode cX5_load 71 = .ok (.iconst 1, 1) := by decide +kernel
theorem dX5_load_72 : decode cX5_load 72 = .ok (.iadd, 1) := by decide +kernel
theorem dX5_load_73 : decode cX5_load 73 = .ok (.iaload, 1) := by decide +kernel
theorem dX5_load_74 : decode cX5_load 74 = .ok (.if_icmp .ge 65, 3) := by decide +kernel
theorem dX5_load_77 : decode cX5_load 77 = .ok (.aload_n 0, 1) := by decide +kernel
theorem dX5_load_78 : decode cX5_load 78 = .ok (.getfield 14, 3) := by decide +kernel
theorem dX5_load_81 : decode cX5_load 81 = .ok (.aload_n 0, 1) := by decide +kernel
theorem dX5_load_82 : decode cX5_load 82 = .ok (.getfield 97, 3) := by decide +kernel
theorem dX5_load_85 : decode cX5_load 85 = .ok (.aload_n 0, 1) := by decide +kernel
theorem dX5_load_86 : decode cX5_load 86 = .ok (.getfield 8, 3) := by decide +kernel
theorem dX5_load_89 : decode cX5_load 89 = .ok (.iload 4, 2) := by decide +kernel
theorem dX5_load_91 : decode cX5_load 91 = .ok (.iconst 2, 1) := by decide +kernel
theorem dX5_load_92 : decode cX5_load 92 = .ok (.iadd, 1) := by decide +kernel
theorem dX5_load_93 : decode cX5_load 93 = .ok (.iconst 2, 1) := by decide +kernel
theorem dX5_load_94 : decode cX5_load 94 = .ok (.iload 5, 2) := by decide +kernel
theorem dX5_load_96 : decode cX5_load 96 = .ok (.imul, 1) := by decide +kernel
theorem dX5_load_97 : decode cX5_load 97 = .ok (.iadd, 1) := by decide +kernel
theorem dX5_load_98 : decode cX5_load 98 = .ok (.iaload, 1) := by decide +kernel
theorem dX5_load_99 : decode cX5_load 99 = .ok (.iastore, 1) := by decide +kernel
theorem dX5_load_100 : decode cX5_load 100 = .ok (.aload_n 0, 1) := by decide +kernel
theorem dX5_load_101 : decode cX5_load 101 = .ok (.getfield 17, 3) := by decide +kernel
theorem dX5_load_104 : decode cX5_load 104 = .ok (.aload_n 0, 1) := by decide +kernel
theorem dX5_load_105 : decode cX5_load 105 = .ok (.getfield 97, 3) := by decide +kernel
theorem dX5_load_108 : decode cX5_load 108 = .ok (.aload_n 0, 1) := by decide +kernel
theorem dX5_load_109 : decode cX5_load 109 = .ok (.getfield 8, 3) := by decide +kernel
theorem dX5_load_112 : decode cX5_load 112 = .ok (.iload 4, 2) := by decide +kernel
theorem dX5_load_114 : decode cX5_load 114 = .ok (.iconst 3, 1) := by decide +kernel
theorem dX5_load_115 : decode cX5_load 115 = .ok (.iadd, 1) := by decide +kernel
theorem dX5_load_116 : decode cX5_load 116 = .ok (.iconst 2, 1) := by decide +kernel
theorem dX5_load_117 : decode cX5_load 117 = .ok (.iload 5, 2) := by decide +kernel
theorem dX5_load_119 : decode cX5_load 119 = .ok (.imul, 1) := by decide +kernel
theorem dX5_load_120 : decode cX5_load 120 = .ok (.iadd, 1) := by decide +kernel
theorem dX5_load_121 : decode cX5_load 121 = .ok (.iaload, 1) := by decide +kernel
theorem dX5_load_122 : decode cX5_load 122 = .ok (.iastore, 1) := by decide +kernel
theorem dX5_load_123 : decode cX5_load 123 = .ok (.aload_n 0, 1) := by decide +kernel
theorem dX5_load_124 : decode cX5_load 124 = .ok (.dup, 1) := by decide +kernel
theorem dX5_load_125 : decode cX5_load 125 = .ok (.getfield 97, 3) := by decide +kernel
theorem dX5_load_128 : decode cX5_load 128 = .ok (.iconst 1, 1) := by decide +kernel
theorem dX5_load_129 : decode cX5_load 129 = .ok (.iadd, 1) := by decide +kernel
theorem dX5_load_130 : decode cX5_load 130 = .ok (.putfield 97, 3) := by decide +kernel
theorem dX5_load_133 : decode cX5_load 133 = .ok (.iinc 5 1, 3) := by decide +kernel
theorem dX5_load_136 : decode cX5_load 136 = .ok (.goto (-73), 3) := by decide +kernel
theorem dX5_load_139 : decode cX5_load 139 = .ok (.iinc 3 1, 3) := by decide +kernel
theorem dX5_load_142 : decode cX5_load 142 = .ok (.goto (-98), 3) := by decide +kernel
theorem dX5_load_145 : decode cX5_load 145 = .ok (.return_, 1) := by decide +kernel
theorem dX5_recover_0 : decode cX5_recover 0 = .ok (.aload_n 0, 1) := by decide +kernel
theorem dX5_recover_1 : decode cX5_recover 1 = .ok (.getfield 53, 3) := by decide +kernel
theorem dX5_recover_4 : decode cX5_recover 4 = .ok (.ifCond .ne 6, 3) := by decide +kernel
theorem dX5_recover_7 : decode cX5_recover 7 = .ok (.bipush (-7), 2) := by decide +kernel
theorem dX5_recover_9 : decode cX5_recover 9 = .ok (.ireturn, 1) := by decide +kernel
theorem dX5_recover_10 : decode cX5_recover 10 = .ok (.aload_n 0, 1) := by decide +kernel
theorem dX5_recover_11 : decode cX5_recover 11 = .ok (.iconst 0, 1) := by decide +kernel
theorem dX5_recover_12 : decode cX5_recover 12 = .ok (.putfield 56, 3) := by decide +kernel
theorem dX5_recover_15 : decode cX5_recover 15 = .ok (.aload_n 0, 1) := by decide +kernel
theorem dX5_recover_16 : decode cX5_recover 16 = .ok (.iconst 0, 1) := by decide +kernel
theorem dX5_recover_17 : decode cX5_recover 17 = .ok (.invokevirtual 110, 3) := by decide +kernel
theorem dX5_recover_20 : decode cX5_recover 20 = .ok (.ifCond .eq 14, 3) := by decide +kernel
theorem dX5_recover_23 : decode cX5_recover 23 = .ok (.aload_n 0, 1) := by decide +kernel
theorem dX5_recover_24 : decode cX5_recover 24 = .ok (.getfield 8, 3) := by decide +kernel
theorem dX5_recover_27 : decode cX5_recover 27 = .ok (.iconst 0, 1) := by decide +kernel
theorem dX5_recover_28 : decode cX5_recover 28 = .ok (.iaload, 1) := by decide +kernel
theorem dX5_recover_29 : decode cX5_recover 29 = .ok (.ldc 66, 2) := by decide +kernel
theorem dX5_recover_31 : decode cX5_recover 31 = .ok (.if_icmp .eq 11, 3) := by decide +kernel
theorem dX5_recover_34 : decode cX5_recover 34 = .ok (.aload_n 0, 1) := by decide +kernel
theorem dX5_recover_35 : decode cX5_recover 35 = .ok (.iconst 1, 1) := by decide +kernel
theorem dX5_recover_36 : decode cX5_recover 36 = .ok (.putfield 53, 3) := by decide +kernel
theorem dX5_recover_39 : decode cX5_recover 39 = .ok (.bipush (-2), 2) := by decide +kernel
theorem dX5_recover_41 : decode cX5_recover 41 = .ok (.ireturn, 1) := by decide +kernel
theorem dX5_recover_42 : decode cX5_recover 42 = .ok (.aload_n 0, 1) := by decide +kernel
theorem dX5_recover_43 : decode cX5_recover 43 = .ok (.aload_n 0, 1) := by decide +kernel
theorem dX5_recover_44 : decode cX5_recover 44 = .ok (.getfield 8, 3) := by decide +kernel
theorem dX5_recover_47 : decode cX5_recover 47 = .ok (.iconst 1, 1) := by decide +kernel
theorem dX5_recover_48 : decode cX5_recover 48 = .ok (.iaload, 1) := by decide +kernel
theorem dX5_recover_49 : decode cX5_recover 49 = .ok (.putfield 85, 3) := by decide +kernel
theorem dX5_recover_52 : decode cX5_recover 52 = .ok (.aload_n 0, 1) := by decide +kernel
theorem dX5_recover_53 : decode cX5_recover 53 = .ok (.aload_n 0, 1) := by decide +kernel
theorem dX5_recover_54 : decode cX5_recover 54 = .ok (.getfield 8, 3) := by decide +kernel
theorem dX5_recover_57 : decode cX5_recover 57 = .ok (.iconst 2, 1) := by decide +kernel
theorem dX5_recover_58 : decode cX5_recover 58 = .ok (.iaload, 1) := by decide +kernel
theorem dX5_recover_59 : decode cX5_recover 59 = .ok (.iconst 1, 1) := by decide +kernel
theorem dX5_recover_60 : decode cX5_recover 60 = .ok (.iadd, 1) := by decide +kernel
theorem dX5_recover_61 : decode cX5_recover 61 = .ok (.putfield 88, 3) := by decide +kernel
theorem dX5_recover_64 : decode cX5_recover 64 = .ok (.aload_n 0, 1) := by decide +kernel
theorem dX5_recover_65 : decode cX5_recover 65 = .ok (.aload_n 0, 1) := by decide +kernel
theorem dX5_recover_66 : decode cX5_recover 66 = .ok (.getfield 8, 3) := by decide +kernel
theorem dX5_recover_69 : decode cX5_recover 69 = .ok (.iconst 4, 1) := by decide +kernel
theorem dX5_recover_70 : decode cX5_recover 70 = .ok (.iaload, 1) := by decide +kernel
theorem dX5_recover_71 : decode cX5_recover 71 = .ok (.aload_n 0, 1) := by decide +kernel
theorem dX5_recover_72 : decode cX5_recover 72 = .ok (.getfield 8, 3) := by decide +kernel
theorem dX5_recover_75 : decode cX5_recover 75 = .ok (.iconst 5, 1) := by decide +kernel
theorem dX5_recover_76 : decode cX5_recover 76 = .ok (.iaload, 1) := by decide +kernel
theorem dX5_recover_77 : decode cX5_recover 77 = .ok (.invokevirtual 140, 3) := by decide +kernel
theorem dX5_recover_80 : decode cX5_recover 80 = .ok (.aload_n 0, 1) := by decide +kernel
theorem dX5_recover_81 : decode cX5_recover 81 = .ok (.iconst 0, 1) := by decide +kernel
theorem dX5_recover_82 : decode cX5_recover 82 = .ok (.putfield 91, 3) := by decide +kernel
theorem dX5_recover_85 : decode cX5_recover 85 = .ok (.aload_n 0, 1) := by decide +kernel
theorem dX5_recover_86 : decode cX5_recover 86 = .ok (.iconst 0, 1) := by decide +kernel
theorem dX5_recover_87 : decode cX5_recover 87 = .ok (.putfield 94, 3) := by decide +kernel
theorem dX5_recover_90 : decode cX5_recover 90 = .ok (.aload_n 0, 1) := by decide +kernel
theorem dX5_recover_91 : decode cX5_recover 91 = .ok (.iconst 1, 1) := by decide +kernel
theorem dX5_recover_92 : decode cX5_recover 92 = .ok (.iconst 1, 1) := by decide +kernel
theorem dX5_recover_93 : decode cX5_recover 93 = .ok (.invokevirtual 143, 3) := by decide +kernel
theorem dX5_recover_96 : decode cX5_recover 96 = .ok (.istore_n 1, 1) := by decide +kernel
theorem dX5_recover_97 : decode cX5_recover 97 = .ok (.iload_n 1, 1) := by decide +kernel
theorem dX5_recover_98 : decode cX5_recover 98 = .ok (.ifCond .le 43, 3) := by decide +kernel
theorem dX5_recover_101 : decode cX5_recover 101 = .ok (.aload_n 0, 1) := by decide +kernel
theorem dX5_recover_102 : decode cX5_recover 102 = .ok (.dup, 1) := by decide +kernel
theorem dX5_recover_103 : decode cX5_recover 103 = .ok (.getfield 91, 3) := by decide +kernel
theorem dX5_recover_106 : decode cX5_recover 106 = .ok (.iload_n 1, 1) := by decide +kernel
theorem dX5_recover_107 : decode cX5_recover 107 = .ok (.iadd, 1) := by decide +kernel
theorem dX5_recover_108 : decode cX5_recover 108 = .ok (.putfield 91, 3) := by decide +kernel
theorem dX5_recover_111 : decode cX5_recover 111 = .ok (.aload_n 0, 1) := by decide +kernel
theorem dX5_recover_112 : decode cX5_recover 112 = .ok (.dup, 1) := by decide +kernel
theorem dX5_recover_113 : decode cX5_recover 113 = .ok (.getfield 94, 3) := by decide +kernel
theorem dX5_recover_116 : decode cX5_recover 116 = .ok (.iconst 1, 1) := by decide +kernel
theorem dX5_recover_117 : decode cX5_recover 117 = .ok (.iadd, 1) := by decide +kernel
theorem dX5_recover_118 : decode cX5_recover 118 = .ok (.putfield 94, 3) := by decide +kernel
theorem dX5_recover_121 : decode cX5_recover 121 = .ok (.aload_n 0, 1) := by decide +kernel
theorem dX5_recover_122 : decode cX5_recover 122 = .ok (.iconst 1, 1) := by decide +kernel
theorem dX5_recover_123 : decode cX5_recover 123 = .ok (.aload_n 0, 1) := by decide +kernel
theorem dX5_recover_124 : decode cX5_recover 124 = .ok (.getfield 91, 3) := by decide +kernel
theorem dX5_recover_127 : decode cX5_recover 127 = .ok (.iadd, 1) := by decide +kernel
theorem dX5_recover_128 : decode cX5_recover 128 = .ok (.aload_n 0, 1) := by decide +kernel
theorem dX5_recover_129 : decode cX5_recover 129 = .ok (.getfield 94, 3) := by decide +kernel
theorem dX5_recover_132 : decode cX5_recover 132 = .ok (.iconst 1, 1) := by decide +kernel
theorem dX5_recover_133 : decode cX5_recover 133 = .ok (.iadd, 1) := by decide +kernel
theorem dX5_recover_134 : decode cX5_recover 134 = .ok (.invokevirtual 143, 3) := by decide +kernel
theorem dX5_recover_137 : decode cX5_recover 137 = .ok (.istore_n 1, 1) := by decide +kernel
theorem dX5_recover_138 : decode cX5_recover 138 = .ok (.goto (-41), 3) := by decide +kernel
theorem dX5_recover_141 : decode cX5_recover 141 = .ok (.aload_n 0, 1) := by decide +kernel
theorem dX5_recover_142 : decode cX5_recover 142 = .ok (.aload_n 0, 1) := by decide +kernel
theorem dX5_recover_143 : decode cX5_recover 143 = .ok (.getfield 85, 3) := by decide +kernel
theorem dX5_recover_146 : decode cX5_recover 146 = .ok (.aload_n 0, 1) := by decide +kernel
theorem dX5_recover_147 : decode cX5_recover 147 = .ok (.getfield 88, 3) := by decide +kernel
theorem dX5_recover_150 : decode cX5_recover 150 = .ok (.aload_n 0, 1) := by decide +kernel
theorem dX5_recover_151 : decode cX5_recover 151 = .ok (.getfield 8, 3) := by decide +kernel
theorem dX5_recover_154 : decode cX5_recover 154 = .ok (.iconst 3, 1) := by decide +kernel
theorem dX5_recover_155 : decode cX5_recover 155 = .ok (.iaload, 1) := by decide +kernel
theorem dX5_recover_156 : decode cX5_recover 156 = .ok (.aload_n 0, 1) := by decide +kernel
theorem dX5_recover_157 : decode cX5_recover 157 = .ok (.getfield 8, 3) := by decide +kernel
theorem dX5_recover_160 : decode cX5_recover 160 = .ok (.iconst 4, 1) := by decide +kernel
theorem dX5_recover_161 : decode cX5_recover 161 = .ok (.iaload, 1) := by decide +kernel
theorem dX5_recover_162 : decode cX5_recover 162 = .ok (.aload_n 0, 1) := by decide +kernel
theorem dX5_recover_163 : decode cX5_recover 163 = .ok (.getfield 8, 3) := by decide +kernel
theorem dX5_recover_166 : decode cX5_recover 166 = .ok (.iconst 5, 1) := by decide +kernel
theorem dX5_recover_167 : decode cX5_recover 167 = .ok (.iaload, 1) := by decide +kernel
theorem dX5_recover_168 : decode cX5_recover 168 = .ok (.invokevirtual 81, 3) := by decide +kernel
theorem dX5_recover_171 : decode cX5_recover 171 = .ok (.ifCond .ne 5, 3) := by decide +kernel
theorem dX5_recover_174 : decode cX5_recover 174 = .ok (.iconst (-1), 1) := by decide +kernel
theorem dX5_recover_175 : decode cX5_recover 175 = .ok (.ireturn, 1) := by decide +kernel
theorem dX5_recover_176 : decode cX5_recover 176 = .ok (.aload_n 0, 1) := by decide +kernel
theorem dX5_recover_177 : decode cX5_recover 177 = .ok (.iconst 2, 1) := by decide +kernel
theorem dX5_recover_178 : decode cX5_recover 178 = .ok (.putfield 53, 3) := by decide +kernel
theorem dX5_recover_181 : decode cX5_recover 181 = .ok (.iconst 0, 1) := by decide +kernel
theorem dX5_recover_182 : decode cX5_recover 182 = .ok (.ireturn, 1) := by decide +kernel
theorem dX5_begin_0 : decode cX5_begin 0 = .ok (.aload_n 0, 1) := by decide +kernel
theorem dX5_begin_1 : decode cX5_begin 1 = .ok (.getfield 53, 3) := by decide +kernel
theorem dX5_begin_4 : decode cX5_begin 4 = .ok (.iconst 2, 1) := by decide +kernel
theorem dX5_begin_5 : decode cX5_begin 5 = .ok (.if_icmp .eq 8, 3) := by decide +kernel
theorem dX5_begin_8 : decode cX5_begin 8 = .ok (.aload_n 0, 1) := by decide +kernel
theorem dX5_begin_9 : decode cX5_begin 9 = .ok (.invokevirtual 77, 3) := by decide +kernel
theorem dX5_begin_12 : decode cX5_begin 12 = .ok (.ireturn, 1) := by decide +kernel
theorem dX5_begin_13 : decode cX5_begin 13 = .ok (.aload_n 0, 1) := by decide +kernel
theorem dX5_begin_14 : decode cX5_begin 14 = .ok (.getfield 56, 3) := by decide +kernel
theorem dX5_begin_17 : decode cX5_begin 17 = .ok (.ifCond .eq 6, 3) := by decide +kernel
theorem dX5_begin_20 : decode cX5_begin 20 = .ok (.bipush (-4), 2) := by decide +kernel
theorem dX5_begin_22 : decode cX5_begin 22 = .ok (.ireturn, 1) := by decide +kernel
theorem dX5_begin_23 : decode cX5_begin 23 = .ok (.aload_n 0, 1) := by decide +kernel
theorem dX5_begin_24 : decode cX5_begin 24 = .ok (.iconst 1, 1) := by decide +kernel
theorem dX5_begin_25 : decode cX5_begin 25 = .ok (.putfield 56, 3) := by decide +kernel
theorem dX5_begin_28 : decode cX5_begin 28 = .ok (.aload_n 0, 1) := by decide +kernel
theorem dX5_begin_29 : decode cX5_begin 29 = .ok (.iconst 0, 1) := by decide +kernel
theorem dX5_begin_30 : decode cX5_begin 30 = .ok (.putfield 104, 3) := by decide +kernel
theorem dX5_begin_33 : decode cX5_begin 33 = .ok (.iconst 0, 1) := by decide +kernel
theorem dX5_begin_34 : decode cX5_begin 34 = .ok (.ireturn, 1) := by decide +kernel
theorem dX5_change_0 : decode cX5_change 0 = .ok (.aload_n 0, 1) := by decide +kernel
theorem dX5_change_1 : decode cX5_change 1 = .ok (.iload_n 1, 1) := by decide +kernel
theorem dX5_change_2 : decode cX5_change 2 = .ok (.invokevirtual 107, 3) := by decide +kernel
theorem dX5_change_5 : decode cX5_change 5 = .ok (.istore 4, 2) := by decide +kernel
theorem dX5_change_7 : decode cX5_change 7 = .ok (.iload 4, 2) := by decide +kernel
theorem dX5_change_9 : decode cX5_change 9 = .ok (.aload_n 0, 1) := by decide +kernel
theorem dX5_change_10 : decode cX5_change 10 = .ok (.getfield 104, 3) := by decide +kernel
theorem dX5_change_13 : decode cX5_change 13 = .ok (.if_icmp .eq 14, 3) := by decide +kernel
theorem dX5_change_16 : decode cX5_change 16 = .ok (.aload_n 0, 1) := by decide +kernel
theorem dX5_change_17 : decode cX5_change 17 = .ok (.getfield 20, 3) := by decide +kernel
theorem dX5_change_20 : decode cX5_change 20 = .ok (.iload 4, 2) := by decide +kernel
theorem dX5_change_22 : decode cX5_change 22 = .ok (.iaload, 1) := by decide +kernel
theorem dX5_change_23 : decode cX5_change 23 = .ok (.iload_n 1, 1) := by decide +kernel
theorem dX5_change_24 : decode cX5_change 24 = .ok (.if_icmp .eq 101, 3) := by decide +kernel
theorem dX5_change_27 : decode cX5_change 27 = .ok (.aload_n 0, 1) := by decide +kernel
theorem dX5_change_28 : decode cX5_change 28 = .ok (.getfield 104, 3) := by decide +kernel
theorem dX5_change_31 : decode cX5_change 31 = .ok (.sipush 600, 3) := by decide +kernel
theorem dX5_change_34 : decode cX5_change 34 = .ok (.if_icmp .ne 6, 3) := by decide +kernel
theorem dX5_change_37 : decode cX5_change 37 = .ok (.bipush (-6), 2) := by decide +kernel
theorem dX5_change_39 : decode cX5_change 39 = .ok (.ireturn, 1) := by decide +kernel
theorem dX5_change_40 : decode cX5_change 40 = .ok (.aload_n 0, 1) := by decide +kernel
theorem dX5_change_41 : decode cX5_change 41 = .ok (.getfield 104, 3) := by decide +kernel
theorem dX5_change_44 : decode cX5_change 44 = .ok (.istore 5, 2) := by decide +kernel
theorem dX5_change_46 : decode cX5_change 46 = .ok (.iload 5, 2) := by decide +kernel
theorem dX5_change_48 : decode cX5_change 48 = .ok (.iload 4, 2) := by decide +kernel
theorem dX5_change_50 : decode cX5_change 50 = .ok (.if_icmp .le 57, 3) := by decide +kernel
theorem dX5_change_53 : decode cX5_change 53 = .ok (.aload_n 0, 1) := by decide +kernel
theorem dX5_change_54 : decode cX5_change 54 = .ok (.getfield 20, 3) := by decide +kernel
theorem dX5_change_57 : decode cX5_change 57 = .ok (.iload 5, 2) := by decide +kernel
theorem dX5_change_59 : decode cX5_change 59 = .ok (.aload_n 0, 1) := by decide +kernel
theorem dX5_change_60 : decode cX5_change 60 = .ok (.getfield 20, 3) := by decide +kernel
theorem dX5_change_63 : decode cX5_change 63 = .ok (.iload 5, 2) := by decide +kernel
theorem dX5_change_65 : decode cX5_change 65 = .ok (.iconst 1, 1) := by decide +kernel
theorem dX5_change_66 : decode cX5_change 66 = .ok (.isub, 1) := by decide +kernel
theorem dX5_change_67 : decode cX5_change 67 = .ok (.iaload, 1) := by decide +kernel
theorem dX5_change_68 : decode cX5_change 68 = .ok (.iastore, 1) := by decide +kernel
theorem dX5_change_69 : decode cX5_change 69 = .ok (.aload_n 0, 1) := by decide +kernel
theorem dX5_change_70 : decode cX5_change 70 = .ok (.getfield 23, 3) := by decide +kernel
theorem dX5_change_73 : decode cX5_change 73 = .ok (.iload 5, 2) := by decide +kernel
theorem dX5_change_75 : decode cX5_change 75 = .ok (.aload_n 0, 1) := by decide +kernel
theorem dX5_change_76 : decode cX5_change 76 = .ok (.getfield 23, 3) := by decide +kernel
end
section
theorem dX5_change_79 : decode cX5_change 79 = .ok (.iload 5, 2) := by decide +kernel
theorem dX5_change_81 : decode cX5_change 81 = .ok (.iconst 1, 1) := by decide +kernel
theorem dX5_change_82 : decode cX5_change 82 = .ok (.isub, 1) := by decide +kernel
theorem dX5_change_83 : decode cX5_change 83 = .ok (.iaload, 1) := by decide +kernel
theorem dX5_change_84 : decode cX5_change 84 = .ok (.iastore, 1) := by decide +kernel
theorem dX5_change_85 : decode cX5_change 85 = .ok (.aload_n 0, 1) := by decide +kernel
theorem dX5_change_86 : decode cX5_change 86 = .ok (.getfield 26, 3) := by decide +kernel
theorem dX5_change_89 : decode cX5_change 89 = .ok (.iload 5, 2) := by decide +kernel
theorem dX5_change_91 : decode cX5_change 91 = .ok (.aload_n 0, 1) := by decide +kernel
theorem dX5_change_92 : decode cX5_change 92 = .ok (.getfield 26, 3) := by decide +kernel
theorem dX5_change_95 : decode cX5_change 95 = .ok (.iload 5, 2) := by decide +kernel
theorem dX5_change_97 : decode cX5_change 97 = .ok (.iconst 1, 1) := by decide +kernel
theorem dX5_change_98 : decode cX5_change 98 = .ok (.isub, 1) := by decide +kernel
theorem dX5_change_99 : decode cX5_change 99 = .ok (.baload, 1) := by decide +kernel
theorem dX5_change_100 : decode cX5_change 100 = .ok (.bastore, 1) := by decide +kernel
theorem dX5_change_101 : decode cX5_change 101 = .ok (.iinc 5 (-1), 3) := by decide +kernel
theorem dX5_change_104 : decode cX5_change 104 = .ok (.goto (-58), 3) := by decide +kernel
theorem dX5_change_107 : decode cX5_change 107 = .ok (.aload_n 0, 1) := by decide +kernel
theorem dX5_change_108 : decode cX5_change 108 = .ok (.getfield 20, 3) := by decide +kernel
theorem dX5_change_111 : decode cX5_change 111 = .ok (.iload 4, 2) := by decide +kernel
theorem dX5_change_113 : decode cX5_change 113 = .ok (.iload_n 1, 1) := by decide +kernel
theorem dX5_change_114 : decode cX5_change 114 = .ok (.iastore, 1) := by decide +kernel
theorem dX5_change_115 : decode cX5_change 115 = .ok (.aload_n 0, 1) := by decide +kernel
theorem dX5_change_116 : decode cX5_change 116 = .ok (.dup, 1) := by decide +kernel
theorem dX5_change_117 : decode cX5_change 117 = .ok (.getfield 104, 3) := by decide +kernel
theorem dX5_change_120 : decode cX5_change 120 = .ok (.iconst 1, 1) := by decide +kernel
theorem dX5_change_121 : decode cX5_change 121 = .ok (.iadd, 1) := by decide +kernel
theorem dX5_change_122 : decode cX5_change 122 = .ok (.putfield 104, 3) := by decide +kernel
theorem dX5_change_125 : decode cX5_change 125 = .ok (.aload_n 0, 1) := by decide +kernel
theorem dX5_change_126 : decode cX5_change 126 = .ok (.getfield 26, 3) := by decide +kernel
theorem dX5_change_129 : decode cX5_change 129 = .ok (.iload 4, 2) := by decide +kernel
theorem dX5_change_131 : decode cX5_change 131 = .ok (.iload_n 2, 1) := by decide +kernel
theorem dX5_change_132 : decode cX5_change 132 = .ok (.bastore, 1) := by decide +kernel
theorem dX5_change_133 : decode cX5_change 133 = .ok (.aload_n 0, 1) := by decide +kernel
theorem dX5_change_134 : decode cX5_change 134 = .ok (.getfield 23, 3) := by decide +kernel
theorem dX5_change_137 : decode cX5_change 137 = .ok (.iload 4, 2) := by decide +kernel
theorem dX5_change_139 : decode cX5_change 139 = .ok (.iload_n 2, 1) := by decide +kernel
theorem dX5_change_140 : decode cX5_change 140 = .ok (.ifCond .eq 7, 3) := by decide +kernel
theorem dX5_change_143 : decode cX5_change 143 = .ok (.iconst 0, 1) := by decide +kernel
theorem dX5_change_144 : decode cX5_change 144 = .ok (.goto 4, 3) := by decide +kernel
theorem dX5_change_147 : decode cX5_change 147 = .ok (.iload_n 3, 1) := by decide +kernel
theorem dX5_change_148 : decode cX5_change 148 = .ok (.iastore, 1) := by decide +kernel
theorem dX5_change_149 : decode cX5_change 149 = .ok (.iconst 0, 1) := by decide +kernel
theorem dX5_change_150 : decode cX5_change 150 = .ok (.ireturn, 1) := by decide +kernel
theorem dX5_put_0 : decode cX5_put 0 = .ok (.aload_n 0, 1) := by decide +kernel
theorem dX5_put_1 : decode cX5_put 1 = .ok (.getfield 53, 3) := by decide +kernel
theorem dX5_put_4 : decode cX5_put 4 = .ok (.iconst 2, 1) := by decide +kernel
theorem dX5_put_5 : decode cX5_put 5 = .ok (.if_icmp .eq 8, 3) := by decide +kernel
theorem dX5_put_8 : decode cX5_put 8 = .ok (.aload_n 0, 1) := by decide +kernel
theorem dX5_put_9 : decode cX5_put 9 = .ok (.invokevirtual 77, 3) := by decide +kernel
theorem dX5_put_12 : decode cX5_put 12 = .ok (.ireturn, 1) := by decide +kernel
theorem dX5_put_13 : decode cX5_put 13 = .ok (.aload_n 0, 1) := by decide +kernel
theorem dX5_put_14 : decode cX5_put 14 = .ok (.getfield 56, 3) := by decide +kernel
theorem dX5_put_17 : decode cX5_put 17 = .ok (.ifCond .ne 6, 3) := by decide +kernel
theorem dX5_put_20 : decode cX5_put 20 = .ok (.bipush (-3), 2) := by decide +kernel
theorem dX5_put_22 : decode cX5_put 22 = .ok (.ireturn, 1) := by decide +kernel
theorem dX5_put_23 : decode cX5_put 23 = .ok (.aload_n 0, 1) := by decide +kernel
theorem dX5_put_24 : decode cX5_put 24 = .ok (.iload_n 1, 1) := by decide +kernel
theorem dX5_put_25 : decode cX5_put 25 = .ok (.iconst 0, 1) := by decide +kernel
theorem dX5_put_26 : decode cX5_put 26 = .ok (.iload_n 2, 1) := by decide +kernel
theorem dX5_put_27 : decode cX5_put 27 = .ok (.invokevirtual 146, 3) := by decide +kernel
theorem dX5_put_30 : decode cX5_put 30 = .ok (.ireturn, 1) := by decide +kernel
theorem dX5_remove_0 : decode cX5_remove 0 = .ok (.aload_n 0, 1) := by decide +kernel
theorem dX5_remove_1 : decode cX5_remove 1 = .ok (.getfield 53, 3) := by decide +kernel
theorem dX5_remove_4 : decode cX5_remove 4 = .ok (.iconst 2, 1) := by decide +kernel
theorem dX5_remove_5 : decode cX5_remove 5 = .ok (.if_icmp .eq 8, 3) := by decide +kernel
theorem dX5_remove_8 : decode cX5_remove 8 = .ok (.aload_n 0, 1) := by decide +kernel
theorem dX5_remove_9 : decode cX5_remove 9 = .ok (.invokevirtual 77, 3) := by decide +kernel
theorem dX5_remove_12 : decode cX5_remove 12 = .ok (.ireturn, 1) := by decide +kernel
theorem dX5_remove_13 : decode cX5_remove 13 = .ok (.aload_n 0, 1) := by decide +kernel
theorem dX5_remove_14 : decode cX5_remove 14 = .ok (.getfield 56, 3) := by decide +kernel
theorem dX5_remove_17 : decode cX5_remove 17 = .ok (.ifCond .ne 6, 3) := by decide +kernel
theorem dX5_remove_20 : decode cX5_remove 20 = .ok (.bipush (-3), 2) := by decide +kernel
theorem dX5_remove_22 : decode cX5_remove 22 = .ok (.ireturn, 1) := by decide +kernel
theorem dX5_remove_23 : decode cX5_remove 23 = .ok (.aload_n 0, 1) := by decide +kernel
theorem dX5_remove_24 : decode cX5_remove 24 = .ok (.iload_n 1, 1) := by decide +kernel
theorem dX5_remove_25 : decode cX5_remove 25 = .ok (.invokevirtual 150, 3) := by decide +kernel
theorem dX5_remove_28 : decode cX5_remove 28 = .ok (.ifCond .ne 6, 3) := by decide +kernel
theorem dX5_remove_31 : decode cX5_remove 31 = .ok (.bipush (-5), 2) := by decide +kernel
theorem dX5_remove_33 : decode cX5_remove 33 = .ok (.ireturn, 1) := by decide +kernel
theorem dX5_remove_34 : decode cX5_remove 34 = .ok (.aload_n 0, 1) := by decide +kernel
theorem dX5_remove_35 : decode cX5_remove 35 = .ok (.iload_n 1, 1) := by decide +kernel
theorem dX5_remove_36 : decode cX5_remove 36 = .ok (.iconst 1, 1) := by decide +kernel
theorem dX5_remove_37 : decode cX5_remove 37 = .ok (.iconst 0, 1) := by decide +kernel
theorem dX5_remove_38 : decode cX5_remove 38 = .ok (.invokevirtual 146, 3) := by decide +kernel
theorem dX5_remove_41 : decode cX5_remove 41 = .ok (.ireturn, 1) := by decide +kernel
theorem dX5_isSeen_0 : decode cX5_isSeen 0 = .ok (.aload_n 0, 1) := by decide +kernel
theorem dX5_isSeen_1 : decode cX5_isSeen 1 = .ok (.iload_n 1, 1) := by decide +kernel
theorem dX5_isSeen_2 : decode cX5_isSeen 2 = .ok (.invokevirtual 153, 3) := by decide +kernel
theorem dX5_isSeen_5 : decode cX5_isSeen 5 = .ok (.ifCond .eq 22, 3) := by decide +kernel
theorem dX5_isSeen_8 : decode cX5_isSeen 8 = .ok (.aload_n 0, 1) := by decide +kernel
theorem dX5_isSeen_9 : decode cX5_isSeen 9 = .ok (.getfield 26, 3) := by decide +kernel
theorem dX5_isSeen_12 : decode cX5_isSeen 12 = .ok (.aload_n 0, 1) := by decide +kernel
theorem dX5_isSeen_13 : decode cX5_isSeen 13 = .ok (.iload_n 1, 1) := by decide +kernel
theorem dX5_isSeen_14 : decode cX5_isSeen 14 = .ok (.invokevirtual 107, 3) := by decide +kernel
theorem dX5_isSeen_17 : decode cX5_isSeen 17 = .ok (.baload, 1) := by decide +kernel
theorem dX5_isSeen_18 : decode cX5_isSeen 18 = .ok (.ifCond .ne 7, 3) := by decide +kernel
theorem dX5_isSeen_21 : decode cX5_isSeen 21 = .ok (.iconst 1, 1) := by decide +kernel
theorem dX5_isSeen_22 : decode cX5_isSeen 22 = .ok (.goto 4, 3) := by decide +kernel
theorem dX5_isSeen_25 : decode cX5_isSeen 25 = .ok (.iconst 0, 1) := by decide +kernel
theorem dX5_isSeen_26 : decode cX5_isSeen 26 = .ok (.ireturn, 1) := by decide +kernel
theorem dX5_isSeen_27 : decode cX5_isSeen 27 = .ok (.aload_n 0, 1) := by decide +kernel
theorem dX5_isSeen_28 : decode cX5_isSeen 28 = .ok (.iload_n 1, 1) := by decide +kernel
theorem dX5_isSeen_29 : decode cX5_isSeen 29 = .ok (.invokevirtual 100, 3) := by decide +kernel
theorem dX5_isSeen_32 : decode cX5_isSeen 32 = .ok (.istore_n 2, 1) := by decide +kernel
theorem dX5_isSeen_33 : decode cX5_isSeen 33 = .ok (.iload_n 2, 1) := by decide +kernel
theorem dX5_isSeen_34 : decode cX5_isSeen 34 = .ok (.aload_n 0, 1) := by decide +kernel
theorem dX5_isSeen_35 : decode cX5_isSeen 35 = .ok (.getfield 97, 3) := by decide +kernel
theorem dX5_isSeen_38 : decode cX5_isSeen 38 = .ok (.if_icmp .ge 17, 3) := by decide +kernel
theorem dX5_isSeen_41 : decode cX5_isSeen 41 = .ok (.aload_n 0, 1) := by decide +kernel
theorem dX5_isSeen_42 : decode cX5_isSeen 42 = .ok (.getfield 14, 3) := by decide +kernel
theorem dX5_isSeen_45 : decode cX5_isSeen 45 = .ok (.iload_n 2, 1) := by decide +kernel
theorem dX5_isSeen_46 : decode cX5_isSeen 46 = .ok (.iaload, 1) := by decide +kernel
theorem dX5_isSeen_47 : decode cX5_isSeen 47 = .ok (.iload_n 1, 1) := by decide +kernel
theorem dX5_isSeen_48 : decode cX5_isSeen 48 = .ok (.if_icmp .ne 7, 3) := by decide +kernel
theorem dX5_isSeen_51 : decode cX5_isSeen 51 = .ok (.iconst 1, 1) := by decide +kernel
theorem dX5_isSeen_52 : decode cX5_isSeen 52 = .ok (.goto 4, 3) := by decide +kernel
theorem dX5_isSeen_55 : decode cX5_isSeen 55 = .ok (.iconst 0, 1) := by decide +kernel
theorem dX5_isSeen_56 : decode cX5_isSeen 56 = .ok (.ireturn, 1) := by decide +kernel
theorem dX5_commit_0 : decode cX5_commit 0 = .ok (.aload_n 0, 1) := by decide +kernel
theorem dX5_commit_1 : decode cX5_commit 1 = .ok (.getfield 53, 3) := by decide +kernel
theorem dX5_commit_4 : decode cX5_commit 4 = .ok (.iconst 2, 1) := by decide +kernel
theorem dX5_commit_5 : decode cX5_commit 5 = .ok (.if_icmp .eq 8, 3) := by decide +kernel
theorem dX5_commit_8 : decode cX5_commit 8 = .ok (.aload_n 0, 1) := by decide +kernel
theorem dX5_commit_9 : decode cX5_commit 9 = .ok (.invokevirtual 77, 3) := by decide +kernel
theorem dX5_commit_12 : decode cX5_commit 12 = .ok (.ireturn, 1) := by decide +kernel
theorem dX5_commit_13 : decode cX5_commit 13 = .ok (.aload_n 0, 1) := by decide +kernel
theorem dX5_commit_14 : decode cX5_commit 14 = .ok (.getfield 56, 3) := by decide +kernel
theorem dX5_commit_17 : decode cX5_commit 17 = .ok (.ifCond .ne 6, 3) := by decide +kernel
theorem dX5_commit_20 : decode cX5_commit 20 = .ok (.bipush (-3), 2) := by decide +kernel
theorem dX5_commit_22 : decode cX5_commit 22 = .ok (.ireturn, 1) := by decide +kernel
theorem dX5_commit_23 : decode cX5_commit 23 = .ok (.aload_n 0, 1) := by decide +kernel
theorem dX5_commit_24 : decode cX5_commit 24 = .ok (.getfield 104, 3) := by decide +kernel
theorem dX5_commit_27 : decode cX5_commit 27 = .ok (.ifCond .ne 7, 3) := by decide +kernel
theorem dX5_commit_30 : decode cX5_commit 30 = .ok (.iconst 0, 1) := by decide +kernel
theorem dX5_commit_31 : decode cX5_commit 31 = .ok (.goto 12, 3) := by decide +kernel
theorem dX5_commit_34 : decode cX5_commit 34 = .ok (.aload_n 0, 1) := by decide +kernel
theorem dX5_commit_35 : decode cX5_commit 35 = .ok (.aload_n 0, 1) := by decide +kernel
theorem dX5_commit_36 : decode cX5_commit 36 = .ok (.getfield 104, 3) := by decide +kernel
theorem dX5_commit_39 : decode cX5_commit 39 = .ok (.i2l, 1) := by decide +kernel
theorem dX5_commit_40 : decode cX5_commit 40 = .ok (.invokevirtual 124, 3) := by decide +kernel
theorem dX5_commit_43 : decode cX5_commit 43 = .ok (.istore_n 1, 1) := by decide +kernel
theorem dX5_commit_44 : decode cX5_commit 44 = .ok (.aload_n 0, 1) := by decide +kernel
theorem dX5_commit_45 : decode cX5_commit 45 = .ok (.getfield 91, 3) := by decide +kernel
theorem dX5_commit_48 : decode cX5_commit 48 = .ok (.iload_n 1, 1) := by decide +kernel
theorem dX5_commit_49 : decode cX5_commit 49 = .ok (.iadd, 1) := by decide +kernel
theorem dX5_commit_50 : decode cX5_commit 50 = .ok (.aload_n 0, 1) := by decide +kernel
theorem dX5_commit_51 : decode cX5_commit 51 = .ok (.getfield 74, 3) := by decide +kernel
theorem dX5_commit_54 : decode cX5_commit 54 = .ok (.if_icmp .le 6, 3) := by decide +kernel
theorem dX5_commit_57 : decode cX5_commit 57 = .ok (.bipush (-6), 2) := by decide +kernel
theorem dX5_commit_59 : decode cX5_commit 59 = .ok (.ireturn, 1) := by decide +kernel
theorem dX5_commit_60 : decode cX5_commit 60 = .ok (.iconst 0, 1) := by decide +kernel
theorem dX5_commit_61 : decode cX5_commit 61 = .ok (.istore_n 2, 1) := by decide +kernel
theorem dX5_commit_62 : decode cX5_commit 62 = .ok (.aload_n 0, 1) := by decide +kernel
theorem dX5_commit_63 : decode cX5_commit 63 = .ok (.getfield 39, 3) := by decide +kernel
theorem dX5_commit_66 : decode cX5_commit 66 = .ok (.iconst 0, 1) := by decide +kernel
theorem dX5_commit_67 : decode cX5_commit 67 = .ok (.aload_n 0, 1) := by decide +kernel
theorem dX5_commit_68 : decode cX5_commit 68 = .ok (.getfield 104, 3) := by decide +kernel
theorem dX5_commit_71 : decode cX5_commit 71 = .ok (.iastore, 1) := by decide +kernel
theorem dX5_commit_72 : decode cX5_commit 72 = .ok (.iinc 2 1, 3) := by decide +kernel
theorem dX5_commit_75 : decode cX5_commit 75 = .ok (.iconst 0, 1) := by decide +kernel
theorem dX5_commit_76 : decode cX5_commit 76 = .ok (.istore_n 3, 1) := by decide +kernel
theorem dX5_commit_77 : decode cX5_commit 77 = .ok (.iload_n 3, 1) := by decide +kernel
theorem dX5_commit_78 : decode cX5_commit 78 = .ok (.aload_n 0, 1) := by decide +kernel
theorem dX5_commit_79 : decode cX5_commit 79 = .ok (.getfield 104, 3) := by decide +kernel
theorem dX5_commit_82 : decode cX5_commit 82 = .ok (.if_icmp .ge 60, 3) := by decide +kernel
theorem dX5_commit_85 : decode cX5_commit 85 = .ok (.aload_n 0, 1) := by decide +kernel
theorem dX5_commit_86 : decode cX5_commit 86 = .ok (.getfield 39, 3) := by decide +kernel
theorem dX5_commit_89 : decode cX5_commit 89 = .ok (.iload_n 2, 1) := by decide +kernel
theorem dX5_commit_90 : decode cX5_commit 90 = .ok (.aload_n 0, 1) := by decide +kernel
theorem dX5_commit_91 : decode cX5_commit 91 = .ok (.getfield 26, 3) := by decide +kernel
theorem dX5_commit_94 : decode cX5_commit 94 = .ok (.iload_n 3, 1) := by decide +kernel
theorem dX5_commit_95 : decode cX5_commit 95 = .ok (.baload, 1) := by decide +kernel
theorem dX5_commit_96 : decode cX5_commit 96 = .ok (.ifCond .eq 7, 3) := by decide +kernel
theorem dX5_commit_99 : decode cX5_commit 99 = .ok (.iconst 2, 1) := by decide +kernel
theorem dX5_commit_100 : decode cX5_commit 100 = .ok (.goto 4, 3) := by decide +kernel
theorem dX5_commit_103 : decode cX5_commit 103 = .ok (.iconst 1, 1) := by decide +kernel
theorem dX5_commit_104 : decode cX5_commit 104 = .ok (.iastore, 1) := by decide +kernel
theorem dX5_commit_105 : decode cX5_commit 105 = .ok (.aload_n 0, 1) := by decide +kernel
theorem dX5_commit_106 : decode cX5_commit 106 = .ok (.getfield 39, 3) := by decide +kernel
theorem dX5_commit_109 : decode cX5_commit 109 = .ok (.iload_n 2, 1) := by decide +kernel
theorem dX5_commit_110 : decode cX5_commit 110 = .ok (.iconst 1, 1) := by decide +kernel
theorem dX5_commit_111 : decode cX5_commit 111 = .ok (.iadd, 1) := by decide +kernel
theorem dX5_commit_112 : decode cX5_commit 112 = .ok (.aload_n 0, 1) := by decide +kernel
theorem dX5_commit_113 : decode cX5_commit 113 = .ok (.getfield 20, 3) := by decide +kernel
theorem dX5_commit_116 : decode cX5_commit 116 = .ok (.iload_n 3, 1) := by decide +kernel
theorem dX5_commit_117 : decode cX5_commit 117 = .ok (.iaload, 1) := by decide +kernel
theorem dX5_commit_118 : decode cX5_commit 118 = .ok (.iastore, 1) := by decide +kernel
theorem dX5_commit_119 : decode cX5_commit 119 = .ok (.aload_n 0, 1) := by decide +kernel
theorem dX5_commit_120 : decode cX5_commit 120 = .ok (.getfield 39, 3) := by decide +kernel
theorem dX5_commit_123 : decode cX5_commit 123 = .ok (.iload_n 2, 1) := by decide +kernel
theorem dX5_commit_124 : decode cX5_commit 124 = .ok (.iconst 2, 1) := by decide +kernel
theorem dX5_commit_125 : decode cX5_commit 125 = .ok (.iadd, 1) := by decide +kernel
theorem dX5_commit_126 : decode cX5_commit 126 = .ok (.aload_n 0, 1) := by decide +kernel
theorem dX5_commit_127 : decode cX5_commit 127 = .ok (.getfield 23, 3) := by decide +kernel
theorem dX5_commit_130 : decode cX5_commit 130 = .ok (.iload_n 3, 1) := by decide +kernel
theorem dX5_commit_131 : decode cX5_commit 131 = .ok (.iaload, 1) := by decide +kernel
theorem dX5_commit_132 : decode cX5_commit 132 = .ok (.iastore, 1) := by decide +kernel
theorem dX5_commit_133 : decode cX5_commit 133 = .ok (.iinc 2 3, 3) := by decide +kernel
theorem dX5_commit_136 : decode cX5_commit 136 = .ok (.iinc 3 1, 3) := by decide +kernel
theorem dX5_commit_139 : decode cX5_commit 139 = .ok (.goto (-62), 3) := by decide +kernel
theorem dX5_commit_142 : decode cX5_commit 142 = .ok (.iconst 0, 1) := by decide +kernel
theorem dX5_commit_143 : decode cX5_commit 143 = .ok (.istore_n 3, 1) := by decide +kernel
theorem dX5_commit_144 : decode cX5_commit 144 = .ok (.iload_n 3, 1) := by decide +kernel
theorem dX5_commit_145 : decode cX5_commit 145 = .ok (.iload_n 1, 1) := by decide +kernel
theorem dX5_commit_146 : decode cX5_commit 146 = .ok (.if_icmp .ge 123, 3) := by decide +kernel
theorem dX5_commit_149 : decode cX5_commit 149 = .ok (.aload_n 0, 1) := by decide +kernel
theorem dX5_commit_150 : decode cX5_commit 150 = .ok (.invokevirtual 63, 3) := by decide +kernel
theorem dX5_commit_153 : decode cX5_commit 153 = .ok (.aload_n 0, 1) := by decide +kernel
theorem dX5_commit_154 : decode cX5_commit 154 = .ok (.getfield 30, 3) := by decide +kernel
theorem dX5_commit_157 : decode cX5_commit 157 = .ok (.iconst 0, 1) := by decide +kernel
theorem dX5_commit_158 : decode cX5_commit 158 = .ok (.aload_n 0, 1) := by decide +kernel
theorem dX5_commit_159 : decode cX5_commit 159 = .ok (.getfield 85, 3) := by decide +kernel
theorem dX5_commit_162 : decode cX5_commit 162 = .ok (.iastore, 1) := by decide +kernel
theorem dX5_commit_163 : decode cX5_commit 163 = .ok (.aload_n 0, 1) := by decide +kernel
theorem dX5_commit_164 : decode cX5_commit 164 = .ok (.getfield 30, 3) := by decide +kernel
theorem dX5_commit_167 : decode cX5_commit 167 = .ok (.iconst 1, 1) := by decide +kernel
theorem dX5_commit_168 : decode cX5_commit 168 = .ok (.aload_n 0, 1) := by decide +kernel
theorem dX5_commit_169 : decode cX5_commit 169 = .ok (.getfield 94, 3) := by decide +kernel
theorem dX5_commit_172 : decode cX5_commit 172 = .ok (.iconst 1, 1) := by decide +kernel
theorem dX5_commit_173 : decode cX5_commit 173 = .ok (.iadd, 1) := by decide +kernel
theorem dX5_commit_174 : decode cX5_commit 174 = .ok (.iastore, 1) := by decide +kernel
theorem dX5_commit_175 : decode cX5_commit 175 = .ok (.aload_n 0, 1) := by decide +kernel
theorem dX5_commit_176 : decode cX5_commit 176 = .ok (.getfield 30, 3) := by decide +kernel
theorem dX5_commit_179 : decode cX5_commit 179 = .ok (.iconst 2, 1) := by decide +kernel
theorem dX5_commit_180 : decode cX5_commit 180 = .ok (.iload_n 3, 1) := by decide +kernel
theorem dX5_commit_181 : decode cX5_commit 181 = .ok (.iastore, 1) := by decide +kernel
theorem dX5_commit_182 : decode cX5_commit 182 = .ok (.aload_n 0, 1) := by decide +kernel
theorem dX5_commit_183 : decode cX5_commit 183 = .ok (.getfield 30, 3) := by decide +kernel
theorem dX5_commit_186 : decode cX5_commit 186 = .ok (.iconst 3, 1) := by decide +kernel
theorem dX5_commit_187 : decode cX5_commit 187 = .ok (.aload_n 0, 1) := by decide +kernel
theorem dX5_commit_188 : decode cX5_commit 188 = .ok (.getfield 88, 3) := by decide +kernel
theorem dX5_commit_191 : decode cX5_commit 191 = .ok (.iastore, 1) := by decide +kernel
theorem dX5_commit_192 : decode cX5_commit 192 = .ok (.iconst 0, 1) := by decide +kernel
theorem dX5_commit_193 : decode cX5_commit 193 = .ok (.istore 4, 2) := by decide +kernel
theorem dX5_commit_195 : decode cX5_commit 195 = .ok (.iload 4, 2) := by decide +kernel
theorem dX5_commit_197 : decode cX5_commit 197 = .ok (.aload_n 0, 1) := by decide +kernel
theorem dX5_commit_198 : decode cX5_commit 198 = .ok (.invokevirtual 115, 3) := by decide +kernel
theorem dX5_commit_201 : decode cX5_commit 201 = .ok (.if_icmp .ge 45, 3) := by decide +kernel
theorem dX5_commit_204 : decode cX5_commit 204 = .ok (.aload_n 0, 1) := by decide +kernel
theorem dX5_commit_205 : decode cX5_commit 205 = .ok (.invokevirtual 115, 3) := by decide +kernel
theorem dX5_commit_208 : decode cX5_commit 208 = .ok (.iload_n 3, 1) := by decide +kernel
theorem dX5_commit_209 : decode cX5_commit 209 = .ok (.imul, 1) := by decide +kernel
theorem dX5_commit_210 : decode cX5_commit 210 = .ok (.iload 4, 2) := by decide +kernel
theorem dX5_commit_212 : decode cX5_commit 212 = .ok (.iadd, 1) := by decide +kernel
theorem dX5_commit_213 : decode cX5_commit 213 = .ok (.iload_n 2, 1) := by decide +kernel
theorem dX5_commit_214 : decode cX5_commit 214 = .ok (.if_icmp .ge 32, 3) := by decide +kernel
theorem dX5_commit_217 : decode cX5_commit 217 = .ok (.aload_n 0, 1) := by decide +kernel
theorem dX5_commit_218 : decode cX5_commit 218 = .ok (.getfield 30, 3) := by decide +kernel
theorem dX5_commit_221 : decode cX5_commit 221 = .ok (.iconst 4, 1) := by decide +kernel
theorem dX5_commit_222 : decode cX5_commit 222 = .ok (.iload 4, 2) := by decide +kernel
theorem dX5_commit_224 : decode cX5_commit 224 = .ok (.iadd, 1) := by decide +kernel
theorem dX5_commit_225 : decode cX5_commit 225 = .ok (.aload_n 0, 1) := by decide +kernel
theorem dX5_commit_226 : decode cX5_commit 226 = .ok (.getfield 39, 3) := by decide +kernel
theorem dX5_commit_229 : decode cX5_commit 229 = .ok (.aload_n 0, 1) := by decide +kernel
theorem dX5_commit_230 : decode cX5_commit 230 = .ok (.invokevirtual 115, 3) := by decide +kernel
theorem dX5_commit_233 : decode cX5_commit 233 = .ok (.iload_n 3, 1) := by decide +kernel
theorem dX5_commit_234 : decode cX5_commit 234 = .ok (.imul, 1) := by decide +kernel
theorem dX5_commit_235 : decode cX5_commit 235 = .ok (.iload 4, 2) := by decide +kernel
theorem dX5_commit_237 : decode cX5_commit 237 = .ok (.iadd, 1) := by decide +kernel
theorem dX5_commit_238 : decode cX5_commit 238 = .ok (.iaload, 1) := by decide +kernel
theorem dX5_commit_239 : decode cX5_commit 239 = .ok (.iastore, 1) := by decide +kernel
theorem dX5_commit_240 : decode cX5_commit 240 = .ok (.iinc 4 1, 3) := by decide +kernel
theorem dX5_commit_243 : decode cX5_commit 243 = .ok (.goto (-48), 3) := by decide +kernel
theorem dX5_commit_246 : decode cX5_commit 246 = .ok (.aload_n 0, 1) := by decide +kernel
theorem dX5_commit_247 : decode cX5_commit 247 = .ok (.iconst 1, 1) := by decide +kernel
theorem dX5_commit_248 : decode cX5_commit 248 = .ok (.aload_n 0, 1) := by decide +kernel
theorem dX5_commit_249 : decode cX5_commit 249 = .ok (.getfield 91, 3) := by decide +kernel
theorem dX5_commit_252 : decode cX5_commit 252 = .ok (.iadd, 1) := by decide +kernel
theorem dX5_commit_253 : decode cX5_commit 253 = .ok (.iload_n 3, 1) := by decide +kernel
theorem dX5_commit_254 : decode cX5_commit 254 = .ok (.iadd, 1) := by decide +kernel
theorem dX5_commit_255 : decode cX5_commit 255 = .ok (.invokevirtual 67, 3) := by decide +kernel
theorem dX5_commit_258 : decode cX5_commit 258 = .ok (.ifCond .ne 5, 3) := by decide +kernel
theorem dX5_commit_261 : decode cX5_commit 261 = .ok (.iconst (-1), 1) := by decide +kernel
theorem dX5_commit_262 : decode cX5_commit 262 = .ok (.ireturn, 1) := by decide +kernel
theorem dX5_commit_263 : decode cX5_commit 263 = .ok (.iinc 3 1, 3) := by decide +kernel
theorem dX5_commit_266 : decode cX5_commit 266 = .ok (.goto (-122), 3) := by decide +kernel
theorem dX5_commit_269 : decode cX5_commit 269 = .ok (.aload_n 0, 1) := by decide +kernel
theorem dX5_commit_270 : decode cX5_commit 270 = .ok (.dup, 1) := by decide +kernel
theorem dX5_commit_271 : decode cX5_commit 271 = .ok (.getfield 91, 3) := by decide +kernel
theorem dX5_commit_274 : decode cX5_commit 274 = .ok (.iload_n 1, 1) := by decide +kernel
theorem dX5_commit_275 : decode cX5_commit 275 = .ok (.iadd, 1) := by decide +kernel
theorem dX5_commit_276 : decode cX5_commit 276 = .ok (.putfield 91, 3) := by decide +kernel
theorem dX5_commit_279 : decode cX5_commit 279 = .ok (.iload_n 1, 1) := by decide +kernel
theorem dX5_commit_280 : decode cX5_commit 280 = .ok (.ifCond .le 13, 3) := by decide +kernel
theorem dX5_commit_283 : decode cX5_commit 283 = .ok (.aload_n 0, 1) := by decide +kernel
theorem dX5_commit_284 : decode cX5_commit 284 = .ok (.dup, 1) := by decide +kernel
theorem dX5_commit_285 : decode cX5_commit 285 = .ok (.getfield 94, 3) := by decide +kernel
theorem dX5_commit_288 : decode cX5_commit 288 = .ok (.iconst 1, 1) := by decide +kernel
theorem dX5_commit_289 : decode cX5_commit 289 = .ok (.iadd, 1) := by decide +kernel
theorem dX5_commit_290 : decode cX5_commit 290 = .ok (.putfield 94, 3) := by decide +kernel
theorem dX5_commit_293 : decode cX5_commit 293 = .ok (.iconst 0, 1) := by decide +kernel
theorem dX5_commit_294 : decode cX5_commit 294 = .ok (.istore_n 3, 1) := by decide +kernel
theorem dX5_commit_295 : decode cX5_commit 295 = .ok (.iload_n 3, 1) := by decide +kernel
theorem dX5_commit_296 : decode cX5_commit 296 = .ok (.aload_n 0, 1) := by decide +kernel
theorem dX5_commit_297 : decode cX5_commit 297 = .ok (.getfield 104, 3) := by decide +kernel
theorem dX5_commit_300 : decode cX5_commit 300 = .ok (.if_icmp .ge 47, 3) := by decide +kernel
theorem dX5_commit_303 : decode cX5_commit 303 = .ok (.aload_n 0, 1) := by decide +kernel
theorem dX5_commit_304 : decode cX5_commit 304 = .ok (.getfield 26, 3) := by decide +kernel
theorem dX5_commit_307 : decode cX5_commit 307 = .ok (.iload_n 3, 1) := by decide +kernel
theorem dX5_commit_308 : decode cX5_commit 308 = .ok (.baload, 1) := by decide +kernel
theorem dX5_commit_309 : decode cX5_commit 309 = .ok (.ifCond .eq 16, 3) := by decide +kernel
theorem dX5_commit_312 : decode cX5_commit 312 = .ok (.aload_n 0, 1) := by decide +kernel
theorem dX5_commit_313 : decode cX5_commit 313 = .ok (.aload_n 0, 1) := by decide +kernel
theorem dX5_commit_314 : decode cX5_commit 314 = .ok (.getfield 20, 3) := by decide +kernel
theorem dX5_commit_317 : decode cX5_commit 317 = .ok (.iload_n 3, 1) := by decide +kernel
theorem dX5_commit_318 : decode cX5_commit 318 = .ok (.iaload, 1) := by decide +kernel
theorem dX5_commit_319 : decode cX5_commit 319 = .ok (.invokevirtual 136, 3) := by decide +kernel
theorem dX5_commit_322 : decode cX5_commit 322 = .ok (.goto 19, 3) := by decide +kernel
theorem dX5_commit_325 : decode cX5_commit 325 = .ok (.aload_n 0, 1) := by decide +kernel
theorem dX5_commit_326 : decode cX5_commit 326 = .ok (.aload_n 0, 1) := by decide +kernel
theorem dX5_commit_327 : decode cX5_commit 327 = .ok (.getfield 20, 3) := by decide +kernel
theorem dX5_commit_330 : decode cX5_commit 330 = .ok (.iload_n 3, 1) := by decide +kernel
theorem dX5_commit_331 : decode cX5_commit 331 = .ok (.iaload, 1) := by decide +kernel
theorem dX5_commit_332 : decode cX5_commit 332 = .ok (.aload_n 0, 1) := by decide +kernel
theorem dX5_commit_333 : decode cX5_commit 333 = .ok (.getfield 23, 3) := by decide +kernel
theorem dX5_commit_336 : decode cX5_commit 336 = .ok (.iload_n 3, 1) := by decide +kernel
theorem dX5_commit_337 : decode cX5_commit 337 = .ok (.iaload, 1) := by decide +kernel
theorem dX5_commit_338 : decode cX5_commit 338 = .ok (.invokevirtual 132, 3) := by decide +kernel
theorem dX5_commit_341 : decode cX5_commit 341 = .ok (.iinc 3 1, 3) := by decide +kernel
theorem dX5_commit_344 : decode cX5_commit 344 = .ok (.goto (-49), 3) := by decide +kernel
theorem dX5_commit_347 : decode cX5_commit 347 = .ok (.aload_n 0, 1) := by decide +kernel
theorem dX5_commit_348 : decode cX5_commit 348 = .ok (.iconst 0, 1) := by decide +kernel
theorem dX5_commit_349 : decode cX5_commit 349 = .ok (.putfield 56, 3) := by decide +kernel
theorem dX5_commit_352 : decode cX5_commit 352 = .ok (.iconst 0, 1) := by decide +kernel
theorem dX5_commit_353 : decode cX5_commit 353 = .ok (.ireturn, 1) := by decide +kernel
theorem dX5_abort_0 : decode cX5_abort 0 = .ok (.aload_n 0, 1) := by decide +kernel
theorem dX5_abort_1 : decode cX5_abort 1 = .ok (.getfield 53, 3) := by decide +kernel
theorem dX5_abort_4 : decode cX5_abort 4 = .ok (.iconst 2, 1) := by decide +kernel
theorem dX5_abort_5 : decode cX5_abort 5 = .ok (.if_icmp .eq 8, 3) := by decide +kernel
theorem dX5_abort_8 : decode cX5_abort 8 = .ok (.aload_n 0, 1) := by decide +kernel
theorem dX5_abort_9 : decode cX5_abort 9 = .ok (.invokevirtual 77, 3) := by decide +kernel
theorem dX5_abort_12 : decode cX5_abort 12 = .ok (.ireturn, 1) := by decide +kernel
theorem dX5_abort_13 : decode cX5_abort 13 = .ok (.aload_n 0, 1) := by decide +kernel
theorem dX5_abort_14 : decode cX5_abort 14 = .ok (.getfield 56, 3) := by decide +kernel
theorem dX5_abort_17 : decode cX5_abort 17 = .ok (.ifCond .ne 6, 3) := by decide +kernel
theorem dX5_abort_20 : decode cX5_abort 20 = .ok (.bipush (-3), 2) := by decide +kernel
theorem dX5_abort_22 : decode cX5_abort 22 = .ok (.ireturn, 1) := by decide +kernel
theorem dX5_abort_23 : decode cX5_abort 23 = .ok (.aload_n 0, 1) := by decide +kernel
theorem dX5_abort_24 : decode cX5_abort 24 = .ok (.iconst 0, 1) := by decide +kernel
theorem dX5_abort_25 : decode cX5_abort 25 = .ok (.putfield 56, 3) := by decide +kernel
theorem dX5_abort_28 : decode cX5_abort 28 = .ok (.iconst 0, 1) := by decide +kernel
theorem dX5_abort_29 : decode cX5_abort 29 = .ok (.ireturn, 1) := by decide +kernel
theorem dX5_treeBlocks_0 : decode cX5_treeBlocks 0 = .ok (.aload_n 0, 1) := by decide +kernel
theorem dX5_treeBlocks_1 : decode cX5_treeBlocks 1 = .ok (.getfield 97, 3) := by decide +kernel
theorem dX5_treeBlocks_4 : decode cX5_treeBlocks 4 = .ok (.aload_n 0, 1) := by decide +kernel
theorem dX5_treeBlocks_5 : decode cX5_treeBlocks 5 = .ok (.invokevirtual 156, 3) := by decide +kernel
theorem dX5_treeBlocks_8 : decode cX5_treeBlocks 8 = .ok (.iadd, 1) := by decide +kernel
theorem dX5_treeBlocks_9 : decode cX5_treeBlocks 9 = .ok (.iconst 1, 1) := by decide +kernel
theorem dX5_treeBlocks_10 : decode cX5_treeBlocks 10 = .ok (.isub, 1) := by decide +kernel
theorem dX5_treeBlocks_11 : decode cX5_treeBlocks 11 = .ok (.aload_n 0, 1) := by decide +kernel
theorem dX5_treeBlocks_12 : decode cX5_treeBlocks 12 = .ok (.invokevirtual 156, 3) := by decide +kernel
theorem dX5_treeBlocks_15 : decode cX5_treeBlocks 15 = .ok (.idiv, 1) := by decide +kernel
theorem dX5_treeBlocks_16 : decode cX5_treeBlocks 16 = .ok (.istore_n 1, 1) := by decide +kernel
theorem dX5_treeBlocks_17 : decode cX5_treeBlocks 17 = .ok (.iload_n 1, 1) := by decide +kernel
theorem dX5_treeBlocks_18 : decode cX5_treeBlocks 18 = .ok (.istore_n 2, 1) := by decide +kernel
theorem dX5_treeBlocks_19 : decode cX5_treeBlocks 19 = .ok (.iload_n 1, 1) := by decide +kernel
theorem dX5_treeBlocks_20 : decode cX5_treeBlocks 20 = .ok (.iconst 1, 1) := by decide +kernel
theorem dX5_treeBlocks_21 : decode cX5_treeBlocks 21 = .ok (.if_icmp .le 24, 3) := by decide +kernel
theorem dX5_treeBlocks_24 : decode cX5_treeBlocks 24 = .ok (.iload_n 1, 1) := by decide +kernel
theorem dX5_treeBlocks_25 : decode cX5_treeBlocks 25 = .ok (.aload_n 0, 1) := by decide +kernel
theorem dX5_treeBlocks_26 : decode cX5_treeBlocks 26 = .ok (.invokevirtual 156, 3) := by decide +kernel
theorem dX5_treeBlocks_29 : decode cX5_treeBlocks 29 = .ok (.iadd, 1) := by decide +kernel
theorem dX5_treeBlocks_30 : decode cX5_treeBlocks 30 = .ok (.iconst 1, 1) := by decide +kernel
theorem dX5_treeBlocks_31 : decode cX5_treeBlocks 31 = .ok (.isub, 1) := by decide +kernel
theorem dX5_treeBlocks_32 : decode cX5_treeBlocks 32 = .ok (.aload_n 0, 1) := by decide +kernel
theorem dX5_treeBlocks_33 : decode cX5_treeBlocks 33 = .ok (.invokevirtual 156, 3) := by decide +kernel
theorem dX5_treeBlocks_36 : decode cX5_treeBlocks 36 = .ok (.idiv, 1) := by decide +kernel
theorem dX5_treeBlocks_37 : decode cX5_treeBlocks 37 = .ok (.istore_n 1, 1) := by decide +kernel
theorem dX5_treeBlocks_38 : decode cX5_treeBlocks 38 = .ok (.iload_n 2, 1) := by decide +kernel
theorem dX5_treeBlocks_39 : decode cX5_treeBlocks 39 = .ok (.iload_n 1, 1) := by decide +kernel
theorem dX5_treeBlocks_40 : decode cX5_treeBlocks 40 = .ok (.iadd, 1) := by decide +kernel
theorem dX5_treeBlocks_41 : decode cX5_treeBlocks 41 = .ok (.istore_n 2, 1) := by decide +kernel
theorem dX5_treeBlocks_42 : decode cX5_treeBlocks 42 = .ok (.goto (-23), 3) := by decide +kernel
theorem dX5_treeBlocks_45 : decode cX5_treeBlocks 45 = .ok (.iload_n 2, 1) := by decide +kernel
theorem dX5_treeBlocks_46 : decode cX5_treeBlocks 46 = .ok (.ireturn, 1) := by decide +kernel
theorem dX5_checkpoint_0 : decode cX5_checkpoint 0 = .ok (.aload_n 0, 1) := by decide +kernel
theorem dX5_checkpoint_1 : decode cX5_checkpoint 1 = .ok (.getfield 53, 3) := by decide +kernel
theorem dX5_checkpoint_4 : decode cX5_checkpoint 4 = .ok (.iconst 2, 1) := by decide +kernel
theorem dX5_checkpoint_5 : decode cX5_checkpoint 5 = .ok (.if_icmp .eq 8, 3) := by decide +kernel
theorem dX5_checkpoint_8 : decode cX5_checkpoint 8 = .ok (.aload_n 0, 1) := by decide +kernel
theorem dX5_checkpoint_9 : decode cX5_checkpoint 9 = .ok (.invokevirtual 77, 3) := by decide +kernel
theorem dX5_checkpoint_12 : decode cX5_checkpoint 12 = .ok (.ireturn, 1) := by decide +kernel
theorem dX5_checkpoint_13 : decode cX5_checkpoint 13 = .ok (.aload_n 0, 1) := by decide +kernel
theorem dX5_checkpoint_14 : decode cX5_checkpoint 14 = .ok (.getfield 56, 3) := by decide +kernel
theorem dX5_checkpoint_17 : decode cX5_checkpoint 17 = .ok (.ifCond .eq 6, 3) := by decide +kernel
theorem dX5_checkpoint_20 : decode cX5_checkpoint 20 = .ok (.bipush (-4), 2) := by decide +kernel
theorem dX5_checkpoint_22 : decode cX5_checkpoint 22 = .ok (.ireturn, 1) := by decide +kernel
theorem dX5_checkpoint_23 : decode cX5_checkpoint 23 = .ok (.aload_n 0, 1) := by decide +kernel
theorem dX5_checkpoint_24 : decode cX5_checkpoint 24 = .ok (.invokevirtual 159, 3) := by decide +kernel
theorem dX5_checkpoint_27 : decode cX5_checkpoint 27 = .ok (.aload_n 0, 1) := by decide +kernel
theorem dX5_checkpoint_28 : decode cX5_checkpoint 28 = .ok (.invokevirtual 162, 3) := by decide +kernel
theorem dX5_checkpoint_31 : decode cX5_checkpoint 31 = .ok (.if_icmp .le 6, 3) := by decide +kernel
theorem dX5_checkpoint_34 : decode cX5_checkpoint 34 = .ok (.bipush (-6), 2) := by decide +kernel
theorem dX5_checkpoint_36 : decode cX5_checkpoint 36 = .ok (.ireturn, 1) := by decide +kernel
theorem dX5_checkpoint_37 : decode cX5_checkpoint 37 = .ok (.iconst 1, 1) := by decide +kernel
theorem dX5_checkpoint_38 : decode cX5_checkpoint 38 = .ok (.aload_n 0, 1) := by decide +kernel
theorem dX5_checkpoint_39 : decode cX5_checkpoint 39 = .ok (.getfield 8, 3) := by decide +kernel
theorem dX5_checkpoint_42 : decode cX5_checkpoint 42 = .ok (.iconst 3, 1) := by decide +kernel
theorem dX5_checkpoint_43 : decode cX5_checkpoint 43 = .ok (.iaload, 1) := by decide +kernel
theorem dX5_checkpoint_44 : decode cX5_checkpoint 44 = .ok (.isub, 1) := by decide +kernel
theorem dX5_checkpoint_45 : decode cX5_checkpoint 45 = .ok (.istore_n 1, 1) := by decide +kernel
theorem dX5_checkpoint_46 : decode cX5_checkpoint 46 = .ok (.aload_n 0, 1) := by decide +kernel
theorem dX5_checkpoint_47 : decode cX5_checkpoint 47 = .ok (.getfield 74, 3) := by decide +kernel
theorem dX5_checkpoint_50 : decode cX5_checkpoint 50 = .ok (.iconst 1, 1) := by decide +kernel
theorem dX5_checkpoint_51 : decode cX5_checkpoint 51 = .ok (.iadd, 1) := by decide +kernel
theorem dX5_checkpoint_52 : decode cX5_checkpoint 52 = .ok (.iload_n 1, 1) := by decide +kernel
theorem dX5_checkpoint_53 : decode cX5_checkpoint 53 = .ok (.aload_n 0, 1) := by decide +kernel
theorem dX5_checkpoint_54 : decode cX5_checkpoint 54 = .ok (.invokevirtual 162, 3) := by decide +kernel
theorem dX5_checkpoint_57 : decode cX5_checkpoint 57 = .ok (.imul, 1) := by decide +kernel
theorem dX5_checkpoint_58 : decode cX5_checkpoint 58 = .ok (.iadd, 1) := by decide +kernel
theorem dX5_checkpoint_59 : decode cX5_checkpoint 59 = .ok (.istore_n 2, 1) := by decide +kernel
theorem dX5_checkpoint_60 : decode cX5_checkpoint 60 = .ok (.iconst 0, 1) := by decide +kernel
theorem dX5_checkpoint_61 : decode cX5_checkpoint 61 = .ok (.istore_n 3, 1) := by decide +kernel
theorem dX5_checkpoint_62 : decode cX5_checkpoint 62 = .ok (.iconst 0, 1) := by decide +kernel
theorem dX5_checkpoint_63 : decode cX5_checkpoint 63 = .ok (.istore 4, 2) := by decide +kernel
theorem dX5_checkpoint_65 : decode cX5_checkpoint 65 = .ok (.iload 4, 2) := by decide +kernel
theorem dX5_checkpoint_67 : decode cX5_checkpoint 67 = .ok (.aload_n 0, 1) := by decide +kernel
theorem dX5_checkpoint_68 : decode cX5_checkpoint 68 = .ok (.getfield 97, 3) := by decide +kernel
theorem dX5_checkpoint_71 : decode cX5_checkpoint 71 = .ok (.if_icmp .ge 158, 3) := by decide +kernel
theorem dX5_checkpoint_74 : decode cX5_checkpoint 74 = .ok (.aload_n 0, 1) := by decide +kernel
theorem dX5_checkpoint_75 : decode cX5_checkpoint 75 = .ok (.getfield 97, 3) := by decide +kernel
theorem dX5_checkpoint_78 : decode cX5_checkpoint 78 = .ok (.iload 4, 2) := by decide +kernel
theorem dX5_checkpoint_80 : decode cX5_checkpoint 80 = .ok (.isub, 1) := by decide +kernel
theorem dX5_checkpoint_81 : decode cX5_checkpoint 81 = .ok (.aload_n 0, 1) := by decide +kernel
theorem dX5_checkpoint_82 : decode cX5_checkpoint 82 = .ok (.invokevirtual 156, 3) := by decide +kernel
theorem dX5_checkpoint_85 : decode cX5_checkpoint 85 = .ok (.if_icmp .ge 13, 3) := by decide +kernel
theorem dX5_checkpoint_88 : decode cX5_checkpoint 88 = .ok (.aload_n 0, 1) := by decide +kernel
theorem dX5_checkpoint_89 : decode cX5_checkpoint 89 = .ok (.getfield 97, 3) := by decide +kernel
theorem dX5_checkpoint_92 : decode cX5_checkpoint 92 = .ok (.iload 4, 2) := by decide +kernel
theorem dX5_checkpoint_94 : decode cX5_checkpoint 94 = .ok (.isub, 1) := by decide +kernel
theorem dX5_checkpoint_95 : decode cX5_checkpoint 95 = .ok (.goto 7, 3) := by decide +kernel
theorem dX5_checkpoint_98 : decode cX5_checkpoint 98 = .ok (.aload_n 0, 1) := by decide +kernel
theorem dX5_checkpoint_99 : decode cX5_checkpoint 99 = .ok (.invokevirtual 156, 3) := by decide +kernel
theorem dX5_checkpoint_102 : decode cX5_checkpoint 102 = .ok (.istore 5, 2) := by decide +kernel
theorem dX5_checkpoint_104 : decode cX5_checkpoint 104 = .ok (.aload_n 0, 1) := by decide +kernel
theorem dX5_checkpoint_105 : decode cX5_checkpoint 105 = .ok (.invokevirtual 63, 3) := by decide +kernel
theorem dX5_checkpoint_108 : decode cX5_checkpoint 108 = .ok (.aload_n 0, 1) := by decide +kernel
theorem dX5_checkpoint_109 : decode cX5_checkpoint 109 = .ok (.getfield 30, 3) := by decide +kernel
theorem dX5_checkpoint_112 : decode cX5_checkpoint 112 = .ok (.iconst 0, 1) := by decide +kernel
theorem dX5_checkpoint_113 : decode cX5_checkpoint 113 = .ok (.iconst 1, 1) := by decide +kernel
theorem dX5_checkpoint_114 : decode cX5_checkpoint 114 = .ok (.iastore, 1) := by decide +kernel
theorem dX5_checkpoint_115 : decode cX5_checkpoint 115 = .ok (.aload_n 0, 1) := by decide +kernel
theorem dX5_checkpoint_116 : decode cX5_checkpoint 116 = .ok (.getfield 30, 3) := by decide +kernel
theorem dX5_checkpoint_119 : decode cX5_checkpoint 119 = .ok (.iconst 1, 1) := by decide +kernel
theorem dX5_checkpoint_120 : decode cX5_checkpoint 120 = .ok (.iload 5, 2) := by decide +kernel
theorem dX5_checkpoint_122 : decode cX5_checkpoint 122 = .ok (.iastore, 1) := by decide +kernel
theorem dX5_checkpoint_123 : decode cX5_checkpoint 123 = .ok (.iconst 0, 1) := by decide +kernel
theorem dX5_checkpoint_124 : decode cX5_checkpoint 124 = .ok (.istore 6, 2) := by decide +kernel
theorem dX5_checkpoint_126 : decode cX5_checkpoint 126 = .ok (.iload 6, 2) := by decide +kernel
theorem dX5_checkpoint_128 : decode cX5_checkpoint 128 = .ok (.iload 5, 2) := by decide +kernel
theorem dX5_checkpoint_130 : decode cX5_checkpoint 130 = .ok (.if_icmp .ge 51, 3) := by decide +kernel
theorem dX5_checkpoint_133 : decode cX5_checkpoint 133 = .ok (.aload_n 0, 1) := by decide +kernel
theorem dX5_checkpoint_134 : decode cX5_checkpoint 134 = .ok (.getfield 30, 3) := by decide +kernel
theorem dX5_checkpoint_137 : decode cX5_checkpoint 137 = .ok (.iconst 2, 1) := by decide +kernel
theorem dX5_checkpoint_138 : decode cX5_checkpoint 138 = .ok (.iconst 2, 1) := by decide +kernel
theorem dX5_checkpoint_139 : decode cX5_checkpoint 139 = .ok (.iload 6, 2) := by decide +kernel
theorem dX5_checkpoint_141 : decode cX5_checkpoint 141 = .ok (.imul, 1) := by decide +kernel
theorem dX5_checkpoint_142 : decode cX5_checkpoint 142 = .ok (.iadd, 1) := by decide +kernel
theorem dX5_checkpoint_143 : decode cX5_checkpoint 143 = .ok (.aload_n 0, 1) := by decide +kernel
theorem dX5_checkpoint_144 : decode cX5_checkpoint 144 = .ok (.getfield 14, 3) := by decide +kernel
theorem dX5_checkpoint_147 : decode cX5_checkpoint 147 = .ok (.iload 4, 2) := by decide +kernel
theorem dX5_checkpoint_149 : decode cX5_checkpoint 149 = .ok (.iload 6, 2) := by decide +kernel
theorem dX5_checkpoint_151 : decode cX5_checkpoint 151 = .ok (.iadd, 1) := by decide +kernel
theorem dX5_checkpoint_152 : decode cX5_checkpoint 152 = .ok (.iaload, 1) := by decide +kernel
theorem dX5_checkpoint_153 : decode cX5_checkpoint 153 = .ok (.iastore, 1) := by decide +kernel
theorem dX5_checkpoint_154 : decode cX5_checkpoint 154 = .ok (.aload_n 0, 1) := by decide +kernel
theorem dX5_checkpoint_155 : decode cX5_checkpoint 155 = .ok (.getfield 30, 3) := by decide +kernel
theorem dX5_checkpoint_158 : decode cX5_checkpoint 158 = .ok (.iconst 3, 1) := by decide +kernel
theorem dX5_checkpoint_159 : decode cX5_checkpoint 159 = .ok (.iconst 2, 1) := by decide +kernel
theorem dX5_checkpoint_160 : decode cX5_checkpoint 160 = .ok (.iload 6, 2) := by decide +kernel
theorem dX5_checkpoint_162 : decode cX5_checkpoint 162 = .ok (.imul, 1) := by decide +kernel
theorem dX5_checkpoint_163 : decode cX5_checkpoint 163 = .ok (.iadd, 1) := by decide +kernel
theorem dX5_checkpoint_164 : decode cX5_checkpoint 164 = .ok (.aload_n 0, 1) := by decide +kernel
theorem dX5_checkpoint_165 : decode cX5_checkpoint 165 = .ok (.getfield 17, 3) := by decide +kernel
theorem dX5_checkpoint_168 : decode cX5_checkpoint 168 = .ok (.iload 4, 2) := by decide +kernel
theorem dX5_checkpoint_170 : decode cX5_checkpoint 170 = .ok (.iload 6, 2) := by decide +kernel
theorem dX5_checkpoint_172 : decode cX5_checkpoint 172 = .ok (.iadd, 1) := by decide +kernel
theorem dX5_checkpoint_173 : decode cX5_checkpoint 173 = .ok (.iaload, 1) := by decide +kernel
theorem dX5_checkpoint_174 : decode cX5_checkpoint 174 = .ok (.iastore, 1) := by decide +kernel
theorem dX5_checkpoint_175 : decode cX5_checkpoint 175 = .ok (.iinc 6 1, 3) := by decide +kernel
theorem dX5_checkpoint_178 : decode cX5_checkpoint 178 = .ok (.goto (-52), 3) := by decide +kernel
theorem dX5_checkpoint_181 : decode cX5_checkpoint 181 = .ok (.aload_n 0, 1) := by decide +kernel
theorem dX5_checkpoint_182 : decode cX5_checkpoint 182 = .ok (.iload_n 2, 1) := by decide +kernel
theorem dX5_checkpoint_183 : decode cX5_checkpoint 183 = .ok (.invokevirtual 67, 3) := by decide +kernel
theorem dX5_checkpoint_186 : decode cX5_checkpoint 186 = .ok (.ifCond .ne 5, 3) := by decide +kernel
theorem dX5_checkpoint_189 : decode cX5_checkpoint 189 = .ok (.iconst (-1), 1) := by decide +kernel
theorem dX5_checkpoint_190 : decode cX5_checkpoint 190 = .ok (.ireturn, 1) := by decide +kernel
theorem dX5_checkpoint_191 : decode cX5_checkpoint 191 = .ok (.aload_n 0, 1) := by decide +kernel
theorem dX5_checkpoint_192 : decode cX5_checkpoint 192 = .ok (.getfield 33, 3) := by decide +kernel
theorem dX5_checkpoint_195 : decode cX5_checkpoint 195 = .ok (.iload_n 3, 1) := by decide +kernel
theorem dX5_checkpoint_196 : decode cX5_checkpoint 196 = .ok (.aload_n 0, 1) := by decide +kernel
theorem dX5_checkpoint_197 : decode cX5_checkpoint 197 = .ok (.getfield 14, 3) := by decide +kernel
theorem dX5_checkpoint_200 : decode cX5_checkpoint 200 = .ok (.iload 4, 2) := by decide +kernel
theorem dX5_checkpoint_202 : decode cX5_checkpoint 202 = .ok (.iaload, 1) := by decide +kernel
theorem dX5_checkpoint_203 : decode cX5_checkpoint 203 = .ok (.iastore, 1) := by decide +kernel
theorem dX5_checkpoint_204 : decode cX5_checkpoint 204 = .ok (.aload_n 0, 1) := by decide +kernel
theorem dX5_checkpoint_205 : decode cX5_checkpoint 205 = .ok (.getfield 36, 3) := by decide +kernel
theorem dX5_checkpoint_208 : decode cX5_checkpoint 208 = .ok (.iload_n 3, 1) := by decide +kernel
theorem dX5_checkpoint_209 : decode cX5_checkpoint 209 = .ok (.iload_n 2, 1) := by decide +kernel
theorem dX5_checkpoint_210 : decode cX5_checkpoint 210 = .ok (.iastore, 1) := by decide +kernel
theorem dX5_checkpoint_211 : decode cX5_checkpoint 211 = .ok (.iinc 3 1, 3) := by decide +kernel
theorem dX5_checkpoint_214 : decode cX5_checkpoint 214 = .ok (.iinc 2 1, 3) := by decide +kernel
theorem dX5_checkpoint_217 : decode cX5_checkpoint 217 = .ok (.iload 4, 2) := by decide +kernel
theorem dX5_checkpoint_219 : decode cX5_checkpoint 219 = .ok (.aload_n 0, 1) := by decide +kernel
theorem dX5_checkpoint_220 : decode cX5_checkpoint 220 = .ok (.invokevirtual 156, 3) := by decide +kernel
theorem dX5_checkpoint_223 : decode cX5_checkpoint 223 = .ok (.iadd, 1) := by decide +kernel
theorem dX5_checkpoint_224 : decode cX5_checkpoint 224 = .ok (.istore 4, 2) := by decide +kernel
theorem dX5_checkpoint_226 : decode cX5_checkpoint 226 = .ok (.goto (-161), 3) := by decide +kernel
theorem dX5_checkpoint_229 : decode cX5_checkpoint 229 = .ok (.iload_n 3, 1) := by decide +kernel
theorem dX5_checkpoint_230 : decode cX5_checkpoint 230 = .ok (.iconst 1, 1) := by decide +kernel
theorem dX5_checkpoint_231 : decode cX5_checkpoint 231 = .ok (.if_icmp .le 172, 3) := by decide +kernel
theorem dX5_checkpoint_234 : decode cX5_checkpoint 234 = .ok (.iconst 0, 1) := by decide +kernel
theorem dX5_checkpoint_235 : decode cX5_checkpoint 235 = .ok (.istore 4, 2) := by decide +kernel
theorem dX5_checkpoint_237 : decode cX5_checkpoint 237 = .ok (.iconst 0, 1) := by decide +kernel
theorem dX5_checkpoint_238 : decode cX5_checkpoint 238 = .ok (.istore 5, 2) := by decide +kernel
theorem dX5_checkpoint_240 : decode cX5_checkpoint 240 = .ok (.iload 5, 2) := by decide +kernel
theorem dX5_checkpoint_242 : decode cX5_checkpoint 242 = .ok (.iload_n 3, 1) := by decide +kernel
theorem dX5_checkpoint_243 : decode cX5_checkpoint 243 = .ok (.if_icmp .ge 154, 3) := by decide +kernel
theorem dX5_checkpoint_246 : decode cX5_checkpoint 246 = .ok (.iload_n 3, 1) := by decide +kernel
theorem dX5_checkpoint_247 : decode cX5_checkpoint 247 = .ok (.iload 5, 2) := by decide +kernel
theorem dX5_checkpoint_249 : decode cX5_checkpoint 249 = .ok (.isub, 1) := by decide +kernel
theorem dX5_checkpoint_250 : decode cX5_checkpoint 250 = .ok (.aload_n 0, 1) := by decide +kernel
theorem dX5_checkpoint_251 : decode cX5_checkpoint 251 = .ok (.invokevirtual 156, 3) := by decide +kernel
theorem dX5_checkpoint_254 : decode cX5_checkpoint 254 = .ok (.if_icmp .ge 10, 3) := by decide +kernel
theorem dX5_checkpoint_257 : decode cX5_checkpoint 257 = .ok (.iload_n 3, 1) := by decide +kernel
theorem dX5_checkpoint_258 : decode cX5_checkpoint 258 = .ok (.iload 5, 2) := by decide +kernel
theorem dX5_checkpoint_260 : decode cX5_checkpoint 260 = .ok (.isub, 1) := by decide +kernel
theorem dX5_checkpoint_261 : decode cX5_checkpoint 261 = .ok (.goto 7, 3) := by decide +kernel
theorem dX5_checkpoint_264 : decode cX5_checkpoint 264 = .ok (.aload_n 0, 1) := by decide +kernel
theorem dX5_checkpoint_265 : decode cX5_checkpoint 265 = .ok (.invokevirtual 156, 3) := by decide +kernel
theorem dX5_checkpoint_268 : decode cX5_checkpoint 268 = .ok (.istore 6, 2) := by decide +kernel
theorem dX5_checkpoint_270 : decode cX5_checkpoint 270 = .ok (.aload_n 0, 1) := by decide +kernel
theorem dX5_checkpoint_271 : decode cX5_checkpoint 271 = .ok (.invokevirtual 63, 3) := by decide +kernel
theorem dX5_checkpoint_274 : decode cX5_checkpoint 274 = .ok (.aload_n 0, 1) := by decide +kernel
theorem dX5_checkpoint_275 : decode cX5_checkpoint 275 = .ok (.getfield 30, 3) := by decide +kernel
theorem dX5_checkpoint_278 : decode cX5_checkpoint 278 = .ok (.iconst 0, 1) := by decide +kernel
theorem dX5_checkpoint_279 : decode cX5_checkpoint 279 = .ok (.iconst 2, 1) := by decide +kernel
theorem dX5_checkpoint_280 : decode cX5_checkpoint 280 = .ok (.iastore, 1) := by decide +kernel
theorem dX5_checkpoint_281 : decode cX5_checkpoint 281 = .ok (.aload_n 0, 1) := by decide +kernel
theorem dX5_checkpoint_282 : decode cX5_checkpoint 282 = .ok (.getfield 30, 3) := by decide +kernel
theorem dX5_checkpoint_285 : decode cX5_checkpoint 285 = .ok (.iconst 1, 1) := by decide +kernel
theorem dX5_checkpoint_286 : decode cX5_checkpoint 286 = .ok (.iload 6, 2) := by decide +kernel
theorem dX5_checkpoint_288 : decode cX5_checkpoint 288 = .ok (.iastore, 1) := by decide +kernel
theorem dX5_checkpoint_289 : decode cX5_checkpoint 289 = .ok (.iconst 0, 1) := by decide +kernel
theorem dX5_checkpoint_290 : decode cX5_checkpoint 290 = .ok (.istore 7, 2) := by decide +kernel
theorem dX5_checkpoint_292 : decode cX5_checkpoint 292 = .ok (.iload 7, 2) := by decide +kernel
theorem dX5_checkpoint_294 : decode cX5_checkpoint 294 = .ok (.iload 6, 2) := by decide +kernel
theorem dX5_checkpoint_296 : decode cX5_checkpoint 296 = .ok (.if_icmp .ge 51, 3) := by decide +kernel
theorem dX5_checkpoint_299 : decode cX5_checkpoint 299 = .ok (.aload_n 0, 1) := by decide +kernel
theorem dX5_checkpoint_300 : decode cX5_checkpoint 300 = .ok (.getfield 30, 3) := by decide +kernel
theorem dX5_checkpoint_303 : decode cX5_checkpoint 303 = .ok (.iconst 2, 1) := by decide +kernel
theorem dX5_checkpoint_304 : decode cX5_checkpoint 304 = .ok (.iconst 2, 1) := by decide +kernel
theorem dX5_checkpoint_305 : decode cX5_checkpoint 305 = .ok (.iload 7, 2) := by decide +kernel
theorem dX5_checkpoint_307 : decode cX5_checkpoint 307 = .ok (.imul, 1) := by decide +kernel
theorem dX5_checkpoint_308 : decode cX5_checkpoint 308 = .ok (.iadd, 1) := by decide +kernel
theorem dX5_checkpoint_309 : decode cX5_checkpoint 309 = .ok (.aload_n 0, 1) := by decide +kernel
theorem dX5_checkpoint_310 : decode cX5_checkpoint 310 = .ok (.getfield 33, 3) := by decide +kernel
theorem dX5_checkpoint_313 : decode cX5_checkpoint 313 = .ok (.iload 5, 2) := by decide +kernel
theorem dX5_checkpoint_315 : decode cX5_checkpoint 315 = .ok (.iload 7, 2) := by decide +kernel
theorem dX5_checkpoint_317 : decode cX5_checkpoint 317 = .ok (.iadd, 1) := by decide +kernel
theorem dX5_checkpoint_318 : decode cX5_checkpoint 318 = .ok (.iaload, 1) := by decide +kernel
theorem dX5_checkpoint_319 : decode cX5_checkpoint 319 = .ok (.iastore, 1) := by decide +kernel
theorem dX5_checkpoint_320 : decode cX5_checkpoint 320 = .ok (.aload_n 0, 1) := by decide +kernel
theorem dX5_checkpoint_321 : decode cX5_checkpoint 321 = .ok (.getfield 30, 3) := by decide +kernel
theorem dX5_checkpoint_324 : decode cX5_checkpoint 324 = .ok (.iconst 3, 1) := by decide +kernel
theorem dX5_checkpoint_325 : decode cX5_checkpoint 325 = .ok (.iconst 2, 1) := by decide +kernel
theorem dX5_checkpoint_326 : decode cX5_checkpoint 326 = .ok (.iload 7, 2) := by decide +kernel
theorem dX5_checkpoint_328 : decode cX5_checkpoint 328 = .ok (.imul, 1) := by decide +kernel
theorem dX5_checkpoint_329 : decode cX5_checkpoint 329 = .ok (.iadd, 1) := by decide +kernel
theorem dX5_checkpoint_330 : decode cX5_checkpoint 330 = .ok (.aload_n 0, 1) := by decide +kernel
theorem dX5_checkpoint_331 : decode cX5_checkpoint 331 = .ok (.getfield 36, 3) := by decide +kernel
theorem dX5_checkpoint_334 : decode cX5_checkpoint 334 = .ok (.iload 5, 2) := by decide +kernel
theorem dX5_checkpoint_336 : decode cX5_checkpoint 336 = .ok (.iload 7, 2) := by decide +kernel
theorem dX5_checkpoint_338 : decode cX5_checkpoint 338 = .ok (.iadd, 1) := by decide +kernel
theorem dX5_checkpoint_339 : decode cX5_checkpoint 339 = .ok (.iaload, 1) := by decide +kernel
theorem dX5_checkpoint_340 : decode cX5_checkpoint 340 = .ok (.iastore, 1) := by decide +kernel
theorem dX5_checkpoint_341 : decode cX5_checkpoint 341 = .ok (.iinc 7 1, 3) := by decide +kernel
theorem dX5_checkpoint_344 : decode cX5_checkpoint 344 = .ok (.goto (-52), 3) := by decide +kernel
theorem dX5_checkpoint_347 : decode cX5_checkpoint 347 = .ok (.aload_n 0, 1) := by decide +kernel
theorem dX5_checkpoint_348 : decode cX5_checkpoint 348 = .ok (.iload_n 2, 1) := by decide +kernel
theorem dX5_checkpoint_349 : decode cX5_checkpoint 349 = .ok (.invokevirtual 67, 3) := by decide +kernel
theorem dX5_checkpoint_352 : decode cX5_checkpoint 352 = .ok (.ifCond .ne 5, 3) := by decide +kernel
theorem dX5_checkpoint_355 : decode cX5_checkpoint 355 = .ok (.iconst (-1), 1) := by decide +kernel
theorem dX5_checkpoint_356 : decode cX5_checkpoint 356 = .ok (.ireturn, 1) := by decide +kernel
theorem dX5_checkpoint_357 : decode cX5_checkpoint 357 = .ok (.aload_n 0, 1) := by decide +kernel
theorem dX5_checkpoint_358 : decode cX5_checkpoint 358 = .ok (.getfield 33, 3) := by decide +kernel
theorem dX5_checkpoint_361 : decode cX5_checkpoint 361 = .ok (.iload 4, 2) := by decide +kernel
theorem dX5_checkpoint_363 : decode cX5_checkpoint 363 = .ok (.aload_n 0, 1) := by decide +kernel
theorem dX5_checkpoint_364 : decode cX5_checkpoint 364 = .ok (.getfield 33, 3) := by decide +kernel
theorem dX5_checkpoint_367 : decode cX5_checkpoint 367 = .ok (.iload 5, 2) := by decide +kernel
theorem dX5_checkpoint_369 : decode cX5_checkpoint 369 = .ok (.iaload, 1) := by decide +kernel
theorem dX5_checkpoint_370 : decode cX5_checkpoint 370 = .ok (.iastore, 1) := by decide +kernel
theorem dX5_checkpoint_371 : decode cX5_checkpoint 371 = .ok (.aload_n 0, 1) := by decide +kernel
theorem dX5_checkpoint_372 : decode cX5_checkpoint 372 = .ok (.getfield 36, 3) := by decide +kernel
theorem dX5_checkpoint_375 : decode cX5_checkpoint 375 = .ok (.iload 4, 2) := by decide +kernel
theorem dX5_checkpoint_377 : decode cX5_checkpoint 377 = .ok (.iload_n 2, 1) := by decide +kernel
theorem dX5_checkpoint_378 : decode cX5_checkpoint 378 = .ok (.iastore, 1) := by decide +kernel
theorem dX5_checkpoint_379 : decode cX5_checkpoint 379 = .ok (.iinc 4 1, 3) := by decide +kernel
theorem dX5_checkpoint_382 : decode cX5_checkpoint 382 = .ok (.iinc 2 1, 3) := by decide +kernel
theorem dX5_checkpoint_385 : decode cX5_checkpoint 385 = .ok (.iload 5, 2) := by decide +kernel
theorem dX5_checkpoint_387 : decode cX5_checkpoint 387 = .ok (.aload_n 0, 1) := by decide +kernel
theorem dX5_checkpoint_388 : decode cX5_checkpoint 388 = .ok (.invokevirtual 156, 3) := by decide +kernel
theorem dX5_checkpoint_391 : decode cX5_checkpoint 391 = .ok (.iadd, 1) := by decide +kernel
theorem dX5_checkpoint_392 : decode cX5_checkpoint 392 = .ok (.istore 5, 2) := by decide +kernel
theorem dX5_checkpoint_394 : decode cX5_checkpoint 394 = .ok (.goto (-154), 3) := by decide +kernel
theorem dX5_checkpoint_397 : decode cX5_checkpoint 397 = .ok (.iload 4, 2) := by decide +kernel
theorem dX5_checkpoint_399 : decode cX5_checkpoint 399 = .ok (.istore_n 3, 1) := by decide +kernel
theorem dX5_checkpoint_400 : decode cX5_checkpoint 400 = .ok (.goto (-171), 3) := by decide +kernel
theorem dX5_checkpoint_403 : decode cX5_checkpoint 403 = .ok (.aload_n 0, 1) := by decide +kernel
theorem dX5_checkpoint_404 : decode cX5_checkpoint 404 = .ok (.aload_n 0, 1) := by decide +kernel
theorem dX5_checkpoint_405 : decode cX5_checkpoint 405 = .ok (.getfield 85, 3) := by decide +kernel
theorem dX5_checkpoint_408 : decode cX5_checkpoint 408 = .ok (.iconst 1, 1) := by decide +kernel
theorem dX5_checkpoint_409 : decode cX5_checkpoint 409 = .ok (.iadd, 1) := by decide +kernel
theorem dX5_checkpoint_410 : decode cX5_checkpoint 410 = .ok (.aload_n 0, 1) := by decide +kernel
theorem dX5_checkpoint_411 : decode cX5_checkpoint 411 = .ok (.getfield 88, 3) := by decide +kernel
theorem dX5_checkpoint_414 : decode cX5_checkpoint 414 = .ok (.iload_n 1, 1) := by decide +kernel
theorem dX5_checkpoint_415 : decode cX5_checkpoint 415 = .ok (.iload_n 3, 1) := by decide +kernel
theorem dX5_checkpoint_416 : decode cX5_checkpoint 416 = .ok (.ifCond .ne 7, 3) := by decide +kernel
theorem dX5_checkpoint_419 : decode cX5_checkpoint 419 = .ok (.iconst 0, 1) := by decide +kernel
theorem dX5_checkpoint_420 : decode cX5_checkpoint 420 = .ok (.goto 9, 3) := by decide +kernel
theorem dX5_checkpoint_423 : decode cX5_checkpoint 423 = .ok (.aload_n 0, 1) := by decide +kernel
theorem dX5_checkpoint_424 : decode cX5_checkpoint 424 = .ok (.getfield 36, 3) := by decide +kernel
theorem dX5_checkpoint_427 : decode cX5_checkpoint 427 = .ok (.iconst 0, 1) := by decide +kernel
theorem dX5_checkpoint_428 : decode cX5_checkpoint 428 = .ok (.iaload, 1) := by decide +kernel
theorem dX5_checkpoint_429 : decode cX5_checkpoint 429 = .ok (.aload_n 0, 1) := by decide +kernel
theorem dX5_checkpoint_430 : decode cX5_checkpoint 430 = .ok (.getfield 97, 3) := by decide +kernel
theorem dX5_checkpoint_433 : decode cX5_checkpoint 433 = .ok (.invokevirtual 81, 3) := by decide +kernel
theorem dX5_checkpoint_436 : decode cX5_checkpoint 436 = .ok (.ifCond .ne 5, 3) := by decide +kernel
theorem dX5_checkpoint_439 : decode cX5_checkpoint 439 = .ok (.iconst (-1), 1) := by decide +kernel
theorem dX5_checkpoint_440 : decode cX5_checkpoint 440 = .ok (.ireturn, 1) := by decide +kernel
theorem dX5_checkpoint_441 : decode cX5_checkpoint 441 = .ok (.aload_n 0, 1) := by decide +kernel
theorem dX5_checkpoint_442 : decode cX5_checkpoint 442 = .ok (.dup, 1) := by decide +kernel
theorem dX5_checkpoint_443 : decode cX5_checkpoint 443 = .ok (.getfield 85, 3) := by decide +kernel
theorem dX5_checkpoint_446 : decode cX5_checkpoint 446 = .ok (.iconst 1, 1) := by decide +kernel
theorem dX5_checkpoint_447 : decode cX5_checkpoint 447 = .ok (.iadd, 1) := by decide +kernel
theorem dX5_checkpoint_448 : decode cX5_checkpoint 448 = .ok (.putfield 85, 3) := by decide +kernel
theorem dX5_checkpoint_451 : decode cX5_checkpoint 451 = .ok (.aload_n 0, 1) := by decide +kernel
theorem dX5_checkpoint_452 : decode cX5_checkpoint 452 = .ok (.iconst 0, 1) := by decide +kernel
theorem dX5_checkpoint_453 : decode cX5_checkpoint 453 = .ok (.putfield 91, 3) := by decide +kernel
theorem dX5_checkpoint_456 : decode cX5_checkpoint 456 = .ok (.aload_n 0, 1) := by decide +kernel
theorem dX5_checkpoint_457 : decode cX5_checkpoint 457 = .ok (.iconst 0, 1) := by decide +kernel
theorem dX5_checkpoint_458 : decode cX5_checkpoint 458 = .ok (.putfield 94, 3) := by decide +kernel
theorem dX5_checkpoint_461 : decode cX5_checkpoint 461 = .ok (.iconst 0, 1) := by decide +kernel
theorem dX5_checkpoint_462 : decode cX5_checkpoint 462 = .ok (.ireturn, 1) := by decide +kernel
theorem dX5_beginSeen_0 : decode cX5_beginSeen 0 = .ok (.aload_n 0, 1) := by decide +kernel
theorem dX5_beginSeen_1 : decode cX5_beginSeen 1 = .ok (.iconst 0, 1) := by decide +kernel
theorem dX5_beginSeen_2 : decode cX5_beginSeen 2 = .ok (.putfield 165, 3) := by decide +kernel
theorem dX5_beginSeen_5 : decode cX5_beginSeen 5 = .ok (.aload_n 0, 1) := by decide +kernel
theorem dX5_beginSeen_6 : decode cX5_beginSeen 6 = .ok (.iconst 0, 1) := by decide +kernel
theorem dX5_beginSeen_7 : decode cX5_beginSeen 7 = .ok (.putfield 168, 3) := by decide +kernel
theorem dX5_beginSeen_10 : decode cX5_beginSeen 10 = .ok (.return_, 1) := by decide +kernel
theorem dX5_next_0 : decode cX5_next 0 = .ok (.aload_n 0, 1) := by decide +kernel
theorem dX5_next_1 : decode cX5_next 1 = .ok (.getfield 56, 3) := by decide +kernel
theorem dX5_next_4 : decode cX5_next 4 = .ok (.ifCond .eq 10, 3) := by decide +kernel
theorem dX5_next_7 : decode cX5_next 7 = .ok (.aload_n 0, 1) := by decide +kernel
theorem dX5_next_8 : decode cX5_next 8 = .ok (.getfield 104, 3) := by decide +kernel
theorem dX5_next_11 : decode cX5_next 11 = .ok (.goto 4, 3) := by decide +kernel
theorem dX5_next_14 : decode cX5_next 14 = .ok (.iconst 0, 1) := by decide +kernel
theorem dX5_next_15 : decode cX5_next 15 = .ok (.istore_n 1, 1) := by decide +kernel
theorem dX5_next_16 : decode cX5_next 16 = .ok (.aload_n 0, 1) := by decide +kernel
theorem dX5_next_17 : decode cX5_next 17 = .ok (.getfield 165, 3) := by decide +kernel
theorem dX5_next_20 : decode cX5_next 20 = .ok (.aload_n 0, 1) := by decide +kernel
theorem dX5_next_21 : decode cX5_next 21 = .ok (.getfield 97, 3) := by decide +kernel
theorem dX5_next_24 : decode cX5_next 24 = .ok (.if_icmp .lt 11, 3) := by decide +kernel
theorem dX5_next_27 : decode cX5_next 27 = .ok (.aload_n 0, 1) := by decide +kernel
theorem dX5_next_28 : decode cX5_next 28 = .ok (.getfield 168, 3) := by decide +kernel
theorem dX5_next_31 : decode cX5_next 31 = .ok (.iload_n 1, 1) := by decide +kernel
theorem dX5_next_32 : decode cX5_next 32 = .ok (.if_icmp .ge 179, 3) := by decide +kernel
theorem dX5_next_35 : decode cX5_next 35 = .ok (.aload_n 0, 1) := by decide +kernel
theorem dX5_next_36 : decode cX5_next 36 = .ok (.getfield 168, 3) := by decide +kernel
theorem dX5_next_39 : decode cX5_next 39 = .ok (.iload_n 1, 1) := by decide +kernel
theorem dX5_next_40 : decode cX5_next 40 = .ok (.if_icmp .ge 39, 3) := by decide +kernel
theorem dX5_next_43 : decode cX5_next 43 = .ok (.aload_n 0, 1) := by decide +kernel
theorem dX5_next_44 : decode cX5_next 44 = .ok (.getfield 165, 3) := by decide +kernel
theorem dX5_next_47 : decode cX5_next 47 = .ok (.aload_n 0, 1) := by decide +kernel
theorem dX5_next_48 : decode cX5_next 48 = .ok (.getfield 97, 3) := by decide +kernel
theorem dX5_next_51 : decode cX5_next 51 = .ok (.if_icmp .eq 24, 3) := by decide +kernel
theorem dX5_next_54 : decode cX5_next 54 = .ok (.aload_n 0, 1) := by decide +kernel
theorem dX5_next_55 : decode cX5_next 55 = .ok (.getfield 20, 3) := by decide +kernel
theorem dX5_next_58 : decode cX5_next 58 = .ok (.aload_n 0, 1) := by decide +kernel
theorem dX5_next_59 : decode cX5_next 59 = .ok (.getfield 168, 3) := by decide +kernel
theorem dX5_next_62 : decode cX5_next 62 = .ok (.iaload, 1) := by decide +kernel
theorem dX5_next_63 : decode cX5_next 63 = .ok (.aload_n 0, 1) := by decide +kernel
theorem dX5_next_64 : decode cX5_next 64 = .ok (.getfield 14, 3) := by decide +kernel
theorem dX5_next_67 : decode cX5_next 67 = .ok (.aload_n 0, 1) := by decide +kernel
theorem dX5_next_68 : decode cX5_next 68 = .ok (.getfield 165, 3) := by decide +kernel
theorem dX5_next_71 : decode cX5_next 71 = .ok (.iaload, 1) := by decide +kernel
theorem dX5_next_72 : decode cX5_next 72 = .ok (.if_icmp .gt 7, 3) := by decide +kernel
theorem dX5_next_75 : decode cX5_next 75 = .ok (.iconst 1, 1) := by decide +kernel
theorem dX5_next_76 : decode cX5_next 76 = .ok (.goto 4, 3) := by decide +kernel
theorem dX5_next_79 : decode cX5_next 79 = .ok (.iconst 0, 1) := by decide +kernel
theorem dX5_next_80 : decode cX5_next 80 = .ok (.istore_n 2, 1) := by decide +kernel
theorem dX5_next_81 : decode cX5_next 81 = .ok (.iload_n 2, 1) := by decide +kernel
theorem dX5_next_82 : decode cX5_next 82 = .ok (.ifCond .ne 41, 3) := by decide +kernel
theorem dX5_next_85 : decode cX5_next 85 = .ok (.aload_n 0, 1) := by decide +kernel
theorem dX5_next_86 : decode cX5_next 86 = .ok (.aload_n 0, 1) := by decide +kernel
theorem dX5_next_87 : decode cX5_next 87 = .ok (.getfield 14, 3) := by decide +kernel
theorem dX5_next_90 : decode cX5_next 90 = .ok (.aload_n 0, 1) := by decide +kernel
theorem dX5_next_91 : decode cX5_next 91 = .ok (.getfield 165, 3) := by decide +kernel
theorem dX5_next_94 : decode cX5_next 94 = .ok (.iaload, 1) := by decide +kernel
theorem dX5_next_95 : decode cX5_next 95 = .ok (.putfield 171, 3) := by decide +kernel
theorem dX5_next_98 : decode cX5_next 98 = .ok (.aload_n 0, 1) := by decide +kernel
theorem dX5_next_99 : decode cX5_next 99 = .ok (.aload_n 0, 1) := by decide +kernel
theorem dX5_next_100 : decode cX5_next 100 = .ok (.getfield 17, 3) := by decide +kernel
theorem dX5_next_103 : decode cX5_next 103 = .ok (.aload_n 0, 1) := by decide +kernel
theorem dX5_next_104 : decode cX5_next 104 = .ok (.getfield 165, 3) := by decide +kernel
theorem dX5_next_107 : decode cX5_next 107 = .ok (.iaload, 1) := by decide +kernel
theorem dX5_next_108 : decode cX5_next 108 = .ok (.putfield 174, 3) := by decide +kernel
theorem dX5_next_111 : decode cX5_next 111 = .ok (.aload_n 0, 1) := by decide +kernel
theorem dX5_next_112 : decode cX5_next 112 = .ok (.dup, 1) := by decide +kernel
theorem dX5_next_113 : decode cX5_next 113 = .ok (.getfield 165, 3) := by decide +kernel
theorem dX5_next_116 : decode cX5_next 116 = .ok (.iconst 1, 1) := by decide +kernel
theorem dX5_next_117 : decode cX5_next 117 = .ok (.iadd, 1) := by decide +kernel
theorem dX5_next_118 : decode cX5_next 118 = .ok (.putfield 165, 3) := by decide +kernel
theorem dX5_next_121 : decode cX5_next 121 = .ok (.iconst 1, 1) := by decide +kernel
theorem dX5_next_122 : decode cX5_next 122 = .ok (.ireturn, 1) := by decide +kernel
theorem dX5_next_123 : decode cX5_next 123 = .ok (.aload_n 0, 1) := by decide +kernel
theorem dX5_next_124 : decode cX5_next 124 = .ok (.getfield 168, 3) := by decide +kernel
theorem dX5_next_127 : decode cX5_next 127 = .ok (.istore_n 3, 1) := by decide +kernel
theorem dX5_next_128 : decode cX5_next 128 = .ok (.aload_n 0, 1) := by decide +kernel
theorem dX5_next_129 : decode cX5_next 129 = .ok (.dup, 1) := by decide +kernel
theorem dX5_next_130 : decode cX5_next 130 = .ok (.getfield 168, 3) := by decide +kernel
theorem dX5_next_133 : decode cX5_next 133 = .ok (.iconst 1, 1) := by decide +kernel
theorem dX5_next_134 : decode cX5_next 134 = .ok (.iadd, 1) := by decide +kernel
theorem dX5_next_135 : decode cX5_next 135 = .ok (.putfield 168, 3) := by decide +kernel
theorem dX5_next_138 : decode cX5_next 138 = .ok (.aload_n 0, 1) := by decide +kernel
theorem dX5_next_139 : decode cX5_next 139 = .ok (.getfield 165, 3) := by decide +kernel
theorem dX5_next_142 : decode cX5_next 142 = .ok (.aload_n 0, 1) := by decide +kernel
theorem dX5_next_143 : decode cX5_next 143 = .ok (.getfield 97, 3) := by decide +kernel
theorem dX5_next_146 : decode cX5_next 146 = .ok (.if_icmp .ge 31, 3) := by decide +kernel
theorem dX5_next_149 : decode cX5_next 149 = .ok (.aload_n 0, 1) := by decide +kernel
theorem dX5_next_150 : decode cX5_next 150 = .ok (.getfield 14, 3) := by decide +kernel
theorem dX5_next_153 : decode cX5_next 153 = .ok (.aload_n 0, 1) := by decide +kernel
theorem dX5_next_154 : decode cX5_next 154 = .ok (.getfield 165, 3) := by decide +kernel
theorem dX5_next_157 : decode cX5_next 157 = .ok (.iaload, 1) := by decide +kernel
theorem dX5_next_158 : decode cX5_next 158 = .ok (.aload_n 0, 1) := by decide +kernel
theorem dX5_next_159 : decode cX5_next 159 = .ok (.getfield 20, 3) := by decide +kernel
theorem dX5_next_162 : decode cX5_next 162 = .ok (.iload_n 3, 1) := by decide +kernel
theorem dX5_next_163 : decode cX5_next 163 = .ok (.iaload, 1) := by decide +kernel
theorem dX5_next_164 : decode cX5_next 164 = .ok (.if_icmp .ne 13, 3) := by decide +kernel
theorem dX5_next_167 : decode cX5_next 167 = .ok (.aload_n 0, 1) := by decide +kernel
theorem dX5_next_168 : decode cX5_next 168 = .ok (.dup, 1) := by decide +kernel
theorem dX5_next_169 : decode cX5_next 169 = .ok (.getfield 165, 3) := by decide +kernel
theorem dX5_next_172 : decode cX5_next 172 = .ok (.iconst 1, 1) := by decide +kernel
theorem dX5_next_173 : decode cX5_next 173 = .ok (.iadd, 1) := by decide +kernel
theorem dX5_next_174 : decode cX5_next 174 = .ok (.putfield 165, 3) := by decide +kernel
theorem dX5_next_177 : decode cX5_next 177 = .ok (.aload_n 0, 1) := by decide +kernel
theorem dX5_next_178 : decode cX5_next 178 = .ok (.getfield 26, 3) := by decide +kernel
theorem dX5_next_181 : decode cX5_next 181 = .ok (.iload_n 3, 1) := by decide +kernel
theorem dX5_next_182 : decode cX5_next 182 = .ok (.baload, 1) := by decide +kernel
theorem dX5_next_183 : decode cX5_next 183 = .ok (.ifCond .eq 6, 3) := by decide +kernel
theorem dX5_next_186 : decode cX5_next 186 = .ok (.goto (-170), 3) := by decide +kernel
theorem dX5_next_189 : decode cX5_next 189 = .ok (.aload_n 0, 1) := by decide +kernel
theorem dX5_next_190 : decode cX5_next 190 = .ok (.aload_n 0, 1) := by decide +kernel
theorem dX5_next_191 : decode cX5_next 191 = .ok (.getfield 20, 3) := by decide +kernel
theorem dX5_next_194 : decode cX5_next 194 = .ok (.iload_n 3, 1) := by decide +kernel
theorem dX5_next_195 : decode cX5_next 195 = .ok (.iaload, 1) := by decide +kernel
theorem dX5_next_196 : decode cX5_next 196 = .ok (.putfield 171, 3) := by decide +kernel
theorem dX5_next_199 : decode cX5_next 199 = .ok (.aload_n 0, 1) := by decide +kernel
theorem dX5_next_200 : decode cX5_next 200 = .ok (.aload_n 0, 1) := by decide +kernel
theorem dX5_next_201 : decode cX5_next 201 = .ok (.getfield 23, 3) := by decide +kernel
theorem dX5_next_204 : decode cX5_next 204 = .ok (.iload_n 3, 1) := by decide +kernel
theorem dX5_next_205 : decode cX5_next 205 = .ok (.iaload, 1) := by decide +kernel
theorem dX5_next_206 : decode cX5_next 206 = .ok (.putfield 174, 3) := by decide +kernel
theorem dX5_next_209 : decode cX5_next 209 = .ok (.iconst 1, 1) := by decide +kernel
theorem dX5_next_210 : decode cX5_next 210 = .ok (.ireturn, 1) := by decide +kernel
theorem dX5_next_211 : decode cX5_next 211 = .ok (.iconst 0, 1) := by decide +kernel
theorem dX5_next_212 : decode cX5_next 212 = .ok (.ireturn, 1) := by decide +kernel
theorem dX5_get_0 : decode cX5_get 0 = .ok (.aload_n 0, 1) := by decide +kernel
theorem dX5_get_1 : decode cX5_get 1 = .ok (.getfield 53, 3) := by decide +kernel
theorem dX5_get_4 : decode cX5_get 4 = .ok (.iconst 2, 1) := by decide +kernel
theorem dX5_get_5 : decode cX5_get 5 = .ok (.if_icmp .eq 5, 3) := by decide +kernel
theorem dX5_get_8 : decode cX5_get 8 = .ok (.iconst 0, 1) := by decide +kernel
theorem dX5_get_9 : decode cX5_get 9 = .ok (.ireturn, 1) := by decide +kernel
theorem dX5_get_10 : decode cX5_get 10 = .ok (.aload_n 0, 1) := by decide +kernel
theorem dX5_get_11 : decode cX5_get 11 = .ok (.iload_n 1, 1) := by decide +kernel
theorem dX5_get_12 : decode cX5_get 12 = .ok (.invokevirtual 153, 3) := by decide +kernel
theorem dX5_get_15 : decode cX5_get 15 = .ok (.ifCond .eq 31, 3) := by decide +kernel
theorem dX5_get_18 : decode cX5_get 18 = .ok (.aload_n 0, 1) := by decide +kernel
theorem dX5_get_19 : decode cX5_get 19 = .ok (.getfield 26, 3) := by decide +kernel
theorem dX5_get_22 : decode cX5_get 22 = .ok (.aload_n 0, 1) := by decide +kernel
theorem dX5_get_23 : decode cX5_get 23 = .ok (.iload_n 1, 1) := by decide +kernel
theorem dX5_get_24 : decode cX5_get 24 = .ok (.invokevirtual 107, 3) := by decide +kernel
theorem dX5_get_27 : decode cX5_get 27 = .ok (.baload, 1) := by decide +kernel
theorem dX5_get_28 : decode cX5_get 28 = .ok (.ifCond .eq 7, 3) := by decide +kernel
theorem dX5_get_31 : decode cX5_get 31 = .ok (.iconst 0, 1) := by decide +kernel
theorem dX5_get_32 : decode cX5_get 32 = .ok (.goto 13, 3) := by decide +kernel
theorem dX5_get_35 : decode cX5_get 35 = .ok (.aload_n 0, 1) := by decide +kernel
theorem dX5_get_36 : decode cX5_get 36 = .ok (.getfield 23, 3) := by decide +kernel
theorem dX5_get_39 : decode cX5_get 39 = .ok (.aload_n 0, 1) := by decide +kernel
theorem dX5_get_40 : decode cX5_get 40 = .ok (.iload_n 1, 1) := by decide +kernel
theorem dX5_get_41 : decode cX5_get 41 = .ok (.invokevirtual 107, 3) := by decide +kernel
theorem dX5_get_44 : decode cX5_get 44 = .ok (.iaload, 1) := by decide +kernel
theorem dX5_get_45 : decode cX5_get 45 = .ok (.ireturn, 1) := by decide +kernel
theorem dX5_get_46 : decode cX5_get 46 = .ok (.aload_n 0, 1) := by decide +kernel
theorem dX5_get_47 : decode cX5_get 47 = .ok (.iload_n 1, 1) := by decide +kernel
theorem dX5_get_48 : decode cX5_get 48 = .ok (.invokevirtual 100, 3) := by decide +kernel
theorem dX5_get_51 : decode cX5_get 51 = .ok (.istore_n 2, 1) := by decide +kernel
theorem dX5_get_52 : decode cX5_get 52 = .ok (.iload_n 2, 1) := by decide +kernel
theorem dX5_get_53 : decode cX5_get 53 = .ok (.aload_n 0, 1) := by decide +kernel
theorem dX5_get_54 : decode cX5_get 54 = .ok (.getfield 97, 3) := by decide +kernel
theorem dX5_get_57 : decode cX5_get 57 = .ok (.if_icmp .ge 22, 3) := by decide +kernel
theorem dX5_get_60 : decode cX5_get 60 = .ok (.aload_n 0, 1) := by decide +kernel
theorem dX5_get_61 : decode cX5_get 61 = .ok (.getfield 14, 3) := by decide +kernel
theorem dX5_get_64 : decode cX5_get 64 = .ok (.iload_n 2, 1) := by decide +kernel
theorem dX5_get_65 : decode cX5_get 65 = .ok (.iaload, 1) := by decide +kernel
theorem dX5_get_66 : decode cX5_get 66 = .ok (.iload_n 1, 1) := by decide +kernel
theorem dX5_get_67 : decode cX5_get 67 = .ok (.if_icmp .ne 12, 3) := by decide +kernel
theorem dX5_get_70 : decode cX5_get 70 = .ok (.aload_n 0, 1) := by decide +kernel
theorem dX5_get_71 : decode cX5_get 71 = .ok (.getfield 17, 3) := by decide +kernel
theorem dX5_get_74 : decode cX5_get 74 = .ok (.iload_n 2, 1) := by decide +kernel
theorem dX5_get_75 : decode cX5_get 75 = .ok (.iaload, 1) := by decide +kernel
theorem dX5_get_76 : decode cX5_get 76 = .ok (.goto 4, 3) := by decide +kernel
theorem dX5_get_79 : decode cX5_get 79 = .ok (.iconst 0, 1) := by decide +kernel
theorem dX5_get_80 : decode cX5_get 80 = .ok (.ireturn, 1) := by decide +kernel
theorem dX5_has_0 : decode cX5_has 0 = .ok (.aload_n 0, 1) := by decide +kernel
theorem dX5_has_1 : decode cX5_has 1 = .ok (.getfield 53, 3) := by decide +kernel
theorem dX5_has_4 : decode cX5_has 4 = .ok (.iconst 2, 1) := by decide +kernel
theorem dX5_has_5 : decode cX5_has 5 = .ok (.if_icmp .ne 15, 3) := by decide +kernel
theorem dX5_has_8 : decode cX5_has 8 = .ok (.aload_n 0, 1) := by decide +kernel
theorem dX5_has_9 : decode cX5_has 9 = .ok (.iload_n 1, 1) := by decide +kernel
theorem dX5_has_10 : decode cX5_has 10 = .ok (.invokevirtual 150, 3) := by decide +kernel
theorem dX5_has_13 : decode cX5_has 13 = .ok (.ifCond .eq 7, 3) := by decide +kernel
theorem dX5_has_16 : decode cX5_has 16 = .ok (.iconst 1, 1) := by decide +kernel
theorem dX5_has_17 : decode cX5_has 17 = .ok (.goto 4, 3) := by decide +kernel
theorem dX5_has_20 : decode cX5_has 20 = .ok (.iconst 0, 1) := by decide +kernel
theorem dX5_has_21 : decode cX5_has 21 = .ok (.ireturn, 1) := by decide +kernel
theorem dX5_size_0 : decode cX5_size 0 = .ok (.aload_n 0, 1) := by decide +kernel
theorem dX5_size_1 : decode cX5_size 1 = .ok (.getfield 53, 3) := by decide +kernel
theorem dX5_size_4 : decode cX5_size 4 = .ok (.iconst 2, 1) := by decide +kernel
theorem dX5_size_5 : decode cX5_size 5 = .ok (.if_icmp .eq 5, 3) := by decide +kernel
theorem dX5_size_8 : decode cX5_size 8 = .ok (.iconst 0, 1) := by decide +kernel
theorem dX5_size_9 : decode cX5_size 9 = .ok (.ireturn, 1) := by decide +kernel
theorem dX5_size_10 : decode cX5_size 10 = .ok (.aload_n 0, 1) := by decide +kernel
theorem dX5_size_11 : decode cX5_size 11 = .ok (.iconst 0, 1) := by decide +kernel
theorem dX5_size_12 : decode cX5_size 12 = .ok (.putfield 177, 3) := by decide +kernel
theorem dX5_size_15 : decode cX5_size 15 = .ok (.aload_n 0, 1) := by decide +kernel
theorem dX5_size_16 : decode cX5_size 16 = .ok (.invokevirtual 180, 3) := by decide +kernel
theorem dX5_size_19 : decode cX5_size 19 = .ok (.aload_n 0, 1) := by decide +kernel
theorem dX5_size_20 : decode cX5_size 20 = .ok (.invokevirtual 183, 3) := by decide +kernel
theorem dX5_size_23 : decode cX5_size 23 = .ok (.ifCond .eq 16, 3) := by decide +kernel
theorem dX5_size_26 : decode cX5_size 26 = .ok (.aload_n 0, 1) := by decide +kernel
theorem dX5_size_27 : decode cX5_size 27 = .ok (.dup, 1) := by decide +kernel
theorem dX5_size_28 : decode cX5_size 28 = .ok (.getfield 177, 3) := by decide +kernel
theorem dX5_size_31 : decode cX5_size 31 = .ok (.iconst 1, 1) := by decide +kernel
theorem dX5_size_32 : decode cX5_size 32 = .ok (.iadd, 1) := by decide +kernel
theorem dX5_size_33 : decode cX5_size 33 = .ok (.putfield 177, 3) := by decide +kernel
theorem dX5_size_36 : decode cX5_size 36 = .ok (.goto (-17), 3) := by decide +kernel
theorem dX5_size_39 : decode cX5_size 39 = .ok (.aload_n 0, 1) := by decide +kernel
theorem dX5_size_40 : decode cX5_size 40 = .ok (.getfield 177, 3) := by decide +kernel
theorem dX5_size_43 : decode cX5_size 43 = .ok (.ireturn, 1) := by decide +kernel
theorem dX5_key_0 : decode cX5_key 0 = .ok (.aload_n 0, 1) := by decide +kernel
theorem dX5_key_1 : decode cX5_key 1 = .ok (.getfield 53, 3) := by decide +kernel
theorem dX5_key_4 : decode cX5_key 4 = .ok (.iconst 2, 1) := by decide +kernel
theorem dX5_key_5 : decode cX5_key 5 = .ok (.if_icmp .ne 7, 3) := by decide +kernel
theorem dX5_key_8 : decode cX5_key 8 = .ok (.iload_n 1, 1) := by decide +kernel
theorem dX5_key_9 : decode cX5_key 9 = .ok (.ifCond .ge 5, 3) := by decide +kernel
theorem dX5_key_12 : decode cX5_key 12 = .ok (.iconst 0, 1) := by decide +kernel
theorem dX5_key_13 : decode cX5_key 13 = .ok (.ireturn, 1) := by decide +kernel
theorem dX5_key_14 : decode cX5_key 14 = .ok (.aload_n 0, 1) := by decide +kernel
theorem dX5_key_15 : decode cX5_key 15 = .ok (.invokevirtual 180, 3) := by decide +kernel
theorem dX5_key_18 : decode cX5_key 18 = .ok (.iconst 0, 1) := by decide +kernel
theorem dX5_key_19 : decode cX5_key 19 = .ok (.istore_n 2, 1) := by decide +kernel
theorem dX5_key_20 : decode cX5_key 20 = .ok (.aload_n 0, 1) := by decide +kernel
theorem dX5_key_21 : decode cX5_key 21 = .ok (.invokevirtual 183, 3) := by decide +kernel
theorem dX5_key_24 : decode cX5_key 24 = .ok (.ifCond .eq 19, 3) := by decide +kernel
theorem dX5_key_27 : decode cX5_key 27 = .ok (.iload_n 2, 1) := by decide +kernel
theorem dX5_key_28 : decode cX5_key 28 = .ok (.iload_n 1, 1) := by decide +kernel
theorem dX5_key_29 : decode cX5_key 29 = .ok (.if_icmp .ne 8, 3) := by decide +kernel
theorem dX5_key_32 : decode cX5_key 32 = .ok (.aload_n 0, 1) := by decide +kernel
theorem dX5_key_33 : decode cX5_key 33 = .ok (.getfield 171, 3) := by decide +kernel
theorem dX5_key_36 : decode cX5_key 36 = .ok (.ireturn, 1) := by decide +kernel
theorem dX5_key_37 : decode cX5_key 37 = .ok (.iinc 2 1, 3) := by decide +kernel
theorem dX5_key_40 : decode cX5_key 40 = .ok (.goto (-20), 3) := by decide +kernel
theorem dX5_key_43 : decode cX5_key 43 = .ok (.iconst 0, 1) := by decide +kernel
theorem dX5_key_44 : decode cX5_key 44 = .ok (.ireturn, 1) := by decide +kernel
theorem dX5_sum_0 : decode cX5_sum 0 = .ok (.aload_n 0, 1) := by decide +kernel
theorem dX5_sum_1 : decode cX5_sum 1 = .ok (.getfield 53, 3) := by decide +kernel
theorem dX5_sum_4 : decode cX5_sum 4 = .ok (.iconst 2, 1) := by decide +kernel
theorem dX5_sum_5 : decode cX5_sum 5 = .ok (.if_icmp .ne 12, 3) := by decide +kernel
theorem dX5_sum_8 : decode cX5_sum 8 = .ok (.iload_n 3, 1) := by decide +kernel
theorem dX5_sum_9 : decode cX5_sum 9 = .ok (.ifCond .lt 8, 3) := by decide +kernel
theorem dX5_sum_12 : decode cX5_sum 12 = .ok (.iload_n 3, 1) := by decide +kernel
theorem dX5_sum_13 : decode cX5_sum 13 = .ok (.iconst 3, 1) := by decide +kernel
theorem dX5_sum_14 : decode cX5_sum 14 = .ok (.if_icmp .le 5, 3) := by decide +kernel
theorem dX5_sum_17 : decode cX5_sum 17 = .ok (.lconst 0, 1) := by decide +kernel
theorem dX5_sum_18 : decode cX5_sum 18 = .ok (.lreturn, 1) := by decide +kernel
theorem dX5_sum_19 : decode cX5_sum 19 = .ok (.lconst 0, 1) := by decide +kernel
theorem dX5_sum_20 : decode cX5_sum 20 = .ok (.lstore 4, 2) := by decide +kernel
theorem dX5_sum_22 : decode cX5_sum 22 = .ok (.lconst 0, 1) := by decide +kernel
theorem dX5_sum_23 : decode cX5_sum 23 = .ok (.lstore 6, 2) := by decide +kernel
theorem dX5_sum_25 : decode cX5_sum 25 = .ok (.iconst 0, 1) := by decide +kernel
theorem dX5_sum_26 : decode cX5_sum 26 = .ok (.istore 8, 2) := by decide +kernel
theorem dX5_sum_28 : decode cX5_sum 28 = .ok (.iconst 0, 1) := by decide +kernel
theorem dX5_sum_29 : decode cX5_sum 29 = .ok (.istore 9, 2) := by decide +kernel
theorem dX5_sum_31 : decode cX5_sum 31 = .ok (.aload_n 0, 1) := by decide +kernel
theorem dX5_sum_32 : decode cX5_sum 32 = .ok (.invokevirtual 180, 3) := by decide +kernel
theorem dX5_sum_35 : decode cX5_sum 35 = .ok (.aload_n 0, 1) := by decide +kernel
theorem dX5_sum_36 : decode cX5_sum 36 = .ok (.invokevirtual 183, 3) := by decide +kernel
theorem dX5_sum_39 : decode cX5_sum 39 = .ok (.ifCond .eq 60, 3) := by decide +kernel
theorem dX5_sum_42 : decode cX5_sum 42 = .ok (.aload_n 0, 1) := by decide +kernel
theorem dX5_sum_43 : decode cX5_sum 43 = .ok (.getfield 171, 3) := by decide +kernel
theorem dX5_sum_46 : decode cX5_sum 46 = .ok (.iload_n 1, 1) := by decide +kernel
theorem dX5_sum_47 : decode cX5_sum 47 = .ok (.if_icmp .lt (-12), 3) := by decide +kernel
theorem dX5_sum_50 : decode cX5_sum 50 = .ok (.aload_n 0, 1) := by decide +kernel
theorem dX5_sum_51 : decode cX5_sum 51 = .ok (.getfield 171, 3) := by decide +kernel
theorem dX5_sum_54 : decode cX5_sum 54 = .ok (.iload_n 2, 1) := by decide +kernel
theorem dX5_sum_55 : decode cX5_sum 55 = .ok (.if_icmp .le 6, 3) := by decide +kernel
theorem dX5_sum_58 : decode cX5_sum 58 = .ok (.goto (-23), 3) := by decide +kernel
theorem dX5_sum_61 : decode cX5_sum 61 = .ok (.lload 4, 2) := by decide +kernel
theorem dX5_sum_63 : decode cX5_sum 63 = .ok (.lconst 0, 1) := by decide +kernel
theorem dX5_sum_64 : decode cX5_sum 64 = .ok (.lcmp, 1) := by decide +kernel
theorem dX5_sum_65 : decode cX5_sum 65 = .ok (.ifCond .ne 9, 3) := by decide +kernel
theorem dX5_sum_68 : decode cX5_sum 68 = .ok (.aload_n 0, 1) := by decide +kernel
theorem dX5_sum_69 : decode cX5_sum 69 = .ok (.getfield 171, 3) := by decide +kernel
theorem dX5_sum_72 : decode cX5_sum 72 = .ok (.istore 8, 2) := by decide +kernel
theorem dX5_sum_74 : decode cX5_sum 74 = .ok (.aload_n 0, 1) := by decide +kernel
theorem dX5_sum_75 : decode cX5_sum 75 = .ok (.getfield 171, 3) := by decide +kernel
theorem dX5_sum_78 : decode cX5_sum 78 = .ok (.istore 9, 2) := by decide +kernel
theorem dX5_sum_80 : decode cX5_sum 80 = .ok (.lload 4, 2) := by decide +kernel
theorem dX5_sum_82 : decode cX5_sum 82 = .ok (.lconst 1, 1) := by decide +kernel
theorem dX5_sum_83 : decode cX5_sum 83 = .ok (.ladd, 1) := by decide +kernel
theorem dX5_sum_84 : decode cX5_sum 84 = .ok (.lstore 4, 2) := by decide +kernel
theorem dX5_sum_86 : decode cX5_sum 86 = .ok (.lload 6, 2) := by decide +kernel
theorem dX5_sum_88 : decode cX5_sum 88 = .ok (.aload_n 0, 1) := by decide +kernel
theorem dX5_sum_89 : decode cX5_sum 89 = .ok (.getfield 174, 3) := by decide +kernel
theorem dX5_sum_92 : decode cX5_sum 92 = .ok (.i2l, 1) := by decide +kernel
theorem dX5_sum_93 : decode cX5_sum 93 = .ok (.ladd, 1) := by decide +kernel
theorem dX5_sum_94 : decode cX5_sum 94 = .ok (.lstore 6, 2) := by decide +kernel
theorem dX5_sum_96 : decode cX5_sum 96 = .ok (.goto (-61), 3) := by decide +kernel
theorem dX5_sum_99 : decode cX5_sum 99 = .ok (.iload_n 3, 1) := by decide +kernel
theorem dX5_sum_100 : decode cX5_sum 100 = .ok (.ifCond .ne 8, 3) := by decide +kernel
theorem dX5_sum_103 : decode cX5_sum 103 = .ok (.lload 4, 2) := by decide +kernel
theorem dX5_sum_105 : decode cX5_sum 105 = .ok (.goto 27, 3) := by decide +kernel
theorem dX5_sum_108 : decode cX5_sum 108 = .ok (.iload_n 3, 1) := by decide +kernel
theorem dX5_sum_109 : decode cX5_sum 109 = .ok (.iconst 1, 1) := by decide +kernel
theorem dX5_sum_110 : decode cX5_sum 110 = .ok (.if_icmp .ne 8, 3) := by decide +kernel
theorem dX5_sum_113 : decode cX5_sum 113 = .ok (.lload 6, 2) := by decide +kernel
theorem dX5_sum_115 : decode cX5_sum 115 = .ok (.goto 17, 3) := by decide +kernel
theorem dX5_sum_118 : decode cX5_sum 118 = .ok (.iload_n 3, 1) := by decide +kernel
theorem dX5_sum_119 : decode cX5_sum 119 = .ok (.iconst 2, 1) := by decide +kernel
theorem dX5_sum_120 : decode cX5_sum 120 = .ok (.if_icmp .ne 9, 3) := by decide +kernel
theorem dX5_sum_123 : decode cX5_sum 123 = .ok (.iload 8, 2) := by decide +kernel
theorem dX5_sum_125 : decode cX5_sum 125 = .ok (.i2l, 1) := by decide +kernel
theorem dX5_sum_126 : decode cX5_sum 126 = .ok (.goto 6, 3) := by decide +kernel
theorem dX5_sum_129 : decode cX5_sum 129 = .ok (.iload 9, 2) := by decide +kernel
theorem dX5_sum_131 : decode cX5_sum 131 = .ok (.i2l, 1) := by decide +kernel
theorem dX5_sum_132 : decode cX5_sum 132 = .ok (.lreturn, 1) := by decide +kernel
theorem dX5_word_0 : decode cX5_word 0 = .ok (.aload_n 0, 1) := by decide +kernel
theorem dX5_word_1 : decode cX5_word 1 = .ok (.getfield 53, 3) := by decide +kernel
theorem dX5_word_4 : decode cX5_word 4 = .ok (.ifCond .eq 27, 3) := by decide +kernel
theorem dX5_word_7 : decode cX5_word 7 = .ok (.iload_n 1, 1) := by decide +kernel
theorem dX5_word_8 : decode cX5_word 8 = .ok (.ifCond .lt 23, 3) := by decide +kernel
theorem dX5_word_11 : decode cX5_word 11 = .ok (.iload_n 1, 1) := by decide +kernel
theorem dX5_word_12 : decode cX5_word 12 = .ok (.aload_n 0, 1) := by decide +kernel
theorem dX5_word_13 : decode cX5_word 13 = .ok (.getfield 71, 3) := by decide +kernel
theorem dX5_word_16 : decode cX5_word 16 = .ok (.if_icmp .ge 15, 3) := by decide +kernel
theorem dX5_word_19 : decode cX5_word 19 = .ok (.iload_n 2, 1) := by decide +kernel
theorem dX5_word_20 : decode cX5_word 20 = .ok (.ifCond .lt 11, 3) := by decide +kernel
theorem dX5_word_23 : decode cX5_word 23 = .ok (.iload_n 2, 1) := by decide +kernel
theorem dX5_word_24 : decode cX5_word 24 = .ok (.aload_n 0, 1) := by decide +kernel
theorem dX5_word_25 : decode cX5_word 25 = .ok (.getfield 42, 3) := by decide +kernel
theorem dX5_word_28 : decode cX5_word 28 = .ok (.if_icmp .lt 7, 3) := by decide +kernel
theorem dX5_word_31 : decode cX5_word 31 = .ok (.iconst 0, 1) := by decide +kernel
theorem dX5_word_32 : decode cX5_word 32 = .ok (.goto 16, 3) := by decide +kernel
theorem dX5_word_35 : decode cX5_word 35 = .ok (.aload_n 0, 1) := by decide +kernel
theorem dX5_word_36 : decode cX5_word 36 = .ok (.getfield 8, 3) := by decide +kernel
theorem dX5_word_39 : decode cX5_word 39 = .ok (.aload_n 0, 1) := by decide +kernel
theorem dX5_word_40 : decode cX5_word 40 = .ok (.getfield 42, 3) := by decide +kernel
theorem dX5_word_43 : decode cX5_word 43 = .ok (.iload_n 1, 1) := by decide +kernel
theorem dX5_word_44 : decode cX5_word 44 = .ok (.imul, 1) := by decide +kernel
theorem dX5_word_45 : decode cX5_word 45 = .ok (.iload_n 2, 1) := by decide +kernel
theorem dX5_word_46 : decode cX5_word 46 = .ok (.iadd, 1) := by decide +kernel
theorem dX5_word_47 : decode cX5_word 47 = .ok (.iaload, 1) := by decide +kernel
theorem dX5_word_48 : decode cX5_word 48 = .ok (.ireturn, 1) := by decide +kernel
theorem dX5_state_0 : decode cX5_state 0 = .ok (.aload_n 0, 1) := by decide +kernel
theorem dX5_state_1 : decode cX5_state 1 = .ok (.getfield 53, 3) := by decide +kernel
theorem dX5_state_4 : decode cX5_state 4 = .ok (.ireturn, 1) := by decide +kernel
theorem dX5_count_0 : decode cX5_count 0 = .ok (.aload_n 0, 1) := by decide +kernel
theorem dX5_count_1 : decode cX5_count 1 = .ok (.getfield 53, 3) := by decide +kernel
theorem dX5_count_4 : decode cX5_count 4 = .ok (.ifCond .ne 5, 3) := by decide +kernel
theorem dX5_count_7 : decode cX5_count 7 = .ok (.iconst 0, 1) := by decide +kernel
theorem dX5_count_8 : decode cX5_count 8 = .ok (.ireturn, 1) := by decide +kernel
theorem dX5_count_9 : decode cX5_count 9 = .ok (.iload_n 1, 1) := by decide +kernel
theorem dX5_count_10 : decode cX5_count 10 = .ok (.ifCond .ne 8, 3) := by decide +kernel
theorem dX5_count_13 : decode cX5_count 13 = .ok (.aload_n 0, 1) := by decide +kernel
theorem dX5_count_14 : decode cX5_count 14 = .ok (.getfield 60, 3) := by decide +kernel
theorem dX5_count_17 : decode cX5_count 17 = .ok (.ireturn, 1) := by decide +kernel
theorem dX5_count_18 : decode cX5_count 18 = .ok (.iload_n 1, 1) := by decide +kernel
theorem dX5_count_19 : decode cX5_count 19 = .ok (.iconst 1, 1) := by decide +kernel
theorem dX5_count_20 : decode cX5_count 20 = .ok (.if_icmp .ne 8, 3) := by decide +kernel
theorem dX5_count_23 : decode cX5_count 23 = .ok (.aload_n 0, 1) := by decide +kernel
theorem dX5_count_24 : decode cX5_count 24 = .ok (.getfield 50, 3) := by decide +kernel
theorem dX5_count_27 : decode cX5_count 27 = .ok (.ireturn, 1) := by decide +kernel
theorem dX5_count_28 : decode cX5_count 28 = .ok (.iload_n 1, 1) := by decide +kernel
theorem dX5_count_29 : decode cX5_count 29 = .ok (.bipush 8, 2) := by decide +kernel
theorem dX5_count_31 : decode cX5_count 31 = .ok (.if_icmp .ne 8, 3) := by decide +kernel
theorem dX5_count_34 : decode cX5_count 34 = .ok (.aload_n 0, 1) := by decide +kernel
theorem dX5_count_35 : decode cX5_count 35 = .ok (.invokevirtual 162, 3) := by decide +kernel
theorem dX5_count_38 : decode cX5_count 38 = .ok (.ireturn, 1) := by decide +kernel
theorem dX5_count_39 : decode cX5_count 39 = .ok (.aload_n 0, 1) := by decide +kernel
theorem dX5_count_40 : decode cX5_count 40 = .ok (.getfield 53, 3) := by decide +kernel
theorem dX5_count_43 : decode cX5_count 43 = .ok (.iconst 2, 1) := by decide +kernel
theorem dX5_count_44 : decode cX5_count 44 = .ok (.if_icmp .eq 5, 3) := by decide +kernel
theorem dX5_count_47 : decode cX5_count 47 = .ok (.iconst 0, 1) := by decide +kernel
theorem dX5_count_48 : decode cX5_count 48 = .ok (.ireturn, 1) := by decide +kernel
theorem dX5_count_49 : decode cX5_count 49 = .ok (.iload_n 1, 1) := by decide +kernel
theorem dX5_count_50 : decode cX5_count 50 = .ok (.tableswitch 80 2 7 #[38, 43, 48, 53, 58, 75], 38) := by decide +kernel
theorem dX5_count_88 : decode cX5_count 88 = .ok (.aload_n 0, 1) := by decide +kernel
theorem dX5_count_89 : decode cX5_count 89 = .ok (.getfield 91, 3) := by decide +kernel
theorem dX5_count_92 : decode cX5_count 92 = .ok (.ireturn, 1) := by decide +kernel
theorem dX5_count_93 : decode cX5_count 93 = .ok (.aload_n 0, 1) := by decide +kernel
theorem dX5_count_94 : decode cX5_count 94 = .ok (.getfield 85, 3) := by decide +kernel
theorem dX5_count_97 : decode cX5_count 97 = .ok (.ireturn, 1) := by decide +kernel
theorem dX5_count_98 : decode cX5_count 98 = .ok (.aload_n 0, 1) := by decide +kernel
theorem dX5_count_99 : decode cX5_count 99 = .ok (.getfield 88, 3) := by decide +kernel
theorem dX5_count_102 : decode cX5_count 102 = .ok (.ireturn, 1) := by decide +kernel
theorem dX5_count_103 : decode cX5_count 103 = .ok (.aload_n 0, 1) := by decide +kernel
theorem dX5_count_104 : decode cX5_count 104 = .ok (.getfield 94, 3) := by decide +kernel
theorem dX5_count_107 : decode cX5_count 107 = .ok (.ireturn, 1) := by decide +kernel
theorem dX5_count_108 : decode cX5_count 108 = .ok (.aload_n 0, 1) := by decide +kernel
theorem dX5_count_109 : decode cX5_count 109 = .ok (.getfield 56, 3) := by decide +kernel
theorem dX5_count_112 : decode cX5_count 112 = .ok (.ifCond .eq 10, 3) := by decide +kernel
theorem dX5_count_115 : decode cX5_count 115 = .ok (.aload_n 0, 1) := by decide +kernel
theorem dX5_count_116 : decode cX5_count 116 = .ok (.getfield 104, 3) := by decide +kernel
theorem dX5_count_119 : decode cX5_count 119 = .ok (.goto 5, 3) := by decide +kernel
theorem dX5_count_122 : decode cX5_count 122 = .ok (.bipush (-3), 2) := by decide +kernel
theorem dX5_count_124 : decode cX5_count 124 = .ok (.ireturn, 1) := by decide +kernel
theorem dX5_count_125 : decode cX5_count 125 = .ok (.aload_n 0, 1) := by decide +kernel
theorem dX5_count_126 : decode cX5_count 126 = .ok (.invokevirtual 159, 3) := by decide +kernel
theorem dX5_count_129 : decode cX5_count 129 = .ok (.ireturn, 1) := by decide +kernel
theorem dX5_count_130 : decode cX5_count 130 = .ok (.iconst 0, 1) := by decide +kernel
theorem dX5_count_131 : decode cX5_count 131 = .ok (.ireturn, 1) := by decide +kernel
end
section
/-! cells by number: .ref k is cell k; ad gives its address. A cell: an array (boolean or int, length, contents) or an object (class number, fields) -/
abbrev aE : Type := (Bool × Nat × (Nat → Int32)) ⊕ (Nat × List Value)
abbrev aW : Type := List aE
def cv (ad : Nat → Nat) : Value → Value
  | .ref k => .ref (ad k)
  | v => v
def ce (ad : Nat → Nat) (cI cZ : ClassId) : aE → va_E
  | .inl q => .inl (if q.1 then cZ else cI, q.2.1, .inl q.2.2)
  | .inr q => .inr (q.1, q.2.map (cv ad))
def cw (ad : Nat → Nat) (cI cZ : ClassId) (σ : aW) : va_W := σ.zipIdx.map (fun q => (ad q.2, ce ad cI cZ q.1))
theorem cw_get {ad : Nat → Nat} {cI cZ : ClassId} {σ : aW} {k : Nat} : (cw ad cI cZ σ)[k]? = (σ[k]?).map (fun c => (ad k, ce ad cI cZ c)) := by
  unfold cw
  rw [List.getElem?_map, List.getElem?_zipIdx]
  cases σ[k]? <;> simp
theorem cw_at {ad : Nat → Nat} {cI cZ : ClassId} {σ : aW} {k : Nat} {c : aE} (h : σ[k]? = some c) : (cw ad cI cZ σ)[k]? = some (ad k, ce ad cI cZ c) := by rw [cw_get, h]; rfl
theorem cw_set {ad : Nat → Nat} {cI cZ : ClassId} {σ : aW} {k : Nat} {c : aE} : (cw ad cI cZ σ).set k (ad k, ce ad cI cZ c) = cw ad cI cZ (σ.set k c) := by
  apply List.ext_getElem?
  intro i
  rw [cw_get]
  by_cases h : k = i
  · subst h
    rw [List.getElem?_set_self', List.getElem?_set_self', cw_get]
    cases σ[k]? <;> rfl
  · rw [List.getElem?_set_ne h, List.getElem?_set_ne h, cw_get]
theorem cw_len {ad : Nat → Nat} {cI cZ : ClassId} {σ : aW} : (cw ad cI cZ σ).length = σ.length := by simp [cw]
theorem cv_cat {ad : Nat → Nat} (v : Value) : (cv ad v).category = v.category := by cases v <;> rfl
theorem cw_D {ad : Nat → Nat} {cI cZ : ClassId} {σ σ0 : aW} {A : Nat → Prop} (hl : σ.length = σ0.length) (h : va_D A (cw ad cI cZ σ0)) : va_D A (cw ad cI cZ σ) := by
  have key : ∀ (k : Nat) (q : Nat × va_E), (cw ad cI cZ σ)[k]? = some q → ∃ c : va_E, (cw ad cI cZ σ0)[k]? = some (q.1, c) := by
    intro k q hq
    have hk : k < σ0.length := by
      have := (List.getElem?_eq_some_iff.mp hq).1
      rw [cw_len] at this
      omega
    rw [cw_get] at hq
    cases hs : σ[k]? with
    | none => rw [hs] at hq; cases hq
    | some c =>
      rw [hs] at hq
      cases hq
      exact ⟨ce ad cI cZ σ0[k], cw_at (List.getElem?_eq_getElem hk)⟩
  refine ⟨fun i j p q hp hq e => ?_, fun k q hq => ?_⟩
  · obtain ⟨c1, h1⟩ := key i p hp
    obtain ⟨c2, h2⟩ := key j q hq
    exact h.1 i j _ _ h1 h2 e
  · obtain ⟨c1, h1⟩ := key k q hq
    exact h.2 k (q.1, c1) h1
/-! methods: (name, code, locals, answer's type, frames, words of locals that it needs below it) -/
abbrev MD : Type := MethodName × ByteArray × Nat × Option FieldType × Nat × Nat
def mrm (M : MD) : Room := { frames := M.2.2.2.2.1, cells := 0, slots := 0, locals := M.2.2.2.2.2 }
def BIG : List Cond := lw_tbl.filter goodWord
def mws (M : MD) : List Cond := .code M.1 M.2.1 M.2.2.1 M.2.2.2.1 :: BIG
def tys2 (cI cZ : ClassId) : List (ClassId × FieldType) := [(cI, .int), (cZ, .boolean)]
def NW (U : State) : Prop := va_Nw (.methodLinkNest RX1 67 yX4_blocksOf "BlockStore") U ∧ va_Nw (.methodLinkNest RX3 26 yX4_blocksOf "BlockStore") U
theorem NW.warm {s U : State} (hW : s.WarmedH U.vm) (h : NW s) : NW U := ⟨va_Nw.warmM hW h.1, va_Nw.warmM hW h.2⟩
theorem NW.same {s U : State} (hv : s.vm = U.vm) (h : NW s) : NW U := ⟨va_Nw.same rfl hv h.1, va_Nw.same rfl hv h.2⟩
abbrev aPost : Type := Option Value → aW → Prop
def SF (dC : Nat → ClassId) (dI : Nat → Nat → Nat) (ad : Nat → Nat) (cI cZ : ClassId) (σ : aW) (U : State) : Prop := va_P (dC, dI) vwCl (cw ad cI cZ σ) U.heap ∧ va_K (dC, dI) vwCl (tys2 cI cZ) U ∧ va_D (fun _ => True) (cw ad cI cZ σ) ∧ NW U
def mQc (dC : Nat → ClassId) (dI : Nat → Nat → Nat) (ad : Nat → Nat) (cI cZ : ClassId) (A : Nat → Prop) (n : Nat) (Post : aPost) : Array Value → State → Outcome → State → Prop := fun _ st oc t => (∃ (r : Option Value) (σ' : aW), oc = .returned (r.map (cv ad)) ∧ Post r σ' ∧ σ'.length = n ∧ va_P (dC, dI) vwCl (cw ad cI cZ σ') t.heap) ∧ va_F A st t
/-- the contract of a method at these arguments and this world -/
def MT (M : MD) (av : List Value) (σ : aW) (Post : aPost) : Prop := ∀ (l : Launch) (dC : Nat → ClassId) (dI : Nat → Nat → Nat) (ad : Nat → Nat) (cI cZ : ClassId) (sz : Nat),
  Met l M.1 (mws M) (mrm M) (va_Pc (av.map (cv ad)) (fun U => U.heap.size = sz ∧ SF dC dI ad cI cZ σ U)) (mQc dC dI ad cI cZ (va_A (cw ad cI cZ σ) sz) σ.length Post) 0 0 (va_A (cw ad cI cZ σ) sz)
/-! the walk of a method's body -/
abbrev CX : Type := Program × Launch × Env × Room × State × MethodId × Array Value × List Frame × Method × Code × (Nat → ClassId) × (Nat → Nat → Nat) × (Nat → Nat) × ClassId × ClassId × Nat × aW
def LH (ad : Nat → Nat) (ls : Array Slot) (nL : Nat) (L : List (Option Value)) : Prop := ls.size = nL ∧ lv_wf ls ∧ ∀ (i : Nat) (v : Value), L[i]? = some (some v) → ls[i]? = some (.val (cv ad v))
def Wp (X : CX) (Post : aPost) (pc : Nat) (L : List (Option Value)) (S : List Value) (σ : aW) : Prop := match X with
  | (p, l, e, R, s, m, args, below, meth, c, dC, dI, ad, cI, cZ, nL, σ0) => ∀ (H : Heap) (locs : List Loc) (ls : Array Slot), σ.length = σ0.length → va_P (dC, dI) vwCl (cw ad cI cZ σ) H → va_S (va_A (cw ad cI cZ σ0) s.heap.size) s.heap H locs → LH ad ls nL L →
    W p l e R s m args below meth c H locs 0 0 (MQ below (mQc dC dI ad cI cZ (va_A (cw ad cI cZ σ0) s.heap.size) σ0.length Post) args s 0 0 (va_A (cw ad cI cZ σ0) s.heap.size)) (F0 m pc ls (S.map (cv ad)))
def Gd (X : CX) (M : MD) : Prop := match X with
  | (p, _, _, R, s, m, args, _, meth, c, dC, dI, ad, cI, cZ, nL, σ0) => p.tables.exec = Jvm.exec ∧ c.code = M.2.1 ∧ meth.sig.returnType = M.2.2.2.1 ∧ c.maxLocals = nL ∧ nL = M.2.2.1 ∧ s.vm.findClass M.1.cls = some m.cls ∧ (∀ w ∈ mws M, w.before args s = true) ∧ meth.locks = false ∧
    va_K (dC, dI) vwCl (tys2 cI cZ) s ∧ va_D (va_A (cw ad cI cZ σ0) s.heap.size) (cw ad cI cZ σ0) ∧ NW s ∧ R = mrm M
/-- the locals at the entry -/
def ent : List Value → List (Option Value)
  | [] => []
  | .long x :: vs => some (.long x) :: none :: ent vs
  | .double x :: vs => some (.double x) :: none :: ent vs
  | v :: vs => some v :: ent vs
theorem ent_cons (v : Value) (vs : List Value) : ent (v :: vs) = if v.category = 2 then some v :: none :: ent vs else some v :: ent vs := by cases v <;> rfl
theorem ent_len (ad : Nat → Nat) : ∀ vs : List Value, (lg_sl (vs.map (cv ad))).length = (ent vs).length
  | [] => rfl
  | v :: vs => by
    have ih := ent_len ad vs
    rw [ent_cons]
    unfold lg_sl at ih ⊢
    rw [List.map_cons, List.flatMap_cons, List.length_append, ih, cv_cat]
    by_cases h : v.category = 2
    · rw [if_pos h, if_pos h]; simp; omega
    · rw [if_neg h, if_neg h]; simp; omega
theorem ent_in (ad : Nat → Nat) : ∀ (vs : List Value) (b i : Nat) (v : Value), (ent vs)[i]? = some (some v) → (b + i, cv ad v) ∈ lv_args b (vs.map (cv ad))
  | [], b, i, v, h => by simp [ent] at h
  | u :: vs, b, i, v, h => by
    rw [ent_cons] at h
    show (b + i, cv ad v) ∈ (b, cv ad u) :: lv_args (if (cv ad u).category = 2 then b + 2 else b + 1) (vs.map (cv ad))
    rw [cv_cat]
    by_cases hc : u.category = 2
    · rw [if_pos hc] at h ⊢
      match i, h with
      | 0, h => cases h; exact List.mem_cons_self
      | 1, h => cases h
      | i + 2, h =>
        have := ent_in ad vs (b + 2) i v h
        rw [show b + (i + 2) = b + 2 + i by omega]
        exact List.mem_cons_of_mem _ this
    · rw [if_neg hc] at h ⊢
      match i, h with
      | 0, h => cases h; exact List.mem_cons_self
      | i + 1, h =>
        have := ent_in ad vs (b + 1) i v h
        rw [show b + (i + 1) = b + 1 + i by omega]
        exact List.mem_cons_of_mem _ this
theorem mt_of {M : MD} {av : List Value} {σ : aW} {Post : aPost} (L0 : List (Option Value)) (hL : ent av ++ List.replicate (M.2.2.1 - (ent av).length) none = L0) (hn : (ent av).length ≤ M.2.2.1) (hy : plainName M.1.cls = true) (h : ∀ X, Gd X M → Wp X Post 0 L0 [] σ) : MT M av σ Post := by
  intro l dC dI ad cI cZ sz
  refine Met.ofW (cc := M.2.1) (maxL := M.2.2.1) (ret := M.2.2.2.1) hy rfl ?_
  intro p e s m args below meth c s₁ B hml hv
  obtain ⟨rfl, hsz, hP, hK, hD0, hN⟩ := hv
  subst hsz
  have key := h (p, l, e, mrm M, s, m, (av.map (cv ad)).toArray, below, meth, c, dC, dI, ad, cI, cZ, M.2.2.1, σ) ⟨B.exec, B.bytes, B.returns, hml, rfl, findClass_of_methodNamed B.named, atoms_spec (ws := mws M) B.pre, B.notSynchronized, hK, hD0.self, hN, rfl⟩
  have hle : (lg_sl (av.map (cv ad))).length ≤ M.2.2.1 := by rw [ent_len]; exact hn
  have hl := lv_entry (av.map (cv ad)) (n := M.2.2.1) hle
  rw [lg_entry_eq]
  refine key s.heap [] _ rfl hP va_S.rf ⟨hl.1, hl.2.1, fun i v hi => ?_⟩
  rw [← hL] at hi
  by_cases hlt : i < (ent av).length
  · rw [List.getElem?_append_left hlt] at hi
    have := hl.2.2 _ (ent_in ad av 0 i v hi)
    rw [Nat.zero_add] at this
    exact this
  · rw [List.getElem?_append_right (by omega)] at hi
    have := List.mem_of_getElem? hi
    have := List.eq_of_mem_replicate this
    cases this
theorem mt_post {M : MD} {av : List Value} {σ : aW} {P Q : aPost} (h : MT M av σ P) (hq : ∀ r σ', P r σ' → Q r σ') : MT M av σ Q := by
  intro l dC dI ad cI cZ sz
  have h1 := h l dC dI ad cI cZ sz
  have hc : ∀ a st o t, mQc dC dI ad cI cZ (va_A (cw ad cI cZ σ) sz) σ.length P a st o t → mQc dC dI ad cI cZ (va_A (cw ad cI cZ σ) sz) σ.length Q a st o t := by
    rintro a st o t ⟨⟨r, σ', e1, e2, e3, e4⟩, hf⟩
    exact ⟨⟨r, σ', e1, hq r σ' e2, e3, e4⟩, hf⟩
  intro p e ha hcx hk s m args below hf happ hpre hK
  obtain ⟨k, o, a1, a2, a3, a4, a5⟩ := h1 p e ha hcx hk s m args below hf happ hpre hK
  exact ⟨k, o, a1, a2, a3, hc _ _ _ _ a4, a5⟩
/-- rows by hand: LH under a store -/
theorem LH_lv {ad : Nat → Nat} {ls : Array Slot} {nL : Nat} {L : List (Option Value)} (h : LH ad ls nL L) : lv_has ls nL (L.zipIdx.filterMap (fun q => q.1.map (fun v => (q.2, cv ad v)))) := by
  refine ⟨h.1, h.2.1, fun q hq => ?_⟩
  obtain ⟨⟨x, i⟩, h1, h2⟩ := List.mem_filterMap.mp hq
  cases x with
  | none => cases h2
  | some v =>
    cases h2
    have := List.mem_zipIdx_iff_getElem?.mp h1
    exact h.2.2 i v this
def noL (L : List (Option Value)) (i : Nat) : Bool := match i with
  | 0 => true
  | i + 1 => match L[i]? with
    | some (some v) => v.category == 1
    | _ => true
theorem LH_in {ad : Nat → Nat} {L : List (Option Value)} {j : Nat} {v : Value} (h : L[j]? = some (some v)) : (j, cv ad v) ∈ L.zipIdx.filterMap (fun q => q.1.map (fun v => (q.2, cv ad v))) :=
  List.mem_filterMap.mpr ⟨(some v, j), List.mem_zipIdx_iff_getElem?.mpr h, rfl⟩
theorem LH_st {ad : Nat → Nat} {ls : Array Slot} {nL : Nat} {L : List (Option Value)} {i : Nat} {u : Value} (hc : u.category = 1) (hno : noL L i = true)
    (h : lv_has ls nL ((i, cv ad u) :: (L.zipIdx.filterMap (fun q => q.1.map (fun v => (q.2, cv ad v)))).filter (fun q => !(q.1 == i) && !(q.1 + 1 == i && q.2.category == 2)))) : LH ad ls nL (L.set i (some u)) := by
  refine ⟨h.1, h.2.1, fun j v hj => ?_⟩
  by_cases e : i = j
  · subst e
    have hlt : i < (L.set i (some u)).length := (List.getElem?_eq_some_iff.mp hj).1
    rw [List.getElem?_set_self (by simpa using hlt)] at hj
    cases hj
    exact h.2.2 _ List.mem_cons_self
  · rw [List.getElem?_set_ne e] at hj
    refine h.2.2 (j, cv ad v) (List.mem_cons_of_mem _ (List.mem_filter.mpr ⟨LH_in hj, ?_⟩))
    have e1 : (j == i) = false := by simpa using fun q => e q.symm
    by_cases e2 : j + 1 = i
    · subst e2
      have : (v.category == 1) = true := by
        have := hno
        simp only [noL, hj] at this
        exact this
      have h3 : v.category = 1 := by simpa using this
      simp [e1, cv_cat, h3]
    · have e3 : (j + 1 == i) = false := by simpa using e2
      simp [e1, e3]
theorem LH_st2 {ad : Nat → Nat} {ls : Array Slot} {nL : Nat} {L : List (Option Value)} {i : Nat} {u : Value} (hno : noL L i = true)
    (h : lv_has ls nL ((i, cv ad u) :: (L.zipIdx.filterMap (fun q => q.1.map (fun v => (q.2, cv ad v)))).filter (fun q => !(q.1 == i) && (!(q.1 == i + 1) && !(q.1 + 1 == i && q.2.category == 2))))) : LH ad ls nL ((L.set i (some u)).set (i + 1) none) := by
  refine ⟨h.1, h.2.1, fun j v hj => ?_⟩
  by_cases e0 : i + 1 = j
  · subst e0
    have hlt : i + 1 < ((L.set i (some u)).set (i + 1) none).length := (List.getElem?_eq_some_iff.mp hj).1
    rw [List.getElem?_set_self (by simpa using hlt)] at hj
    cases hj
  · rw [List.getElem?_set_ne e0] at hj
    by_cases e : i = j
    · subst e
      have hlt : i < (L.set i (some u)).length := (List.getElem?_eq_some_iff.mp hj).1
      rw [List.getElem?_set_self (by simpa using hlt)] at hj
      cases hj
      exact h.2.2 _ List.mem_cons_self
    · rw [List.getElem?_set_ne e] at hj
      refine h.2.2 (j, cv ad v) (List.mem_cons_of_mem _ (List.mem_filter.mpr ⟨LH_in hj, ?_⟩))
      have e1 : (j == i) = false := by simpa using fun q => e q.symm
      have e4 : (j == i + 1) = false := by simpa using fun q => e0 q.symm
      by_cases e2 : j + 1 = i
      · subst e2
        have : (v.category == 1) = true := by
          have := hno
          simp only [noL, hj] at this
          exact this
        have h3 : v.category = 1 := by simpa using this
        simp [e1, e4, cv_cat, h3]
      · have e3 : (j + 1 == i) = false := by simpa using e2
        simp [e1, e3, e4]
section Rules
variable {X : CX} {M : MD} {Post : aPost} {pc : Nat} {L : List (Option Value)} {S : List Value} {σ : aW}
theorem wp_iconst {n : Int} {v : Int32} (hX : Gd X M) (hd : decode M.2.1 pc = .ok (.iconst n, 1)) (hv : Int32.ofInt n = v) (k : Wp X Post (pc + 1) L (.int v :: S) σ) : Wp X Post pc L S σ := by
  obtain ⟨p, l, e, R, s, m, args, below, meth, c, dC, dI, ad, cI, cZ, nL, σ0⟩ := X
  intro H locs ls h1 h2 h3 h4
  exact lv_iconst hX.1 hX.2.1 hd hv (k H locs ls h1 h2 h3 h4)
theorem wp_bipush {n : Int} {v : Int32} (hX : Gd X M) (hd : decode M.2.1 pc = .ok (.bipush n, 2)) (hv : (Int8.ofInt n).toInt32 = v) (k : Wp X Post (pc + 2) L (.int v :: S) σ) : Wp X Post pc L S σ := by
  obtain ⟨p, l, e, R, s, m, args, below, meth, c, dC, dI, ad, cI, cZ, nL, σ0⟩ := X
  intro H locs ls h1 h2 h3 h4
  exact lv_bipush hX.1 hX.2.1 hd hv (k H locs ls h1 h2 h3 h4)
theorem wp_sipush {n : Int} {v : Int32} (hX : Gd X M) (hd : decode M.2.1 pc = .ok (.sipush n, 3)) (hv : (Int16.ofInt n).toInt32 = v) (k : Wp X Post (pc + 3) L (.int v :: S) σ) : Wp X Post pc L S σ := by
  obtain ⟨p, l, e, R, s, m, args, below, meth, c, dC, dI, ad, cI, cZ, nL, σ0⟩ := X
  intro H locs ls h1 h2 h3 h4
  exact lv_sipush hX.1 hX.2.1 hd hv (k H locs ls h1 h2 h3 h4)
theorem wp_lconst {n : Fin 2} {v : Int64} (hX : Gd X M) (hd : decode M.2.1 pc = .ok (.lconst n, 1)) (hv : Int64.ofNat (n : Nat) = v) (k : Wp X Post (pc + 1) L (.long v :: S) σ) : Wp X Post pc L S σ := by
  obtain ⟨p, l, e, R, s, m, args, below, meth, c, dC, dI, ad, cI, cZ, nL, σ0⟩ := X
  intro H locs ls h1 h2 h3 h4
  exact lv_lconst hX.1 hX.2.1 hd hv (k H locs ls h1 h2 h3 h4)
theorem wp_iload_n {n : Fin 4} {x : Int32} (hX : Gd X M) (hd : decode M.2.1 pc = .ok (.iload_n n, 1)) (hl : L[(n : Nat)]? = some (some (.int x))) (k : Wp X Post (pc + 1) L (.int x :: S) σ) : Wp X Post pc L S σ := by
  obtain ⟨p, l, e, R, s, m, args, below, meth, c, dC, dI, ad, cI, cZ, nL, σ0⟩ := X
  intro H locs ls h1 h2 h3 h4
  exact lv_iload_n hX.1 hX.2.1 hd rfl (h4.2.2 _ _ hl) (k H locs ls h1 h2 h3 h4)
theorem wp_iload {i : Nat} {x : Int32} (hX : Gd X M) (hd : decode M.2.1 pc = .ok (.iload i, 2)) (hl : L[i]? = some (some (.int x))) (k : Wp X Post (pc + 2) L (.int x :: S) σ) : Wp X Post pc L S σ := by
  obtain ⟨p, l, e, R, s, m, args, below, meth, c, dC, dI, ad, cI, cZ, nL, σ0⟩ := X
  intro H locs ls h1 h2 h3 h4
  exact lv_iload hX.1 hX.2.1 hd (h4.2.2 _ _ hl) (k H locs ls h1 h2 h3 h4)
theorem wp_lload_n {n : Fin 4} {x : Int64} (hX : Gd X M) (hd : decode M.2.1 pc = .ok (.lload_n n, 1)) (hl : L[(n : Nat)]? = some (some (.long x))) (k : Wp X Post (pc + 1) L (.long x :: S) σ) : Wp X Post pc L S σ := by
  obtain ⟨p, l, e, R, s, m, args, below, meth, c, dC, dI, ad, cI, cZ, nL, σ0⟩ := X
  intro H locs ls h1 h2 h3 h4
  exact lv_lload_n hX.1 hX.2.1 hd rfl (h4.2.2 _ _ hl) (k H locs ls h1 h2 h3 h4)
theorem wp_lload {i : Nat} {x : Int64} (hX : Gd X M) (hd : decode M.2.1 pc = .ok (.lload i, 2)) (hl : L[i]? = some (some (.long x))) (k : Wp X Post (pc + 2) L (.long x :: S) σ) : Wp X Post pc L S σ := by
  obtain ⟨p, l, e, R, s, m, args, below, meth, c, dC, dI, ad, cI, cZ, nL, σ0⟩ := X
  intro H locs ls h1 h2 h3 h4
  exact lv_lload hX.1 hX.2.1 hd (h4.2.2 _ _ hl) (k H locs ls h1 h2 h3 h4)
theorem wp_aload_n {n : Fin 4} {x : Nat} (hX : Gd X M) (hd : decode M.2.1 pc = .ok (.aload_n n, 1)) (hl : L[(n : Nat)]? = some (some (.ref x))) (k : Wp X Post (pc + 1) L (.ref x :: S) σ) : Wp X Post pc L S σ := by
  obtain ⟨p, l, e, R, s, m, args, below, meth, c, dC, dI, ad, cI, cZ, nL, σ0⟩ := X
  intro H locs ls h1 h2 h3 h4
  exact lv_aload_n hX.1 hX.2.1 hd rfl (h4.2.2 _ _ hl) (k H locs ls h1 h2 h3 h4)
theorem wp_aload {i : Nat} {x : Nat} (hX : Gd X M) (hd : decode M.2.1 pc = .ok (.aload i, 2)) (hl : L[i]? = some (some (.ref x))) (k : Wp X Post (pc + 2) L (.ref x :: S) σ) : Wp X Post pc L S σ := by
  obtain ⟨p, l, e, R, s, m, args, below, meth, c, dC, dI, ad, cI, cZ, nL, σ0⟩ := X
  intro H locs ls h1 h2 h3 h4
  exact lv_aload hX.1 hX.2.1 hd (h4.2.2 _ _ hl) (k H locs ls h1 h2 h3 h4)
theorem wp_iadd {x y : Int32} (hX : Gd X M) (hd : decode M.2.1 pc = .ok (.iadd, 1))  (k : Wp X Post (pc + 1) L (.int (x + y) :: S) σ) : Wp X Post pc L (.int y :: .int x :: S) σ := by
  obtain ⟨p, l, e, R, s, m, args, below, meth, c, dC, dI, ad, cI, cZ, nL, σ0⟩ := X
  intro H locs ls h1 h2 h3 h4
  exact lv_iadd hX.1 hX.2.1 hd (k H locs ls h1 h2 h3 h4)
theorem wp_isub {x y : Int32} (hX : Gd X M) (hd : decode M.2.1 pc = .ok (.isub, 1))  (k : Wp X Post (pc + 1) L (.int (x - y) :: S) σ) : Wp X Post pc L (.int y :: .int x :: S) σ := by
  obtain ⟨p, l, e, R, s, m, args, below, meth, c, dC, dI, ad, cI, cZ, nL, σ0⟩ := X
  intro H locs ls h1 h2 h3 h4
  exact lv_isub hX.1 hX.2.1 hd (k H locs ls h1 h2 h3 h4)
theorem wp_imul {x y : Int32} (hX : Gd X M) (hd : decode M.2.1 pc = .ok (.imul, 1))  (k : Wp X Post (pc + 1) L (.int (x * y) :: S) σ) : Wp X Post pc L (.int y :: .int x :: S) σ := by
  obtain ⟨p, l, e, R, s, m, args, below, meth, c, dC, dI, ad, cI, cZ, nL, σ0⟩ := X
  intro H locs ls h1 h2 h3 h4
  exact lv_imul hX.1 hX.2.1 hd (k H locs ls h1 h2 h3 h4)
theorem wp_iand {x y : Int32} (hX : Gd X M) (hd : decode M.2.1 pc = .ok (.iand, 1))  (k : Wp X Post (pc + 1) L (.int (x &&& y) :: S) σ) : Wp X Post pc L (.int y :: .int x :: S) σ := by
  obtain ⟨p, l, e, R, s, m, args, below, meth, c, dC, dI, ad, cI, cZ, nL, σ0⟩ := X
  intro H locs ls h1 h2 h3 h4
  exact lv_iand hX.1 hX.2.1 hd (k H locs ls h1 h2 h3 h4)
theorem wp_idiv {x y : Int32} (hX : Gd X M) (hd : decode M.2.1 pc = .ok (.idiv, 1)) (hne : ¬ y = 0) (k : Wp X Post (pc + 1) L (.int (x / y) :: S) σ) : Wp X Post pc L (.int y :: .int x :: S) σ := by
  obtain ⟨p, l, e, R, s, m, args, below, meth, c, dC, dI, ad, cI, cZ, nL, σ0⟩ := X
  intro H locs ls h1 h2 h3 h4
  exact lv_idiv hX.1 hX.2.1 hd hne (k H locs ls h1 h2 h3 h4)
theorem wp_irem {x y : Int32} (hX : Gd X M) (hd : decode M.2.1 pc = .ok (.irem, 1)) (hne : ¬ y = 0) (k : Wp X Post (pc + 1) L (.int (x - x / y * y) :: S) σ) : Wp X Post pc L (.int y :: .int x :: S) σ := by
  obtain ⟨p, l, e, R, s, m, args, below, meth, c, dC, dI, ad, cI, cZ, nL, σ0⟩ := X
  intro H locs ls h1 h2 h3 h4
  exact lv_irem hX.1 hX.2.1 hd hne (k H locs ls h1 h2 h3 h4)
theorem wp_ladd {x y : Int64} (hX : Gd X M) (hd : decode M.2.1 pc = .ok (.ladd, 1))  (k : Wp X Post (pc + 1) L (.long (x + y) :: S) σ) : Wp X Post pc L (.long y :: .long x :: S) σ := by
  obtain ⟨p, l, e, R, s, m, args, below, meth, c, dC, dI, ad, cI, cZ, nL, σ0⟩ := X
  intro H locs ls h1 h2 h3 h4
  exact lv_ladd hX.1 hX.2.1 hd (k H locs ls h1 h2 h3 h4)
theorem wp_lsub {x y : Int64} (hX : Gd X M) (hd : decode M.2.1 pc = .ok (.lsub, 1))  (k : Wp X Post (pc + 1) L (.long (x - y) :: S) σ) : Wp X Post pc L (.long y :: .long x :: S) σ := by
  obtain ⟨p, l, e, R, s, m, args, below, meth, c, dC, dI, ad, cI, cZ, nL, σ0⟩ := X
  intro H locs ls h1 h2 h3 h4
  exact lv_lsub hX.1 hX.2.1 hd (k H locs ls h1 h2 h3 h4)
theorem wp_lmul {x y : Int64} (hX : Gd X M) (hd : decode M.2.1 pc = .ok (.lmul, 1))  (k : Wp X Post (pc + 1) L (.long (x * y) :: S) σ) : Wp X Post pc L (.long y :: .long x :: S) σ := by
  obtain ⟨p, l, e, R, s, m, args, below, meth, c, dC, dI, ad, cI, cZ, nL, σ0⟩ := X
  intro H locs ls h1 h2 h3 h4
  exact lv_lmul hX.1 hX.2.1 hd (k H locs ls h1 h2 h3 h4)
theorem wp_ldiv {x y : Int64} (hX : Gd X M) (hd : decode M.2.1 pc = .ok (.ldiv, 1)) (hne : ¬ y = 0) (k : Wp X Post (pc + 1) L (.long (x / y) :: S) σ) : Wp X Post pc L (.long y :: .long x :: S) σ := by
  obtain ⟨p, l, e, R, s, m, args, below, meth, c, dC, dI, ad, cI, cZ, nL, σ0⟩ := X
  intro H locs ls h1 h2 h3 h4
  exact lv_ldiv hX.1 hX.2.1 hd hne (k H locs ls h1 h2 h3 h4)
theorem wp_lcmp {x y : Int64} (hX : Gd X M) (hd : decode M.2.1 pc = .ok (.lcmp, 1))  (k : Wp X Post (pc + 1) L (.int (lg_cmp x y) :: S) σ) : Wp X Post pc L (.long y :: .long x :: S) σ := by
  obtain ⟨p, l, e, R, s, m, args, below, meth, c, dC, dI, ad, cI, cZ, nL, σ0⟩ := X
  intro H locs ls h1 h2 h3 h4
  exact W.lcmp hX.1 hX.2.1 hd (k H locs ls h1 h2 h3 h4)
theorem wp_i2l {x : Int32} (hX : Gd X M) (hd : decode M.2.1 pc = .ok (.i2l, 1))  (k : Wp X Post (pc + 1) L (.long x.toInt64 :: S) σ) : Wp X Post pc L (.int x :: S) σ := by
  obtain ⟨p, l, e, R, s, m, args, below, meth, c, dC, dI, ad, cI, cZ, nL, σ0⟩ := X
  intro H locs ls h1 h2 h3 h4
  exact lv_i2l hX.1 hX.2.1 hd rfl (k H locs ls h1 h2 h3 h4)
theorem wp_l2i {x : Int64} (hX : Gd X M) (hd : decode M.2.1 pc = .ok (.l2i, 1))  (k : Wp X Post (pc + 1) L (.int x.toInt32 :: S) σ) : Wp X Post pc L (.long x :: S) σ := by
  obtain ⟨p, l, e, R, s, m, args, below, meth, c, dC, dI, ad, cI, cZ, nL, σ0⟩ := X
  intro H locs ls h1 h2 h3 h4
  exact lv_l2i hX.1 hX.2.1 hd rfl (k H locs ls h1 h2 h3 h4)
theorem wp_dup {v : Value} (hX : Gd X M) (hd : decode M.2.1 pc = .ok (.dup, 1)) (hv : v.category = 1) (k : Wp X Post (pc + 1) L (v :: v :: S) σ) : Wp X Post pc L (v :: S) σ := by
  obtain ⟨p, l, e, R, s, m, args, below, meth, c, dC, dI, ad, cI, cZ, nL, σ0⟩ := X
  intro H locs ls h1 h2 h3 h4
  exact lv_dup hX.1 hX.2.1 hd (by rw [cv_cat]; exact hv) (k H locs ls h1 h2 h3 h4)
theorem wp_pop {v : Value} (hX : Gd X M) (hd : decode M.2.1 pc = .ok (.pop, 1)) (hv : v.category = 1) (k : Wp X Post (pc + 1) L S σ) : Wp X Post pc L (v :: S) σ := by
  obtain ⟨p, l, e, R, s, m, args, below, meth, c, dC, dI, ad, cI, cZ, nL, σ0⟩ := X
  intro H locs ls h1 h2 h3 h4
  exact lv_pop hX.1 hX.2.1 hd (by rw [cv_cat]; exact hv) (k H locs ls h1 h2 h3 h4)
theorem wp_goto {off : Int} {tgt : Nat} (hX : Gd X M) (hd : decode M.2.1 pc = .ok (.goto off, 3)) (ht : (pc : Int) + off = (tgt : Int)) (k : Wp X Post tgt L S σ) : Wp X Post pc L S σ := by
  obtain ⟨p, l, e, R, s, m, args, below, meth, c, dC, dI, ad, cI, cZ, nL, σ0⟩ := X
  intro H locs ls h1 h2 h3 h4
  exact lv_goto hX.1 hX.2.1 hd ht (k H locs ls h1 h2 h3 h4)
theorem wp_istore_n {n : Fin 4} {x : Int32} (hX : Gd X M) (hd : decode M.2.1 pc = .ok (.istore_n n, 1)) (hn : (n : Nat) < M.2.2.1) (hno : noL L (n : Nat) = true) (k : Wp X Post (pc + 1) (L.set (n : Nat) (some (.int x))) S σ) : Wp X Post pc L (.int x :: S) σ := by
  obtain ⟨p, l, e, R, s, m, args, below, meth, c, dC, dI, ad, cI, cZ, nL, σ0⟩ := X
  intro H locs ls h1 h2 h3 h4
  exact lv_istore_n hX.1 hX.2.1 hd rfl (LH_lv h4) (by rw [hX.2.2.2.2.1]; exact hn) rfl (fun ls hl => k H locs ls h1 h2 h3 (LH_st rfl hno hl))
theorem wp_istore {i : Nat} {x : Int32} (hX : Gd X M) (hd : decode M.2.1 pc = .ok (.istore i, 2)) (hn : i < M.2.2.1) (hno : noL L i = true) (k : Wp X Post (pc + 2) (L.set i (some (.int x))) S σ) : Wp X Post pc L (.int x :: S) σ := by
  obtain ⟨p, l, e, R, s, m, args, below, meth, c, dC, dI, ad, cI, cZ, nL, σ0⟩ := X
  intro H locs ls h1 h2 h3 h4
  exact lv_istore hX.1 hX.2.1 hd (LH_lv h4) (by rw [hX.2.2.2.2.1]; exact hn) rfl (fun ls hl => k H locs ls h1 h2 h3 (LH_st rfl hno hl))
theorem wp_astore_n {n : Fin 4} {x : Nat} (hX : Gd X M) (hd : decode M.2.1 pc = .ok (.astore_n n, 1)) (hn : (n : Nat) < M.2.2.1) (hno : noL L (n : Nat) = true) (k : Wp X Post (pc + 1) (L.set (n : Nat) (some (.ref x))) S σ) : Wp X Post pc L (.ref x :: S) σ := by
  obtain ⟨p, l, e, R, s, m, args, below, meth, c, dC, dI, ad, cI, cZ, nL, σ0⟩ := X
  intro H locs ls h1 h2 h3 h4
  exact lv_astore_n hX.1 hX.2.1 hd rfl (LH_lv h4) (by rw [hX.2.2.2.2.1]; exact hn) rfl (fun ls hl => k H locs ls h1 h2 h3 (LH_st rfl hno hl))
theorem wp_astore {i : Nat} {x : Nat} (hX : Gd X M) (hd : decode M.2.1 pc = .ok (.astore i, 2)) (hn : i < M.2.2.1) (hno : noL L i = true) (k : Wp X Post (pc + 2) (L.set i (some (.ref x))) S σ) : Wp X Post pc L (.ref x :: S) σ := by
  obtain ⟨p, l, e, R, s, m, args, below, meth, c, dC, dI, ad, cI, cZ, nL, σ0⟩ := X
  intro H locs ls h1 h2 h3 h4
  exact lv_astore hX.1 hX.2.1 hd (LH_lv h4) (by rw [hX.2.2.2.2.1]; exact hn) rfl (fun ls hl => k H locs ls h1 h2 h3 (LH_st rfl hno hl))
theorem wp_lstore_n {n : Fin 4} {x : Int64} (hX : Gd X M) (hd : decode M.2.1 pc = .ok (.lstore_n n, 1)) (hn : (n : Nat) + 1 < M.2.2.1) (hno : noL L (n : Nat) = true) (k : Wp X Post (pc + 1) ((L.set (n : Nat) (some (.long x))).set ((n : Nat) + 1) none) S σ) : Wp X Post pc L (.long x :: S) σ := by
  obtain ⟨p, l, e, R, s, m, args, below, meth, c, dC, dI, ad, cI, cZ, nL, σ0⟩ := X
  intro H locs ls h1 h2 h3 h4
  exact lv_lstore_n hX.1 hX.2.1 hd rfl (LH_lv h4) (by rw [hX.2.2.2.2.1]; exact hn) rfl (fun ls hl => k H locs ls h1 h2 h3 (LH_st2 hno hl))
theorem wp_lstore {i : Nat} {x : Int64} (hX : Gd X M) (hd : decode M.2.1 pc = .ok (.lstore i, 2)) (hn : i + 1 < M.2.2.1) (hno : noL L i = true) (k : Wp X Post (pc + 2) ((L.set i (some (.long x))).set (i + 1) none) S σ) : Wp X Post pc L (.long x :: S) σ := by
  obtain ⟨p, l, e, R, s, m, args, below, meth, c, dC, dI, ad, cI, cZ, nL, σ0⟩ := X
  intro H locs ls h1 h2 h3 h4
  exact lv_lstore hX.1 hX.2.1 hd (LH_lv h4) (by rw [hX.2.2.2.2.1]; exact hn) rfl (fun ls hl => k H locs ls h1 h2 h3 (LH_st2 hno hl))
theorem wp_iinc {i : Nat} {n : Int} {x d : Int32} (hX : Gd X M) (hd : decode M.2.1 pc = .ok (.iinc i n, 3)) (hv : Int32.ofInt n = d) (hl : L[i]? = some (some (.int x))) (hn : i < M.2.2.1) (hno : noL L i = true) (k : Wp X Post (pc + 3) (L.set i (some (.int (x + d)))) S σ) : Wp X Post pc L S σ := by
  obtain ⟨p, l, e, R, s, m, args, below, meth, c, dC, dI, ad, cI, cZ, nL, σ0⟩ := X
  intro H locs ls h1 h2 h3 h4
  subst hv
  obtain ⟨j, hj⟩ := List.getElem?_of_mem (LH_in (ad := ad) hl)
  exact lv_iinc hX.1 hX.2.1 hd (LH_lv h4) hj rfl (by rw [hX.2.2.2.2.1]; exact hn) rfl (fun ls hl => k H locs ls h1 h2 h3 (LH_st rfl hno hl))
theorem wp_if_eq {x : Int32} {off : Int} {tgt : Nat} (hX : Gd X M) (hd : decode M.2.1 pc = .ok (.ifCond .eq off, 3)) (ht : (pc : Int) + off = (tgt : Int)) (kt : x = 0 → Wp X Post tgt L S σ) (kf : ¬ x = 0 → Wp X Post (pc + 3) L S σ) : Wp X Post pc L (.int x :: S) σ := by
  obtain ⟨p, l, e, R, s, m, args, below, meth, c, dC, dI, ad, cI, cZ, nL, σ0⟩ := X
  intro H locs ls h1 h2 h3 h4
  exact lv_if_eq hX.1 hX.2.1 hd ht (fun q => kt q H locs ls h1 h2 h3 h4) (fun q => kf q H locs ls h1 h2 h3 h4)
theorem wp_icmp_eq {x y : Int32} {off : Int} {tgt : Nat} (hX : Gd X M) (hd : decode M.2.1 pc = .ok (.if_icmp .eq off, 3)) (ht : (pc : Int) + off = (tgt : Int)) (kt : x = y → Wp X Post tgt L S σ) (kf : ¬ x = y → Wp X Post (pc + 3) L S σ) : Wp X Post pc L (.int y :: .int x :: S) σ := by
  obtain ⟨p, l, e, R, s, m, args, below, meth, c, dC, dI, ad, cI, cZ, nL, σ0⟩ := X
  intro H locs ls h1 h2 h3 h4
  exact lv_icmp_eq hX.1 hX.2.1 hd ht (fun q => kt q H locs ls h1 h2 h3 h4) (fun q => kf q H locs ls h1 h2 h3 h4)
theorem wp_if_ne {x : Int32} {off : Int} {tgt : Nat} (hX : Gd X M) (hd : decode M.2.1 pc = .ok (.ifCond .ne off, 3)) (ht : (pc : Int) + off = (tgt : Int)) (kt : ¬ x = 0 → Wp X Post tgt L S σ) (kf : x = 0 → Wp X Post (pc + 3) L S σ) : Wp X Post pc L (.int x :: S) σ := by
  obtain ⟨p, l, e, R, s, m, args, below, meth, c, dC, dI, ad, cI, cZ, nL, σ0⟩ := X
  intro H locs ls h1 h2 h3 h4
  exact lv_if_ne hX.1 hX.2.1 hd ht (fun q => kt q H locs ls h1 h2 h3 h4) (fun q => kf q H locs ls h1 h2 h3 h4)
theorem wp_icmp_ne {x y : Int32} {off : Int} {tgt : Nat} (hX : Gd X M) (hd : decode M.2.1 pc = .ok (.if_icmp .ne off, 3)) (ht : (pc : Int) + off = (tgt : Int)) (kt : ¬ x = y → Wp X Post tgt L S σ) (kf : x = y → Wp X Post (pc + 3) L S σ) : Wp X Post pc L (.int y :: .int x :: S) σ := by
  obtain ⟨p, l, e, R, s, m, args, below, meth, c, dC, dI, ad, cI, cZ, nL, σ0⟩ := X
  intro H locs ls h1 h2 h3 h4
  exact lv_icmp_ne hX.1 hX.2.1 hd ht (fun q => kt q H locs ls h1 h2 h3 h4) (fun q => kf q H locs ls h1 h2 h3 h4)
theorem wp_if_lt {x : Int32} {off : Int} {tgt : Nat} (hX : Gd X M) (hd : decode M.2.1 pc = .ok (.ifCond .lt off, 3)) (ht : (pc : Int) + off = (tgt : Int)) (kt : x < 0 → Wp X Post tgt L S σ) (kf : ¬ x < 0 → Wp X Post (pc + 3) L S σ) : Wp X Post pc L (.int x :: S) σ := by
  obtain ⟨p, l, e, R, s, m, args, below, meth, c, dC, dI, ad, cI, cZ, nL, σ0⟩ := X
  intro H locs ls h1 h2 h3 h4
  exact lv_if_lt hX.1 hX.2.1 hd ht (fun q => kt q H locs ls h1 h2 h3 h4) (fun q => kf q H locs ls h1 h2 h3 h4)
theorem wp_icmp_lt {x y : Int32} {off : Int} {tgt : Nat} (hX : Gd X M) (hd : decode M.2.1 pc = .ok (.if_icmp .lt off, 3)) (ht : (pc : Int) + off = (tgt : Int)) (kt : x < y → Wp X Post tgt L S σ) (kf : ¬ x < y → Wp X Post (pc + 3) L S σ) : Wp X Post pc L (.int y :: .int x :: S) σ := by
  obtain ⟨p, l, e, R, s, m, args, below, meth, c, dC, dI, ad, cI, cZ, nL, σ0⟩ := X
  intro H locs ls h1 h2 h3 h4
  exact lv_icmp_lt hX.1 hX.2.1 hd ht (fun q => kt q H locs ls h1 h2 h3 h4) (fun q => kf q H locs ls h1 h2 h3 h4)
theorem wp_if_ge {x : Int32} {off : Int} {tgt : Nat} (hX : Gd X M) (hd : decode M.2.1 pc = .ok (.ifCond .ge off, 3)) (ht : (pc : Int) + off = (tgt : Int)) (kt : 0 ≤ x → Wp X Post tgt L S σ) (kf : ¬ 0 ≤ x → Wp X Post (pc + 3) L S σ) : Wp X Post pc L (.int x :: S) σ := by
  obtain ⟨p, l, e, R, s, m, args, below, meth, c, dC, dI, ad, cI, cZ, nL, σ0⟩ := X
  intro H locs ls h1 h2 h3 h4
  exact lv_if_ge hX.1 hX.2.1 hd ht (fun q => kt q H locs ls h1 h2 h3 h4) (fun q => kf q H locs ls h1 h2 h3 h4)
theorem wp_icmp_ge {x y : Int32} {off : Int} {tgt : Nat} (hX : Gd X M) (hd : decode M.2.1 pc = .ok (.if_icmp .ge off, 3)) (ht : (pc : Int) + off = (tgt : Int)) (kt : y ≤ x → Wp X Post tgt L S σ) (kf : ¬ y ≤ x → Wp X Post (pc + 3) L S σ) : Wp X Post pc L (.int y :: .int x :: S) σ := by
  obtain ⟨p, l, e, R, s, m, args, below, meth, c, dC, dI, ad, cI, cZ, nL, σ0⟩ := X
  intro H locs ls h1 h2 h3 h4
  exact lv_icmp_ge hX.1 hX.2.1 hd ht (fun q => kt q H locs ls h1 h2 h3 h4) (fun q => kf q H locs ls h1 h2 h3 h4)
theorem wp_if_gt {x : Int32} {off : Int} {tgt : Nat} (hX : Gd X M) (hd : decode M.2.1 pc = .ok (.ifCond .gt off, 3)) (ht : (pc : Int) + off = (tgt : Int)) (kt : 0 < x → Wp X Post tgt L S σ) (kf : ¬ 0 < x → Wp X Post (pc + 3) L S σ) : Wp X Post pc L (.int x :: S) σ := by
  obtain ⟨p, l, e, R, s, m, args, below, meth, c, dC, dI, ad, cI, cZ, nL, σ0⟩ := X
  intro H locs ls h1 h2 h3 h4
  exact lv_if_gt hX.1 hX.2.1 hd ht (fun q => kt q H locs ls h1 h2 h3 h4) (fun q => kf q H locs ls h1 h2 h3 h4)
theorem wp_icmp_gt {x y : Int32} {off : Int} {tgt : Nat} (hX : Gd X M) (hd : decode M.2.1 pc = .ok (.if_icmp .gt off, 3)) (ht : (pc : Int) + off = (tgt : Int)) (kt : y < x → Wp X Post tgt L S σ) (kf : ¬ y < x → Wp X Post (pc + 3) L S σ) : Wp X Post pc L (.int y :: .int x :: S) σ := by
  obtain ⟨p, l, e, R, s, m, args, below, meth, c, dC, dI, ad, cI, cZ, nL, σ0⟩ := X
  intro H locs ls h1 h2 h3 h4
  exact lv_icmp_gt hX.1 hX.2.1 hd ht (fun q => kt q H locs ls h1 h2 h3 h4) (fun q => kf q H locs ls h1 h2 h3 h4)
theorem wp_if_le {x : Int32} {off : Int} {tgt : Nat} (hX : Gd X M) (hd : decode M.2.1 pc = .ok (.ifCond .le off, 3)) (ht : (pc : Int) + off = (tgt : Int)) (kt : x ≤ 0 → Wp X Post tgt L S σ) (kf : ¬ x ≤ 0 → Wp X Post (pc + 3) L S σ) : Wp X Post pc L (.int x :: S) σ := by
  obtain ⟨p, l, e, R, s, m, args, below, meth, c, dC, dI, ad, cI, cZ, nL, σ0⟩ := X
  intro H locs ls h1 h2 h3 h4
  exact lv_if_le hX.1 hX.2.1 hd ht (fun q => kt q H locs ls h1 h2 h3 h4) (fun q => kf q H locs ls h1 h2 h3 h4)
theorem wp_icmp_le {x y : Int32} {off : Int} {tgt : Nat} (hX : Gd X M) (hd : decode M.2.1 pc = .ok (.if_icmp .le off, 3)) (ht : (pc : Int) + off = (tgt : Int)) (kt : x ≤ y → Wp X Post tgt L S σ) (kf : ¬ x ≤ y → Wp X Post (pc + 3) L S σ) : Wp X Post pc L (.int y :: .int x :: S) σ := by
  obtain ⟨p, l, e, R, s, m, args, below, meth, c, dC, dI, ad, cI, cZ, nL, σ0⟩ := X
  intro H locs ls h1 h2 h3 h4
  exact lv_icmp_le hX.1 hX.2.1 hd ht (fun q => kt q H locs ls h1 h2 h3 h4) (fun q => kf q H locs ls h1 h2 h3 h4)
theorem wp_lookup {dflt : Int} {ps : Array (Int × Int)} {len : Nat} {x : Int32} {off : Int} {tgt : Nat} (hX : Gd X M) (hd : decode M.2.1 pc = .ok (.lookupswitch dflt ps, len)) (hp : (ps.toList.zip (ps.toList.drop 1)).all (fun (a, next) => a.1 < next.1) = true) (ho : Op.lookupswitch.offset ps.toList dflt x.toInt = off) (ht : (pc : Int) + off = (tgt : Int)) (k : Wp X Post tgt L S σ) : Wp X Post pc L (.int x :: S) σ := by
  obtain ⟨p, l, e, R, s, m, args, below, meth, c, dC, dI, ad, cI, cZ, nL, σ0⟩ := X
  intro H locs ls h1 h2 h3 h4
  exact lv_lookup hX.1 hX.2.1 hd hp ho ht (k H locs ls h1 h2 h3 h4)
theorem wp_tableOut {dflt lo hi : Int} {offs : Array Int} {len : Nat} {x : Int32} {tgt : Nat} (hX : Gd X M) (hd : decode M.2.1 pc = .ok (.tableswitch dflt lo hi offs, len)) (h : x.toInt < lo ∨ hi < x.toInt) (ht : (pc : Int) + dflt = (tgt : Int)) (k : Wp X Post tgt L S σ) : Wp X Post pc L (.int x :: S) σ := by
  obtain ⟨p, l, e, R, s, m, args, below, meth, c, dC, dI, ad, cI, cZ, nL, σ0⟩ := X
  intro H locs ls h1 h2 h3 h4
  exact lv_tableOut hX.1 hX.2.1 hd h ht (k H locs ls h1 h2 h3 h4)
theorem wp_tableIn {dflt lo hi : Int} {offs : Array Int} {len : Nat} {x : Int32} {off : Int} {tgt : Nat} (hX : Gd X M) (hd : decode M.2.1 pc = .ok (.tableswitch dflt lo hi offs, len)) (g1 : ¬ x.toInt < lo) (g2 : ¬ hi < x.toInt) (ho : offs[(x.toInt - lo).toNat]? = some off) (ht : (pc : Int) + off = (tgt : Int)) (k : Wp X Post tgt L S σ) : Wp X Post pc L (.int x :: S) σ := by
  obtain ⟨p, l, e, R, s, m, args, below, meth, c, dC, dI, ad, cI, cZ, nL, σ0⟩ := X
  intro H locs ls h1 h2 h3 h4
  exact lv_tableIn hX.1 hX.2.1 hd g1 g2 ho ht (k H locs ls h1 h2 h3 h4)
theorem wp_ldc {idx : Nat} {v : Int32} (hX : Gd X M) (hd : decode M.2.1 pc = .ok (.ldc idx, 2)) (hc : Cond.constant M.1.cls idx v ∈ BIG) (k : Wp X Post (pc + 2) L (.int v :: S) σ) : Wp X Post pc L S σ := by
  obtain ⟨p, l, e, R, s, m, args, below, meth, c, dC, dI, ad, cI, cZ, nL, σ0⟩ := X
  intro H locs ls h1 h2 h3 h4
  exact lv_ldc hX.1 hX.2.1 hX.2.2.2.2.2.1 (hX.2.2.2.2.2.2.1 _ (List.mem_cons_of_mem _ hc)) hd (k H locs ls h1 h2 h3 h4)
theorem wp_ldc2 {idx : Nat} {v : Int64} (hX : Gd X M) (hd : decode M.2.1 pc = .ok (.ldc2_w idx, 3)) (hc : Cond.constantLong M.1.cls idx v ∈ BIG) (k : Wp X Post (pc + 3) L (.long v :: S) σ) : Wp X Post pc L S σ := by
  obtain ⟨p, l, e, R, s, m, args, below, meth, c, dC, dI, ad, cI, cZ, nL, σ0⟩ := X
  intro H locs ls h1 h2 h3 h4
  exact lv_ldc2 hX.1 hX.2.1 hX.2.2.2.2.2.1 (hX.2.2.2.2.2.2.1 _ (List.mem_cons_of_mem _ hc)) hd (k H locs ls h1 h2 h3 h4)
theorem wp_ti {x y : Int32} (h : x = y) (k : Wp X Post pc L (.int y :: S) σ) : Wp X Post pc L (.int x :: S) σ := h ▸ k
theorem wp_tl {x y : Int64} (h : x = y) (k : Wp X Post pc L (.long y :: S) σ) : Wp X Post pc L (.long x :: S) σ := h ▸ k
theorem wp_ni {x : Int32} (k : ∀ y : Int32, y = x → Wp X Post pc L (.int y :: S) σ) : Wp X Post pc L (.int x :: S) σ := k x rfl
/-- pool entry idx of class own is field j of class number ci -/
def FL (own : String) (idx ci j : Nat) : Prop := ∃ (C : String) (T : u_T) (N : Nat), vwCl[ci]? = some (C, T, N) ∧ j < N ∧ Cond.fieldLink own idx (T j).1 (T j).2.1 (T j).2.2.1 ∈ BIG ∧ (∀ w ∈ u_ws C T N, w ∈ BIG)
/-- the same, and it may be written: an int or a boolean -/
def FW (own : String) (idx ci j : Nat) (ty : FieldType) : Prop := ∃ (C : String) (T : u_T) (N : Nat) (t0 : Nat → FieldType), vwCl[ci]? = some (C, T, N) ∧ j < N ∧ Cond.fieldLink own idx (T j).1 (T j).2.1 (T j).2.2.1 ∈ BIG ∧ (∀ w ∈ u_ws C T N, w ∈ BIG) ∧ (T j).2.2.2 = false ∧ t0 j = ty ∧ (∀ k, k < N → parseFieldDescriptor (T k).2.2.1 = some (t0 k)) ∧ (∀ a, a < N → ∀ b, b < N → a ≠ b → (T a).2.1 ≠ (T b).2.1)
theorem wp_get {idx ci j q : Nat} {fs : List Value} {v : Value} (hX : Gd X M) (hd : decode M.2.1 pc = .ok (.getfield idx, 3)) (hf : FL M.1.cls idx ci j) (hq : σ[q]? = some (.inr (ci, fs))) (hv : fs[j]? = some v) (k : Wp X Post (pc + 3) L (v :: S) σ) : Wp X Post pc L (.ref q :: S) σ := by
  obtain ⟨p, l, e, R, s, m, args, below, meth, c, dC, dI, ad, cI, cZ, nL, σ0⟩ := X
  intro H locs ls h1 h2 h3 h4
  obtain ⟨C, T, N, f1, f2, f3, f4⟩ := hf
  obtain ⟨g1, g2, g3, g4, g5, g6, g7, g8, g9, g10, g11, g12⟩ := hX
  exact va_get (D := (dC, dI)) (ci := ci) (v := cv ad v) (C := C) (T := T) (N := N) (Ts := mws M) g1 g2 g7 (fun w hw => List.mem_cons_of_mem _ (f4 w hw)) g6 g9 h2 q (cw_at hq) f1 j f2 (g7 _ (List.mem_cons_of_mem _ f3)) (fun _ h9 => h9) (by rw [List.getElem?_map, hv]; rfl) hd (k H locs ls h1 h2 h3 h4)
theorem wp_put {idx ci j q : Nat} {fs : List Value} {v : Int32} {ty : FieldType} (hX : Gd X M) (hd : decode M.2.1 pc = .ok (.putfield idx, 3)) (hf : FW M.1.cls idx ci j ty) (hq : σ[q]? = some (.inr (ci, fs))) (hj : j < fs.length) (hn : narrow ty (.int v) = .int v) (hfit : fits ty (.int v) = true) (k : Wp X Post (pc + 3) L S (σ.set q (.inr (ci, fs.set j (.int v))))) : Wp X Post pc L (.int v :: .ref q :: S) σ := by
  obtain ⟨p, l, e, R, s, m, args, below, meth, c, dC, dI, ad, cI, cZ, nL, σ0⟩ := X
  intro H locs ls h1 h2 h3 h4
  obtain ⟨C, T, N, t0, f1, f2, f3, f4, f5, f6, f7, f8⟩ := hf
  obtain ⟨g1, g2, g3, g4, g5, g6, g7, g8, g9, g10, g11, g12⟩ := hX
  subst f6
  refine va_put (D := (dC, dI)) (ci := ci) (v := .int v) (ty := t0 j) (C := C) (T := T) (N := N) (Ts := mws M) (fs := fs.map (cv ad)) g1 g2 g7 (fun w hw => List.mem_cons_of_mem _ (f4 w hw)) t0 f7 f8 g6 g9 h2 (cw_D h1 g10) h3 q (cw_at hq) f1 j f2 (g7 _ (List.mem_cons_of_mem _ f3)) (fun _ h9 => h9) f5 (f7 j f2) hn hfit (by rw [List.length_map]; exact hj) hd (fun H1 locs1 e1 e2 e3 => ?_)
  have e : (Sum.inr (ci, (fs.map (cv ad)).set j (Value.int v)) : va_E) = ce ad cI cZ (.inr (ci, fs.set j (.int v))) := by
    show _ = Sum.inr (ci, (fs.set j (.int v)).map (cv ad))
    rw [List.map_set]
    rfl
  rw [e, cw_set] at e1
  exact k H1 locs1 ls (by rw [List.length_set]; exact h1) e1 e3 h4
theorem wp_iald {q n : Nat} {f : Nat → Int32} {i : Int32} (hX : Gd X M) (hd : decode M.2.1 pc = .ok (.iaload, 1)) (hq : σ[q]? = some (.inl (false, n, f))) (hi : vp_in i n) (k : Wp X Post (pc + 1) L (.int (f i.toNatClampNeg) :: S) σ) : Wp X Post pc L (.int i :: .ref q :: S) σ := by
  obtain ⟨p, l, e, R, s, m, args, below, meth, c, dC, dI, ad, cI, cZ, nL, σ0⟩ := X
  intro H locs ls h1 h2 h3 h4
  obtain ⟨g1, g2, g3, g4, g5, g6, g7, g8, g9, g10, g11, g12⟩ := hX
  exact va_iald (D := (dC, dI)) g1 g2 g9 h2 q 0 (cw_at hq) rfl hi hd (k H locs ls h1 h2 h3 h4)
theorem wp_zald {q n : Nat} {f : Nat → Int32} {i : Int32} (hX : Gd X M) (hd : decode M.2.1 pc = .ok (.baload, 1)) (hq : σ[q]? = some (.inl (true, n, f))) (hi : vp_in i n) (k : Wp X Post (pc + 1) L (.int (f i.toNatClampNeg) :: S) σ) : Wp X Post pc L (.int i :: .ref q :: S) σ := by
  obtain ⟨p, l, e, R, s, m, args, below, meth, c, dC, dI, ad, cI, cZ, nL, σ0⟩ := X
  intro H locs ls h1 h2 h3 h4
  obtain ⟨g1, g2, g3, g4, g5, g6, g7, g8, g9, g10, g11, g12⟩ := hX
  exact va_zald (D := (dC, dI)) g1 g2 g9 h2 q 1 (cw_at hq) rfl hi hd (k H locs ls h1 h2 h3 h4)
theorem wp_iast {q n : Nat} {f : Nat → Int32} {i x : Int32} (hX : Gd X M) (hd : decode M.2.1 pc = .ok (.iastore, 1)) (hq : σ[q]? = some (.inl (false, n, f))) (hi : vp_in i n) (k : Wp X Post (pc + 1) L S (σ.set q (.inl (false, n, upd f i.toNatClampNeg x)))) : Wp X Post pc L (.int x :: .int i :: .ref q :: S) σ := by
  obtain ⟨p, l, e, R, s, m, args, below, meth, c, dC, dI, ad, cI, cZ, nL, σ0⟩ := X
  intro H locs ls h1 h2 h3 h4
  obtain ⟨g1, g2, g3, g4, g5, g6, g7, g8, g9, g10, g11, g12⟩ := hX
  refine va_iast (D := (dC, dI)) g1 g2 g9 h2 (cw_D h1 g10) h3 q 0 (cw_at hq) rfl hi hd (fun H1 locs1 e1 e2 e3 => ?_)
  have e1 := cw_set (ad := ad) (cI := cI) (cZ := cZ) (σ := σ) (k := q) (c := .inl (false, n, upd f i.toNatClampNeg x)) ▸ e1
  exact k H1 locs1 ls (by rw [List.length_set]; exact h1) e1 e3 h4
theorem wp_zast {q n : Nat} {f : Nat → Int32} {i x : Int32} (hX : Gd X M) (hd : decode M.2.1 pc = .ok (.bastore, 1)) (hq : σ[q]? = some (.inl (true, n, f))) (hi : vp_in i n) (hx : vp_nar .boolean x = x) (k : Wp X Post (pc + 1) L S (σ.set q (.inl (true, n, upd f i.toNatClampNeg x)))) : Wp X Post pc L (.int x :: .int i :: .ref q :: S) σ := by
  obtain ⟨p, l, e, R, s, m, args, below, meth, c, dC, dI, ad, cI, cZ, nL, σ0⟩ := X
  intro H locs ls h1 h2 h3 h4
  obtain ⟨g1, g2, g3, g4, g5, g6, g7, g8, g9, g10, g11, g12⟩ := hX
  refine va_zast (D := (dC, dI)) g1 g2 g9 h2 (cw_D h1 g10) h3 q 1 (cw_at hq) rfl hi hd (fun H1 locs1 e1 e2 e3 => ?_)
  rw [hx] at e1
  have e1 := cw_set (ad := ad) (cI := cI) (cZ := cZ) (σ := σ) (k := q) (c := .inl (true, n, upd f i.toNatClampNeg x)) ▸ e1
  exact k H1 locs1 ls (by rw [List.length_set]; exact h1) e1 e3 h4
theorem wp_alen {q n : Nat} {f : Nat → Int32} (hX : Gd X M) (hd : decode M.2.1 pc = .ok (.arraylength, 1)) (hq : σ[q]? = some (.inl (false, n, f))) (k : Wp X Post (pc + 1) L (.int (nI n) :: S) σ) : Wp X Post pc L (.ref q :: S) σ := by
  obtain ⟨p, l, e, R, s, m, args, below, meth, c, dC, dI, ad, cI, cZ, nL, σ0⟩ := X
  intro H locs ls h1 h2 h3 h4
  obtain ⟨g1, g2, g3, g4, g5, g6, g7, g8, g9, g10, g11, g12⟩ := hX
  exact va_alen (D := (dC, dI)) (ty := .int) g1 g2 g9 h2 q 0 (cw_at hq) rfl rfl hd (k H locs ls h1 h2 h3 h4)
theorem wp_iret {v : Int32} {ty : FieldType} (hX : Gd X M) (hd : decode M.2.1 pc = .ok (.ireturn, 1)) (ht : M.2.2.2.1 = some ty) (hn : narrow ty (.int v) = .int v) (hp : Post (some (.int v)) σ) : Wp X Post pc L [.int v] σ := by
  obtain ⟨p, l, e, R, s, m, args, below, meth, c, dC, dI, ad, cI, cZ, nL, σ0⟩ := X
  intro H locs ls h1 h2 h3 h4
  obtain ⟨g1, g2, g3, g4, g5, g6, g7, g8, g9, g10, g11, g12⟩ := hX
  exact W.zret (v := v) g1 g2 (g3.trans ht) hn (fun t ht hW => ⟨⟨some (.int v), σ, rfl, hp, h1, by rw [ht]; exact h2⟩, h3.F ht⟩) h3.2.2 hd g8
theorem wp_lret {v : Int64} (hX : Gd X M) (hd : decode M.2.1 pc = .ok (.lreturn, 1)) (ht : M.2.2.2.1 = some .long) (hp : Post (some (.long v)) σ) : Wp X Post pc L [.long v] σ := by
  obtain ⟨p, l, e, R, s, m, args, below, meth, c, dC, dI, ad, cI, cZ, nL, σ0⟩ := X
  intro H locs ls h1 h2 h3 h4
  obtain ⟨g1, g2, g3, g4, g5, g6, g7, g8, g9, g10, g11, g12⟩ := hX
  exact W.lret (v := v) g1 g2 (g3.trans ht) (fun t ht hW => ⟨⟨some (.long v), σ, rfl, hp, h1, by rw [ht]; exact h2⟩, h3.F ht⟩) h3.2.2 hd g8
theorem wp_vret (hX : Gd X M) (hd : decode M.2.1 pc = .ok (.return_, 1)) (ht : M.2.2.2.1 = none) (hp : Post none σ) : Wp X Post pc L [] σ := by
  obtain ⟨p, l, e, R, s, m, args, below, meth, c, dC, dI, ad, cI, cZ, nL, σ0⟩ := X
  intro H locs ls h1 h2 h3 h4
  obtain ⟨g1, g2, g3, g4, g5, g6, g7, g8, g9, g10, g11, g12⟩ := hX
  exact W.vret g1 g2 (g3.trans ht) (fun t ht hW => ⟨⟨none, σ, rfl, hp, h1, by rw [ht]; exact h2⟩, h3.F ht⟩) h3.2.2 hd g8
end Rules
end
section
theorem mmax_st : Cond.static Lib.Math.max.name ∈ BIG := by decide +kernel
theorem mmax_co : Cond.code Lib.Math.max.name Lib.Math.max.code 2 (some .int) ∈ BIG := by decide +kernel
theorem mmin_st : Cond.static Lib.Math.min.name ∈ BIG := by decide +kernel
theorem mmin_co : Cond.code Lib.Math.min.name Lib.Math.min.code 2 (some .int) ∈ BIG := by decide +kernel
theorem math_in : Cond.initialized "java/lang/Math" ∈ BIG := by decide +kernel
theorem acopy_na : Cond.native arraycopyName ∈ BIG := by decide +kernel
theorem acopy_st : Cond.static arraycopyName ∈ BIG := by decide +kernel
theorem acopy_in : Cond.initialized "java/lang/System" ∈ BIG := by decide +kernel
theorem BIG_good {w : Cond} (h : w ∈ BIG) : (w.onTables && w.keeps) = true ∨ ∃ ty, w = .arrayClass ty := good_of_word (List.mem_filter.mp h).2
def mcd (M : MD) : Cond := .code M.1 M.2.1 M.2.2.1 M.2.2.2.1
theorem mws_good {M M' : MD} (h : mcd M' ∈ BIG) : GoodIn (mws M) (mws M') := by
  intro w hw
  rcases List.mem_cons.mp hw with rfl | hw
  · exact ⟨List.mem_cons_of_mem _ h, BIG_good h⟩
  · exact ⟨List.mem_cons_of_mem _ hw, BIG_good hw⟩
/-- what a call of M' asks of the tables, the link apart -/
def MOK (M' : MD) (n : Nat) : Prop := mcd M' ∈ BIG ∧ Cond.initialized M'.1.cls ∈ BIG ∧ (M'.1.cls ≠ "java/lang/invoke/MethodHandle" ∧ M'.1.cls ≠ "java/lang/invoke/VarHandle" ∧ (parseMethodDescriptor M'.1.desc).map (fun d => d.parameters.length) = some n)
def MLV (own : String) (idx : Nat) (M' : MD) (ci n : Nat) : Prop := MOK M' n ∧ Cond.methodLink own idx M'.1 ∈ BIG ∧ Cond.instanceMethod M'.1 ∈ BIG ∧ Cond.selects M'.1.cls M'.1 M'.1 ∈ BIG ∧ ∃ (T : u_T) (N : Nat), vwCl[ci]? = some (M'.1.cls, T, N)
def MLS (own : String) (idx : Nat) (M' : MD) (n : Nat) : Prop := MOK M' n ∧ Cond.methodLink own idx M'.1 ∈ BIG ∧ Cond.static M'.1 ∈ BIG
def rmOk (M M' : MD) : Prop := M'.2.2.2.2.1 + 1 ≤ M.2.2.2.2.1 ∧ 8 + (M'.2.2.1 + 11) + M'.2.2.2.2.2 ≤ M.2.2.2.2.2
theorem mPc_blind {dC : Nat → ClassId} {dI : Nat → Nat → Nat} {ad : Nat → Nat} {cI cZ : ClassId} {sz : Nat} {av : List Value} {σ : aW} : FrameBlind (va_Pc av (fun U => U.heap.size = sz ∧ SF dC dI ad cI cZ σ U)) := by
  intro a U g mk q
  obtain ⟨q0, q1, qP, qK, qD, qN⟩ := q
  exact ⟨q0, q1, qP, va_K.moved (u := U) (U := U.calling g mk a) (Vm.Alike.refl U.vm) qK, qD, NW.same (s := U) (U := U.calling g mk a) rfl qN⟩
theorem mA_in {ad : Nat → Nat} {cI cZ : ClassId} {σ σ0 : aW} {s : State} {H : Heap} {locs : List Loc} (hl : σ.length = σ0.length) (hD : va_D (va_A (cw ad cI cZ σ0) s.heap.size) (cw ad cI cZ σ0)) (hS : va_S (va_A (cw ad cI cZ σ0) s.heap.size) s.heap H locs) : ∀ q, va_A (cw ad cI cZ σ) H.size q → va_A (cw ad cI cZ σ0) s.heap.size q := by
  rintro q (⟨k, e, h⟩ | h)
  · exact (cw_D hl hD).2 k (q, e) h
  · exact Or.inr (Nat.le_trans hS.1 h)
section Calls
variable {p : Program} {l : Launch} {e : Env} {R : Room} {s : State} {m : MethodId} {args : Array Value} {below : List Frame} {meth : Method} {c : Code} {H : Heap} {locs : List Loc} {Q : State → Prop}
theorem mcall {dC : Nat → ClassId} {dI : Nat → Nat → Nat} {ad : Nat → Nat} {cI cZ : ClassId} {A0 A1 : Nat → Prop} {n pc : Nat} {Post : aPost} {a : Array Value} {ls : Array Slot} {st0 rest : List Value} {free : Addr → Prop} {H0 : Heap}
    (hr : va_Run p l e R s m args below meth c H locs 0 0 0 0 (F0 m pc ls st0) rest (mQc dC dI ad cI cZ A1 n Post a) free) (hS : va_S A0 H0 H locs) (hA : ∀ q, A1 q → A0 q) (hf : ∀ q, free q → A0 q)
    (kk : ∀ (r : Option Value) (σ' : aW) (H1 : Heap) (locs1 : List Loc), Post r σ' → σ'.length = n → va_P (dC, dI) vwCl (cw ad cI cZ σ') H1 → va_S A0 H0 H1 locs1 → W p l e R s m args below meth c H1 locs1 0 0 Q (F0 m (pc + 3) ls ((r.map (cv ad)).toList ++ rest))) : W p l e R s m args below meth c H locs 0 0 Q (F0 m pc ls st0) := by
  intro T hT X
  obtain ⟨v, st₀, t, T', L, h0, X', hL, e1, e2, ⟨⟨r, σ', hv, hp, hn, hb⟩, hz, hk⟩, st⟩ := hr T hT X
  cases hv
  rw [h0] at hz hk
  obtain ⟨t2, a1, b1⟩ := kk r σ' T'.heap (locs ++ L) hp hn (by rw [e1]; exact hb)
    ⟨Nat.le_trans hS.1 (by rw [e1]; exact hz), fun q h1 h2 => by rw [e1, hk q (Nat.lt_of_lt_of_le h1 hS.1) (fun z => h2 (hA q z))]; exact hS.2.1 q h1 h2, fun q hq => by
      rcases List.mem_append.mp hq with h | h
      · exact hS.2.2 q h
      · exact hf _ (hL q h)⟩ T' rfl X'
  exact ⟨t2, st t2 a1, b1⟩
end Calls
theorem cat_map (ad : Nat → Nat) (S : List Value) : ((S.map (cv ad)).map fun v => v.category) = S.map (fun v => v.category) := by
  rw [List.map_map]
  exact List.map_congr_left (fun v _ => cv_cat v)
theorem opt_map (ad : Nat → Nat) (r : Option Value) (S : List Value) : (r.map (cv ad)).toList ++ S.map (cv ad) = (r.toList ++ S).map (cv ad) := by cases r <;> rfl
section Rules
variable {X : CX} {M : MD} {Post : aPost} {pc : Nat} {L : List (Option Value)} {S : List Value} {σ : aW}
theorem wp_callV {M1 : MD} {idx n q ci : Nat} {fs As : List Value} {P1 : aPost} (hX : Gd X M) (hd : decode M.2.1 pc = .ok (.invokevirtual idx, 3)) (hm : MLV M.1.cls idx M1 ci n) (hr : rmOk M M1) (hM : MT M1 (.ref q :: As) σ P1) (hq : σ[q]? = some (.inr (ci, fs))) (hn : As.length = n) (hS : (S.map (fun v => v.category)).sum ≤ 8) (k : ∀ r σ1, P1 r σ1 → Wp X Post (pc + 3) L (r.toList ++ S) σ1) : Wp X Post pc L (As.reverse ++ .ref q :: S) σ := by
  obtain ⟨p, l, e, R, s, m, args, below, meth, c, dC, dI, ad, cI, cZ, nL, σ0⟩ := X
  intro H locs ls h1 h2 h3 h4
  obtain ⟨g1, g2, g3, g4, g5, g6, g7, g8, g9, g10, g11, g12⟩ := hX
  subst g12
  obtain ⟨⟨o1, o2, o3⟩, m1, m2, m3, T, N, m4⟩ := hm
  have hB : ∀ w ∈ BIG, w.before args s = true := fun w hw => g7 w (List.mem_cons_of_mem _ hw)
  have hF := mA_in (H := H) h1 g10 h3
  have hrun := va_runV (R := mrm M) (p := p) (l := l) (e := e) (below := below) (meth := meth) (locs := locs) (cells := 0) (slots := 0) (g := F0 m pc ls ((As.reverse ++ .ref q :: S).map (cv ad))) (b := ad q) (As := As.map (cv ad)) (rest := S.map (cv ad)) (nL := nL) (Ts := mws M) (own := M.1.cls) (H := H) (C := M1.1.cls)
    ⟨g1, g2, g4, g6, g7⟩ (hM l dC dI ad cI cZ H.size) (bytes := M1.2.1) (maxL := M1.2.2.1) (ret := M1.2.2.2.1) (n := n) ⟨callB_of n g7 (mws_good o1) rfl rfl rfl (hB _ o2) (hB _ m1) o3 hr, hB _ m2, hB _ m3⟩
    ⟨mPc_blind, va_recv g9 h2 m4 (cw_at hq), fun U hU hW => ⟨rfl, by rw [hU], by rw [hU]; exact h2, va_K.moved hW.alike g9, (cw_D h1 g10).weaken (fun _ _ _ _ => trivial), g11.warm hW⟩⟩ rfl (by rw [List.length_map]; exact hn) h4.1 (by rw [List.map_append, List.map_reverse]; rfl)
    (by show 2 * 0 + _ ≤ 8; rw [cat_map]; omega) hd ⟨Nat.zero_le _, Nat.zero_le _⟩
  refine mcall hrun h3 hF hF (fun r σ1 H1 locs1 e1 e2 e3 e4 => ?_)
  rw [opt_map]
  exact k r σ1 e1 H1 locs1 ls (e2.trans h1) e3 e4 h4
theorem wp_callS {M1 : MD} {idx n : Nat} {As : List Value} {P1 : aPost} (hX : Gd X M) (hd : decode M.2.1 pc = .ok (.invokestatic idx, 3)) (hm : MLS M.1.cls idx M1 n) (hr : rmOk M M1) (hM : MT M1 As σ P1) (hn : As.length = n) (hS : (S.map (fun v => v.category)).sum ≤ 8) (k : ∀ r σ1, P1 r σ1 → Wp X Post (pc + 3) L (r.toList ++ S) σ1) : Wp X Post pc L (As.reverse ++ S) σ := by
  obtain ⟨p, l, e, R, s, m, args, below, meth, c, dC, dI, ad, cI, cZ, nL, σ0⟩ := X
  intro H locs ls h1 h2 h3 h4
  obtain ⟨g1, g2, g3, g4, g5, g6, g7, g8, g9, g10, g11, g12⟩ := hX
  subst g12
  obtain ⟨⟨o1, o2, o3⟩, m1, m2⟩ := hm
  have hB : ∀ w ∈ BIG, w.before args s = true := fun w hw => g7 w (List.mem_cons_of_mem _ hw)
  have hF := mA_in (H := H) h1 g10 h3
  have hrun := va_runS (R := mrm M) (p := p) (l := l) (e := e) (below := below) (meth := meth) (locs := locs) (cells := 0) (slots := 0) (g := F0 m pc ls ((As.reverse ++ S).map (cv ad))) (As := As.map (cv ad)) (rest := S.map (cv ad)) (nL := nL) (Ts := mws M) (own := M.1.cls) (H := H)
    ⟨g1, g2, g4, g6, g7⟩ (hM l dC dI ad cI cZ H.size) (bytes := M1.2.1) (maxL := M1.2.2.1) (ret := M1.2.2.2.1) (n := n) ⟨callB_of n g7 (mws_good o1) rfl rfl rfl (hB _ o2) (hB _ m1) o3 hr, hB _ m2⟩
    ⟨mPc_blind, fun U hU hW => ⟨rfl, by rw [hU], by rw [hU]; exact h2, va_K.moved hW.alike g9, (cw_D h1 g10).weaken (fun _ _ _ _ => trivial), g11.warm hW⟩⟩ rfl (by rw [List.length_map]; exact hn) h4.1 (by rw [List.map_append, List.map_reverse])
    (by show 2 * 0 + _ ≤ 8; rw [cat_map]; omega) hd ⟨Nat.zero_le _, Nat.zero_le _⟩
  refine mcall hrun h3 hF hF (fun r σ1 H1 locs1 e1 e2 e3 e4 => ?_)
  rw [opt_map]
  exact k r σ1 e1 H1 locs1 ls (e2.trans h1) e3 e4 h4
theorem wp_callN {M1 : MD} {idx n : Nat} {As : List Value} {P1 : aPost} (hX : Gd X M) (hd : decode M.2.1 pc = .ok (.invokestatic idx, 3)) (hm : MOK M1 n ∧ Cond.static M1.1 ∈ BIG) (hl : ∀ s, NW s → va_Nw (.methodLinkNest M.1.cls idx M1.1 "BlockStore") s) (hr : rmOk M M1) (hM : MT M1 As σ P1) (hn : As.length = n) (hS : (S.map (fun v => v.category)).sum ≤ 8) (k : ∀ r σ1, P1 r σ1 → Wp X Post (pc + 3) L (r.toList ++ S) σ1) : Wp X Post pc L (As.reverse ++ S) σ := by
  obtain ⟨p, l, e, R, s, m, args, below, meth, c, dC, dI, ad, cI, cZ, nL, σ0⟩ := X
  intro H locs ls h1 h2 h3 h4
  obtain ⟨g1, g2, g3, g4, g5, g6, g7, g8, g9, g10, g11, g12⟩ := hX
  subst g12
  obtain ⟨⟨o1, o2, o3⟩, m2⟩ := hm
  have hB : ∀ w ∈ BIG, w.before args s = true := fun w hw => g7 w (List.mem_cons_of_mem _ hw)
  have hF := mA_in (H := H) h1 g10 h3
  have hrun := va_runSN (R := mrm M) (p := p) (l := l) (e := e) (below := below) (meth := meth) (locs := locs) (cells := 0) (slots := 0) (g := F0 m pc ls ((As.reverse ++ S).map (cv ad))) (As := As.map (cv ad)) (rest := S.map (cv ad)) (nL := nL) (Ts := mws M) (own := M.1.cls) (H := H) (host := "BlockStore")
    ⟨g1, g2, g4, g6, g7⟩ (hM l dC dI ad cI cZ H.size) (bytes := M1.2.1) (maxL := M1.2.2.1) (ret := M1.2.2.2.1) (n := n) ⟨va_cnB n g7 (mws_good o1) rfl rfl rfl (hl s g11) (hB _ o2) o3 hr, hB _ m2, trivial⟩
    ⟨mPc_blind, fun U hU hW => ⟨rfl, by rw [hU], by rw [hU]; exact h2, va_K.moved hW.alike g9, (cw_D h1 g10).weaken (fun _ _ _ _ => trivial), g11.warm hW⟩⟩ rfl (by rw [List.length_map]; exact hn) h4.1 (by rw [List.map_append, List.map_reverse])
    (by show 2 * 0 + _ ≤ 8; rw [cat_map]; omega) hd ⟨Nat.zero_le _, Nat.zero_le _⟩
  refine mcall hrun h3 hF hF (fun r σ1 H1 locs1 e1 e2 e3 e4 => ?_)
  rw [opt_map]
  exact k r σ1 e1 H1 locs1 ls (e2.trans h1) e3 e4 h4
/-- the contract with one answer and one world behind it -/
abbrev MD1 (M : MD) (av : List Value) (σ : aW) (r : Option Value) (σ1 : aW) : Prop := MT M av σ (fun r1 σ2 => r1 = r ∧ σ2 = σ1)
theorem wp_cv0 {M1 : MD} {idx : Nat} {q ci : Nat} {fs : List Value} {r : Option Value} {σ1 : aW} (hX : Gd X M) (hd : decode M.2.1 pc = .ok (.invokevirtual idx, 3)) (hm : MLV M.1.cls idx M1 ci 0) (hr : rmOk M M1) (hM : MD1 M1 (.ref q :: []) σ r σ1) (hq : σ[q]? = some (.inr (ci, fs))) (hS : (S.map (fun v => v.category)).sum ≤ 8) (k : Wp X Post (pc + 3) L (r.toList ++ S) σ1) : Wp X Post pc L (.ref q :: S) σ := wp_callV (As := []) hX hd hm hr hM hq rfl hS (by rintro r1 σ2 ⟨rfl, rfl⟩; exact k)
theorem wp_cv0p {M1 : MD} {idx : Nat} {q ci : Nat} {fs : List Value} {P1 : aPost} (hX : Gd X M) (hd : decode M.2.1 pc = .ok (.invokevirtual idx, 3)) (hm : MLV M.1.cls idx M1 ci 0) (hr : rmOk M M1) (hM : MT M1 (.ref q :: []) σ P1) (hq : σ[q]? = some (.inr (ci, fs))) (hS : (S.map (fun v => v.category)).sum ≤ 8) (k : ∀ r σ1, P1 r σ1 → Wp X Post (pc + 3) L (r.toList ++ S) σ1) : Wp X Post pc L (.ref q :: S) σ := wp_callV (As := []) hX hd hm hr hM hq rfl hS k
theorem wp_cv1 {M1 : MD} {idx : Nat} {q ci : Nat} {fs : List Value} {a1 : Value} {r : Option Value} {σ1 : aW} (hX : Gd X M) (hd : decode M.2.1 pc = .ok (.invokevirtual idx, 3)) (hm : MLV M.1.cls idx M1 ci 1) (hr : rmOk M M1) (hM : MD1 M1 (.ref q :: [a1]) σ r σ1) (hq : σ[q]? = some (.inr (ci, fs))) (hS : (S.map (fun v => v.category)).sum ≤ 8) (k : Wp X Post (pc + 3) L (r.toList ++ S) σ1) : Wp X Post pc L (a1 :: .ref q :: S) σ := wp_callV (As := [a1]) hX hd hm hr hM hq rfl hS (by rintro r1 σ2 ⟨rfl, rfl⟩; exact k)
theorem wp_cv1p {M1 : MD} {idx : Nat} {q ci : Nat} {fs : List Value} {a1 : Value} {P1 : aPost} (hX : Gd X M) (hd : decode M.2.1 pc = .ok (.invokevirtual idx, 3)) (hm : MLV M.1.cls idx M1 ci 1) (hr : rmOk M M1) (hM : MT M1 (.ref q :: [a1]) σ P1) (hq : σ[q]? = some (.inr (ci, fs))) (hS : (S.map (fun v => v.category)).sum ≤ 8) (k : ∀ r σ1, P1 r σ1 → Wp X Post (pc + 3) L (r.toList ++ S) σ1) : Wp X Post pc L (a1 :: .ref q :: S) σ := wp_callV (As := [a1]) hX hd hm hr hM hq rfl hS k
theorem wp_cv2 {M1 : MD} {idx : Nat} {q ci : Nat} {fs : List Value} {a1 a2 : Value} {r : Option Value} {σ1 : aW} (hX : Gd X M) (hd : decode M.2.1 pc = .ok (.invokevirtual idx, 3)) (hm : MLV M.1.cls idx M1 ci 2) (hr : rmOk M M1) (hM : MD1 M1 (.ref q :: [a1, a2]) σ r σ1) (hq : σ[q]? = some (.inr (ci, fs))) (hS : (S.map (fun v => v.category)).sum ≤ 8) (k : Wp X Post (pc + 3) L (r.toList ++ S) σ1) : Wp X Post pc L (a2 :: a1 :: .ref q :: S) σ := wp_callV (As := [a1, a2]) hX hd hm hr hM hq rfl hS (by rintro r1 σ2 ⟨rfl, rfl⟩; exact k)
theorem wp_cv2p {M1 : MD} {idx : Nat} {q ci : Nat} {fs : List Value} {a1 a2 : Value} {P1 : aPost} (hX : Gd X M) (hd : decode M.2.1 pc = .ok (.invokevirtual idx, 3)) (hm : MLV M.1.cls idx M1 ci 2) (hr : rmOk M M1) (hM : MT M1 (.ref q :: [a1, a2]) σ P1) (hq : σ[q]? = some (.inr (ci, fs))) (hS : (S.map (fun v => v.category)).sum ≤ 8) (k : ∀ r σ1, P1 r σ1 → Wp X Post (pc + 3) L (r.toList ++ S) σ1) : Wp X Post pc L (a2 :: a1 :: .ref q :: S) σ := wp_callV (As := [a1, a2]) hX hd hm hr hM hq rfl hS k
theorem wp_cv3 {M1 : MD} {idx : Nat} {q ci : Nat} {fs : List Value} {a1 a2 a3 : Value} {r : Option Value} {σ1 : aW} (hX : Gd X M) (hd : decode M.2.1 pc = .ok (.invokevirtual idx, 3)) (hm : MLV M.1.cls idx M1 ci 3) (hr : rmOk M M1) (hM : MD1 M1 (.ref q :: [a1, a2, a3]) σ r σ1) (hq : σ[q]? = some (.inr (ci, fs))) (hS : (S.map (fun v => v.category)).sum ≤ 8) (k : Wp X Post (pc + 3) L (r.toList ++ S) σ1) : Wp X Post pc L (a3 :: a2 :: a1 :: .ref q :: S) σ := wp_callV (As := [a1, a2, a3]) hX hd hm hr hM hq rfl hS (by rintro r1 σ2 ⟨rfl, rfl⟩; exact k)
theorem wp_cv3p {M1 : MD} {idx : Nat} {q ci : Nat} {fs : List Value} {a1 a2 a3 : Value} {P1 : aPost} (hX : Gd X M) (hd : decode M.2.1 pc = .ok (.invokevirtual idx, 3)) (hm : MLV M.1.cls idx M1 ci 3) (hr : rmOk M M1) (hM : MT M1 (.ref q :: [a1, a2, a3]) σ P1) (hq : σ[q]? = some (.inr (ci, fs))) (hS : (S.map (fun v => v.category)).sum ≤ 8) (k : ∀ r σ1, P1 r σ1 → Wp X Post (pc + 3) L (r.toList ++ S) σ1) : Wp X Post pc L (a3 :: a2 :: a1 :: .ref q :: S) σ := wp_callV (As := [a1, a2, a3]) hX hd hm hr hM hq rfl hS k
theorem wp_cv4 {M1 : MD} {idx : Nat} {q ci : Nat} {fs : List Value} {a1 a2 a3 a4 : Value} {r : Option Value} {σ1 : aW} (hX : Gd X M) (hd : decode M.2.1 pc = .ok (.invokevirtual idx, 3)) (hm : MLV M.1.cls idx M1 ci 4) (hr : rmOk M M1) (hM : MD1 M1 (.ref q :: [a1, a2, a3, a4]) σ r σ1) (hq : σ[q]? = some (.inr (ci, fs))) (hS : (S.map (fun v => v.category)).sum ≤ 8) (k : Wp X Post (pc + 3) L (r.toList ++ S) σ1) : Wp X Post pc L (a4 :: a3 :: a2 :: a1 :: .ref q :: S) σ := wp_callV (As := [a1, a2, a3, a4]) hX hd hm hr hM hq rfl hS (by rintro r1 σ2 ⟨rfl, rfl⟩; exact k)
theorem wp_cv4p {M1 : MD} {idx : Nat} {q ci : Nat} {fs : List Value} {a1 a2 a3 a4 : Value} {P1 : aPost} (hX : Gd X M) (hd : decode M.2.1 pc = .ok (.invokevirtual idx, 3)) (hm : MLV M.1.cls idx M1 ci 4) (hr : rmOk M M1) (hM : MT M1 (.ref q :: [a1, a2, a3, a4]) σ P1) (hq : σ[q]? = some (.inr (ci, fs))) (hS : (S.map (fun v => v.category)).sum ≤ 8) (k : ∀ r σ1, P1 r σ1 → Wp X Post (pc + 3) L (r.toList ++ S) σ1) : Wp X Post pc L (a4 :: a3 :: a2 :: a1 :: .ref q :: S) σ := wp_callV (As := [a1, a2, a3, a4]) hX hd hm hr hM hq rfl hS k
theorem wp_cv5 {M1 : MD} {idx : Nat} {q ci : Nat} {fs : List Value} {a1 a2 a3 a4 a5 : Value} {r : Option Value} {σ1 : aW} (hX : Gd X M) (hd : decode M.2.1 pc = .ok (.invokevirtual idx, 3)) (hm : MLV M.1.cls idx M1 ci 5) (hr : rmOk M M1) (hM : MD1 M1 (.ref q :: [a1, a2, a3, a4, a5]) σ r σ1) (hq : σ[q]? = some (.inr (ci, fs))) (hS : (S.map (fun v => v.category)).sum ≤ 8) (k : Wp X Post (pc + 3) L (r.toList ++ S) σ1) : Wp X Post pc L (a5 :: a4 :: a3 :: a2 :: a1 :: .ref q :: S) σ := wp_callV (As := [a1, a2, a3, a4, a5]) hX hd hm hr hM hq rfl hS (by rintro r1 σ2 ⟨rfl, rfl⟩; exact k)
theorem wp_cv5p {M1 : MD} {idx : Nat} {q ci : Nat} {fs : List Value} {a1 a2 a3 a4 a5 : Value} {P1 : aPost} (hX : Gd X M) (hd : decode M.2.1 pc = .ok (.invokevirtual idx, 3)) (hm : MLV M.1.cls idx M1 ci 5) (hr : rmOk M M1) (hM : MT M1 (.ref q :: [a1, a2, a3, a4, a5]) σ P1) (hq : σ[q]? = some (.inr (ci, fs))) (hS : (S.map (fun v => v.category)).sum ≤ 8) (k : ∀ r σ1, P1 r σ1 → Wp X Post (pc + 3) L (r.toList ++ S) σ1) : Wp X Post pc L (a5 :: a4 :: a3 :: a2 :: a1 :: .ref q :: S) σ := wp_callV (As := [a1, a2, a3, a4, a5]) hX hd hm hr hM hq rfl hS k
theorem wp_cs1 {M1 : MD} {idx : Nat} {a1 : Value} {r : Option Value} {σ1 : aW} (hX : Gd X M) (hd : decode M.2.1 pc = .ok (.invokestatic idx, 3)) (hm : MLS M.1.cls idx M1 1) (hr : rmOk M M1) (hM : MD1 M1 [a1] σ r σ1) (hS : (S.map (fun v => v.category)).sum ≤ 8) (k : Wp X Post (pc + 3) L (r.toList ++ S) σ1) : Wp X Post pc L (a1 :: S) σ := wp_callS (As := [a1]) hX hd hm hr hM rfl hS (by rintro r1 σ2 ⟨rfl, rfl⟩; exact k)
theorem wp_cs1p {M1 : MD} {idx : Nat} {a1 : Value} {P1 : aPost} (hX : Gd X M) (hd : decode M.2.1 pc = .ok (.invokestatic idx, 3)) (hm : MLS M.1.cls idx M1 1) (hr : rmOk M M1) (hM : MT M1 [a1] σ P1) (hS : (S.map (fun v => v.category)).sum ≤ 8) (k : ∀ r σ1, P1 r σ1 → Wp X Post (pc + 3) L (r.toList ++ S) σ1) : Wp X Post pc L (a1 :: S) σ := wp_callS (As := [a1]) hX hd hm hr hM rfl hS k
theorem wp_cs2 {M1 : MD} {idx : Nat} {a1 a2 : Value} {r : Option Value} {σ1 : aW} (hX : Gd X M) (hd : decode M.2.1 pc = .ok (.invokestatic idx, 3)) (hm : MLS M.1.cls idx M1 2) (hr : rmOk M M1) (hM : MD1 M1 [a1, a2] σ r σ1) (hS : (S.map (fun v => v.category)).sum ≤ 8) (k : Wp X Post (pc + 3) L (r.toList ++ S) σ1) : Wp X Post pc L (a2 :: a1 :: S) σ := wp_callS (As := [a1, a2]) hX hd hm hr hM rfl hS (by rintro r1 σ2 ⟨rfl, rfl⟩; exact k)
theorem wp_cs2p {M1 : MD} {idx : Nat} {a1 a2 : Value} {P1 : aPost} (hX : Gd X M) (hd : decode M.2.1 pc = .ok (.invokestatic idx, 3)) (hm : MLS M.1.cls idx M1 2) (hr : rmOk M M1) (hM : MT M1 [a1, a2] σ P1) (hS : (S.map (fun v => v.category)).sum ≤ 8) (k : ∀ r σ1, P1 r σ1 → Wp X Post (pc + 3) L (r.toList ++ S) σ1) : Wp X Post pc L (a2 :: a1 :: S) σ := wp_callS (As := [a1, a2]) hX hd hm hr hM rfl hS k
theorem wp_cs3 {M1 : MD} {idx : Nat} {a1 a2 a3 : Value} {r : Option Value} {σ1 : aW} (hX : Gd X M) (hd : decode M.2.1 pc = .ok (.invokestatic idx, 3)) (hm : MLS M.1.cls idx M1 3) (hr : rmOk M M1) (hM : MD1 M1 [a1, a2, a3] σ r σ1) (hS : (S.map (fun v => v.category)).sum ≤ 8) (k : Wp X Post (pc + 3) L (r.toList ++ S) σ1) : Wp X Post pc L (a3 :: a2 :: a1 :: S) σ := wp_callS (As := [a1, a2, a3]) hX hd hm hr hM rfl hS (by rintro r1 σ2 ⟨rfl, rfl⟩; exact k)
theorem wp_cs3p {M1 : MD} {idx : Nat} {a1 a2 a3 : Value} {P1 : aPost} (hX : Gd X M) (hd : decode M.2.1 pc = .ok (.invokestatic idx, 3)) (hm : MLS M.1.cls idx M1 3) (hr : rmOk M M1) (hM : MT M1 [a1, a2, a3] σ P1) (hS : (S.map (fun v => v.category)).sum ≤ 8) (k : ∀ r σ1, P1 r σ1 → Wp X Post (pc + 3) L (r.toList ++ S) σ1) : Wp X Post pc L (a3 :: a2 :: a1 :: S) σ := wp_callS (As := [a1, a2, a3]) hX hd hm hr hM rfl hS k
theorem wp_cs4 {M1 : MD} {idx : Nat} {a1 a2 a3 a4 : Value} {r : Option Value} {σ1 : aW} (hX : Gd X M) (hd : decode M.2.1 pc = .ok (.invokestatic idx, 3)) (hm : MLS M.1.cls idx M1 4) (hr : rmOk M M1) (hM : MD1 M1 [a1, a2, a3, a4] σ r σ1) (hS : (S.map (fun v => v.category)).sum ≤ 8) (k : Wp X Post (pc + 3) L (r.toList ++ S) σ1) : Wp X Post pc L (a4 :: a3 :: a2 :: a1 :: S) σ := wp_callS (As := [a1, a2, a3, a4]) hX hd hm hr hM rfl hS (by rintro r1 σ2 ⟨rfl, rfl⟩; exact k)
theorem wp_cs4p {M1 : MD} {idx : Nat} {a1 a2 a3 a4 : Value} {P1 : aPost} (hX : Gd X M) (hd : decode M.2.1 pc = .ok (.invokestatic idx, 3)) (hm : MLS M.1.cls idx M1 4) (hr : rmOk M M1) (hM : MT M1 [a1, a2, a3, a4] σ P1) (hS : (S.map (fun v => v.category)).sum ≤ 8) (k : ∀ r σ1, P1 r σ1 → Wp X Post (pc + 3) L (r.toList ++ S) σ1) : Wp X Post pc L (a4 :: a3 :: a2 :: a1 :: S) σ := wp_callS (As := [a1, a2, a3, a4]) hX hd hm hr hM rfl hS k
theorem wp_cs5 {M1 : MD} {idx : Nat} {a1 a2 a3 a4 a5 : Value} {r : Option Value} {σ1 : aW} (hX : Gd X M) (hd : decode M.2.1 pc = .ok (.invokestatic idx, 3)) (hm : MLS M.1.cls idx M1 5) (hr : rmOk M M1) (hM : MD1 M1 [a1, a2, a3, a4, a5] σ r σ1) (hS : (S.map (fun v => v.category)).sum ≤ 8) (k : Wp X Post (pc + 3) L (r.toList ++ S) σ1) : Wp X Post pc L (a5 :: a4 :: a3 :: a2 :: a1 :: S) σ := wp_callS (As := [a1, a2, a3, a4, a5]) hX hd hm hr hM rfl hS (by rintro r1 σ2 ⟨rfl, rfl⟩; exact k)
theorem wp_cs5p {M1 : MD} {idx : Nat} {a1 a2 a3 a4 a5 : Value} {P1 : aPost} (hX : Gd X M) (hd : decode M.2.1 pc = .ok (.invokestatic idx, 3)) (hm : MLS M.1.cls idx M1 5) (hr : rmOk M M1) (hM : MT M1 [a1, a2, a3, a4, a5] σ P1) (hS : (S.map (fun v => v.category)).sum ≤ 8) (k : ∀ r σ1, P1 r σ1 → Wp X Post (pc + 3) L (r.toList ++ S) σ1) : Wp X Post pc L (a5 :: a4 :: a3 :: a2 :: a1 :: S) σ := wp_callS (As := [a1, a2, a3, a4, a5]) hX hd hm hr hM rfl hS k
theorem wp_cn2 {M1 : MD} {idx : Nat} {a1 a2 : Value} {r : Option Value} {σ1 : aW} (hX : Gd X M) (hd : decode M.2.1 pc = .ok (.invokestatic idx, 3)) (hm : MOK M1 2 ∧ Cond.static M1.1 ∈ BIG) (hl : ∀ s, NW s → va_Nw (.methodLinkNest M.1.cls idx M1.1 "BlockStore") s) (hr : rmOk M M1) (hM : MD1 M1 [a1, a2] σ r σ1) (hS : (S.map (fun v => v.category)).sum ≤ 8) (k : Wp X Post (pc + 3) L (r.toList ++ S) σ1) : Wp X Post pc L (a2 :: a1 :: S) σ := wp_callN (As := [a1, a2]) hX hd hm hl hr hM rfl hS (by rintro r1 σ2 ⟨rfl, rfl⟩; exact k)
theorem wp_cn2p {M1 : MD} {idx : Nat} {a1 a2 : Value} {P1 : aPost} (hX : Gd X M) (hd : decode M.2.1 pc = .ok (.invokestatic idx, 3)) (hm : MOK M1 2 ∧ Cond.static M1.1 ∈ BIG) (hl : ∀ s, NW s → va_Nw (.methodLinkNest M.1.cls idx M1.1 "BlockStore") s) (hr : rmOk M M1) (hM : MT M1 [a1, a2] σ P1) (hS : (S.map (fun v => v.category)).sum ≤ 8) (k : ∀ r σ1, P1 r σ1 → Wp X Post (pc + 3) L (r.toList ++ S) σ1) : Wp X Post pc L (a2 :: a1 :: S) σ := wp_callN (As := [a1, a2]) hX hd hm hl hr hM rfl hS k
theorem wp_max {idx : Nat} {x y : Int32} (hX : Gd X M) (hd : decode M.2.1 pc = .ok (.invokestatic idx, 3)) (hm : Cond.methodLink M.1.cls idx Lib.Math.max.name ∈ BIG) (hr : 1 ≤ M.2.2.2.2.1 ∧ 21 ≤ M.2.2.2.2.2) (hS : (S.map (fun v => v.category)).sum ≤ 8) (k : Wp X Post (pc + 3) L (.int (if x < y then y else x) :: S) σ) : Wp X Post pc L (.int y :: .int x :: S) σ := by
  obtain ⟨p, l, e, R, s, m, args, below, meth, c, dC, dI, ad, cI, cZ, nL, σ0⟩ := X
  intro H locs ls h1 h2 h3 h4
  obtain ⟨g1, g2, g3, g4, g5, g6, g7, g8, g9, g10, g11, g12⟩ := hX
  subst g12
  have hB : ∀ w ∈ BIG, w.before args s = true := fun w hw => g7 w (List.mem_cons_of_mem _ hw)
  exact va_mmax g1 g2 (by rw [g4, h4.1]) g6 (hB _ hm) (hB _ mmax_st) (hB _ math_in) (hB _ mmax_co) hr.1 (by rw [cat_map]; have := hr.2; show _ ≤ M.2.2.2.2.2; omega) (Nat.zero_le _) (Nat.zero_le _) hd (k H locs ls h1 h2 h3 h4)
theorem wp_min {idx : Nat} {x y : Int32} (hX : Gd X M) (hd : decode M.2.1 pc = .ok (.invokestatic idx, 3)) (hm : Cond.methodLink M.1.cls idx Lib.Math.min.name ∈ BIG) (hr : 1 ≤ M.2.2.2.2.1 ∧ 21 ≤ M.2.2.2.2.2) (hS : (S.map (fun v => v.category)).sum ≤ 8) (k : Wp X Post (pc + 3) L (.int (if y < x then y else x) :: S) σ) : Wp X Post pc L (.int y :: .int x :: S) σ := by
  obtain ⟨p, l, e, R, s, m, args, below, meth, c, dC, dI, ad, cI, cZ, nL, σ0⟩ := X
  intro H locs ls h1 h2 h3 h4
  obtain ⟨g1, g2, g3, g4, g5, g6, g7, g8, g9, g10, g11, g12⟩ := hX
  subst g12
  have hB : ∀ w ∈ BIG, w.before args s = true := fun w hw => g7 w (List.mem_cons_of_mem _ hw)
  exact va_mmin g1 g2 (by rw [g4, h4.1]) g6 (hB _ hm) (hB _ mmin_st) (hB _ math_in) (hB _ mmin_co) hr.1 (by rw [cat_map]; have := hr.2; show _ ≤ M.2.2.2.2.2; omega) (Nat.zero_le _) (Nat.zero_le _) hd (k H locs ls h1 h2 h3 h4)
theorem wp_copy {idx q0 q1 n0 n1 : Nat} {f g : Nat → Int32} {sp dp n : Int32} (hX : Gd X M) (hd : decode M.2.1 pc = .ok (.invokestatic idx, 3)) (hm : Cond.methodLink M.1.cls idx arraycopyName ∈ BIG) (hr : 1 ≤ M.2.2.2.2.1 ∧ 40 ≤ M.2.2.2.2.2) (hS : (S.map (fun v => v.category)).sum ≤ 8) (hq0 : σ[q0]? = some (.inl (false, n0, f))) (hq1 : σ[q1]? = some (.inl (false, n1, g))) (e1 : ¬ sp < 0) (e2 : ¬ dp < 0) (e3 : ¬ n < 0) (e4 : sp.toNatClampNeg + n.toNatClampNeg ≤ n0) (e5 : dp.toNatClampNeg + n.toNatClampNeg ≤ n1) (k : Wp X Post (pc + 3) L S (σ.set q1 (.inl (false, n1, va_cpy f g sp.toNatClampNeg dp.toNatClampNeg n.toNatClampNeg)))) : Wp X Post pc L (.int n :: .int dp :: .ref q1 :: .int sp :: .ref q0 :: S) σ := by
  obtain ⟨p, l, e, R, s, m, args, below, meth, c, dC, dI, ad, cI, cZ, nL, σ0⟩ := X
  intro H locs ls h1 h2 h3 h4
  obtain ⟨g1, g2, g3, g4, g5, g6, g7, g8, g9, g10, g11, g12⟩ := hX
  subst g12
  have hB : ∀ w ∈ BIG, w.before args s = true := fun w hw => g7 w (List.mem_cons_of_mem _ hw)
  have hw : nativeFrameWords "java/lang/System" "arraycopy" 5 + 11 ≤ 32 := by decide +kernel
  have hlo : ((S.map (cv ad)).map fun v => v.category).sum + (nativeFrameWords "java/lang/System" "arraycopy" 5 + 11) ≤ (mrm M).locals := by
    rw [cat_map]
    have := hr.2
    show _ ≤ M.2.2.2.2.2
    omega
  refine va_copyi (D := (dC, dI)) (ty := .int) g1 g2 (by rw [g4, h4.1]) g6 (hB _ hm) (hB _ acopy_na) (hB _ acopy_st) (hB _ acopy_in) g9 h2 (cw_D h1 g10) h3 q0 q1 0 0 (cw_at hq0) (cw_at hq1) rfl rfl rfl e1 e2 e3 e4 e5 (fun i _ => rfl) hr.1 hlo hd (fun H1 locs1 c1 c2 c3 => ?_)
  have c1 := cw_set (ad := ad) (cI := cI) (cZ := cZ) (σ := σ) (k := q1) (c := .inl (false, n1, va_cpy f g sp.toNatClampNeg dp.toNatClampNeg n.toNatClampNeg)) ▸ c1
  exact k H1 locs1 ls (by rw [List.length_set]; exact h1) c1 c3 h4
end Rules
end
section
theorem inBX0 : ∀ w ∈ u_ws RX0 TX0 6, w ∈ BIG := by decide +kernel
theorem inBX1 : ∀ w ∈ u_ws RX1 TX1 4, w ∈ BIG := by decide +kernel
theorem inBX2 : ∀ w ∈ u_ws RX2 TX2 3, w ∈ BIG := by decide +kernel
theorem inBX3 : ∀ w ∈ u_ws RX3 TX3 3, w ∈ BIG := by decide +kernel
theorem inBX4 : ∀ w ∈ u_ws RX4 TX4 8, w ∈ BIG := by decide +kernel
theorem inBX5 : ∀ w ∈ u_ws RX5 TX5 28, w ∈ BIG := by decide +kernel
abbrev mdJ7_fill_53178 : MD := (yJ7_fill_53178, cJ7_fill_53178, 4, none, 0, 0)
abbrev mdX0_renew : MD := (yX0_renew, cX0_renew, 3, none, 1, 23)
abbrev mdX0_wordsInBlock : MD := (yX0_wordsInBlock, cX0_wordsInBlock, 1, (some .int), 0, 0)
abbrev mdX0_writesDone : MD := (yX0_writesDone, cX0_writesDone, 1, (some .int), 0, 0)
abbrev mdX0_writesToFailure : MD := (yX0_writesToFailure, cX0_writesToFailure, 1, (some .int), 0, 0)
abbrev mdX0_arm : MD := (yX0_arm, cX0_arm, 2, none, 1, 40)
abbrev mdX0_wordAt : MD := (yX0_wordAt, cX0_wordAt, 3, (some .int), 0, 0)
abbrev mdX0_sumOf : MD := (yX0_sumOf, cX0_sumOf, 4, (some .int), 1, 22)
abbrev mdX0_isGood : MD := (yX0_isGood, cX0_isGood, 2, (some .boolean), 2, 45)
abbrev mdX0_clearPage : MD := (yX0_clearPage, cX0_clearPage, 1, none, 1, 23)
abbrev mdX0_setPage : MD := (yX0_setPage, cX0_setPage, 3, none, 0, 0)
abbrev mdX0_writePage : MD := (yX0_writePage, cX0_writePage, 2, (some .boolean), 2, 45)
abbrev mdX1_restart : MD := (yX1_restart, cX1_restart, 1, none, 0, 0)
abbrev mdX1_layOut : MD := (yX1_layOut, cX1_layOut, 2, none, 1, 20)
abbrev mdX1_usedBlocks : MD := (yX1_usedBlocks, cX1_usedBlocks, 1, (some .int), 0, 0)
abbrev mdX1_recordCount : MD := (yX1_recordCount, cX1_recordCount, 1, (some .int), 0, 0)
abbrev mdX1_partInts : MD := (yX1_partInts, cX1_partInts, 1, (some .int), 1, 20)
abbrev mdX4_blocksOf : MD := (yX4_blocksOf, cX4_blocksOf, 2, (some .int), 0, 0)
abbrev mdX1_blocksFor : MD := (yX1_blocksFor, cX1_blocksFor, 2, (some .int), 2, 40)
abbrev mdX1_hasRoom : MD := (yX1_hasRoom, cX1_hasRoom, 2, (some .boolean), 3, 61)
abbrev mdX2_entries : MD := (yX2_entries, cX2_entries, 1, (some .int), 0, 0)
abbrev mdX2_keyAt : MD := (yX2_keyAt, cX2_keyAt, 2, (some .int), 0, 0)
abbrev mdX2_placeOf : MD := (yX2_placeOf, cX2_placeOf, 6, (some .int), 0, 0)
abbrev mdX2_isAt : MD := (yX2_isAt, cX2_isAt, 3, (some .boolean), 0, 0)
abbrev mdX2_holds : MD := (yX2_holds, cX2_holds, 2, (some .boolean), 1, 25)
abbrev mdX2_valueAt : MD := (yX2_valueAt, cX2_valueAt, 2, (some .int), 0, 0)
abbrev mdX1_recordInt : MD := (yX1_recordInt, cX1_recordInt, 4, (some .int), 2, 46)
abbrev mdX1_fillPage : MD := (yX1_fillPage, cX1_fillPage, 6, none, 3, 69)
abbrev mdX1_append : MD := (yX1_append, cX1_append, 7, (some .boolean), 4, 94)
abbrev mdX1_isPart : MD := (yX1_isPart, cX1_isPart, 6, (some .boolean), 3, 66)
abbrev mdX1_wholeParts : MD := (yX1_wholeParts, cX1_wholeParts, 9, (some .int), 4, 91)
abbrev mdX1_storedInt : MD := (yX1_storedInt, cX1_storedInt, 4, (some .int), 2, 40)
abbrev mdX2_enter : MD := (yX2_enter, cX2_enter, 4, none, 1, 40)
abbrev mdX2_drop : MD := (yX2_drop, cX2_drop, 3, none, 1, 40)
abbrev mdX1_redo : MD := (yX1_redo, cX1_redo, 7, none, 3, 63)
abbrev mdX1_replay : MD := (yX1_replay, cX1_replay, 6, none, 5, 119)
abbrev mdX2_clear : MD := (yX2_clear, cX2_clear, 1, none, 0, 0)
abbrev mdX2_placeBehind : MD := (yX2_placeBehind, cX2_placeBehind, 3, (some .int), 1, 25)
abbrev mdX2_valueOf : MD := (yX2_valueOf, cX2_valueOf, 3, (some .int), 1, 25)
abbrev mdX2_sumOfValues : MD := (yX2_sumOfValues, cX2_sumOfValues, 6, (some .long), 1, 21)
abbrev mdX2_copyFrom : MD := (yX2_copyFrom, cX2_copyFrom, 2, none, 1, 40)
abbrev mdX3_layOut : MD := (yX3_layOut, cX3_layOut, 3, none, 0, 0)
abbrev mdX3_areaBlocks : MD := (yX3_areaBlocks, cX3_areaBlocks, 1, (some .int), 0, 0)
abbrev mdX3_fan : MD := (yX3_fan, cX3_fan, 1, (some .int), 1, 20)
abbrev mdX3_blocksFor : MD := (yX3_blocksFor, cX3_blocksFor, 5, (some .int), 2, 40)
abbrev mdX3_startOf : MD := (yX3_startOf, cX3_startOf, 2, (some .int), 0, 0)
abbrev mdX3_rootOf : MD := (yX3_rootOf, cX3_rootOf, 3, (some .int), 3, 64)
abbrev mdX3_beginPage : MD := (yX3_beginPage, cX3_beginPage, 3, none, 2, 43)
abbrev mdX3_setPair : MD := (yX3_setPair, cX3_setPair, 4, none, 1, 22)
abbrev mdX3_writeLeaves : MD := (yX3_writeLeaves, cX3_writeLeaves, 8, (some .boolean), 3, 66)
abbrev mdX3_writeNodes : MD := (yX3_writeNodes, cX3_writeNodes, 9, (some .boolean), 3, 66)
abbrev mdX3_save : MD := (yX3_save, cX3_save, 6, (some .boolean), 4, 94)
abbrev mdX3_load : MD := (yX3_load, cX3_load, 9, none, 2, 63)
abbrev mdX4_disk : MD := (yX4_disk, cX4_disk, 4, (some .boolean), 2, 45)
abbrev mdX4_refusal : MD := (yX4_refusal, cX4_refusal, 1, (some .int), 0, 0)
abbrev mdX4_fail : MD := (yX4_fail, cX4_fail, 1, (some .int), 0, 0)
abbrev mdX4_writeHead : MD := (yX4_writeHead, cX4_writeHead, 6, (some .boolean), 3, 66)
abbrev mdX4_endTransaction : MD := (yX4_endTransaction, cX4_endTransaction, 1, none, 2, 61)
abbrev mdX4_comeUp : MD := (yX4_comeUp, cX4_comeUp, 1, none, 3, 81)
abbrev mdX4_format : MD := (yX4_format, cX4_format, 2, (some .int), 4, 101)
abbrev mdX4_power : MD := (yX4_power, cX4_power, 2, (some .int), 2, 61)
abbrev mdX4_recover : MD := (yX4_recover, cX4_recover, 5, (some .int), 6, 144)
abbrev mdX4_begin : MD := (yX4_begin, cX4_begin, 1, (some .int), 1, 20)
abbrev mdX4_hasRoomForChange : MD := (yX4_hasRoomForChange, cX4_hasRoomForChange, 2, (some .boolean), 2, 46)
abbrev mdX4_put : MD := (yX4_put, cX4_put, 3, (some .int), 3, 67)
abbrev mdX4_remove : MD := (yX4_remove, cX4_remove, 2, (some .int), 3, 67)
abbrev mdX4_commit : MD := (yX4_commit, cX4_commit, 3, (some .int), 5, 120)
abbrev mdX4_abort : MD := (yX4_abort, cX4_abort, 1, (some .int), 3, 81)
abbrev mdX4_checkpoint : MD := (yX4_checkpoint, cX4_checkpoint, 5, (some .int), 5, 119)
abbrev mdX4_get : MD := (yX4_get, cX4_get, 2, (some .int), 2, 47)
abbrev mdX4_has : MD := (yX4_has, cX4_has, 2, (some .boolean), 2, 46)
abbrev mdX4_size : MD := (yX4_size, cX4_size, 1, (some .int), 1, 20)
abbrev mdX4_key : MD := (yX4_key, cX4_key, 2, (some .int), 1, 21)
abbrev mdX4_sum : MD := (yX4_sum, cX4_sum, 6, (some .long), 2, 47)
abbrev mdX4_word : MD := (yX4_word, cX4_word, 3, (some .int), 1, 22)
abbrev mdX4_state : MD := (yX4_state, cX4_state, 1, (some .int), 0, 0)
abbrev mdX4_countWhileUp : MD := (yX4_countWhileUp, cX4_countWhileUp, 2, (some .int), 3, 64)
abbrev mdX4_count : MD := (yX4_count, cX4_count, 2, (some .int), 4, 85)
abbrev mdX5_sumOf : MD := (yX5_sumOf, cX5_sumOf, 5, (some .int), 0, 0)
abbrev mdX5_isGood : MD := (yX5_isGood, cX5_isGood, 2, (some .boolean), 1, 24)
abbrev mdX5_blank : MD := (yX5_blank, cX5_blank, 2, none, 0, 0)
abbrev mdX5_write : MD := (yX5_write, cX5_write, 3, (some .boolean), 1, 24)
abbrev mdX5_writeHead : MD := (yX5_writeHead, cX5_writeHead, 6, (some .boolean), 2, 46)
abbrev mdX5_area : MD := (yX5_area, cX5_area, 1, (some .int), 0, 0)
abbrev mdX5_fan : MD := (yX5_fan, cX5_fan, 1, (some .int), 0, 0)
abbrev mdX5_part : MD := (yX5_part, cX5_part, 1, (some .int), 0, 0)
abbrev mdX5_not : MD := (yX5_not, cX5_not, 1, (some .int), 0, 0)
abbrev mdX5_disk : MD := (yX5_disk, cX5_disk, 5, (some .boolean), 0, 0)
abbrev mdX5_format : MD := (yX5_format, cX5_format, 2, (some .int), 3, 71)
abbrev mdX5_power : MD := (yX5_power, cX5_power, 2, (some .int), 0, 0)
abbrev mdX5_at : MD := (yX5_at, cX5_at, 5, (some .int), 0, 0)
abbrev mdX5_bind : MD := (yX5_bind, cX5_bind, 5, none, 1, 24)
abbrev mdX5_unbind : MD := (yX5_unbind, cX5_unbind, 4, none, 1, 24)
abbrev mdX5_changeAt : MD := (yX5_changeAt, cX5_changeAt, 3, (some .int), 0, 0)
abbrev mdX5_isChanged : MD := (yX5_isChanged, cX5_isChanged, 3, (some .boolean), 1, 22)
abbrev mdX5_isPart : MD := (yX5_isPart, cX5_isPart, 5, (some .boolean), 2, 45)
abbrev mdX5_needed : MD := (yX5_needed, cX5_needed, 7, (some .int), 1, 20)
abbrev mdX5_intAt : MD := (yX5_intAt, cX5_intAt, 3, (some .int), 1, 20)
abbrev mdX5_redo : MD := (yX5_redo, cX5_redo, 9, (some .int), 3, 69)
abbrev mdX5_load : MD := (yX5_load, cX5_load, 6, none, 0, 0)
abbrev mdX5_recover : MD := (yX5_recover, cX5_recover, 2, (some .int), 4, 97)
abbrev mdX5_begin : MD := (yX5_begin, cX5_begin, 1, (some .int), 1, 20)
abbrev mdX5_change : MD := (yX5_change, cX5_change, 6, (some .int), 1, 22)
abbrev mdX5_put : MD := (yX5_put, cX5_put, 3, (some .int), 2, 47)
abbrev mdX5_isSeen : MD := (yX5_isSeen, cX5_isSeen, 3, (some .boolean), 2, 44)
abbrev mdX5_remove : MD := (yX5_remove, cX5_remove, 2, (some .int), 3, 66)
abbrev mdX5_commit : MD := (yX5_commit, cX5_commit, 5, (some .int), 2, 48)
abbrev mdX5_abort : MD := (yX5_abort, cX5_abort, 1, (some .int), 1, 20)
abbrev mdX5_treeBlocks : MD := (yX5_treeBlocks, cX5_treeBlocks, 3, (some .int), 1, 20)
abbrev mdX5_checkpoint : MD := (yX5_checkpoint, cX5_checkpoint, 8, (some .int), 3, 71)
abbrev mdX5_beginSeen : MD := (yX5_beginSeen, cX5_beginSeen, 1, none, 0, 0)
abbrev mdX5_next : MD := (yX5_next, cX5_next, 4, (some .boolean), 0, 0)
abbrev mdX5_get : MD := (yX5_get, cX5_get, 3, (some .int), 2, 44)
abbrev mdX5_has : MD := (yX5_has, cX5_has, 2, (some .boolean), 3, 66)
abbrev mdX5_size : MD := (yX5_size, cX5_size, 1, (some .int), 1, 23)
abbrev mdX5_key : MD := (yX5_key, cX5_key, 3, (some .int), 1, 23)
abbrev mdX5_sum : MD := (yX5_sum, cX5_sum, 10, (some .long), 1, 23)
abbrev mdX5_word : MD := (yX5_word, cX5_word, 3, (some .int), 0, 0)
abbrev mdX5_state : MD := (yX5_state, cX5_state, 1, (some .int), 0, 0)
abbrev mdX5_count : MD := (yX5_count, cX5_count, 2, (some .int), 2, 42)
theorem lcX0_9 : Cond.constant RX0 9 (32768) ∈ BIG := by decide +kernel
theorem flX0_10 : FL RX0 10 0 0 := ⟨RX0, TX0, 6, rfl, by decide, by decide +kernel, inBX0⟩
theorem flX0_16 : FL RX0 16 0 1 := ⟨RX0, TX0, 6, rfl, by decide, by decide +kernel, inBX0⟩
theorem flX0_19 : FL RX0 19 0 2 := ⟨RX0, TX0, 6, rfl, by decide, by decide +kernel, inBX0⟩
theorem fwX0_19 : FW RX0 19 0 2 .int := ⟨RX0, TX0, 6, tyX0, rfl, by decide, by decide +kernel, inBX0, rfl, rfl, tyX0_ok, nmX0⟩
theorem flX0_23 : FL RX0 23 0 3 := ⟨RX0, TX0, 6, rfl, by decide, by decide +kernel, inBX0⟩
theorem fwX0_23 : FW RX0 23 0 3 .int := ⟨RX0, TX0, 6, tyX0, rfl, by decide, by decide +kernel, inBX0, rfl, rfl, tyX0_ok, nmX0⟩
theorem flX0_26 : FL RX0 26 0 4 := ⟨RX0, TX0, 6, rfl, by decide, by decide +kernel, inBX0⟩
theorem fwX0_26 : FW RX0 26 0 4 .int := ⟨RX0, TX0, 6, tyX0, rfl, by decide, by decide +kernel, inBX0, rfl, rfl, tyX0_ok, nmX0⟩
theorem flX0_29 : FL RX0 29 0 5 := ⟨RX0, TX0, 6, rfl, by decide, by decide +kernel, inBX0⟩
theorem fwX0_29 : FW RX0 29 0 5 .int := ⟨RX0, TX0, 6, tyX0, rfl, by decide, by decide +kernel, inBX0, rfl, rfl, tyX0_ok, nmX0⟩
theorem flX1_7 : FL RX1 7 1 1 := ⟨RX1, TX1, 4, rfl, by decide, by decide +kernel, inBX1⟩
theorem fwX1_7 : FW RX1 7 1 1 .int := ⟨RX1, TX1, 4, tyX1, rfl, by decide, by decide +kernel, inBX1, rfl, rfl, tyX1_ok, nmX1⟩
theorem flX1_13 : FL RX1 13 1 2 := ⟨RX1, TX1, 4, rfl, by decide, by decide +kernel, inBX1⟩
theorem fwX1_13 : FW RX1 13 1 2 .int := ⟨RX1, TX1, 4, tyX1, rfl, by decide, by decide +kernel, inBX1, rfl, rfl, tyX1_ok, nmX1⟩
theorem flX1_16 : FL RX1 16 1 3 := ⟨RX1, TX1, 4, rfl, by decide, by decide +kernel, inBX1⟩
theorem fwX1_16 : FW RX1 16 1 3 .int := ⟨RX1, TX1, 4, tyX1, rfl, by decide, by decide +kernel, inBX1, rfl, rfl, tyX1_ok, nmX1⟩
theorem flX1_19 : FL RX1 19 1 0 := ⟨RX1, TX1, 4, rfl, by decide, by decide +kernel, inBX1⟩
theorem flX2_7 : FL RX2 7 2 2 := ⟨RX2, TX2, 3, rfl, by decide, by decide +kernel, inBX2⟩
theorem fwX2_7 : FW RX2 7 2 2 .int := ⟨RX2, TX2, 3, tyX2, rfl, by decide, by decide +kernel, inBX2, rfl, rfl, tyX2_ok, nmX2⟩
theorem flX2_19 : FL RX2 19 2 0 := ⟨RX2, TX2, 3, rfl, by decide, by decide +kernel, inBX2⟩
theorem flX2_23 : FL RX2 23 2 1 := ⟨RX2, TX2, 3, rfl, by decide, by decide +kernel, inBX2⟩
theorem flX3_9 : FL RX3 9 3 1 := ⟨RX3, TX3, 3, rfl, by decide, by decide +kernel, inBX3⟩
theorem fwX3_9 : FW RX3 9 3 1 .int := ⟨RX3, TX3, 3, tyX3, rfl, by decide, by decide +kernel, inBX3, rfl, rfl, tyX3_ok, nmX3⟩
theorem flX3_15 : FL RX3 15 3 2 := ⟨RX3, TX3, 3, rfl, by decide, by decide +kernel, inBX3⟩
theorem fwX3_15 : FW RX3 15 3 2 .int := ⟨RX3, TX3, 3, tyX3, rfl, by decide, by decide +kernel, inBX3, rfl, rfl, tyX3_ok, nmX3⟩
theorem flX3_18 : FL RX3 18 3 0 := ⟨RX3, TX3, 3, rfl, by decide, by decide +kernel, inBX3⟩
theorem flX4_10 : FL RX4 10 4 0 := ⟨RX4, TX4, 8, rfl, by decide, by decide +kernel, inBX4⟩
theorem flX4_21 : FL RX4 21 4 1 := ⟨RX4, TX4, 8, rfl, by decide, by decide +kernel, inBX4⟩
theorem flX4_28 : FL RX4 28 4 2 := ⟨RX4, TX4, 8, rfl, by decide, by decide +kernel, inBX4⟩
theorem flX4_37 : FL RX4 37 4 3 := ⟨RX4, TX4, 8, rfl, by decide, by decide +kernel, inBX4⟩
theorem flX4_41 : FL RX4 41 4 4 := ⟨RX4, TX4, 8, rfl, by decide, by decide +kernel, inBX4⟩
theorem flX4_44 : FL RX4 44 4 5 := ⟨RX4, TX4, 8, rfl, by decide, by decide +kernel, inBX4⟩
theorem flX4_47 : FL RX4 47 4 6 := ⟨RX4, TX4, 8, rfl, by decide, by decide +kernel, inBX4⟩
theorem fwX4_47 : FW RX4 47 4 6 .int := ⟨RX4, TX4, 8, tyX4, rfl, by decide, by decide +kernel, inBX4, rfl, rfl, tyX4_ok, nmX4⟩
theorem flX4_51 : FL RX4 51 4 7 := ⟨RX4, TX4, 8, rfl, by decide, by decide +kernel, inBX4⟩
theorem fwX4_51 : FW RX4 51 4 7 .boolean := ⟨RX4, TX4, 8, tyX4, rfl, by decide, by decide +kernel, inBX4, rfl, rfl, tyX4_ok, nmX4⟩
theorem lcX4_104 : Cond.constant RX4 104 (1129337682) ∈ BIG := by decide +kernel
theorem lcX5_7 : Cond.constant RX5 7 (32768) ∈ BIG := by decide +kernel
theorem flX5_8 : FL RX5 8 5 0 := ⟨RX5, TX5, 28, rfl, by decide, by decide +kernel, inBX5⟩
theorem flX5_14 : FL RX5 14 5 11 := ⟨RX5, TX5, 28, rfl, by decide, by decide +kernel, inBX5⟩
theorem flX5_17 : FL RX5 17 5 12 := ⟨RX5, TX5, 28, rfl, by decide, by decide +kernel, inBX5⟩
theorem flX5_20 : FL RX5 20 5 15 := ⟨RX5, TX5, 28, rfl, by decide, by decide +kernel, inBX5⟩
theorem flX5_23 : FL RX5 23 5 16 := ⟨RX5, TX5, 28, rfl, by decide, by decide +kernel, inBX5⟩
theorem flX5_26 : FL RX5 26 5 17 := ⟨RX5, TX5, 28, rfl, by decide, by decide +kernel, inBX5⟩
theorem flX5_30 : FL RX5 30 5 19 := ⟨RX5, TX5, 28, rfl, by decide, by decide +kernel, inBX5⟩
theorem flX5_33 : FL RX5 33 5 20 := ⟨RX5, TX5, 28, rfl, by decide, by decide +kernel, inBX5⟩
theorem flX5_36 : FL RX5 36 5 21 := ⟨RX5, TX5, 28, rfl, by decide, by decide +kernel, inBX5⟩
theorem flX5_39 : FL RX5 39 5 22 := ⟨RX5, TX5, 28, rfl, by decide, by decide +kernel, inBX5⟩
theorem flX5_42 : FL RX5 42 5 2 := ⟨RX5, TX5, 28, rfl, by decide, by decide +kernel, inBX5⟩
theorem fwX5_42 : FW RX5 42 5 2 .int := ⟨RX5, TX5, 28, tyX5, rfl, by decide, by decide +kernel, inBX5, rfl, rfl, tyX5_ok, nmX5⟩
theorem flX5_50 : FL RX5 50 5 5 := ⟨RX5, TX5, 28, rfl, by decide, by decide +kernel, inBX5⟩
theorem fwX5_50 : FW RX5 50 5 5 .int := ⟨RX5, TX5, 28, tyX5, rfl, by decide, by decide +kernel, inBX5, rfl, rfl, tyX5_ok, nmX5⟩
theorem flX5_53 : FL RX5 53 5 4 := ⟨RX5, TX5, 28, rfl, by decide, by decide +kernel, inBX5⟩
theorem fwX5_53 : FW RX5 53 5 4 .int := ⟨RX5, TX5, 28, tyX5, rfl, by decide, by decide +kernel, inBX5, rfl, rfl, tyX5_ok, nmX5⟩
theorem flX5_56 : FL RX5 56 5 14 := ⟨RX5, TX5, 28, rfl, by decide, by decide +kernel, inBX5⟩
theorem fwX5_56 : FW RX5 56 5 14 .boolean := ⟨RX5, TX5, 28, tyX5, rfl, by decide, by decide +kernel, inBX5, rfl, rfl, tyX5_ok, nmX5⟩
theorem flX5_60 : FL RX5 60 5 6 := ⟨RX5, TX5, 28, rfl, by decide, by decide +kernel, inBX5⟩
theorem fwX5_60 : FW RX5 60 5 6 .int := ⟨RX5, TX5, 28, tyX5, rfl, by decide, by decide +kernel, inBX5, rfl, rfl, tyX5_ok, nmX5⟩
theorem lcX5_66 : Cond.constant RX5 66 (1129337682) ∈ BIG := by decide +kernel
theorem flX5_71 : FL RX5 71 5 1 := ⟨RX5, TX5, 28, rfl, by decide, by decide +kernel, inBX5⟩
theorem fwX5_71 : FW RX5 71 5 1 .int := ⟨RX5, TX5, 28, tyX5, rfl, by decide, by decide +kernel, inBX5, rfl, rfl, tyX5_ok, nmX5⟩
theorem flX5_74 : FL RX5 74 5 3 := ⟨RX5, TX5, 28, rfl, by decide, by decide +kernel, inBX5⟩
theorem fwX5_74 : FW RX5 74 5 3 .int := ⟨RX5, TX5, 28, tyX5, rfl, by decide, by decide +kernel, inBX5, rfl, rfl, tyX5_ok, nmX5⟩
theorem flX5_85 : FL RX5 85 5 8 := ⟨RX5, TX5, 28, rfl, by decide, by decide +kernel, inBX5⟩
theorem fwX5_85 : FW RX5 85 5 8 .int := ⟨RX5, TX5, 28, tyX5, rfl, by decide, by decide +kernel, inBX5, rfl, rfl, tyX5_ok, nmX5⟩
theorem flX5_88 : FL RX5 88 5 9 := ⟨RX5, TX5, 28, rfl, by decide, by decide +kernel, inBX5⟩
theorem fwX5_88 : FW RX5 88 5 9 .int := ⟨RX5, TX5, 28, tyX5, rfl, by decide, by decide +kernel, inBX5, rfl, rfl, tyX5_ok, nmX5⟩
theorem flX5_91 : FL RX5 91 5 7 := ⟨RX5, TX5, 28, rfl, by decide, by decide +kernel, inBX5⟩
theorem fwX5_91 : FW RX5 91 5 7 .int := ⟨RX5, TX5, 28, tyX5, rfl, by decide, by decide +kernel, inBX5, rfl, rfl, tyX5_ok, nmX5⟩
theorem flX5_94 : FL RX5 94 5 10 := ⟨RX5, TX5, 28, rfl, by decide, by decide +kernel, inBX5⟩
theorem fwX5_94 : FW RX5 94 5 10 .int := ⟨RX5, TX5, 28, tyX5, rfl, by decide, by decide +kernel, inBX5, rfl, rfl, tyX5_ok, nmX5⟩
theorem flX5_97 : FL RX5 97 5 13 := ⟨RX5, TX5, 28, rfl, by decide, by decide +kernel, inBX5⟩
theorem fwX5_97 : FW RX5 97 5 13 .int := ⟨RX5, TX5, 28, tyX5, rfl, by decide, by decide +kernel, inBX5, rfl, rfl, tyX5_ok, nmX5⟩
theorem flX5_104 : FL RX5 104 5 18 := ⟨RX5, TX5, 28, rfl, by decide, by decide +kernel, inBX5⟩
theorem fwX5_104 : FW RX5 104 5 18 .int := ⟨RX5, TX5, 28, tyX5, rfl, by decide, by decide +kernel, inBX5, rfl, rfl, tyX5_ok, nmX5⟩
theorem lcX5_113 : Cond.constantLong RX5 113 (3) ∈ BIG := by decide +kernel
theorem lcX5_118 : Cond.constantLong RX5 118 (1000) ∈ BIG := by decide +kernel
theorem flX5_165 : FL RX5 165 5 26 := ⟨RX5, TX5, 28, rfl, by decide, by decide +kernel, inBX5⟩
theorem fwX5_165 : FW RX5 165 5 26 .int := ⟨RX5, TX5, 28, tyX5, rfl, by decide, by decide +kernel, inBX5, rfl, rfl, tyX5_ok, nmX5⟩
theorem flX5_168 : FL RX5 168 5 27 := ⟨RX5, TX5, 28, rfl, by decide, by decide +kernel, inBX5⟩
theorem fwX5_168 : FW RX5 168 5 27 .int := ⟨RX5, TX5, 28, tyX5, rfl, by decide, by decide +kernel, inBX5, rfl, rfl, tyX5_ok, nmX5⟩
theorem flX5_171 : FL RX5 171 5 24 := ⟨RX5, TX5, 28, rfl, by decide, by decide +kernel, inBX5⟩
theorem fwX5_171 : FW RX5 171 5 24 .int := ⟨RX5, TX5, 28, tyX5, rfl, by decide, by decide +kernel, inBX5, rfl, rfl, tyX5_ok, nmX5⟩
theorem flX5_174 : FL RX5 174 5 25 := ⟨RX5, TX5, 28, rfl, by decide, by decide +kernel, inBX5⟩
theorem fwX5_174 : FW RX5 174 5 25 .int := ⟨RX5, TX5, 28, tyX5, rfl, by decide, by decide +kernel, inBX5, rfl, rfl, tyX5_ok, nmX5⟩
theorem flX5_177 : FL RX5 177 5 23 := ⟨RX5, TX5, 28, rfl, by decide, by decide +kernel, inBX5⟩
theorem fwX5_177 : FW RX5 177 5 23 .int := ⟨RX5, TX5, 28, tyX5, rfl, by decide, by decide +kernel, inBX5, rfl, rfl, tyX5_ok, nmX5⟩
theorem mokJ7_fill_53178 : MOK mdJ7_fill_53178 2 := ⟨by decide +kernel, by decide +kernel, by decide, by decide, by decide +kernel⟩
theorem mlX0_32 : MLS RX0 32 mdJ7_fill_53178 2 := ⟨mokJ7_fill_53178, by decide +kernel, by decide +kernel⟩
theorem mlX0_38 : Cond.methodLink RX0 38 Lib.Math.max.name ∈ BIG := by decide +kernel
theorem mokX0_wordAt : MOK mdX0_wordAt 2 := ⟨by decide +kernel, by decide +kernel, by decide, by decide, by decide +kernel⟩
theorem mlX0_44 : MLV RX0 44 mdX0_wordAt 0 2 := ⟨mokX0_wordAt, by decide +kernel, by decide +kernel, by decide +kernel, TX0, 6, rfl⟩
theorem mokX0_sumOf : MOK mdX0_sumOf 1 := ⟨by decide +kernel, by decide +kernel, by decide, by decide, by decide +kernel⟩
theorem mlX0_47 : MLV RX0 47 mdX0_sumOf 0 1 := ⟨mokX0_sumOf, by decide +kernel, by decide +kernel, by decide +kernel, TX0, 6, rfl⟩
theorem mlX0_51 : Cond.methodLink RX0 51 arraycopyName ∈ BIG := by decide +kernel
theorem mokX1_restart : MOK mdX1_restart 0 := ⟨by decide +kernel, by decide +kernel, by decide, by decide, by decide +kernel⟩
theorem mlX1_23 : MLV RX1 23 mdX1_restart 1 0 := ⟨mokX1_restart, by decide +kernel, by decide +kernel, by decide +kernel, TX1, 4, rfl⟩
theorem mokX0_wordsInBlock : MOK mdX0_wordsInBlock 0 := ⟨by decide +kernel, by decide +kernel, by decide, by decide, by decide +kernel⟩
theorem mlX1_64 : MLV RX1 64 mdX0_wordsInBlock 0 0 := ⟨mokX0_wordsInBlock, by decide +kernel, by decide +kernel, by decide +kernel, TX0, 6, rfl⟩
theorem mokX1_partInts : MOK mdX1_partInts 0 := ⟨by decide +kernel, by decide +kernel, by decide, by decide, by decide +kernel⟩
theorem mlX1_45 : MLV RX1 45 mdX1_partInts 1 0 := ⟨mokX1_partInts, by decide +kernel, by decide +kernel, by decide +kernel, TX1, 4, rfl⟩
theorem mokX4_blocksOf : MOK mdX4_blocksOf 2 := ⟨by decide +kernel, by decide +kernel, by decide, by decide, by decide +kernel⟩
theorem msX4_blocksOf : MOK mdX4_blocksOf 2 ∧ Cond.static mdX4_blocksOf.1 ∈ BIG := ⟨mokX4_blocksOf, by decide +kernel⟩
theorem mokX1_blocksFor : MOK mdX1_blocksFor 1 := ⟨by decide +kernel, by decide +kernel, by decide, by decide, by decide +kernel⟩
theorem mlX1_26 : MLV RX1 26 mdX1_blocksFor 1 1 := ⟨mokX1_blocksFor, by decide +kernel, by decide +kernel, by decide +kernel, TX1, 4, rfl⟩
theorem mokX2_placeOf : MOK mdX2_placeOf 1 := ⟨by decide +kernel, by decide +kernel, by decide, by decide, by decide +kernel⟩
theorem mlX2_26 : MLV RX2 26 mdX2_placeOf 2 1 := ⟨mokX2_placeOf, by decide +kernel, by decide +kernel, by decide +kernel, TX2, 3, rfl⟩
theorem mokX2_isAt : MOK mdX2_isAt 2 := ⟨by decide +kernel, by decide +kernel, by decide, by decide, by decide +kernel⟩
theorem mlX2_30 : MLV RX2 30 mdX2_isAt 2 2 := ⟨mokX2_isAt, by decide +kernel, by decide +kernel, by decide +kernel, TX2, 3, rfl⟩
theorem mokX2_entries : MOK mdX2_entries 0 := ⟨by decide +kernel, by decide +kernel, by decide, by decide, by decide +kernel⟩
theorem mlX1_30 : MLV RX1 30 mdX2_entries 2 0 := ⟨mokX2_entries, by decide +kernel, by decide +kernel, by decide +kernel, TX2, 3, rfl⟩
theorem mokX2_keyAt : MOK mdX2_keyAt 1 := ⟨by decide +kernel, by decide +kernel, by decide, by decide, by decide +kernel⟩
theorem mlX1_77 : MLV RX1 77 mdX2_keyAt 2 1 := ⟨mokX2_keyAt, by decide +kernel, by decide +kernel, by decide +kernel, TX2, 3, rfl⟩
theorem mokX2_holds : MOK mdX2_holds 1 := ⟨by decide +kernel, by decide +kernel, by decide, by decide, by decide +kernel⟩
theorem mlX1_80 : MLV RX1 80 mdX2_holds 2 1 := ⟨mokX2_holds, by decide +kernel, by decide +kernel, by decide +kernel, TX2, 3, rfl⟩
theorem mokX2_valueAt : MOK mdX2_valueAt 1 := ⟨by decide +kernel, by decide +kernel, by decide, by decide, by decide +kernel⟩
theorem mlX1_83 : MLV RX1 83 mdX2_valueAt 2 1 := ⟨mokX2_valueAt, by decide +kernel, by decide +kernel, by decide +kernel, TX2, 3, rfl⟩
theorem mokX1_recordInt : MOK mdX1_recordInt 3 := ⟨by decide +kernel, by decide +kernel, by decide, by decide, by decide +kernel⟩
theorem mlX1_73 : MLS RX1 73 mdX1_recordInt 3 := ⟨mokX1_recordInt, by decide +kernel, by decide +kernel⟩
theorem mokX0_setPage : MOK mdX0_setPage 2 := ⟨by decide +kernel, by decide +kernel, by decide, by decide, by decide +kernel⟩
theorem mlX1_41 : MLV RX1 41 mdX0_setPage 0 2 := ⟨mokX0_setPage, by decide +kernel, by decide +kernel, by decide +kernel, TX0, 6, rfl⟩
theorem mokX0_clearPage : MOK mdX0_clearPage 0 := ⟨by decide +kernel, by decide +kernel, by decide, by decide, by decide +kernel⟩
theorem mlX1_36 : MLV RX1 36 mdX0_clearPage 0 0 := ⟨mokX0_clearPage, by decide +kernel, by decide +kernel, by decide +kernel, TX0, 6, rfl⟩
theorem mokX1_fillPage : MOK mdX1_fillPage 3 := ⟨by decide +kernel, by decide +kernel, by decide, by decide, by decide +kernel⟩
theorem mlX1_48 : MLV RX1 48 mdX1_fillPage 1 3 := ⟨mokX1_fillPage, by decide +kernel, by decide +kernel, by decide +kernel, TX1, 4, rfl⟩
theorem mokX0_writePage : MOK mdX0_writePage 1 := ⟨by decide +kernel, by decide +kernel, by decide, by decide, by decide +kernel⟩
theorem mlX1_52 : MLV RX1 52 mdX0_writePage 0 1 := ⟨mokX0_writePage, by decide +kernel, by decide +kernel, by decide +kernel, TX0, 6, rfl⟩
theorem mokX0_isGood : MOK mdX0_isGood 1 := ⟨by decide +kernel, by decide +kernel, by decide, by decide, by decide +kernel⟩
theorem mlX1_93 : MLV RX1 93 mdX0_isGood 0 1 := ⟨mokX0_isGood, by decide +kernel, by decide +kernel, by decide +kernel, TX0, 6, rfl⟩
theorem mlX1_86 : MLV RX1 86 mdX0_wordAt 0 2 := ⟨mokX0_wordAt, by decide +kernel, by decide +kernel, by decide +kernel, TX0, 6, rfl⟩
theorem mokX1_isPart : MOK mdX1_isPart 5 := ⟨by decide +kernel, by decide +kernel, by decide, by decide, by decide +kernel⟩
theorem mlX1_89 : MLV RX1 89 mdX1_isPart 1 5 := ⟨mokX1_isPart, by decide +kernel, by decide +kernel, by decide +kernel, TX1, 4, rfl⟩
theorem mlX2_37 : Cond.methodLink RX2 37 arraycopyName ∈ BIG := by decide +kernel
theorem mokX1_storedInt : MOK mdX1_storedInt 2 := ⟨by decide +kernel, by decide +kernel, by decide, by decide, by decide +kernel⟩
theorem mlX1_96 : MLV RX1 96 mdX1_storedInt 1 2 := ⟨mokX1_storedInt, by decide +kernel, by decide +kernel, by decide +kernel, TX1, 4, rfl⟩
theorem mokX2_enter : MOK mdX2_enter 2 := ⟨by decide +kernel, by decide +kernel, by decide, by decide, by decide +kernel⟩
theorem mlX1_99 : MLV RX1 99 mdX2_enter 2 2 := ⟨mokX2_enter, by decide +kernel, by decide +kernel, by decide +kernel, TX2, 3, rfl⟩
theorem mokX2_drop : MOK mdX2_drop 1 := ⟨by decide +kernel, by decide +kernel, by decide, by decide, by decide +kernel⟩
theorem mlX1_102 : MLV RX1 102 mdX2_drop 2 1 := ⟨mokX2_drop, by decide +kernel, by decide +kernel, by decide +kernel, TX2, 3, rfl⟩
theorem mokX1_wholeParts : MOK mdX1_wholeParts 3 := ⟨by decide +kernel, by decide +kernel, by decide, by decide, by decide +kernel⟩
theorem mlX1_56 : MLV RX1 56 mdX1_wholeParts 1 3 := ⟨mokX1_wholeParts, by decide +kernel, by decide +kernel, by decide +kernel, TX1, 4, rfl⟩
theorem mokX1_redo : MOK mdX1_redo 2 := ⟨by decide +kernel, by decide +kernel, by decide, by decide, by decide +kernel⟩
theorem mlX1_60 : MLV RX1 60 mdX1_redo 1 2 := ⟨mokX1_redo, by decide +kernel, by decide +kernel, by decide +kernel, TX1, 4, rfl⟩
theorem mlX2_34 : MLV RX2 34 mdX2_valueAt 2 1 := ⟨mokX2_valueAt, by decide +kernel, by decide +kernel, by decide +kernel, TX2, 3, rfl⟩
theorem mlX2_43 : Cond.methodLink RX2 43 Lib.Math.min.name ∈ BIG := by decide +kernel
theorem mlX3_62 : MLV RX3 62 mdX0_wordsInBlock 0 0 := ⟨mokX0_wordsInBlock, by decide +kernel, by decide +kernel, by decide +kernel, TX0, 6, rfl⟩
theorem mokX3_fan : MOK mdX3_fan 0 := ⟨by decide +kernel, by decide +kernel, by decide, by decide, by decide +kernel⟩
theorem mlX3_22 : MLV RX3 22 mdX3_fan 3 0 := ⟨mokX3_fan, by decide +kernel, by decide +kernel, by decide +kernel, TX3, 3, rfl⟩
theorem mokX3_startOf : MOK mdX3_startOf 1 := ⟨by decide +kernel, by decide +kernel, by decide, by decide, by decide +kernel⟩
theorem mlX3_30 : MLV RX3 30 mdX3_startOf 3 1 := ⟨mokX3_startOf, by decide +kernel, by decide +kernel, by decide +kernel, TX3, 3, rfl⟩
theorem mokX3_blocksFor : MOK mdX3_blocksFor 1 := ⟨by decide +kernel, by decide +kernel, by decide, by decide, by decide +kernel⟩
theorem mlX3_34 : MLV RX3 34 mdX3_blocksFor 3 1 := ⟨mokX3_blocksFor, by decide +kernel, by decide +kernel, by decide +kernel, TX3, 3, rfl⟩
theorem mlX3_87 : MLV RX3 87 mdX0_clearPage 0 0 := ⟨mokX0_clearPage, by decide +kernel, by decide +kernel, by decide +kernel, TX0, 6, rfl⟩
theorem mlX3_90 : MLV RX3 90 mdX0_setPage 0 2 := ⟨mokX0_setPage, by decide +kernel, by decide +kernel, by decide +kernel, TX0, 6, rfl⟩
theorem mlX3_37 : MLV RX3 37 mdX2_entries 2 0 := ⟨mokX2_entries, by decide +kernel, by decide +kernel, by decide +kernel, TX2, 3, rfl⟩
theorem mlX3_65 : Cond.methodLink RX3 65 Lib.Math.min.name ∈ BIG := by decide +kernel
theorem mokX3_beginPage : MOK mdX3_beginPage 2 := ⟨by decide +kernel, by decide +kernel, by decide, by decide, by decide +kernel⟩
theorem mlX3_70 : MLV RX3 70 mdX3_beginPage 3 2 := ⟨mokX3_beginPage, by decide +kernel, by decide +kernel, by decide +kernel, TX3, 3, rfl⟩
theorem mlX3_73 : MLV RX3 73 mdX2_keyAt 2 1 := ⟨mokX2_keyAt, by decide +kernel, by decide +kernel, by decide +kernel, TX2, 3, rfl⟩
theorem mlX3_76 : MLV RX3 76 mdX2_valueAt 2 1 := ⟨mokX2_valueAt, by decide +kernel, by decide +kernel, by decide +kernel, TX2, 3, rfl⟩
theorem mokX3_setPair : MOK mdX3_setPair 3 := ⟨by decide +kernel, by decide +kernel, by decide, by decide, by decide +kernel⟩
theorem mlX3_79 : MLV RX3 79 mdX3_setPair 3 3 := ⟨mokX3_setPair, by decide +kernel, by decide +kernel, by decide +kernel, TX3, 3, rfl⟩
theorem mlX3_83 : MLV RX3 83 mdX0_writePage 0 1 := ⟨mokX0_writePage, by decide +kernel, by decide +kernel, by decide +kernel, TX0, 6, rfl⟩
theorem mlX3_53 : MLV RX3 53 mdX0_wordAt 0 2 := ⟨mokX0_wordAt, by decide +kernel, by decide +kernel, by decide +kernel, TX0, 6, rfl⟩
theorem mokX3_writeLeaves : MOK mdX3_writeLeaves 3 := ⟨by decide +kernel, by decide +kernel, by decide, by decide, by decide +kernel⟩
theorem mlX3_42 : MLV RX3 42 mdX3_writeLeaves 3 3 := ⟨mokX3_writeLeaves, by decide +kernel, by decide +kernel, by decide +kernel, TX3, 3, rfl⟩
theorem mokX3_writeNodes : MOK mdX3_writeNodes 2 := ⟨by decide +kernel, by decide +kernel, by decide, by decide, by decide +kernel⟩
theorem mlX3_46 : MLV RX3 46 mdX3_writeNodes 3 2 := ⟨mokX3_writeNodes, by decide +kernel, by decide +kernel, by decide +kernel, TX3, 3, rfl⟩
theorem mokX2_clear : MOK mdX2_clear 0 := ⟨by decide +kernel, by decide +kernel, by decide, by decide, by decide +kernel⟩
theorem mlX3_50 : MLV RX3 50 mdX2_clear 2 0 := ⟨mokX2_clear, by decide +kernel, by decide +kernel, by decide +kernel, TX2, 3, rfl⟩
theorem mlX3_58 : MLV RX3 58 mdX2_enter 2 2 := ⟨mokX2_enter, by decide +kernel, by decide +kernel, by decide +kernel, TX2, 3, rfl⟩
theorem mokX0_renew : MOK mdX0_renew 2 := ⟨by decide +kernel, by decide +kernel, by decide, by decide, by decide +kernel⟩
theorem mlX4_55 : MLV RX4 55 mdX0_renew 0 2 := ⟨mokX0_renew, by decide +kernel, by decide +kernel, by decide +kernel, TX0, 6, rfl⟩
theorem mokX1_layOut : MOK mdX1_layOut 1 := ⟨by decide +kernel, by decide +kernel, by decide, by decide, by decide +kernel⟩
theorem mlX4_59 : MLV RX4 59 mdX1_layOut 1 1 := ⟨mokX1_layOut, by decide +kernel, by decide +kernel, by decide +kernel, TX1, 4, rfl⟩
theorem mokX3_layOut : MOK mdX3_layOut 2 := ⟨by decide +kernel, by decide +kernel, by decide, by decide, by decide +kernel⟩
theorem mlX4_62 : MLV RX4 62 mdX3_layOut 3 2 := ⟨mokX3_layOut, by decide +kernel, by decide +kernel, by decide +kernel, TX3, 3, rfl⟩
theorem mlX4_72 : MLV RX4 72 mdX0_clearPage 0 0 := ⟨mokX0_clearPage, by decide +kernel, by decide +kernel, by decide +kernel, TX0, 6, rfl⟩
theorem mlX4_75 : MLV RX4 75 mdX0_setPage 0 2 := ⟨mokX0_setPage, by decide +kernel, by decide +kernel, by decide +kernel, TX0, 6, rfl⟩
theorem mlX4_78 : MLV RX4 78 mdX0_writePage 0 1 := ⟨mokX0_writePage, by decide +kernel, by decide +kernel, by decide +kernel, TX0, 6, rfl⟩
theorem mokX2_copyFrom : MOK mdX2_copyFrom 1 := ⟨by decide +kernel, by decide +kernel, by decide, by decide, by decide +kernel⟩
theorem mlX4_135 : MLV RX4 135 mdX2_copyFrom 2 1 := ⟨mokX2_copyFrom, by decide +kernel, by decide +kernel, by decide +kernel, TX2, 3, rfl⟩
theorem mlX4_89 : MLV RX4 89 mdX2_clear 2 0 := ⟨mokX2_clear, by decide +kernel, by decide +kernel, by decide +kernel, TX2, 3, rfl⟩
theorem mokX4_endTransaction : MOK mdX4_endTransaction 0 := ⟨by decide +kernel, by decide +kernel, by decide, by decide, by decide +kernel⟩
theorem mlX4_139 : MLV RX4 139 mdX4_endTransaction 4 0 := ⟨mokX4_endTransaction, by decide +kernel, by decide +kernel, by decide +kernel, TX4, 8, rfl⟩
theorem mokX4_refusal : MOK mdX4_refusal 0 := ⟨by decide +kernel, by decide +kernel, by decide, by decide, by decide +kernel⟩
theorem mlX4_64 : MLV RX4 64 mdX4_refusal 4 0 := ⟨mokX4_refusal, by decide +kernel, by decide +kernel, by decide +kernel, TX4, 8, rfl⟩
theorem mlX4_68 : MLV RX4 68 mdX0_wordAt 0 2 := ⟨mokX0_wordAt, by decide +kernel, by decide +kernel, by decide +kernel, TX0, 6, rfl⟩
theorem mokX4_fail : MOK mdX4_fail 0 := ⟨by decide +kernel, by decide +kernel, by decide, by decide, by decide +kernel⟩
theorem mlX4_82 : MLV RX4 82 mdX4_fail 4 0 := ⟨mokX4_fail, by decide +kernel, by decide +kernel, by decide +kernel, TX4, 8, rfl⟩
theorem mokX4_writeHead : MOK mdX4_writeHead 5 := ⟨by decide +kernel, by decide +kernel, by decide, by decide, by decide +kernel⟩
theorem mlX4_85 : MLV RX4 85 mdX4_writeHead 4 5 := ⟨mokX4_writeHead, by decide +kernel, by decide +kernel, by decide +kernel, TX4, 8, rfl⟩
theorem mlX4_92 : MLV RX4 92 mdX1_restart 1 0 := ⟨mokX1_restart, by decide +kernel, by decide +kernel, by decide +kernel, TX1, 4, rfl⟩
theorem mokX4_comeUp : MOK mdX4_comeUp 0 := ⟨by decide +kernel, by decide +kernel, by decide, by decide, by decide +kernel⟩
theorem mlX4_95 : MLV RX4 95 mdX4_comeUp 4 0 := ⟨mokX4_comeUp, by decide +kernel, by decide +kernel, by decide +kernel, TX4, 8, rfl⟩
theorem mokX0_arm : MOK mdX0_arm 1 := ⟨by decide +kernel, by decide +kernel, by decide, by decide, by decide +kernel⟩
theorem mlX4_98 : MLV RX4 98 mdX0_arm 0 1 := ⟨mokX0_arm, by decide +kernel, by decide +kernel, by decide +kernel, TX0, 6, rfl⟩
theorem mlX4_101 : MLV RX4 101 mdX0_isGood 0 1 := ⟨mokX0_isGood, by decide +kernel, by decide +kernel, by decide +kernel, TX0, 6, rfl⟩
theorem mokX3_load : MOK mdX3_load 3 := ⟨by decide +kernel, by decide +kernel, by decide, by decide, by decide +kernel⟩
theorem mlX4_105 : MLV RX4 105 mdX3_load 3 3 := ⟨mokX3_load, by decide +kernel, by decide +kernel, by decide +kernel, TX3, 3, rfl⟩
theorem mokX1_replay : MOK mdX1_replay 2 := ⟨by decide +kernel, by decide +kernel, by decide, by decide, by decide +kernel⟩
theorem mlX4_109 : MLV RX4 109 mdX1_replay 1 2 := ⟨mokX1_replay, by decide +kernel, by decide +kernel, by decide +kernel, TX1, 4, rfl⟩
theorem mlX4_125 : MLV RX4 125 mdX2_entries 2 0 := ⟨mokX2_entries, by decide +kernel, by decide +kernel, by decide +kernel, TX2, 3, rfl⟩
theorem mlX4_119 : MLV RX4 119 mdX2_holds 2 1 := ⟨mokX2_holds, by decide +kernel, by decide +kernel, by decide +kernel, TX2, 3, rfl⟩
theorem mokX4_hasRoomForChange : MOK mdX4_hasRoomForChange 1 := ⟨by decide +kernel, by decide +kernel, by decide, by decide, by decide +kernel⟩
theorem mlX4_113 : MLV RX4 113 mdX4_hasRoomForChange 4 1 := ⟨mokX4_hasRoomForChange, by decide +kernel, by decide +kernel, by decide +kernel, TX4, 8, rfl⟩
theorem mlX4_116 : MLV RX4 116 mdX2_enter 2 2 := ⟨mokX2_enter, by decide +kernel, by decide +kernel, by decide +kernel, TX2, 3, rfl⟩
theorem mlX4_122 : MLV RX4 122 mdX2_drop 2 1 := ⟨mokX2_drop, by decide +kernel, by decide +kernel, by decide +kernel, TX2, 3, rfl⟩
theorem mokX1_hasRoom : MOK mdX1_hasRoom 1 := ⟨by decide +kernel, by decide +kernel, by decide, by decide, by decide +kernel⟩
theorem mlX4_128 : MLV RX4 128 mdX1_hasRoom 1 1 := ⟨mokX1_hasRoom, by decide +kernel, by decide +kernel, by decide +kernel, TX1, 4, rfl⟩
theorem mokX1_append : MOK mdX1_append 4 := ⟨by decide +kernel, by decide +kernel, by decide, by decide, by decide +kernel⟩
theorem mlX4_131 : MLV RX4 131 mdX1_append 1 4 := ⟨mokX1_append, by decide +kernel, by decide +kernel, by decide +kernel, TX1, 4, rfl⟩
theorem mlX4_142 : MLV RX4 142 mdX3_blocksFor 3 1 := ⟨mokX3_blocksFor, by decide +kernel, by decide +kernel, by decide +kernel, TX3, 3, rfl⟩
theorem mokX3_areaBlocks : MOK mdX3_areaBlocks 0 := ⟨by decide +kernel, by decide +kernel, by decide, by decide, by decide +kernel⟩
theorem mlX4_146 : MLV RX4 146 mdX3_areaBlocks 3 0 := ⟨mokX3_areaBlocks, by decide +kernel, by decide +kernel, by decide +kernel, TX3, 3, rfl⟩
theorem mokX3_save : MOK mdX3_save 2 := ⟨by decide +kernel, by decide +kernel, by decide, by decide, by decide +kernel⟩
theorem mlX4_149 : MLV RX4 149 mdX3_save 3 2 := ⟨mokX3_save, by decide +kernel, by decide +kernel, by decide +kernel, TX3, 3, rfl⟩
theorem mokX3_rootOf : MOK mdX3_rootOf 2 := ⟨by decide +kernel, by decide +kernel, by decide, by decide, by decide +kernel⟩
theorem mlX4_153 : MLV RX4 153 mdX3_rootOf 3 2 := ⟨mokX3_rootOf, by decide +kernel, by decide +kernel, by decide +kernel, TX3, 3, rfl⟩
theorem mokX2_valueOf : MOK mdX2_valueOf 1 := ⟨by decide +kernel, by decide +kernel, by decide, by decide, by decide +kernel⟩
theorem mlX4_156 : MLV RX4 156 mdX2_valueOf 2 1 := ⟨mokX2_valueOf, by decide +kernel, by decide +kernel, by decide +kernel, TX2, 3, rfl⟩
theorem mlX4_159 : MLV RX4 159 mdX2_keyAt 2 1 := ⟨mokX2_keyAt, by decide +kernel, by decide +kernel, by decide +kernel, TX2, 3, rfl⟩
theorem mlX4_162 : MLV RX4 162 mdX2_placeOf 2 1 := ⟨mokX2_placeOf, by decide +kernel, by decide +kernel, by decide +kernel, TX2, 3, rfl⟩
theorem mokX2_placeBehind : MOK mdX2_placeBehind 1 := ⟨by decide +kernel, by decide +kernel, by decide, by decide, by decide +kernel⟩
theorem mlX4_165 : MLV RX4 165 mdX2_placeBehind 2 1 := ⟨mokX2_placeBehind, by decide +kernel, by decide +kernel, by decide +kernel, TX2, 3, rfl⟩
theorem mokX2_sumOfValues : MOK mdX2_sumOfValues 2 := ⟨by decide +kernel, by decide +kernel, by decide, by decide, by decide +kernel⟩
theorem mlX4_168 : MLV RX4 168 mdX2_sumOfValues 2 2 := ⟨mokX2_sumOfValues, by decide +kernel, by decide +kernel, by decide +kernel, TX2, 3, rfl⟩
theorem mokX1_usedBlocks : MOK mdX1_usedBlocks 0 := ⟨by decide +kernel, by decide +kernel, by decide, by decide, by decide +kernel⟩
theorem mlX4_181 : MLV RX4 181 mdX1_usedBlocks 1 0 := ⟨mokX1_usedBlocks, by decide +kernel, by decide +kernel, by decide +kernel, TX1, 4, rfl⟩
theorem mokX1_recordCount : MOK mdX1_recordCount 0 := ⟨by decide +kernel, by decide +kernel, by decide, by decide, by decide +kernel⟩
theorem mlX4_184 : MLV RX4 184 mdX1_recordCount 1 0 := ⟨mokX1_recordCount, by decide +kernel, by decide +kernel, by decide +kernel, TX1, 4, rfl⟩
theorem mokX0_writesDone : MOK mdX0_writesDone 0 := ⟨by decide +kernel, by decide +kernel, by decide, by decide, by decide +kernel⟩
theorem mlX4_172 : MLV RX4 172 mdX0_writesDone 0 0 := ⟨mokX0_writesDone, by decide +kernel, by decide +kernel, by decide +kernel, TX0, 6, rfl⟩
theorem mokX0_writesToFailure : MOK mdX0_writesToFailure 0 := ⟨by decide +kernel, by decide +kernel, by decide, by decide, by decide +kernel⟩
theorem mlX4_175 : MLV RX4 175 mdX0_writesToFailure 0 0 := ⟨mokX0_writesToFailure, by decide +kernel, by decide +kernel, by decide +kernel, TX0, 6, rfl⟩
theorem mokX4_countWhileUp : MOK mdX4_countWhileUp 1 := ⟨by decide +kernel, by decide +kernel, by decide, by decide, by decide +kernel⟩
theorem mlX4_178 : MLV RX4 178 mdX4_countWhileUp 4 1 := ⟨mokX4_countWhileUp, by decide +kernel, by decide +kernel, by decide +kernel, TX4, 8, rfl⟩
theorem mokX5_sumOf : MOK mdX5_sumOf 3 := ⟨by decide +kernel, by decide +kernel, by decide, by decide, by decide +kernel⟩
theorem mlX5_46 : MLS RX5 46 mdX5_sumOf 3 := ⟨mokX5_sumOf, by decide +kernel, by decide +kernel⟩
theorem mokX5_blank : MOK mdX5_blank 0 := ⟨by decide +kernel, by decide +kernel, by decide, by decide, by decide +kernel⟩
theorem mlX5_63 : MLV RX5 63 mdX5_blank 5 0 := ⟨mokX5_blank, by decide +kernel, by decide +kernel, by decide +kernel, TX5, 28, rfl⟩
theorem mokX5_write : MOK mdX5_write 1 := ⟨by decide +kernel, by decide +kernel, by decide, by decide, by decide +kernel⟩
theorem mlX5_67 : MLV RX5 67 mdX5_write 5 1 := ⟨mokX5_write, by decide +kernel, by decide +kernel, by decide +kernel, TX5, 28, rfl⟩
theorem mokX5_not : MOK mdX5_not 0 := ⟨by decide +kernel, by decide +kernel, by decide, by decide, by decide +kernel⟩
theorem mlX5_77 : MLV RX5 77 mdX5_not 5 0 := ⟨mokX5_not, by decide +kernel, by decide +kernel, by decide +kernel, TX5, 28, rfl⟩
theorem mokX5_writeHead : MOK mdX5_writeHead 5 := ⟨by decide +kernel, by decide +kernel, by decide, by decide, by decide +kernel⟩
theorem mlX5_81 : MLV RX5 81 mdX5_writeHead 5 5 := ⟨mokX5_writeHead, by decide +kernel, by decide +kernel, by decide +kernel, TX5, 28, rfl⟩
theorem mokX5_at : MOK mdX5_at 1 := ⟨by decide +kernel, by decide +kernel, by decide, by decide, by decide +kernel⟩
theorem mlX5_100 : MLV RX5 100 mdX5_at 5 1 := ⟨mokX5_at, by decide +kernel, by decide +kernel, by decide +kernel, TX5, 28, rfl⟩
theorem mokX5_changeAt : MOK mdX5_changeAt 1 := ⟨by decide +kernel, by decide +kernel, by decide, by decide, by decide +kernel⟩
theorem mlX5_107 : MLV RX5 107 mdX5_changeAt 5 1 := ⟨mokX5_changeAt, by decide +kernel, by decide +kernel, by decide +kernel, TX5, 28, rfl⟩
theorem mokX5_isGood : MOK mdX5_isGood 1 := ⟨by decide +kernel, by decide +kernel, by decide, by decide, by decide +kernel⟩
theorem mlX5_110 : MLV RX5 110 mdX5_isGood 5 1 := ⟨mokX5_isGood, by decide +kernel, by decide +kernel, by decide +kernel, TX5, 28, rfl⟩
theorem mokX5_part : MOK mdX5_part 0 := ⟨by decide +kernel, by decide +kernel, by decide, by decide, by decide +kernel⟩
theorem mlX5_115 : MLV RX5 115 mdX5_part 5 0 := ⟨mokX5_part, by decide +kernel, by decide +kernel, by decide +kernel, TX5, 28, rfl⟩
theorem mokX5_isPart : MOK mdX5_isPart 3 := ⟨by decide +kernel, by decide +kernel, by decide, by decide, by decide +kernel⟩
theorem mlX5_120 : MLV RX5 120 mdX5_isPart 5 3 := ⟨mokX5_isPart, by decide +kernel, by decide +kernel, by decide +kernel, TX5, 28, rfl⟩
theorem mokX5_needed : MOK mdX5_needed 1 := ⟨by decide +kernel, by decide +kernel, by decide, by decide, by decide +kernel⟩
theorem mlX5_124 : MLV RX5 124 mdX5_needed 5 1 := ⟨mokX5_needed, by decide +kernel, by decide +kernel, by decide +kernel, TX5, 28, rfl⟩
theorem mokX5_intAt : MOK mdX5_intAt 2 := ⟨by decide +kernel, by decide +kernel, by decide, by decide, by decide +kernel⟩
theorem mlX5_128 : MLV RX5 128 mdX5_intAt 5 2 := ⟨mokX5_intAt, by decide +kernel, by decide +kernel, by decide +kernel, TX5, 28, rfl⟩
theorem mokX5_bind : MOK mdX5_bind 2 := ⟨by decide +kernel, by decide +kernel, by decide, by decide, by decide +kernel⟩
theorem mlX5_132 : MLV RX5 132 mdX5_bind 5 2 := ⟨mokX5_bind, by decide +kernel, by decide +kernel, by decide +kernel, TX5, 28, rfl⟩
theorem mokX5_unbind : MOK mdX5_unbind 1 := ⟨by decide +kernel, by decide +kernel, by decide, by decide, by decide +kernel⟩
theorem mlX5_136 : MLV RX5 136 mdX5_unbind 5 1 := ⟨mokX5_unbind, by decide +kernel, by decide +kernel, by decide +kernel, TX5, 28, rfl⟩
theorem mokX5_load : MOK mdX5_load 2 := ⟨by decide +kernel, by decide +kernel, by decide, by decide, by decide +kernel⟩
theorem mlX5_140 : MLV RX5 140 mdX5_load 5 2 := ⟨mokX5_load, by decide +kernel, by decide +kernel, by decide +kernel, TX5, 28, rfl⟩
theorem mokX5_redo : MOK mdX5_redo 2 := ⟨by decide +kernel, by decide +kernel, by decide, by decide, by decide +kernel⟩
theorem mlX5_143 : MLV RX5 143 mdX5_redo 5 2 := ⟨mokX5_redo, by decide +kernel, by decide +kernel, by decide +kernel, TX5, 28, rfl⟩
theorem mokX5_change : MOK mdX5_change 3 := ⟨by decide +kernel, by decide +kernel, by decide, by decide, by decide +kernel⟩
theorem mlX5_146 : MLV RX5 146 mdX5_change 5 3 := ⟨mokX5_change, by decide +kernel, by decide +kernel, by decide +kernel, TX5, 28, rfl⟩
theorem mokX5_isChanged : MOK mdX5_isChanged 1 := ⟨by decide +kernel, by decide +kernel, by decide, by decide, by decide +kernel⟩
theorem mlX5_153 : MLV RX5 153 mdX5_isChanged 5 1 := ⟨mokX5_isChanged, by decide +kernel, by decide +kernel, by decide +kernel, TX5, 28, rfl⟩
theorem mokX5_isSeen : MOK mdX5_isSeen 1 := ⟨by decide +kernel, by decide +kernel, by decide, by decide, by decide +kernel⟩
theorem mlX5_150 : MLV RX5 150 mdX5_isSeen 5 1 := ⟨mokX5_isSeen, by decide +kernel, by decide +kernel, by decide +kernel, TX5, 28, rfl⟩
theorem mokX5_fan : MOK mdX5_fan 0 := ⟨by decide +kernel, by decide +kernel, by decide, by decide, by decide +kernel⟩
theorem mlX5_156 : MLV RX5 156 mdX5_fan 5 0 := ⟨mokX5_fan, by decide +kernel, by decide +kernel, by decide +kernel, TX5, 28, rfl⟩
theorem mokX5_treeBlocks : MOK mdX5_treeBlocks 0 := ⟨by decide +kernel, by decide +kernel, by decide, by decide, by decide +kernel⟩
theorem mlX5_159 : MLV RX5 159 mdX5_treeBlocks 5 0 := ⟨mokX5_treeBlocks, by decide +kernel, by decide +kernel, by decide +kernel, TX5, 28, rfl⟩
theorem mokX5_area : MOK mdX5_area 0 := ⟨by decide +kernel, by decide +kernel, by decide, by decide, by decide +kernel⟩
theorem mlX5_162 : MLV RX5 162 mdX5_area 5 0 := ⟨mokX5_area, by decide +kernel, by decide +kernel, by decide +kernel, TX5, 28, rfl⟩
theorem mokX5_beginSeen : MOK mdX5_beginSeen 0 := ⟨by decide +kernel, by decide +kernel, by decide, by decide, by decide +kernel⟩
theorem mlX5_180 : MLV RX5 180 mdX5_beginSeen 5 0 := ⟨mokX5_beginSeen, by decide +kernel, by decide +kernel, by decide +kernel, TX5, 28, rfl⟩
theorem mokX5_next : MOK mdX5_next 0 := ⟨by decide +kernel, by decide +kernel, by decide, by decide, by decide +kernel⟩
theorem mlX5_183 : MLV RX5 183 mdX5_next 5 0 := ⟨mokX5_next, by decide +kernel, by decide +kernel, by decide +kernel, TX5, 28, rfl⟩
end
section
theorem bp_m7 : (Int8.ofInt (-7)).toInt32 = (-7) := by decide
theorem bp_m6 : (Int8.ofInt (-6)).toInt32 = (-6) := by decide
theorem bp_m5 : (Int8.ofInt (-5)).toInt32 = (-5) := by decide
theorem bp_m4 : (Int8.ofInt (-4)).toInt32 = (-4) := by decide
theorem bp_m3 : (Int8.ofInt (-3)).toInt32 = (-3) := by decide
theorem bp_m2 : (Int8.ofInt (-2)).toInt32 = (-2) := by decide
theorem bp_7 : (Int8.ofInt 7).toInt32 = 7 := by decide
theorem bp_8 : (Int8.ofInt 8).toInt32 = 8 := by decide
theorem bp_16 : (Int8.ofInt 16).toInt32 = 16 := by decide
theorem bp_31 : (Int8.ofInt 31).toInt32 = 31 := by decide
theorem bp_32 : (Int8.ofInt 32).toInt32 = 32 := by decide
theorem bp_64 : (Int8.ofInt 64).toInt32 = 64 := by decide
theorem ic_m1 : Int32.ofInt (-1) = (-1) := by decide
theorem ic_0 : Int32.ofInt 0 = 0 := by decide
theorem ic_1 : Int32.ofInt 1 = 1 := by decide
theorem ic_2 : Int32.ofInt 2 = 2 := by decide
theorem ic_3 : Int32.ofInt 3 = 3 := by decide
theorem ic_4 : Int32.ofInt 4 = 4 := by decide
theorem ic_5 : Int32.ofInt 5 = 5 := by decide
theorem lc_0 : Int64.ofNat ((0 : Fin 2) : Nat) = 0 := by decide
theorem lc_1 : Int64.ofNat ((1 : Fin 2) : Nat) = 1 := by decide
theorem sp_128 : (Int16.ofInt 128).toInt32 = 128 := by decide
theorem sp_512 : (Int16.ofInt 512).toInt32 = 512 := by decide
theorem sp_600 : (Int16.ofInt 600).toInt32 = 600 := by decide
theorem sp_1000 : (Int16.ofInt 1000).toInt32 = 1000 := by decide
theorem sp_1801 : (Int16.ofInt 1801).toInt32 = 1801 := by decide
theorem sp_8700 : (Int16.ofInt 8700).toInt32 = 8700 := by decide
theorem sp_12000 : (Int16.ofInt 12000).toInt32 = 12000 := by decide
end
section
theorem md_of {M : MD} {av : List Value} {σ : aW} {r : Option Value} {σ1 : aW} (L0 : List (Option Value)) (hL : ent av ++ List.replicate (M.2.2.1 - (ent av).length) none = L0) (hn : (ent av).length ≤ M.2.2.1) (hy : plainName M.1.cls = true) (h : ∀ X Post, Gd X M → Post r σ1 → Wp X Post 0 L0 [] σ) : MD1 M av σ r σ1 := mt_of L0 hL hn hy (fun X hX => h X _ hX ⟨rfl, rfl⟩)
theorem mp_of {M : MD} {av : List Value} {σ : aW} {P : aPost} (L0 : List (Option Value)) (hL : ent av ++ List.replicate (M.2.2.1 - (ent av).length) none = L0) (hn : (ent av).length ≤ M.2.2.1) (hy : plainName M.1.cls = true) (h : ∀ X Post, Gd X M → (∀ r σ1, P r σ1 → Post r σ1) → Wp X Post 0 L0 [] σ) : MT M av σ P := mt_of L0 hL hn hy (fun X hX => h X _ hX (fun _ _ h => h))
theorem wp_eqL {X : CX} {Post : aPost} {pc : Nat} {L L1 : List (Option Value)} {S : List Value} {σ : aW} (h : L = L1) (k : Wp X Post pc L1 S σ) : Wp X Post pc L S σ := h ▸ k
theorem wp_eqW {X : CX} {Post : aPost} {pc : Nat} {L : List (Option Value)} {S : List Value} {σ σ1 : aW} (h : σ = σ1) (k : Wp X Post pc L S σ1) : Wp X Post pc L S σ := h ▸ k
theorem wp_eqS {X : CX} {Post : aPost} {pc : Nat} {L : List (Option Value)} {S S1 : List Value} {σ : aW} (h : S = S1) (k : Wp X Post pc L S1 σ) : Wp X Post pc L S σ := h ▸ k
/-! int and boolean answers -/
def b2i (b : Bool) : Int32 := if b then 1 else 0
theorem ilt {a b : Int32} : a < b ↔ a.toInt < b.toInt := Int32.lt_iff_toInt_lt
theorem ile {a b : Int32} : a ≤ b ↔ a.toInt ≤ b.toInt := Int32.le_iff_toInt_le
theorem ieq {a b : Int32} : a = b ↔ a.toInt = b.toInt := Int32.toInt_inj.symm
theorem nT {n : Nat} (h : n < 2 ^ 31) : (nI n).toInt = (n : Int) := nI_toInt h
/-- a place of an array, 0 without -/
def at0 (f : Nat → Int32) (u : Nat) (x : Int32) : Int32 := if x < 0 ∨ u ≤ x.toNatClampNeg then 0 else f x.toNatClampNeg
theorem at0_in {f : Nat → Int32} {u : Nat} {x : Int32} (h : vp_in x u) : at0 f u x = f x.toNatClampNeg := if_neg h
theorem at0_out {f : Nat → Int32} {u : Nat} {x : Int32} (h : ¬ vp_in x u) : at0 f u x = 0 := if_pos (Classical.not_not.mp h)
theorem at0_nI {f : Nat → Int32} {u p : Nat} (hp : p < 2 ^ 31) : at0 f u (nI p) = if p < u then f p else 0 := by
  unfold at0
  rw [nI_clamp hp]
  by_cases h : p < u
  · rw [if_pos h, if_neg (by intro z; rcases z with z | z; exact nI_pos hp z; omega)]
  · rw [if_neg h, if_pos (Or.inr (by omega))]
end
section
/-! maps as ascending lists of pairs -/
abbrev PM : Type := List (Int32 × Int32)
def Srt {α : Type} (m : List (Int32 × α)) : Prop := m.Pairwise (fun a b => a.1 < b.1)
def rk {α : Type} : List (Int32 × α) → Int32 → Nat
  | [], _ => 0
  | a :: m, k => if a.1 < k then rk m k + 1 else 0
def lk {α : Type} : List (Int32 × α) → Int32 → Option α
  | [], _ => none
  | a :: m, k => if a.1 = k then some a.2 else lk m k
def ins {α : Type} : List (Int32 × α) → Int32 → α → List (Int32 × α)
  | [], k, v => [(k, v)]
  | a :: m, k, v => if a.1 < k then a :: ins m k v else if a.1 = k then (k, v) :: m else (k, v) :: a :: m
def del {α : Type} : List (Int32 × α) → Int32 → List (Int32 × α)
  | [], _ => []
  | a :: m, k => if a.1 = k then m else a :: del m k
section Gen
variable {α : Type}
theorem i_irr {a : Int32} (h : a < a) : False := by rw [ilt] at h; omega
theorem i_tr {a b c : Int32} (h : a < b) (g : b < c) : a < c := by rw [ilt] at *; omega
theorem i_ne {a b : Int32} (h : a < b) : ¬ a = b := fun e => by subst e; exact i_irr h
theorem i_ne' {a b : Int32} (h : a < b) : ¬ b = a := fun e => by subst e; exact i_irr h
theorem i_asym {a b : Int32} (h : a < b) : ¬ b < a := fun g => i_irr (i_tr h g)
theorem i_tri {a b : Int32} (h : ¬ a < b) (g : ¬ a = b) : b < a := by rw [ilt, ieq] at *; omega
theorem rk_le : ∀ (m : List (Int32 × α)) (k : Int32), rk m k ≤ m.length
  | [], _ => Nat.le_refl _
  | a :: m, k => by
    have := rk_le m k
    unfold rk
    split <;> simp <;> omega
/-- places below the rank hold smaller keys; the place of the rank doesn't -/
theorem rk_lt : ∀ (m : List (Int32 × α)) (k : Int32) (i : Nat), i < rk m k → ∀ a, m[i]? = some a → a.1 < k
  | [], _, i, h, a, e => by simp at e
  | b :: m, k, i, h, a, e => by
    unfold rk at h
    split at h
    next hb =>
      match i, e with
      | 0, e => cases e; exact hb
      | i + 1, e => exact rk_lt m k i (by omega) a e
    next => omega
theorem rk_at : ∀ (m : List (Int32 × α)) (k : Int32) (a : Int32 × α), m[rk m k]? = some a → ¬ a.1 < k
  | [], _, a, e => by simp at e
  | b :: m, k, a, e => by
    unfold rk at e
    split at e
    next hb => exact rk_at m k a e
    next hb => cases e; exact hb
theorem srt_get {m : List (Int32 × α)} (h : Srt m) {i j : Nat} {a b : Int32 × α} (hij : i < j) (ha : m[i]? = some a) (hb : m[j]? = some b) : a.1 < b.1 := by
  obtain ⟨h1, rfl⟩ := List.getElem?_eq_some_iff.mp ha
  obtain ⟨h2, rfl⟩ := List.getElem?_eq_some_iff.mp hb
  exact List.pairwise_iff_getElem.mp h i j h1 h2 hij
theorem rk_ge {m : List (Int32 × α)} (h : Srt m) {k : Int32} {i : Nat} {a : Int32 × α} (hi : rk m k ≤ i) (ha : m[i]? = some a) : ¬ a.1 < k := by
  have hlt : i < m.length := (List.getElem?_eq_some_iff.mp ha).1
  have hr : rk m k < m.length := by omega
  have e := List.getElem?_eq_getElem hr
  have h0 := rk_at m k _ e
  rcases Nat.lt_or_ge (rk m k) i with q | q
  · exact fun z => h0 (i_tr (srt_get h q e ha) z)
  · have : i = rk m k := by omega
    subst this
    rw [e] at ha
    cases ha
    exact h0
theorem rk_char {m : List (Int32 × α)} {k : Int32} {p : Nat} (hp : p ≤ m.length) (h1 : ∀ i a, i < p → m[i]? = some a → a.1 < k) (h2 : ∀ a, m[p]? = some a → ¬ a.1 < k) : rk m k = p := by
  have hle := rk_le m k
  rcases Nat.lt_trichotomy (rk m k) p with q | q | q
  · have hr : rk m k < m.length := by omega
    have e := List.getElem?_eq_getElem hr
    exact absurd (h1 _ _ q e) (rk_at m k _ e)
  · exact q
  · have hr : p < m.length := by omega
    have e := List.getElem?_eq_getElem hr
    exact absurd (rk_lt m k p q _ e) (h2 _ e)
theorem lk_rk : ∀ {m : List (Int32 × α)} (_ : Srt m) (k : Int32), lk m k = match m[rk m k]? with
    | some a => if a.1 = k then some a.2 else none
    | none => none
  | [], _, k => rfl
  | b :: m, h, k => by
    obtain ⟨h1, h2⟩ := List.pairwise_cons.mp h
    unfold lk rk
    by_cases hb : b.1 < k
    · rw [if_neg (i_ne hb), if_pos hb]
      exact lk_rk h2 k
    · rw [if_neg hb]
      by_cases he : b.1 = k
      · simp [he]
      · simp only [List.getElem?_cons_zero, if_neg he]
        have hk := i_tri hb he
        rw [lk_rk h2 k]
        have : rk m k = 0 := rk_char (Nat.zero_le _) (fun i a hi => by omega) (fun a ha => fun z => i_irr (i_tr (i_tr hk (h1 a (List.mem_of_getElem? ha))) z))
        rw [this]
        cases hm : m[0]? with
        | none => rfl
        | some a =>
          have := h1 a (List.mem_of_getElem? hm)
          simp only
          rw [if_neg (i_ne' (i_tr hk this))]
theorem lk_some {m : List (Int32 × α)} (h : Srt m) {k : Int32} {v : α} : lk m k = some v ↔ m[rk m k]? = some (k, v) := by
  rw [lk_rk h]
  cases hm : m[rk m k]? with
  | none => simp
  | some a =>
    obtain ⟨x, y⟩ := a
    simp only
    by_cases e : x = k
    · subst e; simp
    · simp [e]
theorem lk_mem {m : List (Int32 × α)} (h : Srt m) {k : Int32} {v : α} {i : Nat} (hi : m[i]? = some (k, v)) : lk m k = some v ∧ rk m k = i := by
  have hl : i < m.length := (List.getElem?_eq_some_iff.mp hi).1
  have e : rk m k = i := rk_char (Nat.le_of_lt hl) (fun j a hj ha => srt_get h hj ha hi) (fun a ha => by rw [hi] at ha; cases ha; exact fun z => i_irr z)
  exact ⟨(lk_some h).mpr (by rw [e]; exact hi), e⟩
theorem ins_get : ∀ (m : List (Int32 × α)) (k : Int32) (v : α) (i : Nat), (ins m k v)[i]? = if (m[rk m k]?.map Prod.fst) = some k then (if i = rk m k then some (k, v) else m[i]?) else (if i < rk m k then m[i]? else if i = rk m k then some (k, v) else m[i - 1]?)
  | [], k, v, i => by
    unfold ins rk
    simp only [List.getElem?_nil, Option.map_none]
    rw [if_neg (by simp)]
    cases i with
    | zero => rfl
    | succ i => simp
  | b :: m, k, v, i => by
    have ih := ins_get m k v
    unfold ins rk
    by_cases hb : b.1 < k
    · rw [if_pos hb, if_pos hb]
      simp only [List.getElem?_cons_succ]
      cases i with
      | zero =>
        simp only [List.getElem?_cons_zero]
        by_cases hc : (m[rk m k]?.map Prod.fst) = some k
        · rw [if_pos hc, if_neg (by omega)]
        · rw [if_neg hc, if_pos (by omega)]
      | succ i =>
        simp only [List.getElem?_cons_succ]
        rw [ih i]
        by_cases hc : (m[rk m k]?.map Prod.fst) = some k
        · rw [if_pos hc, if_pos hc]
          by_cases e : i = rk m k
          · rw [if_pos e, if_pos (by omega)]
          · rw [if_neg e, if_neg (by omega)]
        · rw [if_neg hc, if_neg hc]
          by_cases e : i < rk m k
          · rw [if_pos e, if_pos (show i + 1 < rk m k + 1 by omega)]
          · rw [if_neg e, if_neg (show ¬ i + 1 < rk m k + 1 by omega)]
            by_cases e2 : i = rk m k
            · rw [if_pos e2, if_pos (show i + 1 = rk m k + 1 by omega)]
            · rw [if_neg e2, if_neg (show ¬ i + 1 = rk m k + 1 by omega)]
              have : i + 1 - 1 = (i - 1) + 1 := by omega
              rw [this, List.getElem?_cons_succ]
    · rw [if_neg hb, if_neg hb]
      simp only [List.getElem?_cons_zero, Option.map_some]
      by_cases he : b.1 = k
      · rw [if_pos he, if_pos (by rw [he])]
        cases i with
        | zero => rfl
        | succ i => simp
      · rw [if_neg he, if_neg (by simpa using he)]
        cases i with
        | zero => rfl
        | succ i => simp
theorem ins_mem {m : List (Int32 × α)} {k : Int32} {v : α} {a : Int32 × α} (h : a ∈ ins m k v) : a = (k, v) ∨ a ∈ m := by
  induction m with
  | nil => simp [ins] at h; exact Or.inl h
  | cons b m ih =>
    unfold ins at h
    split at h
    · rcases List.mem_cons.mp h with h | h
      · exact Or.inr (h ▸ List.mem_cons_self)
      · rcases ih h with h | h
        · exact Or.inl h
        · exact Or.inr (List.mem_cons_of_mem _ h)
    · split at h
      · rcases List.mem_cons.mp h with h | h
        · exact Or.inl h
        · exact Or.inr (List.mem_cons_of_mem _ h)
      · rcases List.mem_cons.mp h with h | h
        · exact Or.inl h
        · exact Or.inr h
theorem ins_srt : ∀ {m : List (Int32 × α)} (_ : Srt m) (k : Int32) (v : α), Srt (ins m k v)
  | [], _, k, v => by unfold ins Srt; exact List.pairwise_singleton _ _
  | b :: m, h, k, v => by
    obtain ⟨h1, h2⟩ := List.pairwise_cons.mp h
    unfold ins
    split
    next hb =>
      refine List.pairwise_cons.mpr ⟨fun a ha => ?_, ins_srt h2 k v⟩
      rcases ins_mem ha with rfl | ha
      · exact hb
      · exact h1 a ha
    next hb =>
      split
      next he => exact List.pairwise_cons.mpr ⟨fun a ha => by rw [← he]; exact h1 a ha, h2⟩
      next he =>
        have hk := i_tri hb he
        refine List.pairwise_cons.mpr ⟨fun a ha => ?_, h⟩
        rcases List.mem_cons.mp ha with rfl | ha
        · exact hk
        · exact i_tr hk (h1 a ha)
theorem lk_none_of_lt {m : List (Int32 × α)} {k : Int32} (h : ∀ a ∈ m, k < a.1) : lk m k = none := by
  induction m with
  | nil => rfl
  | cons b m ih =>
    unfold lk
    rw [if_neg (i_ne' (h b List.mem_cons_self))]
    exact ih (fun a ha => h a (List.mem_cons_of_mem _ ha))
theorem lk_ins (m : List (Int32 × α)) (k : Int32) (v : α) (k' : Int32) (hs : Srt m) : lk (ins m k v) k' = if k = k' then some v else lk m k' := by
  induction m with
  | nil => simp [ins, lk]
  | cons b m ih =>
    obtain ⟨h1, h2⟩ := List.pairwise_cons.mp hs
    unfold ins
    split
    next hb =>
      unfold lk
      rw [ih h2]
      by_cases e : b.1 = k'
      · rw [if_pos e, if_pos e, if_neg (fun z => by subst z; exact i_ne hb e)]
      · rw [if_neg e, if_neg e]
    next hb =>
      split
      next he =>
        unfold lk
        by_cases e : k = k'
        · rw [if_pos e, if_pos e]
        · rw [if_neg e, if_neg e, if_neg (by rw [he]; exact e)]
      next he =>
        show (if k = k' then some v else lk (b :: m) k') = _
        rfl
theorem ins_len (m : List (Int32 × α)) (k : Int32) (v : α) (hs : Srt m) : (ins m k v).length = if (lk m k).isSome then m.length else m.length + 1 := by
  induction m with
  | nil => simp [ins, lk]
  | cons b m ih =>
    obtain ⟨h1, h2⟩ := List.pairwise_cons.mp hs
    unfold ins lk
    split
    next hb =>
      rw [if_neg (i_ne hb), List.length_cons, ih h2]
      split <;> simp
    next hb =>
      split
      next he => simp
      next he =>
        rw [lk_none_of_lt (fun a ha => i_tr (i_tri hb he) (h1 a ha))]
        simp
theorem del_mem {m : List (Int32 × α)} {k : Int32} {a : Int32 × α} (h : a ∈ del m k) : a ∈ m := by
  induction m with
  | nil => exact h
  | cons b m ih =>
    unfold del at h
    split at h
    · exact List.mem_cons_of_mem _ h
    · rcases List.mem_cons.mp h with h | h
      · exact h ▸ List.mem_cons_self
      · exact List.mem_cons_of_mem _ (ih h)
theorem del_srt : ∀ {m : List (Int32 × α)} (_ : Srt m) (k : Int32), Srt (del m k)
  | [], _, k => List.Pairwise.nil
  | b :: m, h, k => by
    obtain ⟨h1, h2⟩ := List.pairwise_cons.mp h
    unfold del
    split
    · exact h2
    · exact List.pairwise_cons.mpr ⟨fun a ha => h1 a (del_mem ha), del_srt h2 k⟩
theorem lk_del (m : List (Int32 × α)) (k k' : Int32) (hs : Srt m) : lk (del m k) k' = if k = k' then none else lk m k' := by
  induction m with
  | nil => simp [del, lk]
  | cons b m ih =>
    obtain ⟨h1, h2⟩ := List.pairwise_cons.mp hs
    unfold del
    split
    next he =>
      by_cases e : k = k'
      · rw [if_pos e]
        exact lk_none_of_lt (fun a ha => by rw [← e, ← he]; exact h1 a ha)
      · rw [if_neg e]
        show lk m k' = if b.1 = k' then some b.2 else lk m k'
        rw [if_neg (by rw [he]; exact e)]
    next he =>
      show (if b.1 = k' then some b.2 else lk (del m k) k') = _
      rw [ih h2]
      show _ = if k = k' then none else if b.1 = k' then some b.2 else lk m k'
      by_cases e : b.1 = k'
      · rw [if_pos e, if_pos e, if_neg (fun z => by subst z; exact he e)]
      · rw [if_neg e, if_neg e]
theorem del_get {m : List (Int32 × α)} (hs : Srt m) {k : Int32} {v : α} (h : lk m k = some v) (i : Nat) : (del m k)[i]? = if i < rk m k then m[i]? else m[i + 1]? := by
  induction m generalizing i with
  | nil => cases h
  | cons b m ih =>
    obtain ⟨h1, h2⟩ := List.pairwise_cons.mp hs
    unfold del rk
    by_cases he : b.1 = k
    · have hn : ¬ b.1 < k := by rw [he]; exact fun z => i_irr z
      rw [if_pos he, if_neg hn]
      simp
    · unfold lk at h
      rw [if_neg he] at h
      have hb : b.1 < k := by
        have := List.mem_of_getElem? ((lk_some h2).mp h)
        exact h1 _ this
      rw [if_neg he, if_pos hb]
      cases i with
      | zero => rw [if_pos (by omega)]; rfl
      | succ i =>
        simp only [List.getElem?_cons_succ]
        rw [ih h2 h i]
        by_cases e : i < rk m k
        · rw [if_pos e, if_pos (by omega)]
        · rw [if_neg e, if_neg (by omega)]
theorem del_len {m : List (Int32 × α)} {k : Int32} {v : α} (h : lk m k = some v) : (del m k).length + 1 = m.length := by
  induction m with
  | nil => cases h
  | cons b m ih =>
    unfold del
    unfold lk at h
    split
    next he => simp
    next he =>
      rw [if_neg he] at h
      simp [ih h]
theorem del_none {m : List (Int32 × α)} {k : Int32} (h : lk m k = none) : del m k = m := by
  induction m with
  | nil => rfl
  | cons b m ih =>
    unfold del
    unfold lk at h
    by_cases he : b.1 = k
    · rw [if_pos he] at h; cases h
    · rw [if_neg he] at h ⊢
      rw [ih h]
/-- an ascending list is what it answers -/
theorem pm_ext : ∀ {m m' : List (Int32 × α)}, Srt m → Srt m' → (∀ k, lk m k = lk m' k) → m = m'
  | [], [], _, _, _ => rfl
  | [], b :: m', _, _, h => by have := h b.1; simp [lk] at this
  | a :: m, [], _, _, h => by have := h a.1; simp [lk] at this
  | a :: m, b :: m', ha, hb, h => by
    obtain ⟨a1, a2⟩ := List.pairwise_cons.mp ha
    obtain ⟨b1, b2⟩ := List.pairwise_cons.mp hb
    have key : a.1 = b.1 := by
      by_cases q : a.1 < b.1
      · have := h a.1
        rw [show lk (b :: m') a.1 = none from lk_none_of_lt (fun c hc => by
          rcases List.mem_cons.mp hc with rfl | hc
          · exact q
          · exact i_tr q (b1 c hc))] at this
        simp [lk] at this
      · by_cases q2 : a.1 = b.1
        · exact q2
        · have q3 := i_tri q q2
          have := h b.1
          rw [show lk (a :: m) b.1 = none from lk_none_of_lt (fun c hc => by
            rcases List.mem_cons.mp hc with rfl | hc
            · exact q3
            · exact i_tr q3 (a1 c hc))] at this
          simp [lk] at this
    have e2 : a.2 = b.2 := by
      have := h a.1
      simp [lk, key] at this
      exact this
    have e : a = b := Prod.ext key e2
    subst e
    refine congrArg (a :: ·) (pm_ext a2 b2 (fun k => ?_))
    by_cases q : a.1 = k
    · rw [← q, lk_none_of_lt a1, lk_none_of_lt b1]
    · have := h k
      simp [lk, q] at this
      exact this
end Gen
/-! a map in two arrays -/
def KA (m : PM) (u : Nat) (kf vf : Nat → Int32) : Prop := m.length = u ∧ ∀ i, i < u → m[i]? = some (kf i, vf i)
theorem KA.nil {kf vf : Nat → Int32} : KA [] 0 kf vf := ⟨rfl, fun i h => by omega⟩
theorem KA.get {m : PM} {u : Nat} {kf vf : Nat → Int32} (h : KA m u kf vf) {i : Nat} {a : Int32 × Int32} (ha : m[i]? = some a) : i < u ∧ a = (kf i, vf i) := by
  have hl : i < m.length := (List.getElem?_eq_some_iff.mp ha).1
  have hu : i < u := by rw [← h.1]; exact hl
  have := h.2 i hu
  rw [ha] at this
  exact ⟨hu, Option.some.inj this⟩
end
section
/-! KeyMap: object k with arrays a (keys), b (values) of cap places, u in use -/
abbrev ekm (a b : Nat) (u : Nat) : aE := .inr (2, [.ref a, .ref b, .int (nI u)])
abbrev ear (n : Nat) (f : Nat → Int32) : aE := .inl (false, n, f)
section KM
variable {σ : aW} {k a b cap u : Nat} {kf vf : Nat → Int32} {m : PM} {key : Int32}
set_option maxHeartbeats 4000000 in
set_option maxRecDepth 100000 in
theorem k_placeOf (hk : σ[k]? = some (ekm a b u)) (ha : σ[a]? = some (ear cap kf)) (hu : u ≤ cap) (hc : cap < 2 ^ 29) (hm : KA m u kf vf) (hs : Srt m) : MD1 mdX2_placeOf [.ref k, .int key] σ (some (.int (nI (rk m key)))) σ := by
  refine md_of [some (.ref k), some (.int key), none, none, none, none] rfl (Nat.le_of_ble_eq_true rfl) (by decide) (fun X Post hX hp => ?_)
  have hcu : (2 : Nat) ^ 29 = 536870912 := by decide
  have mono : ∀ i j, i < j → j < u → kf i < kf j := fun i j hij hj => srt_get hs hij (hm.2 i (by omega)) (hm.2 j hj)
  have loop : ∀ (n step lo hi : Nat) (mid : Option Value), noL [some (.ref k), some (.int key), some (.int (nI lo)), some (.int (nI hi)), some (.int (nI step)), mid] 5 = true → step + n = 30 → lo ≤ hi → hi ≤ u → hi - lo < 2 ^ n → (∀ i, i < lo → kf i < key) → (∀ i, hi ≤ i → i < u → ¬ kf i < key) → Wp X Post 10 [some (.ref k), some (.int key), some (.int (nI lo)), some (.int (nI hi)), some (.int (nI step)), mid] [] σ := by
    intro n
    induction n with
    | zero =>
      intro step lo hi mid _ h1 h2 h3 h4 h5 h6
      have e : lo = hi := by simp at h4; omega
      subst e
      refine wp_iload hX dX2_placeOf_10 rfl ?_
      refine wp_bipush (v := 32) hX dX2_placeOf_12 bp_32 ?_
      refine wp_icmp_ge (tgt := 57) hX dX2_placeOf_14 (by decide) (fun c => absurd c (nI_ge (a := step) (b := 32) (by omega) (by decide))) (fun _ => ?_)
      refine wp_iload_n hX dX2_placeOf_17 rfl ?_
      refine wp_iload_n hX dX2_placeOf_18 rfl ?_
      refine wp_icmp_ge (tgt := 57) hX dX2_placeOf_19 (by decide) (fun _ => ?_) (fun c => absurd (nI_le (Nat.le_refl lo) (by omega)) c)
      refine wp_iload_n hX dX2_placeOf_57 rfl ?_
      refine wp_iret hX dX2_placeOf_58 rfl rfl ?_
      have e : rk m key = lo := rk_char (by rw [hm.1]; exact h3) (fun i x hi hx => by obtain ⟨_, rfl⟩ := hm.get hx; exact h5 i hi) (fun x hx => by obtain ⟨q, rfl⟩ := hm.get hx; exact h6 _ (Nat.le_refl _) q)
      rw [← e]
      exact hp
    | succ n ih =>
      intro step lo hi mid _ h1 h2 h3 h4 h5 h6
      refine wp_iload hX dX2_placeOf_10 rfl ?_
      refine wp_bipush (v := 32) hX dX2_placeOf_12 bp_32 ?_
      refine wp_icmp_ge (tgt := 57) hX dX2_placeOf_14 (by decide) (fun c => absurd c (nI_ge (a := step) (b := 32) (by omega) (by decide))) (fun _ => ?_)
      refine wp_iload_n hX dX2_placeOf_17 rfl ?_
      refine wp_iload_n hX dX2_placeOf_18 rfl ?_
      refine wp_icmp_ge (tgt := 57) hX dX2_placeOf_19 (by decide) (fun c => ?_) (fun c => ?_)
      · have e : lo = hi := by
          have := (nI_leI (a := hi) (b := lo) (by omega) (by omega)).mp c
          omega
        subst e
        refine wp_iload_n hX dX2_placeOf_57 rfl ?_
        refine wp_iret hX dX2_placeOf_58 rfl rfl ?_
        have e : rk m key = lo := rk_char (by rw [hm.1]; exact h3) (fun i x hi hx => by obtain ⟨_, rfl⟩ := hm.get hx; exact h5 i hi) (fun x hx => by obtain ⟨q, rfl⟩ := hm.get hx; exact h6 _ (Nat.le_refl _) q)
        rw [← e]
        exact hp
      · have hlt : lo < hi := by
          rcases Nat.lt_or_ge lo hi with q | q
          · exact q
          · exact absurd (nI_le q (by omega)) c
        obtain ⟨md, hmd⟩ : ∃ md, md = (lo + hi) / 2 := ⟨_, rfl⟩
        have hp2 : 2 ^ (n + 1) = 2 * 2 ^ n := by rw [Nat.pow_succ]; omega
        refine wp_iload_n hX dX2_placeOf_22 rfl ?_
        refine wp_iload_n hX dX2_placeOf_23 rfl ?_
        refine wp_iadd hX dX2_placeOf_24 ?_
        refine wp_iconst (v := 2) hX dX2_placeOf_25 ic_2 ?_
        refine wp_idiv hX dX2_placeOf_26 (by decide) ?_
        refine wp_ti (y := (nI md)) (by rw [nI_add, hmd]; exact pk_div (a := lo + hi) (d := 2) (by omega) (by decide) (by decide)) ?_
        refine wp_istore hX dX2_placeOf_27 (Nat.le_of_ble_eq_true rfl) rfl ?_
        refine wp_aload_n hX dX2_placeOf_29 rfl ?_
        refine wp_get hX dX2_placeOf_30 flX2_19 hk rfl ?_
        refine wp_iload hX dX2_placeOf_33 rfl ?_
        refine wp_iald hX dX2_placeOf_35 (ha) (vp_in_nI (by omega) (by omega)) ?_
        refine wp_ti (y := (kf md)) (by rw [nI_clamp (by omega)]) ?_
        refine wp_iload_n hX dX2_placeOf_36 rfl ?_
        refine wp_icmp_ge (tgt := 48) hX dX2_placeOf_37 (by decide) (fun d => ?_) (fun d => ?_)
        · refine wp_iload hX dX2_placeOf_48 rfl ?_
          refine wp_istore_n hX dX2_placeOf_50 (Nat.le_of_ble_eq_true rfl) rfl ?_
          refine wp_iinc hX dX2_placeOf_51 ic_1 rfl (Nat.le_of_ble_eq_true rfl) rfl ?_
          refine wp_goto (tgt := 10) hX dX2_placeOf_54 (by decide) ?_
          rw [nI_1]
          refine ih (step + 1) lo md (some (.int (nI md))) rfl (by omega) (by omega) (by omega) (by omega) h5 (fun i q1 q2 => ?_)
          rcases Nat.lt_or_ge md i with q | q
          · have := mono md i q q2
            exact fun z => by rw [ilt] at *; rw [ile] at d; omega
          · have : i = md := by omega
            subst this
            exact fun z => by rw [ilt] at z; rw [ile] at d; omega
        · refine wp_iload hX dX2_placeOf_40 rfl ?_
          refine wp_iconst (v := 1) hX dX2_placeOf_42 ic_1 ?_
          refine wp_iadd hX dX2_placeOf_43 ?_
          refine wp_ti (y := (nI (md + 1))) (nI_1 md) ?_
          refine wp_istore_n hX dX2_placeOf_44 (Nat.le_of_ble_eq_true rfl) rfl ?_
          refine wp_goto (tgt := 51) hX dX2_placeOf_45 (by decide) ?_
          refine wp_iinc hX dX2_placeOf_51 ic_1 rfl (Nat.le_of_ble_eq_true rfl) rfl ?_
          refine wp_goto (tgt := 10) hX dX2_placeOf_54 (by decide) ?_
          rw [nI_1]
          refine ih (step + 1) (md + 1) hi (some (.int (nI md))) rfl (by omega) (by omega) (by omega) (by omega) (fun i q1 => ?_) h6
          have hd : kf md < key := by rw [ilt]; rw [ile] at d; omega
          rcases Nat.lt_or_ge i md with q | q
          · exact i_tr (mono i md q (by omega)) hd
          · have : i = md := by omega
            subst this
            exact hd
  refine wp_iconst (v := 0) hX dX2_placeOf_0 ic_0 ?_
  refine wp_istore_n hX dX2_placeOf_1 (Nat.le_of_ble_eq_true rfl) rfl ?_
  refine wp_aload_n hX dX2_placeOf_2 rfl ?_
  refine wp_get hX dX2_placeOf_3 flX2_7 hk rfl ?_
  refine wp_istore_n hX dX2_placeOf_6 (Nat.le_of_ble_eq_true rfl) rfl ?_
  refine wp_iconst (v := 0) hX dX2_placeOf_7 ic_0 ?_
  refine wp_istore hX dX2_placeOf_8 (Nat.le_of_ble_eq_true rfl) rfl ?_
  have h0 : (0 : Int32) = nI 0 := rfl
  rw [h0]
  exact loop 30 0 0 u none rfl (by omega) (by omega) (by omega) (by omega) (fun i q => by omega) (fun i q1 q2 => by omega)
set_option maxHeartbeats 4000000 in
set_option maxRecDepth 100000 in
theorem k_isAt {p : Nat} (hk : σ[k]? = some (ekm a b u)) (ha : σ[a]? = some (ear cap kf)) (hu : u ≤ cap) (hc : cap < 2 ^ 29) (hp : p < 2 ^ 31) : MD1 mdX2_isAt [.ref k, .int (nI p), .int key] σ (some (.int (b2i (decide (p < u ∧ kf p = key))))) σ := by
  refine md_of [some (.ref k), some (.int (nI p)), some (.int key)] rfl (Nat.le_of_ble_eq_true rfl) (by decide) (fun X Post hX hp0 => ?_)
  have hcu : (2 : Nat) ^ 29 = 536870912 := by decide
  refine wp_iload_n hX dX2_isAt_0 rfl ?_
  refine wp_if_lt (tgt := 26) hX dX2_isAt_1 (by decide) (fun c => absurd c (nI_pos hp)) (fun _ => ?_)
  refine wp_iload_n hX dX2_isAt_4 rfl ?_
  refine wp_aload_n hX dX2_isAt_5 rfl ?_
  refine wp_get hX dX2_isAt_6 flX2_7 hk rfl ?_
  refine wp_icmp_ge (tgt := 26) hX dX2_isAt_9 (by decide) (fun c => ?_) (fun c => ?_)
  · have q := (nI_leI (a := u) (b := p) (by omega) hp).mp c
    refine wp_iconst (v := 0) hX dX2_isAt_26 ic_0 ?_
    refine wp_iret hX dX2_isAt_27 rfl rfl ?_
    rw [decide_eq_false (fun z => by omega)] at hp0
    exact hp0
  · have q : p < u := by
      rcases Nat.lt_or_ge p u with q | q
      · exact q
      · exact absurd (nI_le q hp) c
    refine wp_aload_n hX dX2_isAt_12 rfl ?_
    refine wp_get hX dX2_isAt_13 flX2_19 hk rfl ?_
    refine wp_iload_n hX dX2_isAt_16 rfl ?_
    refine wp_iald hX dX2_isAt_17 (ha) (vp_in_nI (by omega) (by omega)) ?_
    refine wp_ti (y := (kf p)) (by rw [nI_clamp hp]) ?_
    refine wp_iload_n hX dX2_isAt_18 rfl ?_
    refine wp_icmp_ne (tgt := 26) hX dX2_isAt_19 (by decide) (fun d => ?_) (fun d => ?_)
    · refine wp_iconst (v := 0) hX dX2_isAt_26 ic_0 ?_
      refine wp_iret hX dX2_isAt_27 rfl rfl ?_
      rw [decide_eq_false (fun z => d z.2)] at hp0
      exact hp0
    · refine wp_iconst (v := 1) hX dX2_isAt_22 ic_1 ?_
      refine wp_goto (tgt := 27) hX dX2_isAt_23 (by decide) ?_
      refine wp_iret hX dX2_isAt_27 rfl rfl ?_
      rw [decide_eq_true ⟨q, d⟩] at hp0
      exact hp0
theorem ka_has (hm : KA m u kf vf) (hs : Srt m) : decide (rk m key < u ∧ kf (rk m key) = key) = (lk m key).isSome := by
  rw [lk_rk hs]
  cases he : m[rk m key]? with
  | none =>
    have : ¬ rk m key < u := fun q => by rw [hm.2 _ q] at he; cases he
    simp [this]
  | some x =>
    obtain ⟨q, rfl⟩ := hm.get he
    by_cases e : kf (rk m key) = key
    · simp [q, e]
    · simp [q, e]
theorem ka_lk (hm : KA m u kf vf) (hs : Srt m) (h : (lk m key).isSome = true) : rk m key < u ∧ kf (rk m key) = key ∧ lk m key = some (vf (rk m key)) := by
  have h1 := ka_has hm hs (key := key)
  rw [h, decide_eq_true_eq] at h1
  refine ⟨h1.1, h1.2, (lk_some hs).mpr ?_⟩
  rw [hm.2 _ h1.1, h1.2]
theorem rk_b (hm : KA m u kf vf) : rk m key ≤ u := by rw [← hm.1]; exact rk_le m key
set_option maxHeartbeats 4000000 in
set_option maxRecDepth 100000 in
theorem k_holds (hk : σ[k]? = some (ekm a b u)) (ha : σ[a]? = some (ear cap kf)) (hu : u ≤ cap) (hc : cap < 2 ^ 29) (hm : KA m u kf vf) (hs : Srt m) : MD1 mdX2_holds [.ref k, .int key] σ (some (.int (b2i (lk m key).isSome))) σ := by
  refine md_of [some (.ref k), some (.int key)] rfl (Nat.le_of_ble_eq_true rfl) (by decide) (fun X Post hX hp0 => ?_)
  have hcu : (2 : Nat) ^ 29 = 536870912 := by decide
  have hr := rk_b hm (key := key)
  refine wp_aload_n hX dX2_holds_0 rfl ?_
  refine wp_aload_n hX dX2_holds_1 rfl ?_
  refine wp_iload_n hX dX2_holds_2 rfl ?_
  refine wp_cv1 hX dX2_holds_3 mlX2_26 ⟨Nat.le_of_ble_eq_true rfl, Nat.le_of_ble_eq_true rfl⟩ (k_placeOf hk ha hu hc hm hs) hk (Nat.le_of_ble_eq_true rfl) ?_
  refine wp_iload_n hX dX2_holds_6 rfl ?_
  refine wp_cv2 hX dX2_holds_7 mlX2_30 ⟨Nat.le_of_ble_eq_true rfl, Nat.le_of_ble_eq_true rfl⟩ (k_isAt hk ha hu hc (by omega)) hk (Nat.le_of_ble_eq_true rfl) ?_
  rw [ka_has hm hs]
  refine wp_iret hX dX2_holds_10 rfl ?_ hp0
  cases (lk m key).isSome <;> rfl
set_option maxHeartbeats 4000000 in
set_option maxRecDepth 100000 in
theorem k_valueOf (hk : σ[k]? = some (ekm a b u)) (ha : σ[a]? = some (ear cap kf)) (hb : σ[b]? = some (ear cap vf)) (hu : u ≤ cap) (hc : cap < 2 ^ 29) (hm : KA m u kf vf) (hs : Srt m) : MD1 mdX2_valueOf [.ref k, .int key] σ (some (.int ((lk m key).getD 0))) σ := by
  refine md_of [some (.ref k), some (.int key), none] rfl (Nat.le_of_ble_eq_true rfl) (by decide) (fun X Post hX hp0 => ?_)
  have hcu : (2 : Nat) ^ 29 = 536870912 := by decide
  have hr := rk_b hm (key := key)
  refine wp_aload_n hX dX2_valueOf_0 rfl ?_
  refine wp_iload_n hX dX2_valueOf_1 rfl ?_
  refine wp_cv1 hX dX2_valueOf_2 mlX2_26 ⟨Nat.le_of_ble_eq_true rfl, Nat.le_of_ble_eq_true rfl⟩ (k_placeOf hk ha hu hc hm hs) hk (Nat.le_of_ble_eq_true rfl) ?_
  refine wp_istore_n hX dX2_valueOf_5 (Nat.le_of_ble_eq_true rfl) rfl ?_
  refine wp_aload_n hX dX2_valueOf_6 rfl ?_
  refine wp_iload_n hX dX2_valueOf_7 rfl ?_
  refine wp_iload_n hX dX2_valueOf_8 rfl ?_
  refine wp_cv2 hX dX2_valueOf_9 mlX2_30 ⟨Nat.le_of_ble_eq_true rfl, Nat.le_of_ble_eq_true rfl⟩ (k_isAt hk ha hu hc (by omega)) hk (Nat.le_of_ble_eq_true rfl) ?_
  rw [ka_has hm hs]
  cases hh : (lk m key).isSome with
  | false =>
    refine wp_if_eq (tgt := 24) hX dX2_valueOf_12 (by decide) (fun _ => ?_) (fun c => absurd (rfl) c)
    refine wp_iconst (v := 0) hX dX2_valueOf_24 ic_0 ?_
    refine wp_iret hX dX2_valueOf_25 rfl rfl ?_
    have e : lk m key = none := by
      cases h : lk m key with
      | none => rfl
      | some v => rw [h] at hh; cases hh
    rw [e] at hp0
    exact hp0
  | true =>
    obtain ⟨q1, q2, q3⟩ := ka_lk hm hs hh
    refine wp_if_eq (tgt := 24) hX dX2_valueOf_12 (by decide) (fun c => absurd c (by decide)) (fun _ => ?_)
    refine wp_aload_n hX dX2_valueOf_15 rfl ?_
    refine wp_get hX dX2_valueOf_16 flX2_23 hk rfl ?_
    refine wp_iload_n hX dX2_valueOf_19 rfl ?_
    refine wp_iald hX dX2_valueOf_20 (hb) (vp_in_nI (by omega) (by omega)) ?_
    refine wp_goto (tgt := 25) hX dX2_valueOf_21 (by decide) ?_
    refine wp_iret hX dX2_valueOf_25 rfl rfl ?_
    rw [q3] at hp0
    rw [nI_clamp (by omega)]
    exact hp0
set_option maxHeartbeats 4000000 in
set_option maxRecDepth 100000 in
theorem k_placeBehind (hk : σ[k]? = some (ekm a b u)) (ha : σ[a]? = some (ear cap kf)) (hu : u ≤ cap) (hc : cap < 2 ^ 29) (hm : KA m u kf vf) (hs : Srt m) : MD1 mdX2_placeBehind [.ref k, .int key] σ (some (.int (nI (if (lk m key).isSome then rk m key + 1 else rk m key)))) σ := by
  refine md_of [some (.ref k), some (.int key), none] rfl (Nat.le_of_ble_eq_true rfl) (by decide) (fun X Post hX hp0 => ?_)
  have hcu : (2 : Nat) ^ 29 = 536870912 := by decide
  have hr := rk_b hm (key := key)
  refine wp_aload_n hX dX2_placeBehind_0 rfl ?_
  refine wp_iload_n hX dX2_placeBehind_1 rfl ?_
  refine wp_cv1 hX dX2_placeBehind_2 mlX2_26 ⟨Nat.le_of_ble_eq_true rfl, Nat.le_of_ble_eq_true rfl⟩ (k_placeOf hk ha hu hc hm hs) hk (Nat.le_of_ble_eq_true rfl) ?_
  refine wp_istore_n hX dX2_placeBehind_5 (Nat.le_of_ble_eq_true rfl) rfl ?_
  refine wp_aload_n hX dX2_placeBehind_6 rfl ?_
  refine wp_iload_n hX dX2_placeBehind_7 rfl ?_
  refine wp_iload_n hX dX2_placeBehind_8 rfl ?_
  refine wp_cv2 hX dX2_placeBehind_9 mlX2_30 ⟨Nat.le_of_ble_eq_true rfl, Nat.le_of_ble_eq_true rfl⟩ (k_isAt hk ha hu hc (by omega)) hk (Nat.le_of_ble_eq_true rfl) ?_
  rw [ka_has hm hs]
  cases hh : (lk m key).isSome with
  | false =>
    rw [hh] at hp0
    refine wp_if_eq (tgt := 21) hX dX2_placeBehind_12 (by decide) (fun _ => ?_) (fun c => absurd (rfl) c)
    refine wp_iload_n hX dX2_placeBehind_21 rfl ?_
    refine wp_iret hX dX2_placeBehind_22 rfl rfl ?_
    exact hp0
  | true =>
    rw [hh] at hp0
    refine wp_if_eq (tgt := 21) hX dX2_placeBehind_12 (by decide) (fun c => absurd c (by decide)) (fun _ => ?_)
    refine wp_iload_n hX dX2_placeBehind_15 rfl ?_
    refine wp_iconst (v := 1) hX dX2_placeBehind_16 ic_1 ?_
    refine wp_iadd hX dX2_placeBehind_17 ?_
    refine wp_ti (y := (nI (rk m key + 1))) (nI_1 _) ?_
    refine wp_goto (tgt := 22) hX dX2_placeBehind_18 (by decide) ?_
    refine wp_iret hX dX2_placeBehind_22 rfl rfl ?_
    exact hp0
set_option maxHeartbeats 4000000 in
set_option maxRecDepth 100000 in
theorem k_entries (hk : σ[k]? = some (ekm a b u)) : MD1 mdX2_entries [.ref k] σ (some (.int (nI u))) σ := by
  refine md_of [some (.ref k)] rfl (Nat.le_of_ble_eq_true rfl) (by decide) (fun X Post hX hp0 => ?_)
  refine wp_aload_n hX dX2_entries_0 rfl ?_
  refine wp_get hX dX2_entries_1 flX2_7 hk rfl ?_
  refine wp_iret hX dX2_entries_4 rfl rfl ?_
  exact hp0
set_option maxHeartbeats 4000000 in
set_option maxRecDepth 100000 in
/-- keyAt: the key of a place; 0 without -/
theorem k_keyAt {x : Int32} (hk : σ[k]? = some (ekm a b u)) (ha : σ[a]? = some (ear cap kf)) (hu : u ≤ cap) (hc : cap < 2 ^ 29) : MD1 mdX2_keyAt [.ref k, .int x] σ (some (.int (at0 kf u x))) σ := by
  refine md_of [some (.ref k), some (.int x)] rfl (Nat.le_of_ble_eq_true rfl) (by decide) (fun X Post hX hp0 => ?_)
  have hcu : (2 : Nat) ^ 29 = 536870912 := by decide
  have hnu : (nI u).toInt = (u : Int) := nT (by omega)
  refine wp_iload_n hX dX2_keyAt_0 rfl ?_
  refine wp_if_lt (tgt := 21) hX dX2_keyAt_1 (by decide) (fun c => ?_) (fun c => ?_)
  · refine wp_iconst (v := 0) hX dX2_keyAt_21 ic_0 ?_
    refine wp_iret hX dX2_keyAt_22 rfl rfl ?_
    rw [at0_out (fun z => z (Or.inl c))] at hp0
    exact hp0
  · refine wp_iload_n hX dX2_keyAt_4 rfl ?_
    refine wp_aload_n hX dX2_keyAt_5 rfl ?_
    refine wp_get hX dX2_keyAt_6 flX2_7 hk rfl ?_
    refine wp_icmp_ge (tgt := 21) hX dX2_keyAt_9 (by decide) (fun d => ?_) (fun d => ?_)
    · refine wp_iconst (v := 0) hX dX2_keyAt_21 ic_0 ?_
      refine wp_iret hX dX2_keyAt_22 rfl rfl ?_
      rw [at0_out (fun z => by rw [vp_in_iff] at z; rw [ile] at d; omega)] at hp0
      exact hp0
    · have hi : vp_in x u := by rw [vp_in_iff]; rw [ile] at d; rw [ilt] at c; simp at c; omega
      obtain ⟨j, hj, rfl⟩ := vp_in_of hi (by omega)
      refine wp_aload_n hX dX2_keyAt_12 rfl ?_
      refine wp_get hX dX2_keyAt_13 flX2_19 hk rfl ?_
      refine wp_iload_n hX dX2_keyAt_16 rfl ?_
      refine wp_iald hX dX2_keyAt_17 (ha) (vp_in_nI (by omega) (by omega)) ?_
      refine wp_goto (tgt := 22) hX dX2_keyAt_18 (by decide) ?_
      refine wp_iret hX dX2_keyAt_22 rfl rfl ?_
      rw [at0_in hi] at hp0
      exact hp0
set_option maxHeartbeats 4000000 in
set_option maxRecDepth 100000 in
theorem k_valueAt {x : Int32} (hk : σ[k]? = some (ekm a b u)) (hb : σ[b]? = some (ear cap vf)) (hu : u ≤ cap) (hc : cap < 2 ^ 29) : MD1 mdX2_valueAt [.ref k, .int x] σ (some (.int (at0 vf u x))) σ := by
  refine md_of [some (.ref k), some (.int x)] rfl (Nat.le_of_ble_eq_true rfl) (by decide) (fun X Post hX hp0 => ?_)
  have hcu : (2 : Nat) ^ 29 = 536870912 := by decide
  have hnu : (nI u).toInt = (u : Int) := nT (by omega)
  refine wp_iload_n hX dX2_valueAt_0 rfl ?_
  refine wp_if_lt (tgt := 21) hX dX2_valueAt_1 (by decide) (fun c => ?_) (fun c => ?_)
  · refine wp_iconst (v := 0) hX dX2_valueAt_21 ic_0 ?_
    refine wp_iret hX dX2_valueAt_22 rfl rfl ?_
    rw [at0_out (fun z => z (Or.inl c))] at hp0
    exact hp0
  · refine wp_iload_n hX dX2_valueAt_4 rfl ?_
    refine wp_aload_n hX dX2_valueAt_5 rfl ?_
    refine wp_get hX dX2_valueAt_6 flX2_7 hk rfl ?_
    refine wp_icmp_ge (tgt := 21) hX dX2_valueAt_9 (by decide) (fun d => ?_) (fun d => ?_)
    · refine wp_iconst (v := 0) hX dX2_valueAt_21 ic_0 ?_
      refine wp_iret hX dX2_valueAt_22 rfl rfl ?_
      rw [at0_out (fun z => by rw [vp_in_iff] at z; rw [ile] at d; omega)] at hp0
      exact hp0
    · have hi : vp_in x u := by rw [vp_in_iff]; rw [ile] at d; rw [ilt] at c; simp at c; omega
      obtain ⟨j, hj, rfl⟩ := vp_in_of hi (by omega)
      refine wp_aload_n hX dX2_valueAt_12 rfl ?_
      refine wp_get hX dX2_valueAt_13 flX2_23 hk rfl ?_
      refine wp_iload_n hX dX2_valueAt_16 rfl ?_
      refine wp_iald hX dX2_valueAt_17 (hb) (vp_in_nI (by omega) (by omega)) ?_
      refine wp_goto (tgt := 22) hX dX2_valueAt_18 (by decide) ?_
      refine wp_iret hX dX2_valueAt_22 rfl rfl ?_
      rw [at0_in hi] at hp0
      exact hp0
end KM
end
section
/-! KeyMap: what writes -/
theorem aw_ne {σ : aW} {i j : Nat} {c : aE} (h : i ≠ j) : (σ.set i c)[j]? = σ[j]? := List.getElem?_set_ne h
theorem aw_eq {σ : aW} {i : Nat} {x c : aE} (h : σ[i]? = some x) : (σ.set i c)[i]? = some c := List.getElem?_set_self (List.getElem?_eq_some_iff.mp h).1
theorem aw_id {σ : aW} {i : Nat} {c : aE} (h : σ[i]? = some c) : σ.set i c = σ := by
  apply List.ext_getElem?
  intro j
  by_cases e : i = j
  · subst e
    rw [aw_eq h, h]
  · rw [aw_ne e]
theorem aw_cc {σ : aW} {i j : Nat} {c d : aE} (h : i ≠ j) : (σ.set i c).set j d = (σ.set j d).set i c := List.set_comm c d h
theorem aw_ss {σ : aW} {i : Nat} {c d : aE} : (σ.set i c).set i d = σ.set i d := List.set_set c
theorem aw_ka {σ : aW} {k a : Nat} {ci n : Nat} {fs : List Value} {z : Bool} {f : Nat → Int32} (hk : σ[k]? = some (.inr (ci, fs))) (ha : σ[a]? = some (.inl (z, n, f))) : k ≠ a := fun e => by subst e; rw [hk] at ha; cases ha
section KA2
variable {m : PM} {u : Nat} {kf vf : Nat → Int32} {key v : Int32}
theorem lk_none_fst (hs : Srt m) (h : lk m key = none) : ¬ (m[rk m key]?.map Prod.fst) = some key := by
  rw [lk_rk hs] at h
  cases e : m[rk m key]? with
  | none => simp
  | some x =>
    rw [e] at h
    simp only at h
    intro z
    simp at z
    rw [if_pos z] at h
    cases h
theorem KA.ins_new (hm : KA m u kf vf) (hs : Srt m) (h : lk m key = none) : KA (ins m key v) (u + 1) (upd (va_cpy kf kf (rk m key) (rk m key + 1) (u - rk m key)) (rk m key) key) (upd (va_cpy vf vf (rk m key) (rk m key + 1) (u - rk m key)) (rk m key) v) := by
  have hr : rk m key ≤ u := by rw [← hm.1]; exact rk_le m key
  refine ⟨by rw [ins_len m key v hs, h, hm.1]; rfl, fun i hi => ?_⟩
  rw [ins_get, if_neg (lk_none_fst hs h)]
  by_cases e1 : i < rk m key
  · rw [if_pos e1, pk_un (by omega), pk_un (by omega), pk_cpy_out (by omega), pk_cpy_out (by omega)]
    exact hm.2 i (by omega)
  · rw [if_neg e1]
    by_cases e2 : i = rk m key
    · rw [if_pos e2, e2, pk_us, pk_us]
    · rw [if_neg e2, pk_un e2, pk_un e2, pk_cpy_in (by omega) (by omega), pk_cpy_in (by omega) (by omega), hm.2 (i - 1) (by omega)]
      rw [show rk m key + (i - (rk m key + 1)) = i - 1 by omega]
theorem KA.ins_old (hm : KA m u kf vf) (hs : Srt m) (h : (lk m key).isSome = true) : KA (ins m key v) u kf (upd vf (rk m key) v) := by
  obtain ⟨q1, q2, q3⟩ := ka_lk hm hs h
  refine ⟨by rw [ins_len m key v hs, h, hm.1]; rfl, fun i hi => ?_⟩
  rw [ins_get, if_pos (by rw [hm.2 _ q1]; simp [q2])]
  by_cases e2 : i = rk m key
  · rw [if_pos e2, e2, pk_us, q2]
  · rw [if_neg e2, pk_un e2]
    exact hm.2 i hi
theorem KA.del_ (hm : KA m u kf vf) (hs : Srt m) (h : (lk m key).isSome = true) : KA (del m key) (u - 1) (va_cpy kf kf (rk m key + 1) (rk m key) (u - 1 - rk m key)) (va_cpy vf vf (rk m key + 1) (rk m key) (u - 1 - rk m key)) := by
  obtain ⟨q1, q2, q3⟩ := ka_lk hm hs h
  have hl := del_len q3
  refine ⟨by have := hm.1; omega, fun i hi => ?_⟩
  rw [del_get hs q3]
  by_cases e1 : i < rk m key
  · rw [if_pos e1, pk_cpy_out (by omega), pk_cpy_out (by omega)]
    exact hm.2 i (by omega)
  · rw [if_neg e1, pk_cpy_in (by omega) (by omega), pk_cpy_in (by omega) (by omega), hm.2 (i + 1) (by omega)]
    rw [show rk m key + 1 + (i - rk m key) = i + 1 by omega]
theorem KA.copy {kf2 vf2 : Nat → Int32} (hm : KA m u kf vf) : KA m u (va_cpy kf kf2 0 0 u) (va_cpy vf vf2 0 0 u) := by
  refine ⟨hm.1, fun i hi => ?_⟩
  rw [pk_cpy_in (by omega) (by omega), pk_cpy_in (by omega) (by omega), hm.2 i hi]
  simp
end KA2
section KM2
variable {σ : aW} {k a b cap u : Nat} {kf vf : Nat → Int32} {m : PM} {key v : Int32}
/-- the world with another map in these three cells -/
abbrev kmw (σ : aW) (k a b cap u : Nat) (kf vf : Nat → Int32) : aW := ((σ.set a (ear cap kf)).set b (ear cap vf)).set k (ekm a b u)
set_option maxHeartbeats 4000000 in
set_option maxRecDepth 100000 in
theorem k_enterG (hab : a ≠ b) (hk : σ[k]? = some (ekm a b u)) (ha : σ[a]? = some (ear cap kf)) (hb : σ[b]? = some (ear cap vf)) (hu : u ≤ cap) (hu1 : (lk m key).isSome = false → u < cap) (hc : cap < 2 ^ 29) (hm : KA m u kf vf) (hs : Srt m) : MT mdX2_enter [.ref k, .int key, .int v] σ (fun r σ1 => r = none ∧ ∃ u1 kf1 vf1, KA (ins m key v) u1 kf1 vf1 ∧ σ1 = kmw σ k a b cap u1 kf1 vf1) := by
  refine mp_of [some (.ref k), some (.int key), some (.int v), none] rfl (Nat.le_of_ble_eq_true rfl) (by decide) (fun X Post hX hp => ?_)
  have hcu : (2 : Nat) ^ 29 = 536870912 := by decide
  have hr := rk_b hm (key := key)
  have hka := aw_ka hk ha
  have hkb := aw_ka hk hb
  refine wp_aload_n hX dX2_enter_0 rfl ?_
  refine wp_iload_n hX dX2_enter_1 rfl ?_
  refine wp_cv1 hX dX2_enter_2 mlX2_26 ⟨Nat.le_of_ble_eq_true rfl, Nat.le_of_ble_eq_true rfl⟩ (k_placeOf hk ha (by omega) hc hm hs) hk (Nat.le_of_ble_eq_true rfl) ?_
  refine wp_istore_n hX dX2_enter_5 (Nat.le_of_ble_eq_true rfl) rfl ?_
  refine wp_aload_n hX dX2_enter_6 rfl ?_
  refine wp_iload_n hX dX2_enter_7 rfl ?_
  refine wp_iload_n hX dX2_enter_8 rfl ?_
  refine wp_cv2 hX dX2_enter_9 mlX2_30 ⟨Nat.le_of_ble_eq_true rfl, Nat.le_of_ble_eq_true rfl⟩ (k_isAt hk ha (by omega) hc (by omega)) hk (Nat.le_of_ble_eq_true rfl) ?_
  rw [ka_has hm hs]
  cases hh : (lk m key).isSome with
  | true =>
    obtain ⟨q1, q2, q3⟩ := ka_lk hm hs hh
    refine wp_if_eq (tgt := 23) hX dX2_enter_12 (by decide) (fun c_ => absurd c_ (by decide)) (fun _ => ?_)
    refine wp_aload_n hX dX2_enter_15 rfl ?_
    refine wp_get hX dX2_enter_16 flX2_23 hk rfl ?_
    refine wp_iload_n hX dX2_enter_19 rfl ?_
    refine wp_iload_n hX dX2_enter_20 rfl ?_
    refine wp_iast hX dX2_enter_21 (hb) (vp_in_nI (by omega) (by omega)) ?_
    rw [nI_clamp (by omega)]
    refine wp_vret hX dX2_enter_22 rfl ?_
    refine hp _ _ ⟨rfl, u, kf, upd vf (rk m key) v, hm.ins_old hs hh, ?_⟩
    unfold kmw
    rw [aw_id ha]
    exact (aw_id (by rw [aw_ne hkb.symm]; exact hk)).symm
  | false =>
    have hu := hu1 hh
    have hn : lk m key = none := by
      cases h : lk m key with
      | none => rfl
      | some w => rw [h] at hh; cases hh
    have l1 : rk m key < 2 ^ 31 := by omega
    have l2 : rk m key + 1 < 2 ^ 31 := by omega
    have l3 : u - rk m key < 2 ^ 31 := by omega
    refine wp_if_eq (tgt := 23) hX dX2_enter_12 (by decide) (fun _ => ?_) (fun c_ => absurd (rfl) c_)
    refine wp_aload_n hX dX2_enter_23 rfl ?_
    refine wp_get hX dX2_enter_24 flX2_7 hk rfl ?_
    refine wp_aload_n hX dX2_enter_27 rfl ?_
    refine wp_get hX dX2_enter_28 flX2_19 hk rfl ?_
    refine wp_alen hX dX2_enter_31 (ha) ?_
    refine wp_icmp_lt (tgt := 36) hX dX2_enter_32 (by decide) (fun _ => ?_) (fun c_ => absurd (nI_lt hu (by omega)) c_)
    refine wp_aload_n hX dX2_enter_36 rfl ?_
    refine wp_get hX dX2_enter_37 flX2_19 hk rfl ?_
    refine wp_iload_n hX dX2_enter_40 rfl ?_
    refine wp_aload_n hX dX2_enter_41 rfl ?_
    refine wp_get hX dX2_enter_42 flX2_19 hk rfl ?_
    refine wp_iload_n hX dX2_enter_45 rfl ?_
    refine wp_iconst (v := 1) hX dX2_enter_46 ic_1 ?_
    refine wp_iadd hX dX2_enter_47 ?_
    refine wp_ti (y := (nI (rk m key + 1))) (nI_1 _) ?_
    refine wp_aload_n hX dX2_enter_48 rfl ?_
    refine wp_get hX dX2_enter_49 flX2_7 hk rfl ?_
    refine wp_iload_n hX dX2_enter_52 rfl ?_
    refine wp_isub hX dX2_enter_53 ?_
    refine wp_ti (y := (nI (u - rk m key))) (pk_sub hr) ?_
    refine wp_copy hX dX2_enter_54 mlX2_37 ⟨Nat.le_of_ble_eq_true rfl, Nat.le_of_ble_eq_true rfl⟩ (Nat.le_of_ble_eq_true rfl) (ha) (ha) (nI_pos l1) (nI_pos l2) (nI_pos l3) (by rw [nI_clamp l1, nI_clamp l3]; omega) (by rw [nI_clamp l2, nI_clamp l3]; omega) ?_
    rw [nI_clamp l1, nI_clamp l2, nI_clamp l3]
    have hk := (aw_ne (c := ear cap (va_cpy kf kf (rk m key) (rk m key + 1) (u - rk m key))) hka.symm).trans hk
    have hb := (aw_ne (c := ear cap (va_cpy kf kf (rk m key) (rk m key + 1) (u - rk m key))) hab).trans hb
    have ha := aw_eq (c := ear cap (va_cpy kf kf (rk m key) (rk m key + 1) (u - rk m key))) ha
    refine wp_aload_n hX dX2_enter_57 rfl ?_
    refine wp_get hX dX2_enter_58 flX2_23 hk rfl ?_
    refine wp_iload_n hX dX2_enter_61 rfl ?_
    refine wp_aload_n hX dX2_enter_62 rfl ?_
    refine wp_get hX dX2_enter_63 flX2_23 hk rfl ?_
    refine wp_iload_n hX dX2_enter_66 rfl ?_
    refine wp_iconst (v := 1) hX dX2_enter_67 ic_1 ?_
    refine wp_iadd hX dX2_enter_68 ?_
    refine wp_ti (y := (nI (rk m key + 1))) (nI_1 _) ?_
    refine wp_aload_n hX dX2_enter_69 rfl ?_
    refine wp_get hX dX2_enter_70 flX2_7 hk rfl ?_
    refine wp_iload_n hX dX2_enter_73 rfl ?_
    refine wp_isub hX dX2_enter_74 ?_
    refine wp_ti (y := (nI (u - rk m key))) (pk_sub hr) ?_
    refine wp_copy hX dX2_enter_75 mlX2_37 ⟨Nat.le_of_ble_eq_true rfl, Nat.le_of_ble_eq_true rfl⟩ (Nat.le_of_ble_eq_true rfl) (hb) (hb) (nI_pos l1) (nI_pos l2) (nI_pos l3) (by rw [nI_clamp l1, nI_clamp l3]; omega) (by rw [nI_clamp l2, nI_clamp l3]; omega) ?_
    rw [nI_clamp l1, nI_clamp l2, nI_clamp l3]
    have hk := (aw_ne (c := ear cap (va_cpy vf vf (rk m key) (rk m key + 1) (u - rk m key))) hkb.symm).trans hk
    have ha := (aw_ne (c := ear cap (va_cpy vf vf (rk m key) (rk m key + 1) (u - rk m key))) hab.symm).trans ha
    have hb := aw_eq (c := ear cap (va_cpy vf vf (rk m key) (rk m key + 1) (u - rk m key))) hb
    refine wp_aload_n hX dX2_enter_78 rfl ?_
    refine wp_get hX dX2_enter_79 flX2_19 hk rfl ?_
    refine wp_iload_n hX dX2_enter_82 rfl ?_
    refine wp_iload_n hX dX2_enter_83 rfl ?_
    refine wp_iast hX dX2_enter_84 (ha) (vp_in_nI (by omega) (by omega)) ?_
    rw [nI_clamp l1]
    have hk := (aw_ne (c := ear cap (upd (va_cpy kf kf (rk m key) (rk m key + 1) (u - rk m key)) (rk m key) key)) hka.symm).trans hk
    have hb := (aw_ne (c := ear cap (upd (va_cpy kf kf (rk m key) (rk m key + 1) (u - rk m key)) (rk m key) key)) hab).trans hb
    refine wp_aload_n hX dX2_enter_85 rfl ?_
    refine wp_get hX dX2_enter_86 flX2_23 hk rfl ?_
    refine wp_iload_n hX dX2_enter_89 rfl ?_
    refine wp_iload_n hX dX2_enter_90 rfl ?_
    refine wp_iast hX dX2_enter_91 (hb) (vp_in_nI (by omega) (by omega)) ?_
    rw [nI_clamp l1]
    have hk := (aw_ne (c := ear cap (upd (va_cpy vf vf (rk m key) (rk m key + 1) (u - rk m key)) (rk m key) v)) hkb.symm).trans hk
    refine wp_aload_n hX dX2_enter_92 rfl ?_
    refine wp_dup hX dX2_enter_93 rfl ?_
    refine wp_get hX dX2_enter_94 flX2_7 hk rfl ?_
    refine wp_iconst (v := 1) hX dX2_enter_97 ic_1 ?_
    refine wp_iadd hX dX2_enter_98 ?_
    refine wp_ti (y := (nI (u + 1))) (nI_1 _) ?_
    refine wp_put hX dX2_enter_99 fwX2_7 hk (Nat.le_of_ble_eq_true rfl) rfl rfl ?_
    refine wp_vret hX dX2_enter_102 rfl ?_
    refine hp _ _ ⟨rfl, u + 1, _, _, hm.ins_new hs hn, ?_⟩
    unfold kmw
    show List.set (List.set (List.set (List.set (List.set σ a _) b _) a _) b _) k _ = _
    rw [aw_cc (i := b) (j := a) hab.symm, aw_ss, aw_ss]
    rfl
theorem k_enter (hab : a ≠ b) (hk : σ[k]? = some (ekm a b u)) (ha : σ[a]? = some (ear cap kf)) (hb : σ[b]? = some (ear cap vf)) (hu : u < cap) (hc : cap < 2 ^ 29) (hm : KA m u kf vf) (hs : Srt m) : MT mdX2_enter [.ref k, .int key, .int v] σ (fun r σ1 => r = none ∧ ∃ u1 kf1 vf1, KA (ins m key v) u1 kf1 vf1 ∧ σ1 = kmw σ k a b cap u1 kf1 vf1) := k_enterG hab hk ha hb (Nat.le_of_lt hu) (fun _ => hu) hc hm hs
set_option maxHeartbeats 4000000 in
set_option maxRecDepth 100000 in
theorem k_drop (hab : a ≠ b) (hk : σ[k]? = some (ekm a b u)) (ha : σ[a]? = some (ear cap kf)) (hb : σ[b]? = some (ear cap vf)) (hu : u ≤ cap) (hc : cap < 2 ^ 29) (hm : KA m u kf vf) (hs : Srt m) : MT mdX2_drop [.ref k, .int key] σ (fun r σ1 => r = none ∧ ∃ u1 kf1 vf1, KA (del m key) u1 kf1 vf1 ∧ σ1 = kmw σ k a b cap u1 kf1 vf1) := by
  refine mp_of [some (.ref k), some (.int key), none] rfl (Nat.le_of_ble_eq_true rfl) (by decide) (fun X Post hX hp => ?_)
  have hcu : (2 : Nat) ^ 29 = 536870912 := by decide
  have hr := rk_b hm (key := key)
  have hka := aw_ka hk ha
  have hkb := aw_ka hk hb
  refine wp_aload_n hX dX2_drop_0 rfl ?_
  refine wp_iload_n hX dX2_drop_1 rfl ?_
  refine wp_cv1 hX dX2_drop_2 mlX2_26 ⟨Nat.le_of_ble_eq_true rfl, Nat.le_of_ble_eq_true rfl⟩ (k_placeOf hk ha (by omega) hc hm hs) hk (Nat.le_of_ble_eq_true rfl) ?_
  refine wp_istore_n hX dX2_drop_5 (Nat.le_of_ble_eq_true rfl) rfl ?_
  refine wp_aload_n hX dX2_drop_6 rfl ?_
  refine wp_iload_n hX dX2_drop_7 rfl ?_
  refine wp_iload_n hX dX2_drop_8 rfl ?_
  refine wp_cv2 hX dX2_drop_9 mlX2_30 ⟨Nat.le_of_ble_eq_true rfl, Nat.le_of_ble_eq_true rfl⟩ (k_isAt hk ha (by omega) hc (by omega)) hk (Nat.le_of_ble_eq_true rfl) ?_
  rw [ka_has hm hs]
  cases hh : (lk m key).isSome with
  | false =>
    have hn : lk m key = none := by
      cases h : lk m key with
      | none => rfl
      | some w => rw [h] at hh; cases hh
    refine wp_if_ne (tgt := 16) hX dX2_drop_12 (by decide) (fun c_ => absurd (rfl) c_) (fun _ => ?_)
    refine wp_vret hX dX2_drop_15 rfl ?_
    refine hp _ _ ⟨rfl, u, kf, vf, by rw [del_none hn]; exact hm, ?_⟩
    unfold kmw
    rw [aw_id ha, aw_id hb, aw_id hk]
  | true =>
    obtain ⟨q1, q2, q3⟩ := ka_lk hm hs hh
    have l1 : rk m key < 2 ^ 31 := by omega
    have l2 : rk m key + 1 < 2 ^ 31 := by omega
    have l3 : u - 1 - rk m key < 2 ^ 31 := by omega
    have e1 : nI u - 1 = nI (u - 1) := by
      have := pk_sub (a := u) (b := 1) (by omega)
      exact this
    refine wp_if_ne (tgt := 16) hX dX2_drop_12 (by decide) (fun _ => ?_) (fun c_ => absurd c_ (by decide))
    refine wp_aload_n hX dX2_drop_16 rfl ?_
    refine wp_dup hX dX2_drop_17 rfl ?_
    refine wp_get hX dX2_drop_18 flX2_7 hk rfl ?_
    refine wp_iconst (v := 1) hX dX2_drop_21 ic_1 ?_
    refine wp_isub hX dX2_drop_22 ?_
    refine wp_ti (y := (nI (u - 1))) (e1) ?_
    refine wp_put hX dX2_drop_23 fwX2_7 hk (Nat.le_of_ble_eq_true rfl) rfl rfl ?_
    have hk0 := hk
    have ha := (aw_ne (c := ekm a b (u - 1)) hka).trans ha
    have hb := (aw_ne (c := ekm a b (u - 1)) hkb).trans hb
    have hk := aw_eq (c := ekm a b (u - 1)) hk
    refine wp_aload_n hX dX2_drop_26 rfl ?_
    refine wp_get hX dX2_drop_27 flX2_19 hk rfl ?_
    refine wp_iload_n hX dX2_drop_30 rfl ?_
    refine wp_iconst (v := 1) hX dX2_drop_31 ic_1 ?_
    refine wp_iadd hX dX2_drop_32 ?_
    refine wp_ti (y := (nI (rk m key + 1))) (nI_1 _) ?_
    refine wp_aload_n hX dX2_drop_33 rfl ?_
    refine wp_get hX dX2_drop_34 flX2_19 hk rfl ?_
    refine wp_iload_n hX dX2_drop_37 rfl ?_
    refine wp_aload_n hX dX2_drop_38 rfl ?_
    refine wp_get hX dX2_drop_39 flX2_7 hk rfl ?_
    refine wp_iload_n hX dX2_drop_42 rfl ?_
    refine wp_isub hX dX2_drop_43 ?_
    refine wp_ti (y := (nI (u - 1 - rk m key))) (pk_sub (by omega)) ?_
    refine wp_copy hX dX2_drop_44 mlX2_37 ⟨Nat.le_of_ble_eq_true rfl, Nat.le_of_ble_eq_true rfl⟩ (Nat.le_of_ble_eq_true rfl) (ha) (ha) (nI_pos l2) (nI_pos l1) (nI_pos l3) (by rw [nI_clamp l2, nI_clamp l3]; omega) (by rw [nI_clamp l1, nI_clamp l3]; omega) ?_
    rw [nI_clamp l1, nI_clamp l2, nI_clamp l3]
    have hk := (aw_ne (c := ear cap (va_cpy kf kf (rk m key + 1) (rk m key) (u - 1 - rk m key))) hka.symm).trans hk
    have hb := (aw_ne (c := ear cap (va_cpy kf kf (rk m key + 1) (rk m key) (u - 1 - rk m key))) hab).trans hb
    refine wp_aload_n hX dX2_drop_47 rfl ?_
    refine wp_get hX dX2_drop_48 flX2_23 hk rfl ?_
    refine wp_iload_n hX dX2_drop_51 rfl ?_
    refine wp_iconst (v := 1) hX dX2_drop_52 ic_1 ?_
    refine wp_iadd hX dX2_drop_53 ?_
    refine wp_ti (y := (nI (rk m key + 1))) (nI_1 _) ?_
    refine wp_aload_n hX dX2_drop_54 rfl ?_
    refine wp_get hX dX2_drop_55 flX2_23 hk rfl ?_
    refine wp_iload_n hX dX2_drop_58 rfl ?_
    refine wp_aload_n hX dX2_drop_59 rfl ?_
    refine wp_get hX dX2_drop_60 flX2_7 hk rfl ?_
    refine wp_iload_n hX dX2_drop_63 rfl ?_
    refine wp_isub hX dX2_drop_64 ?_
    refine wp_ti (y := (nI (u - 1 - rk m key))) (pk_sub (by omega)) ?_
    refine wp_copy hX dX2_drop_65 mlX2_37 ⟨Nat.le_of_ble_eq_true rfl, Nat.le_of_ble_eq_true rfl⟩ (Nat.le_of_ble_eq_true rfl) (hb) (hb) (nI_pos l2) (nI_pos l1) (nI_pos l3) (by rw [nI_clamp l2, nI_clamp l3]; omega) (by rw [nI_clamp l1, nI_clamp l3]; omega) ?_
    rw [nI_clamp l1, nI_clamp l2, nI_clamp l3]
    refine wp_vret hX dX2_drop_68 rfl ?_
    refine hp _ _ ⟨rfl, u - 1, _, _, hm.del_ hs hh, ?_⟩
    unfold kmw
    show List.set (List.set (List.set σ k _) a _) b _ = _
    rw [aw_cc (i := k) (j := a) hka, aw_cc (i := k) (j := b) hkb]
    rfl
set_option maxHeartbeats 4000000 in
set_option maxRecDepth 100000 in
theorem k_clear {x : Int32} (hk : σ[k]? = some (.inr (2, [.ref a, .ref b, .int x]))) : MD1 mdX2_clear [.ref k] σ none (σ.set k (ekm a b 0)) := by
  refine md_of [some (.ref k)] rfl (Nat.le_of_ble_eq_true rfl) (by decide) (fun X Post hX hp => ?_)
  refine wp_aload_n hX dX2_clear_0 rfl ?_
  refine wp_iconst (v := 0) hX dX2_clear_1 ic_0 ?_
  refine wp_put hX dX2_clear_2 fwX2_7 hk (Nat.le_of_ble_eq_true rfl) rfl rfl ?_
  refine wp_vret hX dX2_clear_5 rfl ?_
  exact hp
set_option maxHeartbeats 4000000 in
set_option maxRecDepth 100000 in
/-- copyFrom: k's arrays then begin as k2's do -/
theorem k_copyFrom {k2 a2 b2 cap2 u2 : Nat} {kf2 vf2 : Nat → Int32} {x : Int32} (hd : k ≠ k2 ∧ a ≠ b ∧ a ≠ b2) (hk : σ[k]? = some (.inr (2, [.ref a, .ref b, .int x]))) (ha : σ[a]? = some (ear cap kf)) (hb : σ[b]? = some (ear cap vf)) (hk2 : σ[k2]? = some (ekm a2 b2 u2)) (ha2 : σ[a2]? = some (ear cap2 kf2)) (hb2 : σ[b2]? = some (ear cap2 vf2))
    (hu : u2 ≤ cap) (hu2 : u2 ≤ cap2) (hc : cap < 2 ^ 29) (hc2 : cap2 < 2 ^ 29) : MD1 mdX2_copyFrom [.ref k, .ref k2] σ none (kmw σ k a b cap u2 (va_cpy kf2 kf 0 0 u2) (va_cpy vf2 vf 0 0 u2)) := by
  refine md_of [some (.ref k), some (.ref k2)] rfl (Nat.le_of_ble_eq_true rfl) (by decide) (fun X Post hX hp => ?_)
  have hcu : (2 : Nat) ^ 29 = 536870912 := by decide
  obtain ⟨d1, d2, d3⟩ := hd
  have hka := aw_ka hk ha
  have hkb := aw_ka hk hb
  have hka2 := aw_ka hk ha2
  have hkb2 := aw_ka hk hb2
  have h2a := aw_ka hk2 ha
  have l1 : u2 < 2 ^ 31 := by omega
  have e0 : (0 : Int32) = nI 0 := rfl
  refine wp_aload_n hX dX2_copyFrom_0 rfl ?_
  refine wp_aload_n hX dX2_copyFrom_1 rfl ?_
  refine wp_get hX dX2_copyFrom_2 flX2_7 (hk2) rfl ?_
  refine wp_aload_n hX dX2_copyFrom_5 rfl ?_
  refine wp_get hX dX2_copyFrom_6 flX2_19 hk rfl ?_
  refine wp_alen hX dX2_copyFrom_9 (ha) ?_
  refine wp_min hX dX2_copyFrom_10 mlX2_43 ⟨Nat.le_of_ble_eq_true rfl, Nat.le_of_ble_eq_true rfl⟩ (Nat.le_of_ble_eq_true rfl) ?_
  refine wp_ti (y := nI u2) (by rw [if_neg (nI_nlt hu (by omega))]) ?_
  refine wp_put hX dX2_copyFrom_13 fwX2_7 hk (Nat.le_of_ble_eq_true rfl) rfl rfl ?_
  have ha := (aw_ne (c := ekm a b u2) hka).trans ha
  have hb := (aw_ne (c := ekm a b u2) hkb).trans hb
  have hk2 := (aw_ne (c := ekm a b u2) d1).trans hk2
  have ha2 := (aw_ne (c := ekm a b u2) hka2).trans ha2
  have hb2 := (aw_ne (c := ekm a b u2) hkb2).trans hb2
  have hk := aw_eq (c := ekm a b u2) hk
  refine wp_aload_n hX dX2_copyFrom_16 rfl ?_
  refine wp_get hX dX2_copyFrom_17 flX2_19 (hk2) rfl ?_
  refine wp_iconst (v := 0) hX dX2_copyFrom_20 ic_0 ?_
  refine wp_aload_n hX dX2_copyFrom_21 rfl ?_
  refine wp_get hX dX2_copyFrom_22 flX2_19 hk rfl ?_
  refine wp_iconst (v := 0) hX dX2_copyFrom_25 ic_0 ?_
  refine wp_aload_n hX dX2_copyFrom_26 rfl ?_
  refine wp_get hX dX2_copyFrom_27 flX2_7 hk rfl ?_
  refine wp_copy hX dX2_copyFrom_30 mlX2_37 ⟨Nat.le_of_ble_eq_true rfl, Nat.le_of_ble_eq_true rfl⟩ (Nat.le_of_ble_eq_true rfl) (ha2) (ha) (by decide) (by decide) (nI_pos l1) (by rw [nI_clamp l1]; show 0 + u2 ≤ cap2; omega) (by rw [nI_clamp l1]; show 0 + u2 ≤ cap; omega) ?_
  rw [nI_clamp l1]
  rw [show (0 : Int32).toNatClampNeg = 0 from rfl]
  have hk := (aw_ne (c := ear cap (va_cpy kf2 kf 0 0 u2)) hka.symm).trans hk
  have hk2 := (aw_ne (c := ear cap (va_cpy kf2 kf 0 0 u2)) h2a.symm).trans hk2
  have hb := (aw_ne (c := ear cap (va_cpy kf2 kf 0 0 u2)) d2).trans hb
  have hb2 := (aw_ne (c := ear cap (va_cpy kf2 kf 0 0 u2)) d3).trans hb2
  refine wp_aload_n hX dX2_copyFrom_33 rfl ?_
  refine wp_get hX dX2_copyFrom_34 flX2_23 (hk2) rfl ?_
  refine wp_iconst (v := 0) hX dX2_copyFrom_37 ic_0 ?_
  refine wp_aload_n hX dX2_copyFrom_38 rfl ?_
  refine wp_get hX dX2_copyFrom_39 flX2_23 hk rfl ?_
  refine wp_iconst (v := 0) hX dX2_copyFrom_42 ic_0 ?_
  refine wp_aload_n hX dX2_copyFrom_43 rfl ?_
  refine wp_get hX dX2_copyFrom_44 flX2_7 hk rfl ?_
  refine wp_copy hX dX2_copyFrom_47 mlX2_37 ⟨Nat.le_of_ble_eq_true rfl, Nat.le_of_ble_eq_true rfl⟩ (Nat.le_of_ble_eq_true rfl) (hb2) (hb) (by decide) (by decide) (nI_pos l1) (by rw [nI_clamp l1]; show 0 + u2 ≤ cap2; omega) (by rw [nI_clamp l1]; show 0 + u2 ≤ cap; omega) ?_
  rw [nI_clamp l1]
  rw [show (0 : Int32).toNatClampNeg = 0 from rfl]
  refine wp_vret hX dX2_copyFrom_50 rfl ?_
  unfold kmw at hp
  rw [← aw_cc (i := k) (j := b) hkb, ← aw_cc (i := k) (j := a) hka] at hp
  exact hp
/-- the sum of n places from a on -/
def sumF (f : Nat → Int32) (a : Nat) : Nat → Int64
  | 0 => 0
  | n + 1 => sumF f a n + (f (a + n)).toInt64
set_option maxHeartbeats 4000000 in
set_option maxRecDepth 100000 in
theorem k_sumOfValues {p q : Nat} (hk : σ[k]? = some (ekm a b u)) (hb : σ[b]? = some (ear cap vf)) (hu : u ≤ cap) (hc : cap < 2 ^ 29) (hpq : p ≤ q) (hq : q ≤ u) : MD1 mdX2_sumOfValues [.ref k, .int (nI p), .int (nI q)] σ (some (.long (sumF vf p (q - p)))) σ := by
  refine md_of [some (.ref k), some (.int (nI p)), some (.int (nI q)), none, none, none] rfl (Nat.le_of_ble_eq_true rfl) (by decide) (fun X Post hX hp => ?_)
  have hcu : (2 : Nat) ^ 29 = 536870912 := by decide
  have loop : ∀ (n j : Nat), p + j + n = q → Wp X Post 5 [some (.ref k), some (.int (nI p)), some (.int (nI q)), some (.long (sumF vf p j)), none, some (.int (nI (p + j)))] [] σ := by
    intro n
    induction n with
    | zero =>
      intro j hj
      refine wp_iload hX dX2_sumOfValues_5 rfl ?_
      refine wp_iload_n hX dX2_sumOfValues_7 rfl ?_
      refine wp_icmp_ge (tgt := 27) hX dX2_sumOfValues_8 (by decide) (fun _ => ?_) (fun c_ => absurd (nI_le (by omega) (by omega)) c_)
      refine wp_lload_n hX dX2_sumOfValues_27 rfl ?_
      refine wp_lret hX dX2_sumOfValues_28 rfl ?_
      rw [show q - p = j by omega] at hp
      exact hp
    | succ n ih =>
      intro j hj
      refine wp_iload hX dX2_sumOfValues_5 rfl ?_
      refine wp_iload_n hX dX2_sumOfValues_7 rfl ?_
      refine wp_icmp_ge (tgt := 27) hX dX2_sumOfValues_8 (by decide) (fun c_ => absurd c_ (nI_ge (by omega) (by omega))) (fun _ => ?_)
      refine wp_lload_n hX dX2_sumOfValues_11 rfl ?_
      refine wp_aload_n hX dX2_sumOfValues_12 rfl ?_
      refine wp_iload hX dX2_sumOfValues_13 rfl ?_
      refine wp_cv1 hX dX2_sumOfValues_15 mlX2_34 ⟨Nat.le_of_ble_eq_true rfl, Nat.le_of_ble_eq_true rfl⟩ (k_valueAt hk hb hu hc) hk (Nat.le_of_ble_eq_true rfl) ?_
      rw [at0_nI (by omega), if_pos (by omega)]
      refine wp_i2l hX dX2_sumOfValues_18 ?_
      refine wp_ladd hX dX2_sumOfValues_19 ?_
      refine wp_lstore_n hX dX2_sumOfValues_20 (Nat.le_of_ble_eq_true rfl) rfl ?_
      refine wp_iinc hX dX2_sumOfValues_21 ic_1 rfl (Nat.le_of_ble_eq_true rfl) rfl ?_
      refine wp_goto (tgt := 5) hX dX2_sumOfValues_24 (by decide) ?_
      rw [nI_1]
      exact ih (j + 1) (by omega)
  refine wp_lconst (v := 0) hX dX2_sumOfValues_0 lc_0 ?_
  refine wp_lstore_n hX dX2_sumOfValues_1 (Nat.le_of_ble_eq_true rfl) rfl ?_
  refine wp_iload_n hX dX2_sumOfValues_2 rfl ?_
  refine wp_istore hX dX2_sumOfValues_3 (Nat.le_of_ble_eq_true rfl) rfl ?_
  exact loop (q - p) 0 (by omega)
end KM2
end
section
/-! Disk: cell 1, its words in cell 2, its page in cell 3 -/
abbrev edk (B W : Nat) (wr fu : Int32) : aE := .inr (0, [.ref 2, .ref 3, .int (nI B), .int (nI W), .int wr, .int fu])
/-- the SUM of n words from o on -/
def sumD (f : Nat → Int32) (o : Nat) : Nat → Int32
  | 0 => 7
  | n + 1 => 31 * sumD f o n + f (o + n)
theorem sumD_congr {f g : Nat → Int32} {o o' : Nat} : ∀ (n : Nat), (∀ i, i < n → f (o + i) = g (o' + i)) → sumD f o n = sumD g o' n
  | 0, _ => rfl
  | n + 1, h => by
    unfold sumD
    rw [sumD_congr n (fun i hi => h i (by omega)), h n (by omega)]
/-- word y of block x, 0 without -/
def wA (B W : Nat) (wf : Nat → Int32) (x y : Int32) : Int32 := if x < 0 ∨ nI B ≤ x ∨ y < 0 ∨ nI W ≤ y then 0 else wf (W * x.toNatClampNeg + y.toNatClampNeg)
theorem wA_in {B W : Nat} {wf : Nat → Int32} {b i : Nat} (hB : B ≤ 512) (hW : W ≤ 64) (hb : b < B) (hi : i < W) : wA B W wf (nI b) (nI i) = wf (W * b + i) := by
  unfold wA
  rw [if_neg, nI_clamp (by omega), nI_clamp (by omega)]
  rintro (h | h | h | h)
  · exact nI_pos (by omega) h
  · exact nI_ge hb (by omega) h
  · exact nI_pos (by omega) h
  · exact nI_ge hi (by omega) h
theorem ixb {B W b i : Nat} (hB : B ≤ 512) (hW : W ≤ 64) (hb : b < B) (hi : i < W) : W * b + i < 32768 := by
  have h1 : W * b ≤ 64 * 511 := Nat.mul_le_mul hW (by omega)
  omega
/-- block b with these words and their SUM -/
def wrD (wf : Nat → Int32) (W b : Nat) (pf : Nat → Int32) : Nat → Int32 := fun j => if W * b ≤ j ∧ j < W * b + W then (if j = W * b + (W - 1) then sumD pf 0 (W - 1) else pf (j - W * b)) else wf j
def pwd (fu : Int32) : Int32 := if 0 < fu then fu - 1 else fu
section DK
variable {σ : aW} {B W : Nat} {wr fu : Int32} {wf pf : Nat → Int32}
set_option maxHeartbeats 4000000 in
set_option maxRecDepth 100000 in
theorem d_fill {q n : Nat} {f : Nat → Int32} {v : Int32} (hq : σ[q]? = some (ear n f)) (hn : n < 2 ^ 31) : MD1 mdJ7_fill_53178 [.ref q, .int v] σ none (σ.set q (ear n (fun j => if j < n then v else f j))) := by
  refine md_of [some (.ref q), some (.int v), none, none] rfl (Nat.le_of_ble_eq_true rfl) (by decide) (fun X Post hX hp => ?_)
  have loop : ∀ (r i : Nat), i + r = n → Wp X Post 5 [some (.ref q), some (.int v), some (.int (nI i)), some (.int (nI n))] [] (σ.set q (ear n (fun j => if j < i then v else f j))) := by
    intro r
    induction r with
    | zero =>
      intro i hi
      rw [show i = n by omega]
      refine wp_iload_n hX dJ7_fill_53178_5 rfl ?_
      refine wp_iload_n hX dJ7_fill_53178_6 rfl ?_
      refine wp_icmp_ge (tgt := 20) hX dJ7_fill_53178_7 (by decide) (fun _ => ?_) (fun c => absurd (nI_le (Nat.le_refl _) hn) c)
      refine wp_vret hX dJ7_fill_53178_20 rfl ?_
      exact hp
    | succ r ih =>
      intro i hi
      refine wp_iload_n hX dJ7_fill_53178_5 rfl ?_
      refine wp_iload_n hX dJ7_fill_53178_6 rfl ?_
      refine wp_icmp_ge (tgt := 20) hX dJ7_fill_53178_7 (by decide) (fun c => absurd c (nI_ge (by omega) hn)) (fun _ => ?_)
      refine wp_aload_n hX dJ7_fill_53178_10 rfl ?_
      refine wp_iload_n hX dJ7_fill_53178_11 rfl ?_
      refine wp_iload_n hX dJ7_fill_53178_12 rfl ?_
      refine wp_iast hX dJ7_fill_53178_13 (aw_eq hq) (vp_in_nI (by omega) hn) ?_
      rw [nI_clamp (by omega), aw_ss]
      refine wp_iinc hX dJ7_fill_53178_14 ic_1 rfl (Nat.le_of_ble_eq_true rfl) rfl ?_
      refine wp_goto (tgt := 5) hX dJ7_fill_53178_17 (by decide) ?_
      rw [nI_1]
      have e : upd (fun j => if j < i then v else f j) i v = (fun j => if j < i + 1 then v else f j) := by
        funext j
        by_cases h : j = i
        · rw [h, pk_us, if_pos (by omega)]
        · rw [pk_un h]
          by_cases h2 : j < i
          · rw [if_pos h2, if_pos (by omega)]
          · rw [if_neg h2, if_neg (by omega)]
      rw [e]
      exact ih (i + 1) (by omega)
  refine wp_iconst (v := 0) hX dJ7_fill_53178_0 ic_0 ?_
  refine wp_istore_n hX dJ7_fill_53178_1 (Nat.le_of_ble_eq_true rfl) rfl ?_
  refine wp_aload_n hX dJ7_fill_53178_2 rfl ?_
  refine wp_alen hX dJ7_fill_53178_3 (hq) ?_
  refine wp_istore_n hX dJ7_fill_53178_4 (Nat.le_of_ble_eq_true rfl) rfl ?_
  have e : σ = σ.set q (ear n (fun j => if j < 0 then v else f j)) := by
    have : (fun j => if j < 0 then v else f j) = f := by funext j; simp
    rw [this, aw_id hq]
  rw [e]
  exact loop n 0 (by omega)
set_option maxRecDepth 100000 in
theorem d_wordsInBlock (hd : σ[1]? = some (edk B W wr fu)) : MD1 mdX0_wordsInBlock [.ref 1] σ (some (.int (nI W))) σ := by
  refine md_of [some (.ref 1)] rfl (Nat.le_of_ble_eq_true rfl) (by decide) (fun X Post hX hp => ?_)
  refine wp_aload_n hX dX0_wordsInBlock_0 rfl ?_
  refine wp_get hX dX0_wordsInBlock_1 flX0_23 hd rfl ?_
  refine wp_iret hX dX0_wordsInBlock_4 rfl rfl ?_
  exact hp
set_option maxRecDepth 100000 in
theorem d_writesDone (hd : σ[1]? = some (edk B W wr fu)) : MD1 mdX0_writesDone [.ref 1] σ (some (.int wr)) σ := by
  refine md_of [some (.ref 1)] rfl (Nat.le_of_ble_eq_true rfl) (by decide) (fun X Post hX hp => ?_)
  refine wp_aload_n hX dX0_writesDone_0 rfl ?_
  refine wp_get hX dX0_writesDone_1 flX0_26 hd rfl ?_
  refine wp_iret hX dX0_writesDone_4 rfl rfl ?_
  exact hp
set_option maxRecDepth 100000 in
theorem d_writesToFailure (hd : σ[1]? = some (edk B W wr fu)) : MD1 mdX0_writesToFailure [.ref 1] σ (some (.int fu)) σ := by
  refine md_of [some (.ref 1)] rfl (Nat.le_of_ble_eq_true rfl) (by decide) (fun X Post hX hp => ?_)
  refine wp_aload_n hX dX0_writesToFailure_0 rfl ?_
  refine wp_get hX dX0_writesToFailure_1 flX0_29 hd rfl ?_
  refine wp_iret hX dX0_writesToFailure_4 rfl rfl ?_
  exact hp
set_option maxRecDepth 100000 in
theorem d_arm {x : Int32} (hd : σ[1]? = some (edk B W wr fu)) : MD1 mdX0_arm [.ref 1, .int x] σ none (σ.set 1 (edk B W wr (if x < 0 then 0 else x))) := by
  refine md_of [some (.ref 1), some (.int x)] rfl (Nat.le_of_ble_eq_true rfl) (by decide) (fun X Post hX hp => ?_)
  refine wp_aload_n hX dX0_arm_0 rfl ?_
  refine wp_iload_n hX dX0_arm_1 rfl ?_
  refine wp_iconst (v := 0) hX dX0_arm_2 ic_0 ?_
  refine wp_max hX dX0_arm_3 mlX0_38 ⟨Nat.le_of_ble_eq_true rfl, Nat.le_of_ble_eq_true rfl⟩ (Nat.le_of_ble_eq_true rfl) ?_
  refine wp_put hX dX0_arm_6 fwX0_29 hd (Nat.le_of_ble_eq_true rfl) rfl rfl ?_
  refine wp_vret hX dX0_arm_9 rfl ?_
  exact hp
set_option maxHeartbeats 4000000 in
set_option maxRecDepth 100000 in
theorem d_renew {B1 W1 : Nat} (hd : σ[1]? = some (edk B W wr fu)) (hw : σ[2]? = some (ear 32768 wf)) : MD1 mdX0_renew [.ref 1, .int (nI B1), .int (nI W1)] σ none ((σ.set 2 (ear 32768 (fun j => if j < 32768 then 0 else wf j))).set 1 (edk B1 W1 0 0)) := by
  refine md_of [some (.ref 1), some (.int (nI B1)), some (.int (nI W1))] rfl (Nat.le_of_ble_eq_true rfl) (by decide) (fun X Post hX hp => ?_)
  refine wp_aload_n hX dX0_renew_0 rfl ?_
  refine wp_get hX dX0_renew_1 flX0_10 hd rfl ?_
  refine wp_iconst (v := 0) hX dX0_renew_4 ic_0 ?_
  refine wp_cs2 hX dX0_renew_5 mlX0_32 ⟨Nat.le_of_ble_eq_true rfl, Nat.le_of_ble_eq_true rfl⟩ (d_fill hw (by decide)) (Nat.le_of_ble_eq_true rfl) ?_
  have hd := (aw_ne (c := ear 32768 (fun j => if j < 32768 then 0 else wf j)) (show 2 ≠ 1 by decide)).trans hd
  refine wp_aload_n hX dX0_renew_8 rfl ?_
  refine wp_iload_n hX dX0_renew_9 rfl ?_
  refine wp_put hX dX0_renew_10 fwX0_19 hd (Nat.le_of_ble_eq_true rfl) rfl rfl ?_
  refine wp_eqW (σ1 := (σ.set 2 (ear 32768 (fun j => if j < 32768 then 0 else wf j))).set 1 (edk B1 W wr fu)) rfl ?_
  refine wp_aload_n hX dX0_renew_13 rfl ?_
  refine wp_iload_n hX dX0_renew_14 rfl ?_
  refine wp_put hX dX0_renew_15 fwX0_23 (aw_eq hd) (Nat.le_of_ble_eq_true rfl) rfl rfl ?_
  rw [aw_ss]
  refine wp_eqW (σ1 := (σ.set 2 (ear 32768 (fun j => if j < 32768 then 0 else wf j))).set 1 (edk B1 W1 wr fu)) rfl ?_
  refine wp_aload_n hX dX0_renew_18 rfl ?_
  refine wp_iconst (v := 0) hX dX0_renew_19 ic_0 ?_
  refine wp_put hX dX0_renew_20 fwX0_26 (aw_eq hd) (Nat.le_of_ble_eq_true rfl) rfl rfl ?_
  rw [aw_ss]
  refine wp_eqW (σ1 := (σ.set 2 (ear 32768 (fun j => if j < 32768 then 0 else wf j))).set 1 (edk B1 W1 0 fu)) rfl ?_
  refine wp_aload_n hX dX0_renew_23 rfl ?_
  refine wp_iconst (v := 0) hX dX0_renew_24 ic_0 ?_
  refine wp_put hX dX0_renew_25 fwX0_29 (aw_eq hd) (Nat.le_of_ble_eq_true rfl) rfl rfl ?_
  rw [aw_ss]
  refine wp_vret hX dX0_renew_28 rfl ?_
  exact hp
set_option maxHeartbeats 4000000 in
set_option maxRecDepth 100000 in
theorem d_wordAt {x y : Int32} (hd : σ[1]? = some (edk B W wr fu)) (hw : σ[2]? = some (ear 32768 wf)) (hB : B ≤ 512) (hW : W ≤ 64) : MD1 mdX0_wordAt [.ref 1, .int x, .int y] σ (some (.int (wA B W wf x y))) σ := by
  refine md_of [some (.ref 1), some (.int x), some (.int y)] rfl (Nat.le_of_ble_eq_true rfl) (by decide) (fun X Post hX hp => ?_)
  refine wp_iload_n hX dX0_wordAt_0 rfl ?_
  refine wp_if_lt (tgt := 24) hX dX0_wordAt_1 (by decide) (fun c1 => ?_) (fun c1 => ?_)
  · refine wp_iconst (v := 0) hX dX0_wordAt_24 ic_0 ?_
    refine wp_iret hX dX0_wordAt_25 rfl rfl ?_
    rw [wA, if_pos (Or.inl c1)] at hp
    exact hp
  · refine wp_iload_n hX dX0_wordAt_4 rfl ?_
    refine wp_aload_n hX dX0_wordAt_5 rfl ?_
    refine wp_get hX dX0_wordAt_6 flX0_19 hd rfl ?_
    refine wp_icmp_ge (tgt := 24) hX dX0_wordAt_9 (by decide) (fun c2 => ?_) (fun c2 => ?_)
    · refine wp_iconst (v := 0) hX dX0_wordAt_24 ic_0 ?_
      refine wp_iret hX dX0_wordAt_25 rfl rfl ?_
      rw [wA, if_pos (Or.inr (Or.inl c2))] at hp
      exact hp
    · refine wp_iload_n hX dX0_wordAt_12 rfl ?_
      refine wp_if_lt (tgt := 24) hX dX0_wordAt_13 (by decide) (fun c3 => ?_) (fun c3 => ?_)
      · refine wp_iconst (v := 0) hX dX0_wordAt_24 ic_0 ?_
        refine wp_iret hX dX0_wordAt_25 rfl rfl ?_
        rw [wA, if_pos (Or.inr (Or.inr (Or.inl c3)))] at hp
        exact hp
      · refine wp_iload_n hX dX0_wordAt_16 rfl ?_
        refine wp_aload_n hX dX0_wordAt_17 rfl ?_
        refine wp_get hX dX0_wordAt_18 flX0_23 hd rfl ?_
        refine wp_icmp_lt (tgt := 26) hX dX0_wordAt_21 (by decide) (fun c4 => ?_) (fun c4 => ?_)
        · obtain ⟨b, hb, rfl⟩ := nI_of c1
          obtain ⟨i, hi, rfl⟩ := nI_of c3
          have hbB : b < B := Nat.lt_of_not_le (fun q => c2 (nI_le q hb))
          have hiW : i < W := (nI_ltI hi (by omega)).mp c4
          have hix := ixb hB hW hbB hiW
          refine wp_aload_n hX dX0_wordAt_26 rfl ?_
          refine wp_get hX dX0_wordAt_27 flX0_10 hd rfl ?_
          refine wp_iload_n hX dX0_wordAt_30 rfl ?_
          refine wp_aload_n hX dX0_wordAt_31 rfl ?_
          refine wp_get hX dX0_wordAt_32 flX0_23 hd rfl ?_
          refine wp_imul hX dX0_wordAt_35 ?_
          refine wp_iload_n hX dX0_wordAt_36 rfl ?_
          refine wp_iadd hX dX0_wordAt_37 ?_
          refine wp_ti (y := (nI (W * b + i))) (by rw [pk_mul, nI_add, Nat.mul_comm b W]) ?_
          refine wp_iald hX dX0_wordAt_38 (hw) (vp_in_nI hix (by decide)) ?_
          refine wp_iret hX dX0_wordAt_39 rfl rfl ?_
          rw [wA_in hB hW hbB hiW] at hp
          rw [nI_clamp (by omega)]
          exact hp
        · refine wp_iconst (v := 0) hX dX0_wordAt_24 ic_0 ?_
          refine wp_iret hX dX0_wordAt_25 rfl rfl ?_
          rw [wA, if_pos (Or.inr (Or.inr (Or.inr (Int32.not_lt.mp c4))))] at hp
          exact hp
theorem w1 {W : Nat} (h : 1 ≤ W) : nI W - 1 = nI (W - 1) := pk_sub (a := W) (b := 1) h
set_option maxHeartbeats 4000000 in
set_option maxRecDepth 100000 in
theorem d_sumOf {b : Nat} (hd : σ[1]? = some (edk B W wr fu)) (hw : σ[2]? = some (ear 32768 wf)) (hB : B ≤ 512) (hW : W ≤ 64) (hW1 : 1 ≤ W) (hb : b < B) : MD1 mdX0_sumOf [.ref 1, .int (nI b)] σ (some (.int (sumD wf (W * b) (W - 1)))) σ := by
  refine md_of [some (.ref 1), some (.int (nI b)), none, none] rfl (Nat.le_of_ble_eq_true rfl) (by decide) (fun X Post hX hp => ?_)
  have loop : ∀ (r i : Nat), i + r = W - 1 → Wp X Post 5 [some (.ref 1), some (.int (nI b)), some (.int (sumD wf (W * b) i)), some (.int (nI i))] [] σ := by
    intro r
    induction r with
    | zero =>
      intro i hi
      rw [show i = W - 1 by omega]
      refine wp_iload_n hX dX0_sumOf_5 rfl ?_
      refine wp_aload_n hX dX0_sumOf_6 rfl ?_
      refine wp_get hX dX0_sumOf_7 flX0_23 hd rfl ?_
      refine wp_iconst (v := 1) hX dX0_sumOf_10 ic_1 ?_
      refine wp_isub hX dX0_sumOf_11 ?_
      refine wp_ti (y := (nI (W - 1))) (w1 hW1) ?_
      refine wp_icmp_ge (tgt := 33) hX dX0_sumOf_12 (by decide) (fun _ => ?_) (fun c => absurd (nI_le (Nat.le_refl _) (by omega)) c)
      refine wp_iload_n hX dX0_sumOf_33 rfl ?_
      refine wp_iret hX dX0_sumOf_34 rfl rfl ?_
      exact hp
    | succ r ih =>
      intro i hi
      refine wp_iload_n hX dX0_sumOf_5 rfl ?_
      refine wp_aload_n hX dX0_sumOf_6 rfl ?_
      refine wp_get hX dX0_sumOf_7 flX0_23 hd rfl ?_
      refine wp_iconst (v := 1) hX dX0_sumOf_10 ic_1 ?_
      refine wp_isub hX dX0_sumOf_11 ?_
      refine wp_ti (y := (nI (W - 1))) (w1 hW1) ?_
      refine wp_icmp_ge (tgt := 33) hX dX0_sumOf_12 (by decide) (fun c => absurd c (nI_ge (by omega) (by omega))) (fun _ => ?_)
      refine wp_bipush (v := 31) hX dX0_sumOf_15 bp_31 ?_
      refine wp_iload_n hX dX0_sumOf_17 rfl ?_
      refine wp_imul hX dX0_sumOf_18 ?_
      refine wp_aload_n hX dX0_sumOf_19 rfl ?_
      refine wp_iload_n hX dX0_sumOf_20 rfl ?_
      refine wp_iload_n hX dX0_sumOf_21 rfl ?_
      refine wp_cv2 hX dX0_sumOf_22 mlX0_44 ⟨Nat.le_of_ble_eq_true rfl, Nat.le_of_ble_eq_true rfl⟩ (d_wordAt hd hw hB hW) hd (Nat.le_of_ble_eq_true rfl) ?_
      rw [wA_in hB hW hb (by omega)]
      refine wp_iadd hX dX0_sumOf_25 ?_
      refine wp_istore_n hX dX0_sumOf_26 (Nat.le_of_ble_eq_true rfl) rfl ?_
      refine wp_iinc hX dX0_sumOf_27 ic_1 rfl (Nat.le_of_ble_eq_true rfl) rfl ?_
      refine wp_goto (tgt := 5) hX dX0_sumOf_30 (by decide) ?_
      rw [nI_1]
      exact ih (i + 1) (by omega)
  refine wp_bipush (v := 7) hX dX0_sumOf_0 bp_7 ?_
  refine wp_istore_n hX dX0_sumOf_2 (Nat.le_of_ble_eq_true rfl) rfl ?_
  refine wp_iconst (v := 0) hX dX0_sumOf_3 ic_0 ?_
  refine wp_istore_n hX dX0_sumOf_4 (Nat.le_of_ble_eq_true rfl) rfl ?_
  exact loop (W - 1) 0 (by omega)
set_option maxHeartbeats 4000000 in
set_option maxRecDepth 100000 in
theorem d_isGood {b : Nat} (hd : σ[1]? = some (edk B W wr fu)) (hw : σ[2]? = some (ear 32768 wf)) (hB : B ≤ 512) (hW : W ≤ 64) (hW1 : 1 ≤ W) (hb : b < B) : MD1 mdX0_isGood [.ref 1, .int (nI b)] σ (some (.int (b2i (decide (wf (W * b + (W - 1)) = sumD wf (W * b) (W - 1)))))) σ := by
  refine md_of [some (.ref 1), some (.int (nI b))] rfl (Nat.le_of_ble_eq_true rfl) (by decide) (fun X Post hX hp => ?_)
  refine wp_aload_n hX dX0_isGood_0 rfl ?_
  refine wp_iload_n hX dX0_isGood_1 rfl ?_
  refine wp_aload_n hX dX0_isGood_2 rfl ?_
  refine wp_get hX dX0_isGood_3 flX0_23 hd rfl ?_
  refine wp_iconst (v := 1) hX dX0_isGood_6 ic_1 ?_
  refine wp_isub hX dX0_isGood_7 ?_
  refine wp_ti (y := (nI (W - 1))) (w1 hW1) ?_
  refine wp_cv2 hX dX0_isGood_8 mlX0_44 ⟨Nat.le_of_ble_eq_true rfl, Nat.le_of_ble_eq_true rfl⟩ (d_wordAt hd hw hB hW) hd (Nat.le_of_ble_eq_true rfl) ?_
  rw [wA_in hB hW hb (by omega)]
  refine wp_aload_n hX dX0_isGood_11 rfl ?_
  refine wp_iload_n hX dX0_isGood_12 rfl ?_
  refine wp_cv1 hX dX0_isGood_13 mlX0_47 ⟨Nat.le_of_ble_eq_true rfl, Nat.le_of_ble_eq_true rfl⟩ (d_sumOf hd hw hB hW hW1 hb) hd (Nat.le_of_ble_eq_true rfl) ?_
  refine wp_icmp_ne (tgt := 23) hX dX0_isGood_16 (by decide) (fun c => ?_) (fun c => ?_)
  · refine wp_iconst (v := 0) hX dX0_isGood_23 ic_0 ?_
    refine wp_iret hX dX0_isGood_24 rfl rfl ?_
    rw [decide_eq_false c] at hp
    exact hp
  · refine wp_iconst (v := 1) hX dX0_isGood_19 ic_1 ?_
    refine wp_goto (tgt := 24) hX dX0_isGood_20 (by decide) ?_
    refine wp_iret hX dX0_isGood_24 rfl rfl ?_
    rw [decide_eq_true c] at hp
    exact hp
set_option maxHeartbeats 4000000 in
set_option maxRecDepth 100000 in
theorem d_clearPage (hd : σ[1]? = some (edk B W wr fu)) (hp3 : σ[3]? = some (ear 64 pf)) : MD1 mdX0_clearPage [.ref 1] σ none (σ.set 3 (ear 64 (fun j => if j < 64 then 0 else pf j))) := by
  refine md_of [some (.ref 1)] rfl (Nat.le_of_ble_eq_true rfl) (by decide) (fun X Post hX hp => ?_)
  refine wp_aload_n hX dX0_clearPage_0 rfl ?_
  refine wp_get hX dX0_clearPage_1 flX0_16 hd rfl ?_
  refine wp_iconst (v := 0) hX dX0_clearPage_4 ic_0 ?_
  refine wp_cs2 hX dX0_clearPage_5 mlX0_32 ⟨Nat.le_of_ble_eq_true rfl, Nat.le_of_ble_eq_true rfl⟩ (d_fill hp3 (by decide)) (Nat.le_of_ble_eq_true rfl) ?_
  refine wp_vret hX dX0_clearPage_8 rfl ?_
  exact hp
set_option maxHeartbeats 4000000 in
set_option maxRecDepth 100000 in
theorem d_setPage {i : Nat} {x : Int32} (hd : σ[1]? = some (edk B W wr fu)) (hp3 : σ[3]? = some (ear 64 pf)) (hW : W ≤ 64) (hi : i + 1 < W) : MD1 mdX0_setPage [.ref 1, .int (nI i), .int x] σ none (σ.set 3 (ear 64 (upd pf i x))) := by
  refine md_of [some (.ref 1), some (.int (nI i)), some (.int x)] rfl (Nat.le_of_ble_eq_true rfl) (by decide) (fun X Post hX hp => ?_)
  refine wp_iload_n hX dX0_setPage_0 rfl ?_
  refine wp_if_lt (tgt := 21) hX dX0_setPage_1 (by decide) (fun c => absurd c (nI_pos (by omega))) (fun _ => ?_)
  refine wp_iload_n hX dX0_setPage_4 rfl ?_
  refine wp_aload_n hX dX0_setPage_5 rfl ?_
  refine wp_get hX dX0_setPage_6 flX0_23 hd rfl ?_
  refine wp_iconst (v := 1) hX dX0_setPage_9 ic_1 ?_
  refine wp_isub hX dX0_setPage_10 ?_
  refine wp_ti (y := (nI (W - 1))) (w1 (by omega)) ?_
  refine wp_icmp_ge (tgt := 21) hX dX0_setPage_11 (by decide) (fun c => absurd c (nI_ge (by omega) (by omega))) (fun _ => ?_)
  refine wp_aload_n hX dX0_setPage_14 rfl ?_
  refine wp_get hX dX0_setPage_15 flX0_16 hd rfl ?_
  refine wp_iload_n hX dX0_setPage_18 rfl ?_
  refine wp_iload_n hX dX0_setPage_19 rfl ?_
  refine wp_iast hX dX0_setPage_20 (hp3) (vp_in_nI (by omega) (by decide)) ?_
  rw [nI_clamp (by omega)]
  refine wp_vret hX dX0_setPage_21 rfl ?_
  exact hp
theorem wrD_eq (hW1 : 1 ≤ W) (b : Nat) : upd (va_cpy pf wf 0 (W * b) W) (W * b + (W - 1)) (sumD (va_cpy pf wf 0 (W * b) W) (W * b) (W - 1)) = wrD wf W b pf := by
  have hs : sumD (va_cpy pf wf 0 (W * b) W) (W * b) (W - 1) = sumD pf 0 (W - 1) := sumD_congr _ (fun i hi => by
    rw [pk_cpy_in (by omega) (by omega)]
    congr 1
    omega)
  rw [hs]
  funext j
  unfold wrD
  by_cases h1 : j = W * b + (W - 1)
  · rw [h1, pk_us, if_pos (by omega), if_pos rfl]
  · rw [pk_un h1]
    by_cases h2 : W * b ≤ j ∧ j < W * b + W
    · rw [if_pos h2, if_neg h1, pk_cpy_in h2.1 h2.2]
      congr 1
      omega
    · rw [if_neg h2, pk_cpy_out (by omega)]
set_option maxHeartbeats 4000000 in
set_option maxRecDepth 100000 in
theorem d_writePage_no {b : Nat} (hd : σ[1]? = some (edk B W wr fu)) (hB : B ≤ 512) (hW : W ≤ 64) (hW1 : 1 ≤ W) (hb : b < B) (hf : fu = 1) : MD1 mdX0_writePage [.ref 1, .int (nI b)] σ (some (.int 0)) (σ.set 1 (edk B W wr 0)) := by
  refine md_of [some (.ref 1), some (.int (nI b))] rfl (Nat.le_of_ble_eq_true rfl) (by decide) (fun X Post hX hp => ?_)
  subst hf
  refine wp_aload_n hX dX0_writePage_0 rfl ?_
  refine wp_get hX dX0_writePage_1 flX0_23 hd rfl ?_
  refine wp_iconst (v := 1) hX dX0_writePage_4 ic_1 ?_
  refine wp_icmp_lt (tgt := 20) hX dX0_writePage_5 (by decide) (fun c => absurd c (nI_nlt (a := W) (b := 1) hW1 (by omega))) (fun _ => ?_)
  refine wp_iload_n hX dX0_writePage_8 rfl ?_
  refine wp_if_lt (tgt := 20) hX dX0_writePage_9 (by decide) (fun c => absurd c (nI_pos (by omega))) (fun _ => ?_)
  refine wp_iload_n hX dX0_writePage_12 rfl ?_
  refine wp_aload_n hX dX0_writePage_13 rfl ?_
  refine wp_get hX dX0_writePage_14 flX0_19 hd rfl ?_
  refine wp_icmp_lt (tgt := 22) hX dX0_writePage_17 (by decide) (fun _ => ?_) (fun c => absurd (nI_lt hb (by omega)) c)
  refine wp_aload_n hX dX0_writePage_22 rfl ?_
  refine wp_get hX dX0_writePage_23 flX0_29 hd rfl ?_
  refine wp_if_le (tgt := 48) hX dX0_writePage_26 (by decide) (fun c => absurd c (by decide)) (fun _ => ?_)
  refine wp_aload_n hX dX0_writePage_29 rfl ?_
  refine wp_dup hX dX0_writePage_30 rfl ?_
  refine wp_get hX dX0_writePage_31 flX0_29 hd rfl ?_
  refine wp_iconst (v := 1) hX dX0_writePage_34 ic_1 ?_
  refine wp_isub hX dX0_writePage_35 ?_
  refine wp_ti (y := (0)) (by decide) ?_
  refine wp_put hX dX0_writePage_36 fwX0_29 hd (Nat.le_of_ble_eq_true rfl) rfl rfl ?_
  refine wp_aload_n hX dX0_writePage_39 rfl ?_
  refine wp_get hX dX0_writePage_40 flX0_29 (aw_eq hd) rfl ?_
  refine wp_if_ne (tgt := 48) hX dX0_writePage_43 (by decide) (fun c => absurd (rfl) c) (fun _ => ?_)
  refine wp_iconst (v := 0) hX dX0_writePage_46 ic_0 ?_
  refine wp_iret hX dX0_writePage_47 rfl rfl ?_
  exact hp
set_option maxHeartbeats 4000000 in
set_option maxRecDepth 100000 in
theorem d_writePage_ok {b : Nat} (hd : σ[1]? = some (edk B W wr fu)) (hw : σ[2]? = some (ear 32768 wf)) (hp3 : σ[3]? = some (ear 64 pf)) (hB : B ≤ 512) (hW : W ≤ 64) (hW1 : 1 ≤ W) (hb : b < B) (hf : ¬ fu = 1) : MD1 mdX0_writePage [.ref 1, .int (nI b)] σ (some (.int 1)) ((σ.set 2 (ear 32768 (wrD wf W b pf))).set 1 (edk B W (wr + 1) (pwd fu))) := by
  refine md_of [some (.ref 1), some (.int (nI b))] rfl (Nat.le_of_ble_eq_true rfl) (by decide) (fun X Post hX hp => ?_)
  have hix := ixb hB hW hb (show W - 1 < W by omega)
  have l1 : W * b < 2 ^ 31 := by omega
  have l2 : W < 2 ^ 31 := by omega
  have tail : ∀ fu1, fu1 = pwd fu → Wp X Post 48 [some (.ref 1), some (.int (nI b))] [] (σ.set 1 (edk B W wr fu1)) := by
    intro fu1 hfu
    have hw := (aw_ne (c := edk B W wr fu1) (show 1 ≠ 2 by decide)).trans hw
    have hp3 := (aw_ne (c := edk B W wr fu1) (show 1 ≠ 3 by decide)).trans hp3
    have hd := aw_eq (c := edk B W wr fu1) hd
    refine wp_aload_n hX dX0_writePage_48 rfl ?_
    refine wp_get hX dX0_writePage_49 flX0_16 hd rfl ?_
    refine wp_iconst (v := 0) hX dX0_writePage_52 ic_0 ?_
    refine wp_aload_n hX dX0_writePage_53 rfl ?_
    refine wp_get hX dX0_writePage_54 flX0_10 hd rfl ?_
    refine wp_iload_n hX dX0_writePage_57 rfl ?_
    refine wp_aload_n hX dX0_writePage_58 rfl ?_
    refine wp_get hX dX0_writePage_59 flX0_23 hd rfl ?_
    refine wp_imul hX dX0_writePage_62 ?_
    refine wp_ti (y := (nI (W * b))) (by rw [pk_mul, Nat.mul_comm b W]) ?_
    refine wp_aload_n hX dX0_writePage_63 rfl ?_
    refine wp_get hX dX0_writePage_64 flX0_23 hd rfl ?_
    refine wp_copy hX dX0_writePage_67 mlX0_51 ⟨Nat.le_of_ble_eq_true rfl, Nat.le_of_ble_eq_true rfl⟩ (Nat.le_of_ble_eq_true rfl) (hp3) (hw) (by decide) (nI_pos l1) (nI_pos l2) (by rw [nI_clamp l2]; show 0 + W ≤ 64; omega) (by rw [nI_clamp l1, nI_clamp l2]; omega) ?_
    rw [nI_clamp l1, nI_clamp l2, show (0 : Int32).toNatClampNeg = 0 from rfl]
    have hd := (aw_ne (c := ear 32768 (va_cpy pf wf 0 (W * b) W)) (show 2 ≠ 1 by decide)).trans hd
    have hw := aw_eq (c := ear 32768 (va_cpy pf wf 0 (W * b) W)) hw
    refine wp_aload_n hX dX0_writePage_70 rfl ?_
    refine wp_get hX dX0_writePage_71 flX0_10 hd rfl ?_
    refine wp_iload_n hX dX0_writePage_74 rfl ?_
    refine wp_aload_n hX dX0_writePage_75 rfl ?_
    refine wp_get hX dX0_writePage_76 flX0_23 hd rfl ?_
    refine wp_imul hX dX0_writePage_79 ?_
    refine wp_aload_n hX dX0_writePage_80 rfl ?_
    refine wp_get hX dX0_writePage_81 flX0_23 hd rfl ?_
    refine wp_iadd hX dX0_writePage_84 ?_
    refine wp_iconst (v := 1) hX dX0_writePage_85 ic_1 ?_
    refine wp_isub hX dX0_writePage_86 ?_
    refine wp_ti (y := (nI (W * b + (W - 1)))) (by rw [pk_mul, nI_add, Nat.mul_comm b W]; exact (pk_sub (a := W * b + W) (b := 1) (by omega)).trans (by congr 1; omega)) ?_
    refine wp_aload_n hX dX0_writePage_87 rfl ?_
    refine wp_iload_n hX dX0_writePage_88 rfl ?_
    refine wp_cv1 hX dX0_writePage_89 mlX0_47 ⟨Nat.le_of_ble_eq_true rfl, Nat.le_of_ble_eq_true rfl⟩ (d_sumOf hd hw hB hW hW1 hb) hd (Nat.le_of_ble_eq_true rfl) ?_
    refine wp_iast hX dX0_writePage_92 (hw) (vp_in_nI hix (by decide)) ?_
    rw [nI_clamp (by omega), aw_ss, wrD_eq hW1]
    have hd := (aw_ne (c := ear 32768 (wrD wf W b pf)) (show 2 ≠ 1 by decide)).trans (aw_eq (c := edk B W wr fu1) ‹σ[1]? = some (edk B W wr fu)›)
    refine wp_aload_n hX dX0_writePage_93 rfl ?_
    refine wp_dup hX dX0_writePage_94 rfl ?_
    refine wp_get hX dX0_writePage_95 flX0_26 hd rfl ?_
    refine wp_iconst (v := 1) hX dX0_writePage_98 ic_1 ?_
    refine wp_iadd hX dX0_writePage_99 ?_
    refine wp_put hX dX0_writePage_100 fwX0_26 hd (Nat.le_of_ble_eq_true rfl) rfl rfl ?_
    refine wp_iconst (v := 1) hX dX0_writePage_103 ic_1 ?_
    refine wp_iret hX dX0_writePage_104 rfl rfl ?_
    rw [hfu]
    rw [← aw_cc (i := 1) (j := 2) (by decide)] at hp
    rw [aw_cc (i := 2) (j := 1) (by decide), aw_ss, aw_cc (i := 1) (j := 2) (by decide)]
    rw [aw_cc (i := 1) (j := 2) (by decide)] at hp
    exact hp
  refine wp_aload_n hX dX0_writePage_0 rfl ?_
  refine wp_get hX dX0_writePage_1 flX0_23 hd rfl ?_
  refine wp_iconst (v := 1) hX dX0_writePage_4 ic_1 ?_
  refine wp_icmp_lt (tgt := 20) hX dX0_writePage_5 (by decide) (fun c => absurd c (nI_nlt (a := W) (b := 1) hW1 (by omega))) (fun _ => ?_)
  refine wp_iload_n hX dX0_writePage_8 rfl ?_
  refine wp_if_lt (tgt := 20) hX dX0_writePage_9 (by decide) (fun c => absurd c (nI_pos (by omega))) (fun _ => ?_)
  refine wp_iload_n hX dX0_writePage_12 rfl ?_
  refine wp_aload_n hX dX0_writePage_13 rfl ?_
  refine wp_get hX dX0_writePage_14 flX0_19 hd rfl ?_
  refine wp_icmp_lt (tgt := 22) hX dX0_writePage_17 (by decide) (fun _ => ?_) (fun c => absurd (nI_lt hb (by omega)) c)
  refine wp_aload_n hX dX0_writePage_22 rfl ?_
  refine wp_get hX dX0_writePage_23 flX0_29 hd rfl ?_
  refine wp_if_le (tgt := 48) hX dX0_writePage_26 (by decide) (fun c => ?_) (fun c => ?_)
  · rw [← aw_id hd]
    exact tail fu (by unfold pwd; rw [if_neg (Int32.not_lt.mpr c)])
  · refine wp_aload_n hX dX0_writePage_29 rfl ?_
    refine wp_dup hX dX0_writePage_30 rfl ?_
    refine wp_get hX dX0_writePage_31 flX0_29 hd rfl ?_
    refine wp_iconst (v := 1) hX dX0_writePage_34 ic_1 ?_
    refine wp_isub hX dX0_writePage_35 ?_
    refine wp_put hX dX0_writePage_36 fwX0_29 hd (Nat.le_of_ble_eq_true rfl) rfl rfl ?_
    have c0 : 0 < fu := Int32.not_le.mp c
    have hne : ¬ fu - 1 = 0 := fun z => hf (by
      have : fu - 1 + 1 = 0 + 1 := by rw [z]
      simpa using this)
    refine wp_aload_n hX dX0_writePage_39 rfl ?_
    refine wp_get hX dX0_writePage_40 flX0_29 (aw_eq hd) rfl ?_
    refine wp_if_ne (tgt := 48) hX dX0_writePage_43 (by decide) (fun _ => ?_) (fun c => absurd c (hne))
    exact tail (fu - 1) (by unfold pwd; rw [if_pos c0])
end DK
end
section
/-! the class's world: cells 0 to 14; what is behind them is another's -/
abbrev MP : Type := Nat × (Nat → Int32) × (Nat → Int32)
/-- the disk's words, the writes, the fuse -/
abbrev DQ : Type := (Nat → Int32) × Int32 × Int32
abbrev ejn (jb jp jr : Nat) : aE := .inr (1, [.ref 1, .int (nI jb), .int (nI jp), .int (nI jr)])
abbrev etr (tf te : Nat) : aE := .inr (3, [.ref 1, .int (nI tf), .int (nI te)])
abbrev ebs (st it : Int32) : aE := .inr (4, [.ref 1, .ref 4, .ref 5, .ref 6, .ref 9, .ref 12, .int st, .int it])
abbrev wX (st it : Int32) (B W : Nat) (q : DQ) (pf : Nat → Int32) (jb jp jr tf te : Nat) (C S H : MP) (τ : aW) : aW :=
  ebs st it :: edk B W q.2.1 q.2.2 :: ear 32768 q.1 :: ear 64 pf :: ejn jb jp jr :: etr tf te :: ekm 7 8 C.1 :: ear 8700 C.2.1 :: ear 8700 C.2.2 :: ekm 10 11 S.1 :: ear 8700 S.2.1 :: ear 8700 S.2.2 :: ekm 13 14 H.1 :: ear 600 H.2.1 :: ear 600 H.2.2 :: τ
def KAm (m : PM) (q : MP) : Prop := KA m q.1 q.2.1 q.2.2
/-- the least number of rows of e that hold n -/
def cdv (n e : Nat) : Nat := (n + e - 1) / e
theorem cdv_0 {e : Nat} (he : 1 ≤ e) : cdv 0 e = 0 := by unfold cdv; exact Nat.div_eq_of_lt (by omega)
theorem cdv_s {n e : Nat} (hn : 1 ≤ n) (he : 1 ≤ e) : cdv n e = (n - 1) / e + 1 := by
  unfold cdv
  rw [show n + e - 1 = (n - 1) + e by omega, Nat.add_div_right _ (by omega)]
theorem cdv_le {n e : Nat} (he : 1 ≤ e) : cdv n e ≤ n := by
  rcases Nat.eq_zero_or_pos n with h | h
  · rw [h, cdv_0 he]; exact Nat.le_refl 0
  · rw [cdv_s h he]
    have := Nat.div_le_self (n - 1) e
    omega
theorem cdv_mul {n e : Nat} (he : 1 ≤ e) : n ≤ cdv n e * e := by
  rcases Nat.eq_zero_or_pos n with h | h
  · omega
  · rw [cdv_s h he, Nat.add_mul, Nat.one_mul]
    have h1 := Nat.div_add_mod (n - 1) e
    have h2 := Nat.mod_lt (n - 1) (show e > 0 by omega)
    rw [Nat.mul_comm] at h1
    omega
theorem cdv_lt {n e k : Nat} (he : 1 ≤ e) : k < cdv n e ↔ k * e < n := by
  rcases Nat.eq_zero_or_pos n with h | h
  · rw [h, cdv_0 he]; omega
  · rw [cdv_s h he]
    have : k < (n - 1) / e + 1 ↔ k ≤ (n - 1) / e := by omega
    rw [this, Nat.le_div_iff_mul_le (by omega)]
    omega
section W0
variable {σ : aW}
set_option maxHeartbeats 4000000 in
set_option maxRecDepth 100000 in
theorem b_blocksOf {n e : Nat} (hn : n < 2 ^ 31) (he : 1 ≤ e) (he2 : e < 2 ^ 31) : MD1 mdX4_blocksOf [.int (nI n), .int (nI e)] σ (some (.int (nI (cdv n e)))) σ := by
  refine md_of [some (.int (nI n)), some (.int (nI e))] rfl (Nat.le_of_ble_eq_true rfl) (by decide) (fun X Post hX hp => ?_)
  refine wp_iload_n hX dX4_blocksOf_0 rfl ?_
  refine wp_iconst (v := 1) hX dX4_blocksOf_1 ic_1 ?_
  refine wp_icmp_lt (tgt := 10) hX dX4_blocksOf_2 (by decide) (fun c => ?_) (fun c => ?_)
  · have h0 : n = 0 := by
      have := (nI_ltI (a := n) (b := 1) hn (by decide)).mp c
      omega
    refine wp_iconst (v := 0) hX dX4_blocksOf_10 ic_0 ?_
    refine wp_iret hX dX4_blocksOf_11 rfl rfl ?_
    rw [h0, cdv_0 he] at hp
    exact hp
  · have h1 : 1 ≤ n := Nat.le_of_not_lt (fun q => c (nI_lt (a := n) (b := 1) q (by decide)))
    refine wp_iload_n hX dX4_blocksOf_5 rfl ?_
    refine wp_iconst (v := 1) hX dX4_blocksOf_6 ic_1 ?_
    refine wp_icmp_ge (tgt := 12) hX dX4_blocksOf_7 (by decide) (fun _ => ?_) (fun c => absurd (nI_le (a := 1) (b := e) he he2) c)
    refine wp_iload_n hX dX4_blocksOf_12 rfl ?_
    refine wp_iconst (v := 1) hX dX4_blocksOf_13 ic_1 ?_
    refine wp_isub hX dX4_blocksOf_14 ?_
    refine wp_ti (y := (nI (n - 1))) (pk_sub (a := n) (b := 1) h1) ?_
    refine wp_iload_n hX dX4_blocksOf_15 rfl ?_
    refine wp_idiv hX dX4_blocksOf_16 (nI_ne0 he he2) ?_
    refine wp_ti (y := (nI ((n - 1) / e))) (pk_div (by omega) (by omega) he2) ?_
    refine wp_iconst (v := 1) hX dX4_blocksOf_17 ic_1 ?_
    refine wp_iadd hX dX4_blocksOf_18 ?_
    refine wp_ti (y := nI ((n - 1) / e + 1)) (nI_1 _) ?_
    refine wp_iret hX dX4_blocksOf_19 rfl rfl ?_
    rw [cdv_s h1 he] at hp
    exact hp
end W0
end
section
/-! Journal: cell 4 -/
/-- blocks of a record of c changes -/
def rB (W c : Nat) : Nat := if c = 0 then 0 else cdv (1 + 3 * c) (W - 5)
/-- int i of the record of the changes H, where S is seen -/
def recH (H S : PM) (i : Nat) : Int32 := if i = 0 then nI H.length else
  if (i - 1) % 3 = 0 then (if (lk S (H.getD ((i - 1) / 3) (0, 0)).1).isSome then 1 else 2) else if (i - 1) % 3 = 1 then (H.getD ((i - 1) / 3) (0, 0)).1 else (H.getD ((i - 1) / 3) (0, 0)).2
section JN
variable {st it : Int32} {B W : Nat} {q : DQ} {pf : Nat → Int32} {jb jp jr tf te : Nat} {C S H : MP} {τ : aW}
set_option maxHeartbeats 4000000 in
set_option maxRecDepth 100000 in
theorem j_restart : MD1 mdX1_restart [.ref 4] (wX st it B W q pf jb jp jr tf te C S H τ) none (wX st it B W q pf jb 0 0 tf te C S H τ) := by
  refine md_of [some (.ref 4)] rfl (Nat.le_of_ble_eq_true rfl) (by decide) (fun X Post hX hp => ?_)
  refine wp_aload_n hX dX1_restart_0 rfl ?_
  refine wp_iconst (v := 0) hX dX1_restart_1 ic_0 ?_
  refine wp_put hX dX1_restart_2 fwX1_13 rfl (Nat.le_of_ble_eq_true rfl) rfl rfl ?_
  refine wp_aload_n hX dX1_restart_5 rfl ?_
  refine wp_iconst (v := 0) hX dX1_restart_6 ic_0 ?_
  refine wp_put hX dX1_restart_7 fwX1_16 rfl (Nat.le_of_ble_eq_true rfl) rfl rfl ?_
  refine wp_vret hX dX1_restart_10 rfl ?_
  exact hp
set_option maxHeartbeats 4000000 in
set_option maxRecDepth 100000 in
theorem j_layOut {x : Nat} : MD1 mdX1_layOut [.ref 4, .int (nI x)] (wX st it B W q pf jb jp jr tf te C S H τ) none (wX st it B W q pf x 0 0 tf te C S H τ) := by
  refine md_of [some (.ref 4), some (.int (nI x))] rfl (Nat.le_of_ble_eq_true rfl) (by decide) (fun X Post hX hp => ?_)
  refine wp_aload_n hX dX1_layOut_0 rfl ?_
  refine wp_iload_n hX dX1_layOut_1 rfl ?_
  refine wp_put hX dX1_layOut_2 fwX1_7 rfl (Nat.le_of_ble_eq_true rfl) rfl rfl ?_
  refine wp_aload_n hX dX1_layOut_5 rfl ?_
  refine wp_cv0 hX dX1_layOut_6 mlX1_23 ⟨Nat.le_of_ble_eq_true rfl, Nat.le_of_ble_eq_true rfl⟩ (j_restart (jb := x) (jp := jp) (jr := jr)) rfl (Nat.le_of_ble_eq_true rfl) ?_
  refine wp_vret hX dX1_layOut_9 rfl ?_
  exact hp
set_option maxRecDepth 100000 in
theorem j_usedBlocks : MD1 mdX1_usedBlocks [.ref 4] (wX st it B W q pf jb jp jr tf te C S H τ) (some (.int (nI jp))) (wX st it B W q pf jb jp jr tf te C S H τ) := by
  refine md_of [some (.ref 4)] rfl (Nat.le_of_ble_eq_true rfl) (by decide) (fun X Post hX hp => ?_)
  refine wp_aload_n hX dX1_usedBlocks_0 rfl ?_
  refine wp_get hX dX1_usedBlocks_1 flX1_13 rfl rfl ?_
  refine wp_iret hX dX1_usedBlocks_4 rfl rfl ?_
  exact hp
set_option maxRecDepth 100000 in
theorem j_recordCount : MD1 mdX1_recordCount [.ref 4] (wX st it B W q pf jb jp jr tf te C S H τ) (some (.int (nI jr))) (wX st it B W q pf jb jp jr tf te C S H τ) := by
  refine md_of [some (.ref 4)] rfl (Nat.le_of_ble_eq_true rfl) (by decide) (fun X Post hX hp => ?_)
  refine wp_aload_n hX dX1_recordCount_0 rfl ?_
  refine wp_get hX dX1_recordCount_1 flX1_16 rfl rfl ?_
  refine wp_iret hX dX1_recordCount_4 rfl rfl ?_
  exact hp
set_option maxRecDepth 100000 in
theorem j_partInts (hW : 5 ≤ W) : MD1 mdX1_partInts [.ref 4] (wX st it B W q pf jb jp jr tf te C S H τ) (some (.int (nI (W - 5)))) (wX st it B W q pf jb jp jr tf te C S H τ) := by
  refine md_of [some (.ref 4)] rfl (Nat.le_of_ble_eq_true rfl) (by decide) (fun X Post hX hp => ?_)
  refine wp_aload_n hX dX1_partInts_0 rfl ?_
  refine wp_get hX dX1_partInts_1 flX1_19 rfl rfl ?_
  refine wp_cv0 hX dX1_partInts_4 mlX1_64 ⟨Nat.le_of_ble_eq_true rfl, Nat.le_of_ble_eq_true rfl⟩ (d_wordsInBlock rfl) rfl (Nat.le_of_ble_eq_true rfl) ?_
  refine wp_iconst (v := 5) hX dX1_partInts_7 ic_5 ?_
  refine wp_isub hX dX1_partInts_8 ?_
  refine wp_ti (y := nI (W - 5)) (pk_sub (a := W) (b := 5) hW) ?_
  refine wp_iret hX dX1_partInts_9 rfl rfl ?_
  exact hp
set_option maxHeartbeats 4000000 in
set_option maxRecDepth 100000 in
theorem j_blocksFor {c : Nat} (hW : 6 ≤ W) (hW2 : W ≤ 64) (hc : c < 2 ^ 29) : MD1 mdX1_blocksFor [.ref 4, .int (nI c)] (wX st it B W q pf jb jp jr tf te C S H τ) (some (.int (nI (rB W c)))) (wX st it B W q pf jb jp jr tf te C S H τ) := by
  refine md_of [some (.ref 4), some (.int (nI c))] rfl (Nat.le_of_ble_eq_true rfl) (by decide) (fun X Post hX hp => ?_)
  have hcu : (2 : Nat) ^ 29 = 536870912 := by decide
  refine wp_iload_n hX dX1_blocksFor_0 rfl ?_
  refine wp_iconst (v := 1) hX dX1_blocksFor_1 ic_1 ?_
  refine wp_icmp_ge (tgt := 9) hX dX1_blocksFor_2 (by decide) (fun d => ?_) (fun d => ?_)
  · have h1 : ¬ c = 0 := by
      have := (nI_leI (a := 1) (b := c) (by decide) (by omega)).mp d
      omega
    refine wp_iconst (v := 1) hX dX1_blocksFor_9 ic_1 ?_
    refine wp_iconst (v := 3) hX dX1_blocksFor_10 ic_3 ?_
    refine wp_iload_n hX dX1_blocksFor_11 rfl ?_
    refine wp_imul hX dX1_blocksFor_12 ?_
    refine wp_iadd hX dX1_blocksFor_13 ?_
    refine wp_ti (y := (nI (1 + 3 * c))) (by rw [show (3 : Int32) = nI 3 from rfl, show (1 : Int32) = nI 1 from rfl, pk_mul, nI_add]) ?_
    refine wp_aload_n hX dX1_blocksFor_14 rfl ?_
    refine wp_cv0 hX dX1_blocksFor_15 mlX1_45 ⟨Nat.le_of_ble_eq_true rfl, Nat.le_of_ble_eq_true rfl⟩ (j_partInts (by omega)) rfl (Nat.le_of_ble_eq_true rfl) ?_
    refine wp_cn2 hX dX1_blocksFor_18 msX4_blocksOf (fun s h => h.1) ⟨Nat.le_of_ble_eq_true rfl, Nat.le_of_ble_eq_true rfl⟩ (b_blocksOf (by omega) (by omega) (by omega)) (Nat.le_of_ble_eq_true rfl) ?_
    refine wp_iret hX dX1_blocksFor_21 rfl rfl ?_
    rw [rB, if_neg h1] at hp
    exact hp
  · have h1 : c = 0 := by
      rcases Nat.eq_zero_or_pos c with h | h
      · exact h
      · exact absurd (nI_le (a := 1) (b := c) h (by omega)) d
    refine wp_iconst (v := 0) hX dX1_blocksFor_5 ic_0 ?_
    refine wp_goto (tgt := 21) hX dX1_blocksFor_6 (by decide) ?_
    refine wp_iret hX dX1_blocksFor_21 rfl rfl ?_
    rw [rB, if_pos h1] at hp
    exact hp
set_option maxHeartbeats 4000000 in
set_option maxRecDepth 100000 in
theorem j_hasRoom {c : Nat} (hW : 6 ≤ W) (hW2 : W ≤ 64) (hc : c < 2 ^ 29) (hj : jp ≤ jb) (hb : jb ≤ 128) : MD1 mdX1_hasRoom [.ref 4, .int (nI c)] (wX st it B W q pf jb jp jr tf te C S H τ) (some (.int (b2i (decide (rB W c ≤ jb - jp))))) (wX st it B W q pf jb jp jr tf te C S H τ) := by
  refine md_of [some (.ref 4), some (.int (nI c))] rfl (Nat.le_of_ble_eq_true rfl) (by decide) (fun X Post hX hp => ?_)
  have hcu : (2 : Nat) ^ 29 = 536870912 := by decide
  have hr : rB W c < 2 ^ 31 := by
    unfold rB
    split
    · decide
    · have := cdv_le (n := 1 + 3 * c) (e := W - 5) (by omega)
      omega
  refine wp_aload_n hX dX1_hasRoom_0 rfl ?_
  refine wp_iload_n hX dX1_hasRoom_1 rfl ?_
  refine wp_cv1 hX dX1_hasRoom_2 mlX1_26 ⟨Nat.le_of_ble_eq_true rfl, Nat.le_of_ble_eq_true rfl⟩ (j_blocksFor hW hW2 hc) rfl (Nat.le_of_ble_eq_true rfl) ?_
  refine wp_aload_n hX dX1_hasRoom_5 rfl ?_
  refine wp_get hX dX1_hasRoom_6 flX1_7 rfl rfl ?_
  refine wp_aload_n hX dX1_hasRoom_9 rfl ?_
  refine wp_get hX dX1_hasRoom_10 flX1_13 rfl rfl ?_
  refine wp_isub hX dX1_hasRoom_13 ?_
  refine wp_ti (y := nI (jb - jp)) (pk_sub hj) ?_
  refine wp_icmp_gt (tgt := 21) hX dX1_hasRoom_14 (by decide) (fun d => ?_) (fun d => ?_)
  · have := (nI_ltI (a := jb - jp) (b := rB W c) (by omega) hr).mp d
    refine wp_iconst (v := 0) hX dX1_hasRoom_21 ic_0 ?_
    refine wp_iret hX dX1_hasRoom_22 rfl rfl ?_
    rw [decide_eq_false (by omega)] at hp
    exact hp
  · have : rB W c ≤ jb - jp := Nat.le_of_not_lt (fun z => d (nI_lt z hr))
    refine wp_iconst (v := 1) hX dX1_hasRoom_17 ic_1 ?_
    refine wp_goto (tgt := 22) hX dX1_hasRoom_18 (by decide) ?_
    refine wp_iret hX dX1_hasRoom_22 rfl rfl ?_
    rw [decide_eq_true this] at hp
    exact hp
end JN
end
section
/-! Journal: what goes to the log -/
/-- page with n ints of g from place 4 on -/
def flP (pf g : Nat → Int32) (n : Nat) : Nat → Int32 := fun j => if 4 ≤ j ∧ j < 4 + n then g (j - 4) else pf j
/-- block p of a record of n ints g -/
def recB (W : Nat) (g : Nat → Int32) (n : Nat) (e num bt : Int32) (p : Nat) : Nat → Int32 := fun j => if j = 0 then e else if j = 1 then num else if j = 2 then nI p else if j = 3 then bt else if j < 4 + min (W - 5) (n - (W - 5) * p) then g ((W - 5) * p + (j - 4)) else 0
/-- n writes of blocks, number i first; whether all happened, and the disk behind -/
def wrN (W : Nat) (f : Nat → Nat × (Nat → Int32)) : Nat → Nat → DQ → Bool × DQ
  | _, 0, q => (true, q)
  | i, n + 1, q => if q.2.2 = 1 then (false, (q.1, q.2.1, 0)) else wrN W f (i + 1) n (wrD q.1 W (f i).1 (f i).2, q.2.1 + 1, pwd q.2.2)
theorem wrN_s (W : Nat) (f : Nat → Nat × (Nat → Int32)) (i n : Nat) (q : DQ) : wrN W f i (n + 1) q = if q.2.2 = 1 then (false, (q.1, q.2.1, 0)) else wrN W f (i + 1) n (wrD q.1 W (f i).1 (f i).2, q.2.1 + 1, pwd q.2.2) := rfl
theorem wrD_congr {wf pf pf1 : Nat → Int32} {W b : Nat} (h : ∀ j, j < W - 1 → pf j = pf1 j) : wrD wf W b pf = wrD wf W b pf1 := by
  have hs : sumD pf 0 (W - 1) = sumD pf1 0 (W - 1) := sumD_congr _ (fun i hi => by rw [Nat.zero_add]; exact h i hi)
  funext j
  unfold wrD
  by_cases h1 : W * b ≤ j ∧ j < W * b + W
  · rw [if_pos h1, if_pos h1]
    by_cases h2 : j = W * b + (W - 1)
    · rw [if_pos h2, if_pos h2, hs]
    · rw [if_neg h2, if_neg h2, h _ (by omega)]
  · rw [if_neg h1, if_neg h1]
section JN
variable {st it : Int32} {B W : Nat} {q : DQ} {pf : Nat → Int32} {jb jp jr tf te : Nat} {C S H : MP} {τ : aW} {Hm Sm : PM}
theorem KA.getD {m : PM} {u : Nat} {kf vf : Nat → Int32} (h : KA m u kf vf) {c : Nat} (hc : c < u) : m.getD c (0, 0) = (kf c, vf c) := by
  rw [List.getD_eq_getElem?_getD, h.2 c hc]
  rfl
set_option maxHeartbeats 4000000 in
set_option maxRecDepth 100000 in
theorem j_recordInt {i : Nat} (hH : KAm Hm H) (hS : KAm Sm S) (hSs : Srt Sm) (hHu : H.1 ≤ 600) (hSu : S.1 ≤ 8700) (hi : i < 1 + 3 * Hm.length) : MD1 mdX1_recordInt [.ref 12, .ref 9, .int (nI i)] (wX st it B W q pf jb jp jr tf te C S H τ) (some (.int (recH Hm Sm i))) (wX st it B W q pf jb jp jr tf te C S H τ) := by
  refine md_of [some (.ref 12), some (.ref 9), some (.int (nI i)), none] rfl (Nat.le_of_ble_eq_true rfl) (by decide) (fun X Post hX hp => ?_)
  have hHl : Hm.length = H.1 := hH.1
  unfold recH at hp
  refine wp_iload_n hX dX1_recordInt_0 rfl ?_
  refine wp_if_ne (tgt := 9) hX dX1_recordInt_1 (by decide) (fun c => ?_) (fun c => ?_)
  · have h0 : ¬ i = 0 := fun z => c (by rw [z]; rfl)
    rw [if_neg h0] at hp
    have hcc : (i - 1) / 3 < H.1 := by omega
    rw [KA.getD hH hcc] at hp
    have e1 : nI i - 1 = nI (i - 1) := pk_sub (a := i) (b := 1) (by omega)
    refine wp_iload_n hX dX1_recordInt_9 rfl ?_
    refine wp_iconst (v := 1) hX dX1_recordInt_10 ic_1 ?_
    refine wp_isub hX dX1_recordInt_11 ?_
    refine wp_ti (y := (nI (i - 1))) (e1) ?_
    refine wp_iconst (v := 3) hX dX1_recordInt_12 ic_3 ?_
    refine wp_idiv hX dX1_recordInt_13 (by decide) ?_
    refine wp_ti (y := (nI ((i - 1) / 3))) (pk_div (a := i - 1) (d := 3) (by omega) (by decide) (by decide)) ?_
    refine wp_istore_n hX dX1_recordInt_14 (Nat.le_of_ble_eq_true rfl) rfl ?_
    refine wp_iload_n hX dX1_recordInt_15 rfl ?_
    refine wp_iconst (v := 1) hX dX1_recordInt_16 ic_1 ?_
    refine wp_isub hX dX1_recordInt_17 ?_
    refine wp_ti (y := (nI (i - 1))) (e1) ?_
    refine wp_iconst (v := 3) hX dX1_recordInt_18 ic_3 ?_
    refine wp_irem hX dX1_recordInt_19 (by decide) ?_
    refine wp_ti (y := nI ((i - 1) % 3)) (pk_rem (a := i - 1) (d := 3) (by omega) (by decide) (by decide)) ?_
    have hm3 : (i - 1) % 3 = 0 ∨ (i - 1) % 3 = 1 ∨ (i - 1) % 3 = 2 := by omega
    rcases hm3 with h3 | h3 | h3
    · rw [if_pos h3] at hp
      rw [h3]
      refine wp_lookup (off := 28) (tgt := 48) hX dX1_recordInt_20 (by decide) (by decide) (by decide) ?_
      refine wp_aload_n hX dX1_recordInt_48 rfl ?_
      refine wp_aload_n hX dX1_recordInt_49 rfl ?_
      refine wp_iload_n hX dX1_recordInt_50 rfl ?_
      refine wp_cv1 hX dX1_recordInt_51 mlX1_77 ⟨Nat.le_of_ble_eq_true rfl, Nat.le_of_ble_eq_true rfl⟩ (k_keyAt rfl rfl hHu (by decide)) rfl (Nat.le_of_ble_eq_true rfl) ?_
      rw [at0_nI (by omega), if_pos hcc]
      refine wp_cv1 hX dX1_recordInt_54 mlX1_80 ⟨Nat.le_of_ble_eq_true rfl, Nat.le_of_ble_eq_true rfl⟩ (k_holds rfl rfl hSu (by decide) hS hSs) rfl (Nat.le_of_ble_eq_true rfl) ?_
      cases hh : (lk Sm (H.2.1 ((i - 1) / 3))).isSome with
      | true =>
        rw [hh] at hp
        refine wp_if_eq (tgt := 64) hX dX1_recordInt_57 (by decide) (fun c => absurd c (by decide)) (fun _ => ?_)
        refine wp_iconst (v := 1) hX dX1_recordInt_60 ic_1 ?_
        refine wp_goto (tgt := 65) hX dX1_recordInt_61 (by decide) ?_
        refine wp_iret hX dX1_recordInt_65 rfl rfl ?_
        exact hp
      | false =>
        rw [hh] at hp
        refine wp_if_eq (tgt := 64) hX dX1_recordInt_57 (by decide) (fun _ => ?_) (fun c => absurd (rfl) c)
        refine wp_iconst (v := 2) hX dX1_recordInt_64 ic_2 ?_
        refine wp_iret hX dX1_recordInt_65 rfl rfl ?_
        exact hp
    · rw [if_neg (by omega), if_pos h3] at hp
      rw [h3]
      refine wp_lookup (off := 46) (tgt := 66) hX dX1_recordInt_20 (by decide) (by decide) (by decide) ?_
      refine wp_aload_n hX dX1_recordInt_66 rfl ?_
      refine wp_iload_n hX dX1_recordInt_67 rfl ?_
      refine wp_cv1 hX dX1_recordInt_68 mlX1_77 ⟨Nat.le_of_ble_eq_true rfl, Nat.le_of_ble_eq_true rfl⟩ (k_keyAt rfl rfl hHu (by decide)) rfl (Nat.le_of_ble_eq_true rfl) ?_
      rw [at0_nI (by omega), if_pos hcc]
      refine wp_iret hX dX1_recordInt_71 rfl rfl ?_
      exact hp
    · rw [if_neg (by omega), if_neg (by omega)] at hp
      rw [h3]
      refine wp_lookup (off := 52) (tgt := 72) hX dX1_recordInt_20 (by decide) (by decide) (by decide) ?_
      refine wp_aload_n hX dX1_recordInt_72 rfl ?_
      refine wp_iload_n hX dX1_recordInt_73 rfl ?_
      refine wp_cv1 hX dX1_recordInt_74 mlX1_83 ⟨Nat.le_of_ble_eq_true rfl, Nat.le_of_ble_eq_true rfl⟩ (k_valueAt rfl rfl hHu (by decide)) rfl (Nat.le_of_ble_eq_true rfl) ?_
      rw [at0_nI (by omega), if_pos hcc]
      refine wp_iret hX dX1_recordInt_77 rfl rfl ?_
      exact hp
  · have h0 : i = 0 := by
      rcases Nat.eq_zero_or_pos i with h | h
      · exact h
      · exact absurd c (nI_ne0 h (by omega))
    rw [if_pos h0, hHl] at hp
    refine wp_aload_n hX dX1_recordInt_4 rfl ?_
    refine wp_cv0 hX dX1_recordInt_5 mlX1_30 ⟨Nat.le_of_ble_eq_true rfl, Nat.le_of_ble_eq_true rfl⟩ (k_entries rfl) rfl (Nat.le_of_ble_eq_true rfl) ?_
    refine wp_iret hX dX1_recordInt_8 rfl rfl ?_
    exact hp
theorem flP_s (g : Nat → Int32) (i : Nat) : upd (flP pf g i) (4 + i) (g i) = flP pf g (i + 1) := by
  funext j
  unfold flP
  by_cases h : j = 4 + i
  · rw [h, pk_us, if_pos (by omega)]
    congr 1
    omega
  · rw [pk_un h]
    by_cases h2 : 4 ≤ j ∧ j < 4 + i
    · rw [if_pos h2, if_pos (by omega)]
    · rw [if_neg h2, if_neg (by omega)]
set_option maxHeartbeats 4000000 in
set_option maxRecDepth 100000 in
theorem j_fillPage {fr : Nat} (hW : 6 ≤ W) (hW2 : W ≤ 64) (hH : KAm Hm H) (hS : KAm Sm S) (hSs : Srt Sm) (hHu : H.1 ≤ 600) (hSu : S.1 ≤ 8700) (hfr : fr ≤ 1 + 3 * Hm.length) : MD1 mdX1_fillPage [.ref 4, .ref 12, .ref 9, .int (nI fr)] (wX st it B W q pf jb jp jr tf te C S H τ) none (wX st it B W q (flP pf (fun k => recH Hm Sm (fr + k)) (min (W - 5) (1 + 3 * Hm.length - fr))) jb jp jr tf te C S H τ) := by
  refine md_of [some (.ref 4), some (.ref 12), some (.ref 9), some (.int (nI fr)), none, none] rfl (Nat.le_of_ble_eq_true rfl) (by decide) (fun X Post hX hp => ?_)
  have hHl : Hm.length = H.1 := hH.1
  have loop : ∀ (r i : Nat), i + r = min (W - 5) (1 + 3 * Hm.length - fr) → Wp X Post 13 [some (.ref 4), some (.ref 12), some (.ref 9), some (.int (nI fr)), some (.int (nI (1 + 3 * Hm.length))), some (.int (nI i))] [] (wX st it B W q (flP pf (fun k => recH Hm Sm (fr + k)) i) jb jp jr tf te C S H τ) := by
    intro r
    induction r with
    | zero =>
      intro i hi
      rw [← hi] at hp
      refine wp_iload hX dX1_fillPage_13 rfl ?_
      refine wp_aload_n hX dX1_fillPage_15 rfl ?_
      refine wp_cv0 hX dX1_fillPage_16 mlX1_45 ⟨Nat.le_of_ble_eq_true rfl, Nat.le_of_ble_eq_true rfl⟩ (j_partInts (by omega)) rfl (Nat.le_of_ble_eq_true rfl) ?_
      refine wp_icmp_ge (tgt := 57) hX dX1_fillPage_19 (by decide) (fun c => ?_) (fun c => ?_)
      · refine wp_vret hX dX1_fillPage_57 rfl ?_
        exact hp
      · have h1 : i < W - 5 := Nat.lt_of_not_le (fun z => c (nI_le z (by omega)))
        refine wp_iload_n hX dX1_fillPage_22 rfl ?_
        refine wp_iload hX dX1_fillPage_23 rfl ?_
        refine wp_iadd hX dX1_fillPage_25 ?_
        refine wp_ti (y := (nI (fr + i))) (nI_add _ _) ?_
        refine wp_iload hX dX1_fillPage_26 rfl ?_
        refine wp_icmp_ge (tgt := 57) hX dX1_fillPage_28 (by decide) (fun _ => ?_) (fun c => absurd (nI_le (by omega) (by omega)) c)
        refine wp_vret hX dX1_fillPage_57 rfl ?_
        exact hp
    | succ r ih =>
      intro i hi
      refine wp_iload hX dX1_fillPage_13 rfl ?_
      refine wp_aload_n hX dX1_fillPage_15 rfl ?_
      refine wp_cv0 hX dX1_fillPage_16 mlX1_45 ⟨Nat.le_of_ble_eq_true rfl, Nat.le_of_ble_eq_true rfl⟩ (j_partInts (by omega)) rfl (Nat.le_of_ble_eq_true rfl) ?_
      refine wp_icmp_ge (tgt := 57) hX dX1_fillPage_19 (by decide) (fun c => absurd c (nI_ge (by omega) (by omega))) (fun _ => ?_)
      refine wp_iload_n hX dX1_fillPage_22 rfl ?_
      refine wp_iload hX dX1_fillPage_23 rfl ?_
      refine wp_iadd hX dX1_fillPage_25 ?_
      refine wp_ti (y := (nI (fr + i))) (nI_add _ _) ?_
      refine wp_iload hX dX1_fillPage_26 rfl ?_
      refine wp_icmp_ge (tgt := 57) hX dX1_fillPage_28 (by decide) (fun c => absurd c (nI_ge (by omega) (by omega))) (fun _ => ?_)
      refine wp_aload_n hX dX1_fillPage_31 rfl ?_
      refine wp_get hX dX1_fillPage_32 flX1_19 rfl rfl ?_
      refine wp_iconst (v := 4) hX dX1_fillPage_35 ic_4 ?_
      refine wp_iload hX dX1_fillPage_36 rfl ?_
      refine wp_iadd hX dX1_fillPage_38 ?_
      refine wp_ti (y := (nI (4 + i))) (nI_add 4 i) ?_
      refine wp_aload_n hX dX1_fillPage_39 rfl ?_
      refine wp_aload_n hX dX1_fillPage_40 rfl ?_
      refine wp_iload_n hX dX1_fillPage_41 rfl ?_
      refine wp_iload hX dX1_fillPage_42 rfl ?_
      refine wp_iadd hX dX1_fillPage_44 ?_
      refine wp_ti (y := (nI (fr + i))) (nI_add _ _) ?_
      refine wp_cs3 hX dX1_fillPage_45 mlX1_73 ⟨Nat.le_of_ble_eq_true rfl, Nat.le_of_ble_eq_true rfl⟩ (j_recordInt hH hS hSs hHu hSu (by omega)) (Nat.le_of_ble_eq_true rfl) ?_
      refine wp_cv2 hX dX1_fillPage_48 mlX1_41 ⟨Nat.le_of_ble_eq_true rfl, Nat.le_of_ble_eq_true rfl⟩ (d_setPage rfl rfl hW2 (by omega)) rfl (Nat.le_of_ble_eq_true rfl) ?_
      refine wp_eqW (σ1 := wX st it B W q (upd (flP pf (fun k => recH Hm Sm (fr + k)) i) (4 + i) (recH Hm Sm (fr + i))) jb jp jr tf te C S H τ) rfl ?_
      rw [flP_s (g := fun k => recH Hm Sm (fr + k))]
      refine wp_iinc hX dX1_fillPage_51 ic_1 rfl (Nat.le_of_ble_eq_true rfl) rfl ?_
      refine wp_goto (tgt := 13) hX dX1_fillPage_54 (by decide) ?_
      rw [nI_1]
      exact ih (i + 1) (by omega)
  refine wp_iconst (v := 1) hX dX1_fillPage_0 ic_1 ?_
  refine wp_iconst (v := 3) hX dX1_fillPage_1 ic_3 ?_
  refine wp_aload_n hX dX1_fillPage_2 rfl ?_
  refine wp_cv0 hX dX1_fillPage_3 mlX1_30 ⟨Nat.le_of_ble_eq_true rfl, Nat.le_of_ble_eq_true rfl⟩ (k_entries rfl) rfl (Nat.le_of_ble_eq_true rfl) ?_
  refine wp_imul hX dX1_fillPage_6 ?_
  refine wp_iadd hX dX1_fillPage_7 ?_
  refine wp_ti (y := (nI (1 + 3 * Hm.length))) (by rw [hHl, show (3 : Int32) = nI 3 from rfl, show (1 : Int32) = nI 1 from rfl, pk_mul, nI_add]) ?_
  refine wp_istore hX dX1_fillPage_8 (Nat.le_of_ble_eq_true rfl) rfl ?_
  refine wp_iconst (v := 0) hX dX1_fillPage_10 ic_0 ?_
  refine wp_istore hX dX1_fillPage_11 (Nat.le_of_ble_eq_true rfl) rfl ?_
  have e : flP pf (fun k => recH Hm Sm (fr + k)) 0 = pf := by
    funext j
    unfold flP
    rw [if_neg (by omega)]
  have := loop (min (W - 5) (1 + 3 * Hm.length - fr)) 0 (by omega)
  rw [e] at this
  exact this
set_option maxHeartbeats 4000000 in
set_option maxRecDepth 100000 in
theorem j_append0 {e bt : Int32} (hW : 6 ≤ W) (hW2 : W ≤ 64) (hH : H.1 = 0) : MD1 mdX1_append [.ref 4, .ref 12, .ref 9, .int e, .int bt] (wX st it B W q pf jb jp jr tf te C S H τ) (some (.int 1)) (wX st it B W q pf jb jp jr tf te C S H τ) := by
  refine md_of [some (.ref 4), some (.ref 12), some (.ref 9), some (.int e), some (.int bt), none, none] rfl (Nat.le_of_ble_eq_true rfl) (by decide) (fun X Post hX hp => ?_)
  refine wp_aload_n hX dX1_append_0 rfl ?_
  refine wp_aload_n hX dX1_append_1 rfl ?_
  refine wp_cv0 hX dX1_append_2 mlX1_30 ⟨Nat.le_of_ble_eq_true rfl, Nat.le_of_ble_eq_true rfl⟩ (k_entries rfl) rfl (Nat.le_of_ble_eq_true rfl) ?_
  rw [hH]
  refine wp_cv1 hX dX1_append_5 mlX1_26 ⟨Nat.le_of_ble_eq_true rfl, Nat.le_of_ble_eq_true rfl⟩ (j_blocksFor hW hW2 (by decide)) rfl (Nat.le_of_ble_eq_true rfl) ?_
  refine wp_istore hX dX1_append_8 (Nat.le_of_ble_eq_true rfl) rfl ?_
  refine wp_iload hX dX1_append_10 rfl ?_
  refine wp_if_ne (tgt := 17) hX dX1_append_12 (by decide) (fun c => absurd (rfl) c) (fun _ => ?_)
  refine wp_iconst (v := 1) hX dX1_append_15 ic_1 ?_
  refine wp_iret hX dX1_append_16 rfl rfl ?_
  exact hp
theorem recB_eq {g : Nat → Int32} {n p : Nat} {e num bt : Int32} (hW : W ≤ 64) : ∀ j, j < W - 1 → flP (upd (upd (upd (upd (fun j => if j < 64 then 0 else pf j) 0 e) 1 num) 2 (nI p)) 3 bt) (fun k => g ((W - 5) * p + k)) (min (W - 5) (n - (W - 5) * p)) j = recB W g n e num bt p j := by
  intro j hj
  unfold flP recB
  by_cases h0 : j = 0
  · subst h0
    rw [if_neg (by omega), if_pos rfl, pk_un (by omega), pk_un (by omega), pk_un (by omega), pk_us]
  · rw [if_neg h0]
    by_cases h1 : j = 1
    · subst h1
      rw [if_neg (by omega), if_pos rfl, pk_un (by omega), pk_un (by omega), pk_us]
    · rw [if_neg h1]
      by_cases h2 : j = 2
      · subst h2
        rw [if_neg (by omega), if_pos rfl, pk_un (by omega), pk_us]
      · rw [if_neg h2]
        by_cases h3 : j = 3
        · subst h3
          rw [if_neg (by omega), if_pos rfl, pk_us]
        · rw [if_neg h3]
          by_cases h4 : j < 4 + min (W - 5) (n - (W - 5) * p)
          · rw [if_pos h4, if_pos (by omega)]
          · rw [if_neg h4, if_neg (by omega), pk_un h3, pk_un h2, pk_un h1, pk_un h0, if_pos (by omega)]
set_option maxHeartbeats 4000000 in
set_option maxRecDepth 100000 in
theorem j_append {e bt : Int32} (hB : B ≤ 512) (hW : 6 ≤ W) (hW2 : W ≤ 64) (hH : KAm Hm H) (hS : KAm Sm S) (hSs : Srt Sm) (hHu : H.1 ≤ 600) (hSu : S.1 ≤ 8700) (hne : ¬ Hm.length = 0) (hr : jr ≤ 1000) (hj : jp + rB W Hm.length ≤ jb) (hb : jb + 1 < B) :
    MT mdX1_append [.ref 4, .ref 12, .ref 9, .int e, .int bt] (wX st it B W q pf jb jp jr tf te C S H τ) (fun r σ1 => ∃ pf1, r = some (.int (b2i (wrN W (fun p => (1 + jp + p, recB W (recH Hm Sm) (1 + 3 * Hm.length) e (nI (jr + 1)) bt p)) 0 (rB W Hm.length) q).1)) ∧
      σ1 = wX st it B W (wrN W (fun p => (1 + jp + p, recB W (recH Hm Sm) (1 + 3 * Hm.length) e (nI (jr + 1)) bt p)) 0 (rB W Hm.length) q).2 pf1 jb (if (wrN W (fun p => (1 + jp + p, recB W (recH Hm Sm) (1 + 3 * Hm.length) e (nI (jr + 1)) bt p)) 0 (rB W Hm.length) q).1 then jp + rB W Hm.length else jp) (if (wrN W (fun p => (1 + jp + p, recB W (recH Hm Sm) (1 + 3 * Hm.length) e (nI (jr + 1)) bt p)) 0 (rB W Hm.length) q).1 then jr + 1 else jr) tf te C S H τ) := by
  refine mp_of [some (.ref 4), some (.ref 12), some (.ref 9), some (.int e), some (.int bt), none, none] rfl (Nat.le_of_ble_eq_true rfl) (by decide) (fun X Post hX hp => ?_)
  have hHl : Hm.length = H.1 := hH.1
  generalize hf : (fun p => (1 + jp + p, recB W (recH Hm Sm) (1 + 3 * Hm.length) e (nI (jr + 1)) bt p)) = f at hp
  have hrb : rB W Hm.length = cdv (1 + 3 * Hm.length) (W - 5) := by unfold rB; rw [if_neg hne]
  have hrb1 : 1 ≤ rB W Hm.length := by rw [hrb]; exact (cdv_lt (by omega)).mpr (by omega)
  have loop : ∀ (n i : Nat) (q1 : DQ) (pf1 : Nat → Int32), i + n = rB W Hm.length → wrN W f i n q1 = wrN W f 0 (rB W Hm.length) q → Wp X Post 20 [some (.ref 4), some (.ref 12), some (.ref 9), some (.int e), some (.int bt), some (.int (nI (rB W Hm.length))), some (.int (nI i))] [] (wX st it B W q1 pf1 jb jp jr tf te C S H τ) := by
    intro n
    induction n with
    | zero =>
      intro i q1 pf1 hi he
      rw [← he] at hp
      refine wp_iload hX dX1_append_20 rfl ?_
      refine wp_iload hX dX1_append_22 rfl ?_
      refine wp_icmp_ge (tgt := 117) hX dX1_append_24 (by decide) (fun _ => ?_) (fun c => absurd (nI_le (by omega) (by omega)) c)
      refine wp_aload_n hX dX1_append_117 rfl ?_
      refine wp_dup hX dX1_append_118 rfl ?_
      refine wp_get hX dX1_append_119 flX1_13 rfl rfl ?_
      refine wp_iload hX dX1_append_122 rfl ?_
      refine wp_iadd hX dX1_append_124 ?_
      refine wp_ti (y := (nI (jp + rB W Hm.length))) (nI_add _ _) ?_
      refine wp_put hX dX1_append_125 fwX1_13 rfl (Nat.le_of_ble_eq_true rfl) rfl rfl ?_
      refine wp_aload_n hX dX1_append_128 rfl ?_
      refine wp_dup hX dX1_append_129 rfl ?_
      refine wp_get hX dX1_append_130 flX1_16 rfl rfl ?_
      refine wp_iconst (v := 1) hX dX1_append_133 ic_1 ?_
      refine wp_iadd hX dX1_append_134 ?_
      refine wp_ti (y := (nI (jr + 1))) (nI_1 _) ?_
      refine wp_put hX dX1_append_135 fwX1_16 rfl (Nat.le_of_ble_eq_true rfl) rfl rfl ?_
      refine wp_iconst (v := 1) hX dX1_append_138 ic_1 ?_
      refine wp_iret hX dX1_append_139 rfl rfl ?_
      exact hp _ _ ⟨pf1, rfl, rfl⟩
    | succ n ih =>
      intro i q1 pf1 hi he
      have hlt : i < rB W Hm.length := by omega
      have hfr : (W - 5) * i < 1 + 3 * Hm.length := by rw [hrb] at hlt; rw [Nat.mul_comm]; exact (cdv_lt (by omega)).mp hlt
      refine wp_iload hX dX1_append_20 rfl ?_
      refine wp_iload hX dX1_append_22 rfl ?_
      refine wp_icmp_ge (tgt := 117) hX dX1_append_24 (by decide) (fun c => absurd c (nI_ge (by omega) (by omega))) (fun _ => ?_)
      refine wp_aload_n hX dX1_append_27 rfl ?_
      refine wp_get hX dX1_append_28 flX1_19 rfl rfl ?_
      refine wp_cv0 hX dX1_append_31 mlX1_36 ⟨Nat.le_of_ble_eq_true rfl, Nat.le_of_ble_eq_true rfl⟩ (d_clearPage rfl rfl) rfl (Nat.le_of_ble_eq_true rfl) ?_
      refine wp_aload_n hX dX1_append_34 rfl ?_
      refine wp_get hX dX1_append_35 flX1_19 rfl rfl ?_
      refine wp_iconst (v := 0) hX dX1_append_38 ic_0 ?_
      refine wp_iload_n hX dX1_append_39 rfl ?_
      refine wp_cv2 hX dX1_append_40 mlX1_41 ⟨Nat.le_of_ble_eq_true rfl, Nat.le_of_ble_eq_true rfl⟩ (d_setPage (i := 0) rfl rfl hW2 (by omega)) rfl (Nat.le_of_ble_eq_true rfl) ?_
      refine wp_aload_n hX dX1_append_43 rfl ?_
      refine wp_get hX dX1_append_44 flX1_19 rfl rfl ?_
      refine wp_iconst (v := 1) hX dX1_append_47 ic_1 ?_
      refine wp_aload_n hX dX1_append_48 rfl ?_
      refine wp_get hX dX1_append_49 flX1_16 rfl rfl ?_
      refine wp_iconst (v := 1) hX dX1_append_52 ic_1 ?_
      refine wp_iadd hX dX1_append_53 ?_
      refine wp_ti (y := (nI (jr + 1))) (nI_1 _) ?_
      refine wp_cv2 hX dX1_append_54 mlX1_41 ⟨Nat.le_of_ble_eq_true rfl, Nat.le_of_ble_eq_true rfl⟩ (d_setPage (i := 1) rfl rfl hW2 (by omega)) rfl (Nat.le_of_ble_eq_true rfl) ?_
      refine wp_aload_n hX dX1_append_57 rfl ?_
      refine wp_get hX dX1_append_58 flX1_19 rfl rfl ?_
      refine wp_iconst (v := 2) hX dX1_append_61 ic_2 ?_
      refine wp_iload hX dX1_append_62 rfl ?_
      refine wp_cv2 hX dX1_append_64 mlX1_41 ⟨Nat.le_of_ble_eq_true rfl, Nat.le_of_ble_eq_true rfl⟩ (d_setPage (i := 2) rfl rfl hW2 (by omega)) rfl (Nat.le_of_ble_eq_true rfl) ?_
      refine wp_aload_n hX dX1_append_67 rfl ?_
      refine wp_get hX dX1_append_68 flX1_19 rfl rfl ?_
      refine wp_iconst (v := 3) hX dX1_append_71 ic_3 ?_
      refine wp_iload hX dX1_append_72 rfl ?_
      refine wp_cv2 hX dX1_append_74 mlX1_41 ⟨Nat.le_of_ble_eq_true rfl, Nat.le_of_ble_eq_true rfl⟩ (d_setPage (i := 3) rfl rfl hW2 (by omega)) rfl (Nat.le_of_ble_eq_true rfl) ?_
      refine wp_eqW (σ1 := wX st it B W q1 (upd (upd (upd (upd (fun j => if j < 64 then 0 else pf1 j) 0 e) 1 (nI (jr + 1))) 2 (nI i)) 3 bt) jb jp jr tf te C S H τ) rfl ?_
      refine wp_aload_n hX dX1_append_77 rfl ?_
      refine wp_aload_n hX dX1_append_78 rfl ?_
      refine wp_aload_n hX dX1_append_79 rfl ?_
      refine wp_iload hX dX1_append_80 rfl ?_
      refine wp_aload_n hX dX1_append_82 rfl ?_
      refine wp_cv0 hX dX1_append_83 mlX1_45 ⟨Nat.le_of_ble_eq_true rfl, Nat.le_of_ble_eq_true rfl⟩ (j_partInts (by omega)) rfl (Nat.le_of_ble_eq_true rfl) ?_
      refine wp_imul hX dX1_append_86 ?_
      refine wp_ti (y := (nI ((W - 5) * i))) (by rw [pk_mul, Nat.mul_comm]) ?_
      refine wp_cv3 hX dX1_append_87 mlX1_48 ⟨Nat.le_of_ble_eq_true rfl, Nat.le_of_ble_eq_true rfl⟩ (j_fillPage hW hW2 hH hS hSs hHu hSu (by omega)) rfl (Nat.le_of_ble_eq_true rfl) ?_
      have hfi : (f i).2 = recB W (recH Hm Sm) (1 + 3 * Hm.length) e (nI (jr + 1)) bt i := by rw [← hf]
      have hfb : (f i).1 = 1 + jp + i := by rw [← hf]
      have hbk : 1 + jp + i < B := by omega
      by_cases h1 : q1.2.2 = 1
      · refine wp_aload_n hX dX1_append_90 rfl ?_
        refine wp_get hX dX1_append_91 flX1_19 rfl rfl ?_
        refine wp_iconst (v := 1) hX dX1_append_94 ic_1 ?_
        refine wp_aload_n hX dX1_append_95 rfl ?_
        refine wp_get hX dX1_append_96 flX1_13 rfl rfl ?_
        refine wp_iadd hX dX1_append_99 ?_
        refine wp_iload hX dX1_append_100 rfl ?_
        refine wp_iadd hX dX1_append_102 ?_
        refine wp_ti (y := (nI (1 + jp + i))) (by rw [show (1 : Int32) = nI 1 from rfl, nI_add, nI_add]) ?_
        refine wp_cv1 hX dX1_append_103 mlX1_52 ⟨Nat.le_of_ble_eq_true rfl, Nat.le_of_ble_eq_true rfl⟩ (d_writePage_no rfl hB hW2 (by omega) hbk h1) rfl (Nat.le_of_ble_eq_true rfl) ?_
        refine wp_if_ne (tgt := 111) hX dX1_append_106 (by decide) (fun c => absurd (rfl) c) (fun _ => ?_)
        refine wp_iconst (v := 0) hX dX1_append_109 ic_0 ?_
        refine wp_iret hX dX1_append_110 rfl rfl ?_
        rw [wrN_s, if_pos h1] at he
        rw [← he] at hp
        exact hp _ _ ⟨_, rfl, rfl⟩
      · refine wp_aload_n hX dX1_append_90 rfl ?_
        refine wp_get hX dX1_append_91 flX1_19 rfl rfl ?_
        refine wp_iconst (v := 1) hX dX1_append_94 ic_1 ?_
        refine wp_aload_n hX dX1_append_95 rfl ?_
        refine wp_get hX dX1_append_96 flX1_13 rfl rfl ?_
        refine wp_iadd hX dX1_append_99 ?_
        refine wp_iload hX dX1_append_100 rfl ?_
        refine wp_iadd hX dX1_append_102 ?_
        refine wp_ti (y := (nI (1 + jp + i))) (by rw [show (1 : Int32) = nI 1 from rfl, nI_add, nI_add]) ?_
        refine wp_cv1 hX dX1_append_103 mlX1_52 ⟨Nat.le_of_ble_eq_true rfl, Nat.le_of_ble_eq_true rfl⟩ (d_writePage_ok rfl rfl rfl hB hW2 (by omega) hbk h1) rfl (Nat.le_of_ble_eq_true rfl) ?_
        refine wp_if_ne (tgt := 111) hX dX1_append_106 (by decide) (fun _ => ?_) (fun c => absurd c (by decide))
        refine wp_iinc hX dX1_append_111 ic_1 rfl (Nat.le_of_ble_eq_true rfl) rfl ?_
        refine wp_goto (tgt := 20) hX dX1_append_114 (by decide) ?_
        rw [nI_1, wrD_congr (recB_eq hW2), ← hfi, ← hfb]
        refine ih (i + 1) (wrD q1.1 W (f i).1 (f i).2, q1.2.1 + 1, pwd q1.2.2) _ (by omega) ?_
        rw [← he, wrN_s, if_neg h1]
  have hl : H.1 < 2 ^ 29 := by
    have hcu : (2 : Nat) ^ 29 = 536870912 := by decide
    omega
  refine wp_aload_n hX dX1_append_0 rfl ?_
  refine wp_aload_n hX dX1_append_1 rfl ?_
  refine wp_cv0 hX dX1_append_2 mlX1_30 ⟨Nat.le_of_ble_eq_true rfl, Nat.le_of_ble_eq_true rfl⟩ (k_entries rfl) rfl (Nat.le_of_ble_eq_true rfl) ?_
  rw [← hHl] at hl ⊢
  refine wp_cv1 hX dX1_append_5 mlX1_26 ⟨Nat.le_of_ble_eq_true rfl, Nat.le_of_ble_eq_true rfl⟩ (j_blocksFor hW hW2 hl) rfl (Nat.le_of_ble_eq_true rfl) ?_
  refine wp_istore hX dX1_append_8 (Nat.le_of_ble_eq_true rfl) rfl ?_
  refine wp_iload hX dX1_append_10 rfl ?_
  refine wp_if_ne (tgt := 17) hX dX1_append_12 (by decide) (fun _ => ?_) (fun c => absurd c (nI_ne0 hrb1 (by omega)))
  refine wp_iconst (v := 0) hX dX1_append_17 ic_0 ?_
  refine wp_istore hX dX1_append_18 (Nat.le_of_ble_eq_true rfl) rfl ?_
  exact loop (rB W Hm.length) 0 q pf (by omega) rfl
end JN
end
section
/-! Journal: what is read of the log -/
def isP (W : Nat) (D : Nat → Int32) (b : Nat) (e n p bt : Int32) : Bool := decide (D (W * b + (W - 1)) = sumD D (W * b) (W - 1) ∧ D (W * b + 0) = e ∧ D (W * b + 1) = n ∧ D (W * b + 2) = p ∧ D (W * b + 3) = bt)
/-- blocks k, k + 1, .. of the record that begins at block b: r of them -/
def allP (W : Nat) (D : Nat → Int32) (b : Nat) (e n bt : Int32) : Nat → Nat → Bool
  | _, 0 => true
  | k, r + 1 => isP W D (b + k) e n (nI k) bt && allP W D b e n bt (k + 1) r
/-- how many blocks the record has that begins at block b; 0 if it isn't whole -/
def whl (W LG : Nat) (D : Nat → Int32) (b : Nat) (e n : Int32) : Nat :=
  if LG < b then 0 else if isP W D b e n 0 (D (W * b + 3)) = false then 0 else
  if D (W * b + 4) < 1 ∨ nI ((1 + LG - b) * (W - 5)) < D (W * b + 4) then 0 else
  if 1 + LG - b < rB W (D (W * b + 4)).toNatClampNeg then 0 else
  if allP W D b e n (D (W * b + 3)) 1 (rB W (D (W * b + 4)).toNatClampNeg - 1) then rB W (D (W * b + 4)).toNatClampNeg else 0
/-- int i of the record that begins at block b -/
def sI (W : Nat) (D : Nat → Int32) (b i : Nat) : Int32 := D (W * (b + i / (W - 5)) + (4 + i % (W - 5)))
/-- changes c, c + 1, .. of the record that begins at block b: r of them -/
def rdo (W : Nat) (D : Nat → Int32) (b : Nat) : Nat → Nat → PM → PM
  | _, 0, m => m
  | c, r + 1, m => rdo W D b (c + 1) r (if sI W D b (1 + 3 * c) = 1 then ins m (sI W D b (1 + 3 * c + 1)) (sI W D b (1 + 3 * c + 2)) else del m (sI W D b (1 + 3 * c + 1)))
/-- the records behind place pl, number rc + 1 first, at most t -/
def rpl (W LG : Nat) (D : Nat → Int32) (e : Int32) : Nat → Nat → Nat → PM → Nat × Nat × PM
  | 0, pl, rc, m => (pl, rc, m)
  | t + 1, pl, rc, m => if whl W LG D (1 + pl) e (nI (rc + 1)) = 0 then (pl, rc, m) else rpl W LG D e t (pl + whl W LG D (1 + pl) e (nI (rc + 1))) (rc + 1) (rdo W D (1 + pl) 0 (D (W * (1 + pl) + 4)).toNatClampNeg m)
theorem allP_s (W : Nat) (D : Nat → Int32) (b : Nat) (e n bt : Int32) (k r : Nat) : allP W D b e n bt k (r + 1) = (isP W D (b + k) e n (nI k) bt && allP W D b e n bt (k + 1) r) := rfl
theorem rdo_s (W : Nat) (D : Nat → Int32) (b c r : Nat) (m : PM) : rdo W D b c (r + 1) m = rdo W D b (c + 1) r (if sI W D b (1 + 3 * c) = 1 then ins m (sI W D b (1 + 3 * c + 1)) (sI W D b (1 + 3 * c + 2)) else del m (sI W D b (1 + 3 * c + 1))) := rfl
theorem rpl_s (W LG : Nat) (D : Nat → Int32) (e : Int32) (t pl rc : Nat) (m : PM) : rpl W LG D e (t + 1) pl rc m = if whl W LG D (1 + pl) e (nI (rc + 1)) = 0 then (pl, rc, m) else rpl W LG D e t (pl + whl W LG D (1 + pl) e (nI (rc + 1))) (rc + 1) (rdo W D (1 + pl) 0 (D (W * (1 + pl) + 4)).toNatClampNeg m) := rfl
theorem rdo_srt {W : Nat} {D : Nat → Int32} {b : Nat} : ∀ (r c : Nat) {m : PM}, Srt m → Srt (rdo W D b c r m)
  | 0, _, _, h => h
  | r + 1, c, m, h => by
    unfold rdo
    refine rdo_srt r (c + 1) ?_
    split
    · exact ins_srt h _ _
    · exact del_srt h _
theorem ins_len_le (m : PM) (k v : Int32) (h : Srt m) : (ins m k v).length ≤ m.length + 1 := by
  rw [ins_len m k v h]
  split <;> omega
theorem del_len_le (m : PM) (k : Int32) : (del m k).length ≤ m.length := by
  induction m with
  | nil => exact Nat.le_refl _
  | cons b m ih =>
    unfold del
    split
    · simp
    · simp; exact ih
theorem rdo_len {W : Nat} {D : Nat → Int32} {b : Nat} : ∀ (r c : Nat) {m : PM}, Srt m → (rdo W D b c r m).length ≤ m.length + r
  | 0, _, _, _ => Nat.le_refl _
  | r + 1, c, m, h => by
    unfold rdo
    split
    · have := rdo_len (W := W) (D := D) (b := b) r (c + 1) (ins_srt h (sI W D b (1 + 3 * c + 1)) (sI W D b (1 + 3 * c + 2)))
      have := ins_len_le m (sI W D b (1 + 3 * c + 1)) (sI W D b (1 + 3 * c + 2)) h
      omega
    · have := rdo_len (W := W) (D := D) (b := b) r (c + 1) (del_srt h (sI W D b (1 + 3 * c + 1)))
      have := del_len_le m (sI W D b (1 + 3 * c + 1))
      omega
/-- what a whole record has -/
theorem whl_pos {W LG : Nat} {D : Nat → Int32} {b : Nat} {e n : Int32} (hW : 6 ≤ W) (hW2 : W ≤ 64) (hL : LG ≤ 128) (h : ¬ whl W LG D b e n = 0) : b ≤ LG ∧ ∃ mm : Nat, D (W * b + 4) = nI mm ∧ 1 ≤ mm ∧ mm ≤ 7611 ∧ whl W LG D b e n = rB W mm ∧ b + rB W mm ≤ LG + 1 := by
  unfold whl at h ⊢
  by_cases h1 : LG < b
  · rw [if_pos h1] at h; exact absurd rfl h
  · rw [if_neg h1] at h ⊢
    by_cases h2 : isP W D b e n 0 (D (W * b + 3)) = false
    · rw [if_pos h2] at h; exact absurd rfl h
    · rw [if_neg h2] at h ⊢
      by_cases h3 : D (W * b + 4) < 1 ∨ nI ((1 + LG - b) * (W - 5)) < D (W * b + 4)
      · rw [if_pos h3] at h; exact absurd rfl h
      · rw [if_neg h3] at h ⊢
        have hm : (1 + LG - b) * (W - 5) ≤ 129 * 59 := Nat.mul_le_mul (by omega) (by omega)
        have hnn : ¬ D (W * b + 4) < 0 := fun z => h3 (Or.inl (by rw [ilt] at z ⊢; simp at z; show _ < (1 : Int); omega))
        obtain ⟨mm, hmm, he⟩ := nI_of hnn
        have hge : 1 ≤ mm := Nat.pos_of_ne_zero (fun z => h3 (Or.inl (by rw [he, z]; decide)))
        have hle : mm ≤ (1 + LG - b) * (W - 5) := Nat.le_of_not_lt (fun z => h3 (Or.inr (by rw [he]; exact nI_lt z hmm)))
        rw [he, nI_clamp hmm] at h ⊢
        by_cases h4 : 1 + LG - b < rB W mm
        · rw [if_pos h4] at h; exact absurd rfl h
        · rw [if_neg h4] at h ⊢
          by_cases h5 : allP W D b e n (D (W * b + 3)) 1 (rB W mm - 1) = true
          · rw [if_pos h5] at h ⊢
            exact ⟨by omega, mm, rfl, hge, by omega, rfl, by omega⟩
          · rw [if_neg h5] at h; exact absurd rfl h
section JN
variable {st it : Int32} {B W : Nat} {q : DQ} {pf : Nat → Int32} {jb jp jr tf te : Nat} {C S H : MP} {τ : aW} {Cm : PM}
set_option maxHeartbeats 4000000 in
set_option maxRecDepth 100000 in
theorem j_isPart {b : Nat} {e n p bt : Int32} (hB : B ≤ 512) (hW : 6 ≤ W) (hW2 : W ≤ 64) (hb : b < B) : MD1 mdX1_isPart [.ref 4, .int (nI b), .int e, .int n, .int p, .int bt] (wX st it B W q pf jb jp jr tf te C S H τ) (some (.int (b2i (isP W q.1 b e n p bt)))) (wX st it B W q pf jb jp jr tf te C S H τ) := by
  refine md_of [some (.ref 4), some (.int (nI b)), some (.int e), some (.int n), some (.int p), some (.int bt)] rfl (Nat.le_of_ble_eq_true rfl) (by decide) (fun X Post hX hp => ?_)
  unfold isP at hp
  have wa : ∀ i, i < 6 → wA B W q.1 (nI b) (nI i) = q.1 (W * b + i) := fun i hi => wA_in hB hW2 hb (by omega)
  refine wp_aload_n hX dX1_isPart_0 rfl ?_
  refine wp_get hX dX1_isPart_1 flX1_19 rfl rfl ?_
  refine wp_iload_n hX dX1_isPart_4 rfl ?_
  refine wp_cv1 hX dX1_isPart_5 mlX1_93 ⟨Nat.le_of_ble_eq_true rfl, Nat.le_of_ble_eq_true rfl⟩ (d_isGood rfl rfl hB hW2 (by omega) hb) rfl (Nat.le_of_ble_eq_true rfl) ?_
  by_cases g : q.1 (W * b + (W - 1)) = sumD q.1 (W * b) (W - 1)
  · rw [decide_eq_true g]
    refine wp_if_eq (tgt := 69) hX dX1_isPart_8 (by decide) (fun c => absurd c (by decide)) (fun _ => ?_)
    refine wp_aload_n hX dX1_isPart_11 rfl ?_
    refine wp_get hX dX1_isPart_12 flX1_19 rfl rfl ?_
    refine wp_iload_n hX dX1_isPart_15 rfl ?_
    refine wp_iconst (v := 0) hX dX1_isPart_16 ic_0 ?_
    refine wp_cv2 hX dX1_isPart_17 mlX1_86 ⟨Nat.le_of_ble_eq_true rfl, Nat.le_of_ble_eq_true rfl⟩ (d_wordAt rfl rfl hB hW2) rfl (Nat.le_of_ble_eq_true rfl) ?_
    rw [show wA B W q.1 (nI b) 0 = _ from wa 0 (by decide)]
    refine wp_iload_n hX dX1_isPart_20 rfl ?_
    refine wp_icmp_ne (tgt := 69) hX dX1_isPart_21 (by decide) (fun c0 => ?_) (fun c0 => ?_)
    · refine wp_iconst (v := 0) hX dX1_isPart_69 ic_0 ?_
      refine wp_iret hX dX1_isPart_70 rfl rfl ?_
      rw [decide_eq_false (fun z => c0 z.2.1)] at hp
      exact hp
    · refine wp_aload_n hX dX1_isPart_24 rfl ?_
      refine wp_get hX dX1_isPart_25 flX1_19 rfl rfl ?_
      refine wp_iload_n hX dX1_isPart_28 rfl ?_
      refine wp_iconst (v := 1) hX dX1_isPart_29 ic_1 ?_
      refine wp_cv2 hX dX1_isPart_30 mlX1_86 ⟨Nat.le_of_ble_eq_true rfl, Nat.le_of_ble_eq_true rfl⟩ (d_wordAt rfl rfl hB hW2) rfl (Nat.le_of_ble_eq_true rfl) ?_
      rw [show wA B W q.1 (nI b) 1 = _ from wa 1 (by decide)]
      refine wp_iload_n hX dX1_isPart_33 rfl ?_
      refine wp_icmp_ne (tgt := 69) hX dX1_isPart_34 (by decide) (fun c1 => ?_) (fun c1 => ?_)
      · refine wp_iconst (v := 0) hX dX1_isPart_69 ic_0 ?_
        refine wp_iret hX dX1_isPart_70 rfl rfl ?_
        rw [decide_eq_false (fun z => c1 z.2.2.1)] at hp
        exact hp
      · refine wp_aload_n hX dX1_isPart_37 rfl ?_
        refine wp_get hX dX1_isPart_38 flX1_19 rfl rfl ?_
        refine wp_iload_n hX dX1_isPart_41 rfl ?_
        refine wp_iconst (v := 2) hX dX1_isPart_42 ic_2 ?_
        refine wp_cv2 hX dX1_isPart_43 mlX1_86 ⟨Nat.le_of_ble_eq_true rfl, Nat.le_of_ble_eq_true rfl⟩ (d_wordAt rfl rfl hB hW2) rfl (Nat.le_of_ble_eq_true rfl) ?_
        rw [show wA B W q.1 (nI b) 2 = _ from wa 2 (by decide)]
        refine wp_iload hX dX1_isPart_46 rfl ?_
        refine wp_icmp_ne (tgt := 69) hX dX1_isPart_48 (by decide) (fun c2 => ?_) (fun c2 => ?_)
        · refine wp_iconst (v := 0) hX dX1_isPart_69 ic_0 ?_
          refine wp_iret hX dX1_isPart_70 rfl rfl ?_
          rw [decide_eq_false (fun z => c2 z.2.2.2.1)] at hp
          exact hp
        · refine wp_aload_n hX dX1_isPart_51 rfl ?_
          refine wp_get hX dX1_isPart_52 flX1_19 rfl rfl ?_
          refine wp_iload_n hX dX1_isPart_55 rfl ?_
          refine wp_iconst (v := 3) hX dX1_isPart_56 ic_3 ?_
          refine wp_cv2 hX dX1_isPart_57 mlX1_86 ⟨Nat.le_of_ble_eq_true rfl, Nat.le_of_ble_eq_true rfl⟩ (d_wordAt rfl rfl hB hW2) rfl (Nat.le_of_ble_eq_true rfl) ?_
          rw [show wA B W q.1 (nI b) 3 = _ from wa 3 (by decide)]
          refine wp_iload hX dX1_isPart_60 rfl ?_
          refine wp_icmp_ne (tgt := 69) hX dX1_isPart_62 (by decide) (fun c3 => ?_) (fun c3 => ?_)
          · refine wp_iconst (v := 0) hX dX1_isPart_69 ic_0 ?_
            refine wp_iret hX dX1_isPart_70 rfl rfl ?_
            rw [decide_eq_false (fun z => c3 z.2.2.2.2)] at hp
            exact hp
          · refine wp_iconst (v := 1) hX dX1_isPart_65 ic_1 ?_
            refine wp_goto (tgt := 70) hX dX1_isPart_66 (by decide) ?_
            refine wp_iret hX dX1_isPart_70 rfl rfl ?_
            rw [decide_eq_true ⟨g, c0, c1, c2, c3⟩] at hp
            exact hp
  · rw [decide_eq_false g]
    refine wp_if_eq (tgt := 69) hX dX1_isPart_8 (by decide) (fun _ => ?_) (fun c => absurd (rfl) c)
    refine wp_iconst (v := 0) hX dX1_isPart_69 ic_0 ?_
    refine wp_iret hX dX1_isPart_70 rfl rfl ?_
    rw [decide_eq_false (fun z => g z.1)] at hp
    exact hp
set_option maxHeartbeats 4000000 in
set_option maxRecDepth 100000 in
theorem j_wholeParts {b : Nat} {e n : Int32} (hB : B ≤ 512) (hW : 6 ≤ W) (hW2 : W ≤ 64) (hb : b ≤ jb + 1) (hjb : jb + 1 < B) (hjb2 : jb ≤ 128) : MD1 mdX1_wholeParts [.ref 4, .int (nI b), .int e, .int n] (wX st it B W q pf jb jp jr tf te C S H τ) (some (.int (nI (whl W jb q.1 b e n)))) (wX st it B W q pf jb jp jr tf te C S H τ) := by
  refine md_of [some (.ref 4), some (.int (nI b)), some (.int e), some (.int n), none, none, none, none, none] rfl (Nat.le_of_ble_eq_true rfl) (by decide) (fun X Post hX hp => ?_)
  unfold whl at hp
  have hcu : (2 : Nat) ^ 29 = 536870912 := by decide
  have wa : ∀ i, i < 6 → wA B W q.1 (nI b) (nI i) = q.1 (W * b + i) := fun i hi => wA_in hB hW2 (by omega) (by omega)
  refine wp_iconst (v := 1) hX dX1_wholeParts_0 ic_1 ?_
  refine wp_aload_n hX dX1_wholeParts_1 rfl ?_
  refine wp_get hX dX1_wholeParts_2 flX1_7 rfl rfl ?_
  refine wp_iadd hX dX1_wholeParts_5 ?_
  refine wp_iload_n hX dX1_wholeParts_6 rfl ?_
  refine wp_isub hX dX1_wholeParts_7 ?_
  refine wp_ti (y := (nI (1 + jb - b))) (by rw [show (1 : Int32) = nI 1 from rfl, nI_add]; exact pk_sub (by omega)) ?_
  refine wp_istore hX dX1_wholeParts_8 (Nat.le_of_ble_eq_true rfl) rfl ?_
  refine wp_aload_n hX dX1_wholeParts_10 rfl ?_
  refine wp_get hX dX1_wholeParts_11 flX1_19 rfl rfl ?_
  refine wp_iload_n hX dX1_wholeParts_14 rfl ?_
  refine wp_iconst (v := 3) hX dX1_wholeParts_15 ic_3 ?_
  refine wp_cv2 hX dX1_wholeParts_16 mlX1_86 ⟨Nat.le_of_ble_eq_true rfl, Nat.le_of_ble_eq_true rfl⟩ (d_wordAt rfl rfl hB hW2) rfl (Nat.le_of_ble_eq_true rfl) ?_
  rw [show wA B W q.1 (nI b) 3 = _ from wa 3 (by decide)]
  refine wp_istore hX dX1_wholeParts_19 (Nat.le_of_ble_eq_true rfl) rfl ?_
  refine wp_iload hX dX1_wholeParts_21 rfl ?_
  refine wp_iconst (v := 1) hX dX1_wholeParts_23 ic_1 ?_
  refine wp_icmp_lt (tgt := 40) hX dX1_wholeParts_24 (by decide) (fun c => ?_) (fun c => ?_)
  · have h1 : jb < b := by
      have := (nI_ltI (a := 1 + jb - b) (b := 1) (by omega) (by decide)).mp c
      omega
    refine wp_iconst (v := 0) hX dX1_wholeParts_40 ic_0 ?_
    refine wp_iret hX dX1_wholeParts_41 rfl rfl ?_
    rw [if_pos h1] at hp
    exact hp
  · have h1 : ¬ jb < b := fun z => c (nI_lt (a := 1 + jb - b) (b := 1) (by omega) (by decide))
    rw [if_neg h1] at hp
    refine wp_aload_n hX dX1_wholeParts_27 rfl ?_
    refine wp_iload_n hX dX1_wholeParts_28 rfl ?_
    refine wp_iload_n hX dX1_wholeParts_29 rfl ?_
    refine wp_iload_n hX dX1_wholeParts_30 rfl ?_
    refine wp_iconst (v := 0) hX dX1_wholeParts_31 ic_0 ?_
    refine wp_iload hX dX1_wholeParts_32 rfl ?_
    refine wp_cv5 hX dX1_wholeParts_34 mlX1_89 ⟨Nat.le_of_ble_eq_true rfl, Nat.le_of_ble_eq_true rfl⟩ (j_isPart hB hW hW2 (by omega)) rfl (Nat.le_of_ble_eq_true rfl) ?_
    cases h2 : isP W q.1 b e n 0 (q.1 (W * b + 3)) with
    | false =>
      rw [if_pos h2] at hp
      refine wp_if_ne (tgt := 42) hX dX1_wholeParts_37 (by decide) (fun c => absurd (rfl) c) (fun _ => ?_)
      refine wp_iconst (v := 0) hX dX1_wholeParts_40 ic_0 ?_
      refine wp_iret hX dX1_wholeParts_41 rfl rfl ?_
      exact hp
    | true =>
      rw [if_neg (by rw [h2]; decide)] at hp
      refine wp_if_ne (tgt := 42) hX dX1_wholeParts_37 (by decide) (fun _ => ?_) (fun c => absurd c (by decide))
      refine wp_aload_n hX dX1_wholeParts_42 rfl ?_
      refine wp_get hX dX1_wholeParts_43 flX1_19 rfl rfl ?_
      refine wp_iload_n hX dX1_wholeParts_46 rfl ?_
      refine wp_iconst (v := 4) hX dX1_wholeParts_47 ic_4 ?_
      refine wp_cv2 hX dX1_wholeParts_48 mlX1_86 ⟨Nat.le_of_ble_eq_true rfl, Nat.le_of_ble_eq_true rfl⟩ (d_wordAt rfl rfl hB hW2) rfl (Nat.le_of_ble_eq_true rfl) ?_
      rw [show wA B W q.1 (nI b) 4 = _ from wa 4 (by decide)]
      have hm : (1 + jb - b) * (W - 5) ≤ 129 * 59 := Nat.mul_le_mul (by omega) (by omega)
      refine wp_istore hX dX1_wholeParts_51 (Nat.le_of_ble_eq_true rfl) rfl ?_
      refine wp_iload hX dX1_wholeParts_53 rfl ?_
      refine wp_iconst (v := 1) hX dX1_wholeParts_55 ic_1 ?_
      refine wp_icmp_lt (tgt := 71) hX dX1_wholeParts_56 (by decide) (fun c3 => ?_) (fun c3 => ?_)
      · refine wp_iconst (v := 0) hX dX1_wholeParts_71 ic_0 ?_
        refine wp_iret hX dX1_wholeParts_72 rfl rfl ?_
        rw [if_pos (Or.inl c3)] at hp
        exact hp
      · refine wp_iload hX dX1_wholeParts_59 rfl ?_
        refine wp_iload hX dX1_wholeParts_61 rfl ?_
        refine wp_aload_n hX dX1_wholeParts_63 rfl ?_
        refine wp_cv0 hX dX1_wholeParts_64 mlX1_45 ⟨Nat.le_of_ble_eq_true rfl, Nat.le_of_ble_eq_true rfl⟩ (j_partInts (by omega)) rfl (Nat.le_of_ble_eq_true rfl) ?_
        refine wp_imul hX dX1_wholeParts_67 ?_
        refine wp_ti (y := nI ((1 + jb - b) * (W - 5))) (pk_mul _ _) ?_
        refine wp_icmp_le (tgt := 73) hX dX1_wholeParts_68 (by decide) (fun c4 => ?_) (fun c4 => ?_)
        · rw [if_neg (fun z => z.elim c3 (Int32.not_lt.mpr c4))] at hp
          have hnn : ¬ q.1 (W * b + 4) < 0 := fun z => c3 (by rw [ilt] at z ⊢; simp at z; show _ < (1 : Int); omega)
          obtain ⟨mm, hmm, he⟩ := nI_of hnn
          rw [he] at c4 c3 hp ⊢
          rw [nI_clamp hmm] at hp
          have hmle := (nI_leI hmm (by omega)).mp c4
          have hrb : rB W mm ≤ 1 + 3 * mm := by
            unfold rB
            split
            · omega
            · exact cdv_le (by omega)
          refine wp_aload_n hX dX1_wholeParts_73 rfl ?_
          refine wp_iload hX dX1_wholeParts_74 rfl ?_
          refine wp_cv1 hX dX1_wholeParts_76 mlX1_26 ⟨Nat.le_of_ble_eq_true rfl, Nat.le_of_ble_eq_true rfl⟩ (j_blocksFor hW hW2 (by omega)) rfl (Nat.le_of_ble_eq_true rfl) ?_
          refine wp_istore hX dX1_wholeParts_79 (Nat.le_of_ble_eq_true rfl) rfl ?_
          refine wp_iload hX dX1_wholeParts_81 rfl ?_
          refine wp_iload hX dX1_wholeParts_83 rfl ?_
          refine wp_icmp_le (tgt := 90) hX dX1_wholeParts_85 (by decide) (fun c5 => ?_) (fun c5 => ?_)
          · have h5 := (nI_leI (a := rB W mm) (b := 1 + jb - b) (by omega) (by omega)).mp c5
            rw [if_neg (by omega)] at hp
            have hrb1 : 1 ≤ rB W mm := by
              unfold rB
              rw [if_neg (fun z => c3 (by rw [z]; decide))]
              exact (cdv_lt (by omega)).mpr (by omega)
            have loop : ∀ (r k : Nat), k + r = rB W mm → allP W q.1 b e n (q.1 (W * b + 3)) k r = allP W q.1 b e n (q.1 (W * b + 3)) 1 (rB W mm - 1) → Wp X Post 93 [some (.ref 4), some (.int (nI b)), some (.int e), some (.int n), some (.int (nI (1 + jb - b))), some (.int (q.1 (W * b + 3))), some (.int (nI mm)), some (.int (nI (rB W mm))), some (.int (nI k))] [] (wX st it B W q pf jb jp jr tf te C S H τ) := by
              intro r
              induction r with
              | zero =>
                intro k hk ha
                rw [← ha] at hp
                refine wp_iload hX dX1_wholeParts_93 rfl ?_
                refine wp_iload hX dX1_wholeParts_95 rfl ?_
                refine wp_icmp_ge (tgt := 125) hX dX1_wholeParts_97 (by decide) (fun _ => ?_) (fun c => absurd (nI_le (by omega) (by omega)) c)
                refine wp_iload hX dX1_wholeParts_125 rfl ?_
                refine wp_iret hX dX1_wholeParts_127 rfl rfl ?_
                exact hp
              | succ r ih =>
                intro k hk ha
                refine wp_iload hX dX1_wholeParts_93 rfl ?_
                refine wp_iload hX dX1_wholeParts_95 rfl ?_
                refine wp_icmp_ge (tgt := 125) hX dX1_wholeParts_97 (by decide) (fun c => absurd c (nI_ge (by omega) (by omega))) (fun _ => ?_)
                refine wp_aload_n hX dX1_wholeParts_100 rfl ?_
                refine wp_iload_n hX dX1_wholeParts_101 rfl ?_
                refine wp_iload hX dX1_wholeParts_102 rfl ?_
                refine wp_iadd hX dX1_wholeParts_104 ?_
                refine wp_ti (y := (nI (b + k))) (nI_add _ _) ?_
                refine wp_iload_n hX dX1_wholeParts_105 rfl ?_
                refine wp_iload_n hX dX1_wholeParts_106 rfl ?_
                refine wp_iload hX dX1_wholeParts_107 rfl ?_
                refine wp_iload hX dX1_wholeParts_109 rfl ?_
                refine wp_cv5 hX dX1_wholeParts_111 mlX1_89 ⟨Nat.le_of_ble_eq_true rfl, Nat.le_of_ble_eq_true rfl⟩ (j_isPart hB hW hW2 (by omega)) rfl (Nat.le_of_ble_eq_true rfl) ?_
                rw [allP_s] at ha
                cases h6 : isP W q.1 (b + k) e n (nI k) (q.1 (W * b + 3)) with
                | false =>
                  rw [h6, Bool.false_and] at ha
                  rw [← ha] at hp
                  refine wp_if_ne (tgt := 119) hX dX1_wholeParts_114 (by decide) (fun c => absurd (rfl) c) (fun _ => ?_)
                  refine wp_iconst (v := 0) hX dX1_wholeParts_117 ic_0 ?_
                  refine wp_iret hX dX1_wholeParts_118 rfl rfl ?_
                  exact hp
                | true =>
                  rw [h6, Bool.true_and] at ha
                  refine wp_if_ne (tgt := 119) hX dX1_wholeParts_114 (by decide) (fun _ => ?_) (fun c => absurd c (by decide))
                  refine wp_iinc hX dX1_wholeParts_119 ic_1 rfl (Nat.le_of_ble_eq_true rfl) rfl ?_
                  refine wp_goto (tgt := 93) hX dX1_wholeParts_122 (by decide) ?_
                  rw [nI_1]
                  exact ih (k + 1) (by omega) ha
            refine wp_iconst (v := 1) hX dX1_wholeParts_90 ic_1 ?_
            refine wp_istore hX dX1_wholeParts_91 (Nat.le_of_ble_eq_true rfl) rfl ?_
            exact loop (rB W mm - 1) 1 (by omega) rfl
          · have h5 : 1 + jb - b < rB W mm := Nat.lt_of_not_le (fun z => c5 (nI_le z (by omega)))
            refine wp_iconst (v := 0) hX dX1_wholeParts_88 ic_0 ?_
            refine wp_iret hX dX1_wholeParts_89 rfl rfl ?_
            rw [if_pos h5] at hp
            exact hp
        · refine wp_iconst (v := 0) hX dX1_wholeParts_71 ic_0 ?_
          refine wp_iret hX dX1_wholeParts_72 rfl rfl ?_
          rw [if_pos (Or.inr (Int32.not_le.mp c4))] at hp
          exact hp
set_option maxHeartbeats 4000000 in
set_option maxRecDepth 100000 in
theorem j_storedInt {b i : Nat} (hB : B ≤ 512) (hW : 6 ≤ W) (hW2 : W ≤ 64) (hi : i < 2 ^ 29) (hb : b + i / (W - 5) < B) : MD1 mdX1_storedInt [.ref 4, .int (nI b), .int (nI i)] (wX st it B W q pf jb jp jr tf te C S H τ) (some (.int (sI W q.1 b i))) (wX st it B W q pf jb jp jr tf te C S H τ) := by
  refine md_of [some (.ref 4), some (.int (nI b)), some (.int (nI i)), none] rfl (Nat.le_of_ble_eq_true rfl) (by decide) (fun X Post hX hp => ?_)
  have hcu : (2 : Nat) ^ 29 = 536870912 := by decide
  have hne : ¬ nI (W - 5) = 0 := nI_ne0 (by omega) (by omega)
  have hmod : i % (W - 5) < W - 5 := Nat.mod_lt _ (by omega)
  refine wp_aload_n hX dX1_storedInt_0 rfl ?_
  refine wp_cv0 hX dX1_storedInt_1 mlX1_45 ⟨Nat.le_of_ble_eq_true rfl, Nat.le_of_ble_eq_true rfl⟩ (j_partInts (by omega)) rfl (Nat.le_of_ble_eq_true rfl) ?_
  refine wp_istore_n hX dX1_storedInt_4 (Nat.le_of_ble_eq_true rfl) rfl ?_
  refine wp_iload_n hX dX1_storedInt_5 rfl ?_
  refine wp_iconst (v := 1) hX dX1_storedInt_6 ic_1 ?_
  refine wp_icmp_ge (tgt := 12) hX dX1_storedInt_7 (by decide) (fun _ => ?_) (fun c => absurd (nI_le (a := 1) (b := W - 5) (by omega) (by omega)) c)
  refine wp_aload_n hX dX1_storedInt_12 rfl ?_
  refine wp_get hX dX1_storedInt_13 flX1_19 rfl rfl ?_
  refine wp_iload_n hX dX1_storedInt_16 rfl ?_
  refine wp_iload_n hX dX1_storedInt_17 rfl ?_
  refine wp_iload_n hX dX1_storedInt_18 rfl ?_
  refine wp_idiv hX dX1_storedInt_19 (hne) ?_
  refine wp_ti (y := (nI (i / (W - 5)))) (pk_div (by omega) (by omega) (by omega)) ?_
  refine wp_iadd hX dX1_storedInt_20 ?_
  refine wp_ti (y := (nI (b + i / (W - 5)))) (nI_add _ _) ?_
  refine wp_iconst (v := 4) hX dX1_storedInt_21 ic_4 ?_
  refine wp_iload_n hX dX1_storedInt_22 rfl ?_
  refine wp_iload_n hX dX1_storedInt_23 rfl ?_
  refine wp_irem hX dX1_storedInt_24 (hne) ?_
  refine wp_ti (y := (nI (i % (W - 5)))) (pk_rem (by omega) (by omega) (by omega)) ?_
  refine wp_iadd hX dX1_storedInt_25 ?_
  refine wp_ti (y := nI (4 + i % (W - 5))) (nI_add 4 _) ?_
  refine wp_cv2 hX dX1_storedInt_26 mlX1_86 ⟨Nat.le_of_ble_eq_true rfl, Nat.le_of_ble_eq_true rfl⟩ (d_wordAt rfl rfl hB hW2) rfl (Nat.le_of_ble_eq_true rfl) ?_
  rw [wA_in hB hW2 hb (by omega)]
  refine wp_iret hX dX1_storedInt_29 rfl rfl ?_
  exact hp
set_option maxHeartbeats 4000000 in
set_option maxRecDepth 100000 in
theorem j_redo {b mm : Nat} (hB : B ≤ 512) (hW : 6 ≤ W) (hW2 : W ≤ 64) (hmm : q.1 (W * b + 4) = nI mm) (hm2 : mm ≤ 7611) (hbb : b + rB W mm ≤ B) (hb1 : b < B) (hC : KAm Cm C) (hCs : Srt Cm) (hlen : Cm.length + mm ≤ 8700) :
    MT mdX1_redo [.ref 4, .ref 6, .int (nI b)] (wX st it B W q pf jb jp jr tf te C S H τ) (fun r σ1 => ∃ C1, r = none ∧ KAm (rdo W q.1 b 0 mm Cm) C1 ∧ σ1 = wX st it B W q pf jb jp jr tf te C1 S H τ) := by
  refine mp_of [some (.ref 4), some (.ref 6), some (.int (nI b)), none, none, none, none] rfl (Nat.le_of_ble_eq_true rfl) (by decide) (fun X Post hX hp => ?_)
  have hcu : (2 : Nat) ^ 29 = 536870912 := by decide
  have hpos : 1 ≤ W - 5 := by omega
  have hin : ∀ i, i < 1 + 3 * mm → 1 ≤ mm → b + i / (W - 5) < B := fun i hi hm1 => by
    have h1 : i / (W - 5) < rB W mm := by
      unfold rB
      rw [if_neg (by omega)]
      refine (cdv_lt hpos).mpr ?_
      have := Nat.div_mul_le_self i (W - 5)
      omega
    omega
  have loop : ∀ (r c : Nat) (m : PM) (C1 : MP) (x5 x6 : Option Value), noL [none, none, none, none, none, x5] 6 = true → c + r = mm → KAm m C1 → Srt m → m.length + r ≤ 8700 → rdo W q.1 b c r m = rdo W q.1 b 0 mm Cm → Wp X Post 10 [some (.ref 4), some (.ref 6), some (.int (nI b)), some (.int (nI mm)), some (.int (nI c)), x5, x6] [] (wX st it B W q pf jb jp jr tf te C1 S H τ) := by
    intro r
    induction r with
    | zero =>
      intro c m C1 x5 x6 _ hc hk hs hl he
      refine wp_iload hX dX1_redo_10 rfl ?_
      refine wp_iload_n hX dX1_redo_12 rfl ?_
      refine wp_icmp_ge (tgt := 76) hX dX1_redo_13 (by decide) (fun _ => ?_) (fun c => absurd (nI_le (by omega) (by omega)) c)
      refine wp_vret hX dX1_redo_76 rfl ?_
      exact hp _ _ ⟨C1, rfl, by rw [← he]; exact hk, rfl⟩
    | succ r ih =>
      intro c m C1 x5 x6 _ hc hk hs hl he
      have hku : C1.1 = m.length := hk.1.symm
      have e1 : (1 : Int32) + 3 * nI c = nI (1 + 3 * c) := by rw [show (3 : Int32) = nI 3 from rfl, show (1 : Int32) = nI 1 from rfl, pk_mul, nI_add]
      rw [rdo_s] at he
      refine wp_iload hX dX1_redo_10 rfl ?_
      refine wp_iload_n hX dX1_redo_12 rfl ?_
      refine wp_icmp_ge (tgt := 76) hX dX1_redo_13 (by decide) (fun c => absurd c (nI_ge (by omega) (by omega))) (fun _ => ?_)
      refine wp_iconst (v := 1) hX dX1_redo_16 ic_1 ?_
      refine wp_iconst (v := 3) hX dX1_redo_17 ic_3 ?_
      refine wp_iload hX dX1_redo_18 rfl ?_
      refine wp_imul hX dX1_redo_20 ?_
      refine wp_iadd hX dX1_redo_21 ?_
      refine wp_ti (y := (nI (1 + 3 * c))) (e1) ?_
      refine wp_istore hX dX1_redo_22 (Nat.le_of_ble_eq_true rfl) rfl ?_
      refine wp_aload_n hX dX1_redo_24 rfl ?_
      refine wp_iload_n hX dX1_redo_25 rfl ?_
      refine wp_iload hX dX1_redo_26 rfl ?_
      refine wp_iconst (v := 1) hX dX1_redo_28 ic_1 ?_
      refine wp_iadd hX dX1_redo_29 ?_
      refine wp_ti (y := (nI (1 + 3 * c + 1))) (nI_1 _) ?_
      refine wp_cv2 hX dX1_redo_30 mlX1_96 ⟨Nat.le_of_ble_eq_true rfl, Nat.le_of_ble_eq_true rfl⟩ (j_storedInt hB hW hW2 (by omega) (hin _ (by omega) (by omega))) rfl (Nat.le_of_ble_eq_true rfl) ?_
      refine wp_istore hX dX1_redo_33 (Nat.le_of_ble_eq_true rfl) rfl ?_
      refine wp_aload_n hX dX1_redo_35 rfl ?_
      refine wp_iload_n hX dX1_redo_36 rfl ?_
      refine wp_iload hX dX1_redo_37 rfl ?_
      refine wp_cv2 hX dX1_redo_39 mlX1_96 ⟨Nat.le_of_ble_eq_true rfl, Nat.le_of_ble_eq_true rfl⟩ (j_storedInt hB hW hW2 (by omega) (hin _ (by omega) (by omega))) rfl (Nat.le_of_ble_eq_true rfl) ?_
      refine wp_iconst (v := 1) hX dX1_redo_42 ic_1 ?_
      refine wp_icmp_ne (tgt := 64) hX dX1_redo_43 (by decide) (fun d => ?_) (fun d => ?_)
      · rw [if_neg d] at he
        refine wp_eqW (σ1 := wX st it B W q pf jb jp jr tf te C1 S H τ) rfl ?_
        refine wp_aload_n hX dX1_redo_64 rfl ?_
        refine wp_iload hX dX1_redo_65 rfl ?_
        refine wp_cv1p hX dX1_redo_67 mlX1_102 ⟨Nat.le_of_ble_eq_true rfl, Nat.le_of_ble_eq_true rfl⟩ (k_drop (by decide) rfl rfl rfl (by omega) (by decide) hk hs) rfl (Nat.le_of_ble_eq_true rfl) ?_
        rintro r1 σ1 ⟨rfl, u1, kf1, vf1, hk1, rfl⟩
        refine wp_eqW (σ1 := wX st it B W q pf jb jp jr tf te (u1, kf1, vf1) S H τ) rfl ?_
        refine wp_iinc hX dX1_redo_70 ic_1 rfl (Nat.le_of_ble_eq_true rfl) rfl ?_
        refine wp_goto (tgt := 10) hX dX1_redo_73 (by decide) ?_
        rw [nI_1]
        exact ih (c + 1) _ (u1, kf1, vf1) _ _ rfl (by omega) hk1 (del_srt hs _) (by have := del_len_le m (sI W q.1 b (1 + 3 * c + 1)); omega) he
      · rw [if_pos d] at he
        refine wp_aload_n hX dX1_redo_46 rfl ?_
        refine wp_iload hX dX1_redo_47 rfl ?_
        refine wp_aload_n hX dX1_redo_49 rfl ?_
        refine wp_iload_n hX dX1_redo_50 rfl ?_
        refine wp_iload hX dX1_redo_51 rfl ?_
        refine wp_iconst (v := 2) hX dX1_redo_53 ic_2 ?_
        refine wp_iadd hX dX1_redo_54 ?_
        refine wp_ti (y := (nI (1 + 3 * c + 2))) (nI_add (1 + 3 * c) 2) ?_
        refine wp_cv2 hX dX1_redo_55 mlX1_96 ⟨Nat.le_of_ble_eq_true rfl, Nat.le_of_ble_eq_true rfl⟩ (j_storedInt hB hW hW2 (by omega) (hin _ (by omega) (by omega))) rfl (Nat.le_of_ble_eq_true rfl) ?_
        refine wp_cv2p hX dX1_redo_58 mlX1_99 ⟨Nat.le_of_ble_eq_true rfl, Nat.le_of_ble_eq_true rfl⟩ (k_enter (by decide) rfl rfl rfl (by omega) (by decide) hk hs) rfl (Nat.le_of_ble_eq_true rfl) ?_
        rintro r1 σ1 ⟨rfl, u1, kf1, vf1, hk1, rfl⟩
        refine wp_eqW (σ1 := wX st it B W q pf jb jp jr tf te (u1, kf1, vf1) S H τ) rfl ?_
        refine wp_goto (tgt := 70) hX dX1_redo_61 (by decide) ?_
        refine wp_iinc hX dX1_redo_70 ic_1 rfl (Nat.le_of_ble_eq_true rfl) rfl ?_
        refine wp_goto (tgt := 10) hX dX1_redo_73 (by decide) ?_
        rw [nI_1]
        exact ih (c + 1) _ (u1, kf1, vf1) _ _ rfl (by omega) hk1 (ins_srt hs _ _) (by have := ins_len_le m (sI W q.1 b (1 + 3 * c + 1)) (sI W q.1 b (1 + 3 * c + 2)) hs; omega) he
  refine wp_aload_n hX dX1_redo_0 rfl ?_
  refine wp_iload_n hX dX1_redo_1 rfl ?_
  refine wp_iconst (v := 0) hX dX1_redo_2 ic_0 ?_
  refine wp_cv2 hX dX1_redo_3 mlX1_96 ⟨Nat.le_of_ble_eq_true rfl, Nat.le_of_ble_eq_true rfl⟩ (j_storedInt (i := 0) hB hW hW2 (by decide) (by rw [Nat.zero_div]; exact hb1)) rfl (Nat.le_of_ble_eq_true rfl) ?_
  have e0 : sI W q.1 b 0 = nI mm := by unfold sI; rw [Nat.zero_div, Nat.zero_mod]; exact hmm
  rw [e0]
  refine wp_istore_n hX dX1_redo_6 (Nat.le_of_ble_eq_true rfl) rfl ?_
  refine wp_iconst (v := 0) hX dX1_redo_7 ic_0 ?_
  refine wp_istore hX dX1_redo_8 (Nat.le_of_ble_eq_true rfl) rfl ?_
  exact loop mm 0 Cm C none none rfl (by omega) hC hCs hlen rfl
set_option maxHeartbeats 4000000 in
set_option maxRecDepth 100000 in
theorem j_replay {e : Int32} (hB : B ≤ 512) (hW : 6 ≤ W) (hW2 : W ≤ 64) (hjb : jb + 1 < B) (hjb2 : jb ≤ 128) (hC : KAm Cm C) (hCs : Srt Cm) (hlen : 3 * Cm.length + (W - 5) * jb ≤ 26100) :
    MT mdX1_replay [.ref 4, .ref 6, .int e] (wX st it B W q pf jb jp jr tf te C S H τ) (fun r σ1 => ∃ C1, r = none ∧ KAm (rpl W jb q.1 e jb 0 0 Cm).2.2 C1 ∧ σ1 = wX st it B W q pf jb (rpl W jb q.1 e jb 0 0 Cm).1 (rpl W jb q.1 e jb 0 0 Cm).2.1 tf te C1 S H τ) := by
  refine mp_of [some (.ref 4), some (.ref 6), some (.int e), none, none, none] rfl (Nat.le_of_ble_eq_true rfl) (by decide) (fun X Post hX hp => ?_)
  have loop : ∀ (t i pl rc : Nat) (m : PM) (C1 : MP) (x4 x5 : Option Value), noL [none, none, none, none, x4] 5 = true → i + t = jb → pl ≤ jb → rc ≤ pl → KAm m C1 → Srt m → 3 * m.length + (W - 5) * jb ≤ 26100 + (W - 5) * pl → rpl W jb q.1 e t pl rc m = rpl W jb q.1 e jb 0 0 Cm → Wp X Post 6 [some (.ref 4), some (.ref 6), some (.int e), some (.int (nI i)), x4, x5] [] (wX st it B W q pf jb pl rc tf te C1 S H τ) := by
    intro t
    induction t with
    | zero =>
      intro i pl rc m C1 x4 x5 _ hi hpl hrc hk hs hl he
      refine wp_iload_n hX dX1_replay_6 rfl ?_
      refine wp_aload_n hX dX1_replay_7 rfl ?_
      refine wp_get hX dX1_replay_8 flX1_7 rfl rfl ?_
      refine wp_icmp_ge (tgt := 77) hX dX1_replay_11 (by decide) (fun _ => ?_) (fun c => absurd (nI_le (by omega) (by omega)) c)
      refine wp_vret hX dX1_replay_77 rfl ?_
      exact hp _ _ ⟨C1, rfl, by rw [← he]; exact hk, by rw [← he]; try rfl⟩
    | succ t ih =>
      intro i pl rc m C1 x4 x5 _ hi hpl hrc hk hs hl he
      rw [rpl_s] at he
      refine wp_iload_n hX dX1_replay_6 rfl ?_
      refine wp_aload_n hX dX1_replay_7 rfl ?_
      refine wp_get hX dX1_replay_8 flX1_7 rfl rfl ?_
      refine wp_icmp_ge (tgt := 77) hX dX1_replay_11 (by decide) (fun c => absurd c (nI_ge (by omega) (by omega))) (fun _ => ?_)
      refine wp_iconst (v := 1) hX dX1_replay_14 ic_1 ?_
      refine wp_aload_n hX dX1_replay_15 rfl ?_
      refine wp_get hX dX1_replay_16 flX1_13 rfl rfl ?_
      refine wp_iadd hX dX1_replay_19 ?_
      refine wp_ti (y := (nI (1 + pl))) (nI_add 1 pl) ?_
      refine wp_istore hX dX1_replay_20 (Nat.le_of_ble_eq_true rfl) rfl ?_
      refine wp_aload_n hX dX1_replay_22 rfl ?_
      refine wp_iload hX dX1_replay_23 rfl ?_
      refine wp_iload_n hX dX1_replay_25 rfl ?_
      refine wp_aload_n hX dX1_replay_26 rfl ?_
      refine wp_get hX dX1_replay_27 flX1_16 rfl rfl ?_
      refine wp_iconst (v := 1) hX dX1_replay_30 ic_1 ?_
      refine wp_iadd hX dX1_replay_31 ?_
      refine wp_ti (y := (nI (rc + 1))) (nI_1 _) ?_
      refine wp_cv3 hX dX1_replay_32 mlX1_56 ⟨Nat.le_of_ble_eq_true rfl, Nat.le_of_ble_eq_true rfl⟩ (j_wholeParts hB hW hW2 (by omega) hjb hjb2) rfl (Nat.le_of_ble_eq_true rfl) ?_
      by_cases h0 : whl W jb q.1 (1 + pl) e (nI (rc + 1)) = 0
      · rw [if_pos h0] at he
        rw [h0]
        refine wp_istore hX dX1_replay_35 (Nat.le_of_ble_eq_true rfl) rfl ?_
        refine wp_iload hX dX1_replay_37 rfl ?_
        refine wp_if_ne (tgt := 43) hX dX1_replay_39 (by decide) (fun c => absurd (rfl) c) (fun _ => ?_)
        refine wp_vret hX dX1_replay_42 rfl ?_
        exact hp _ _ ⟨C1, rfl, by rw [← he]; exact hk, by rw [← he]; try rfl⟩
      · rw [if_neg h0] at he
        obtain ⟨g1, mm, g2, g3, g4, g5, g6⟩ := whl_pos hW hW2 hjb2 h0
        rw [g5] at he ⊢
        rw [g2, nI_clamp (by omega)] at he
        have g7 : 1 + 3 * mm ≤ rB W mm * (W - 5) := by
          unfold rB
          rw [if_neg (by omega)]
          exact cdv_mul (by omega)
        have g8 : (W - 5) * (pl + rB W mm) = (W - 5) * pl + rB W mm * (W - 5) := by rw [Nat.mul_add, Nat.mul_comm (W - 5) (rB W mm)]
        have g9 : (W - 5) * (pl + rB W mm) ≤ (W - 5) * jb := Nat.mul_le_mul (Nat.le_refl _) (by omega)
        have g10 : 1 ≤ rB W mm := Nat.pos_of_ne_zero (fun z => h0 (by rw [g5]; exact z))
        have hml : m.length = C1.1 := hk.1
        refine wp_istore hX dX1_replay_35 (Nat.le_of_ble_eq_true rfl) rfl ?_
        refine wp_iload hX dX1_replay_37 rfl ?_
        refine wp_if_ne (tgt := 43) hX dX1_replay_39 (by decide) (fun _ => ?_) (fun c => absurd c (nI_ne0 g10 (by omega)))
        refine wp_aload_n hX dX1_replay_43 rfl ?_
        refine wp_aload_n hX dX1_replay_44 rfl ?_
        refine wp_iload hX dX1_replay_45 rfl ?_
        refine wp_cv2p hX dX1_replay_47 mlX1_60 ⟨Nat.le_of_ble_eq_true rfl, Nat.le_of_ble_eq_true rfl⟩ (j_redo hB hW hW2 g2 g4 (by omega) (by omega) hk hs (by omega)) rfl (Nat.le_of_ble_eq_true rfl) ?_
        rintro r1 σ1 ⟨C2, rfl, hk2, rfl⟩
        refine wp_aload_n hX dX1_replay_50 rfl ?_
        refine wp_dup hX dX1_replay_51 rfl ?_
        refine wp_get hX dX1_replay_52 flX1_13 rfl rfl ?_
        refine wp_iload hX dX1_replay_55 rfl ?_
        refine wp_iadd hX dX1_replay_57 ?_
        refine wp_ti (y := (nI (pl + rB W mm))) (nI_add _ _) ?_
        refine wp_put hX dX1_replay_58 fwX1_13 rfl (Nat.le_of_ble_eq_true rfl) rfl rfl ?_
        refine wp_aload_n hX dX1_replay_61 rfl ?_
        refine wp_dup hX dX1_replay_62 rfl ?_
        refine wp_get hX dX1_replay_63 flX1_16 rfl rfl ?_
        refine wp_iconst (v := 1) hX dX1_replay_66 ic_1 ?_
        refine wp_iadd hX dX1_replay_67 ?_
        refine wp_ti (y := (nI (rc + 1))) (nI_1 _) ?_
        refine wp_put hX dX1_replay_68 fwX1_16 rfl (Nat.le_of_ble_eq_true rfl) rfl rfl ?_
        refine wp_eqW (σ1 := wX st it B W q pf jb (pl + rB W mm) (rc + 1) tf te C2 S H τ) rfl ?_
        refine wp_iinc hX dX1_replay_71 ic_1 rfl (Nat.le_of_ble_eq_true rfl) rfl ?_
        refine wp_goto (tgt := 6) hX dX1_replay_74 (by decide) ?_
        rw [nI_1]
        refine ih (i + 1) (pl + rB W mm) (rc + 1) _ C2 _ _ rfl (by omega) (by omega) (by omega) hk2 (rdo_srt _ _ hs) ?_ he
        have := rdo_len (W := W) (D := q.1) (b := 1 + pl) mm 0 hs
        omega
  refine wp_aload_n hX dX1_replay_0 rfl ?_
  refine wp_cv0 hX dX1_replay_1 mlX1_23 ⟨Nat.le_of_ble_eq_true rfl, Nat.le_of_ble_eq_true rfl⟩ (j_restart) rfl (Nat.le_of_ble_eq_true rfl) ?_
  refine wp_iconst (v := 0) hX dX1_replay_4 ic_0 ?_
  refine wp_istore_n hX dX1_replay_5 (Nat.le_of_ble_eq_true rfl) rfl ?_
  exact loop jb 0 0 0 Cm C none none rfl (by omega) (by omega) (by omega) hC hCs (by omega) rfl
end JN
end
section
/-! Tree: cell 5 -/
/-- blocks of the rows of nodes above a row -/
def tbl (F : Nat) : Nat → Nat → Nat
  | 0, _ => 0
  | k + 1, row => if row ≤ 1 then 0 else cdv row F + tbl F k (cdv row F)
theorem tbl_s (F k row : Nat) : tbl F (k + 1) row = if row ≤ 1 then 0 else cdv row F + tbl F k (cdv row F) := rfl
def tBl (F n : Nat) : Nat := cdv n F + tbl F 32 (cdv n F)
theorem cdv_half {row F k : Nat} (hF : 2 ≤ F) (h : row ≤ 2 ^ (k + 1)) : cdv row F ≤ 2 ^ k := by
  have h1 : cdv row F * F < row + F := by
    rcases Nat.eq_zero_or_pos row with z | z
    · rw [z, cdv_0 (by omega)]; omega
    · rw [cdv_s z (by omega), Nat.add_mul]
      have := Nat.div_mul_le_self (row - 1) F
      omega
  rw [Nat.pow_succ] at h
  rcases Nat.lt_or_ge (2 ^ k) (cdv row F) with z | z
  · exfalso
    have h2 : (2 ^ k + 1) * F ≤ cdv row F * F := Nat.mul_le_mul z (Nat.le_refl _)
    have h3 : 2 ^ k * 2 ≤ 2 ^ k * F := Nat.mul_le_mul (Nat.le_refl _) hF
    rw [Nat.add_mul] at h2
    omega
  · exact z
theorem tbl_0 (F k : Nat) : tbl F k 0 = 0 := by cases k <;> rfl
theorem tbl_le {F : Nat} (hF : 2 ≤ F) : ∀ (k row : Nat), tbl F k row ≤ 2 * row
  | 0, row => by unfold tbl; omega
  | k + 1, row => by
    unfold tbl
    split
    · omega
    · next h =>
      have := tbl_le hF k (cdv row F)
      have h1 : cdv row F * 2 ≤ row + 1 := by
        have : cdv row F ≤ cdv row 2 := by
          rcases Nat.lt_or_ge (cdv row 2) (cdv row F) with z | z
          · have := (cdv_lt (n := row) (e := F) (k := cdv row 2) (by omega)).mp z
            have h5 := cdv_mul (n := row) (e := 2) (by omega)
            have h6 : cdv row 2 * 2 ≤ cdv row 2 * F := Nat.mul_le_mul (Nat.le_refl _) hF
            omega
          · exact z
        have h7 : cdv row 2 * 2 ≤ row + 1 := by unfold cdv; omega
        omega
      omega
/-- a block of n pairs -/
def pgB (kind : Int32) (n : Nat) (g : Nat → Int32 × Int32) : Nat → Int32 := fun j => if j = 0 then kind else if j = 1 then nI n else if j < 2 + 2 * n then (if (j - 2) % 2 = 0 then (g ((j - 2) / 2)).1 else (g ((j - 2) / 2)).2) else 0
/-- block k of a row that holds len pairs g -/
def rowB (F : Nat) (kind : Int32) (len : Nat) (g : Nat → Int32 × Int32) (k : Nat) : Nat → Int32 := pgB kind (min F (len - F * k)) (fun i => g (F * k + i))
/-- page with n pairs g from place 2 on -/
def prP (pf : Nat → Int32) (g : Nat → Int32 × Int32) (n : Nat) : Nat → Int32 := fun j => if 2 ≤ j ∧ j < 2 + 2 * n then (if (j - 2) % 2 = 0 then (g ((j - 2) / 2)).1 else (g ((j - 2) / 2)).2) else pf j
theorem prP_0 (pf : Nat → Int32) (g : Nat → Int32 × Int32) : prP pf g 0 = pf := by
  funext j
  unfold prP
  rw [if_neg (by omega)]
theorem prP_s (pf : Nat → Int32) (g : Nat → Int32 × Int32) (i : Nat) : upd (upd (prP pf g i) (2 + 2 * i) (g i).1) (2 + 2 * i + 1) (g i).2 = prP pf g (i + 1) := by
  funext j
  unfold prP
  by_cases h : j = 2 + 2 * i + 1
  · rw [h, pk_us, if_pos (by omega), if_neg (by omega)]
    rw [show (2 + 2 * i + 1 - 2) / 2 = i by omega]
  · rw [pk_un h]
    by_cases h2 : j = 2 + 2 * i
    · rw [h2, pk_us, if_pos (by omega), if_pos (by omega)]
      rw [show (2 + 2 * i - 2) / 2 = i by omega]
    · rw [pk_un h2]
      by_cases h3 : 2 ≤ j ∧ j < 2 + 2 * i
      · rw [if_pos h3, if_pos (show 2 ≤ j ∧ j < 2 + 2 * (i + 1) by omega)]
      · rw [if_neg h3, if_neg (show ¬ (2 ≤ j ∧ j < 2 + 2 * (i + 1)) by omega)]
theorem pgB_eq {W n : Nat} {kind : Int32} {g : Nat → Int32 × Int32} {pf : Nat → Int32} (hW : W ≤ 64) : ∀ j, j < W - 1 → prP (upd (upd (fun j => if j < 64 then 0 else pf j) 0 kind) 1 (nI n)) g n j = pgB kind n g j := by
  intro j hj
  unfold prP pgB
  by_cases h0 : j = 0
  · subst h0
    rw [if_neg (by omega), if_pos rfl, pk_un (by omega), pk_us]
  · rw [if_neg h0]
    by_cases h1 : j = 1
    · subst h1
      rw [if_neg (by omega), if_pos rfl, pk_us]
    · rw [if_neg h1]
      by_cases h2 : j < 2 + 2 * n
      · rw [if_pos (by omega), if_pos h2]
      · rw [if_neg (by omega), if_neg h2, pk_un h1, pk_un h0, if_pos (by omega)]
def fan (W : Nat) : Nat := (W - 3) / 2
section TR
variable {st it : Int32} {B W : Nat} {q : DQ} {pf : Nat → Int32} {jb jp jr tf te : Nat} {C S H : MP} {τ : aW} {Cm : PM}
set_option maxRecDepth 100000 in
theorem t_layOut {x y : Nat} : MD1 mdX3_layOut [.ref 5, .int (nI x), .int (nI y)] (wX st it B W q pf jb jp jr tf te C S H τ) none (wX st it B W q pf jb jp jr x y C S H τ) := by
  refine md_of [some (.ref 5), some (.int (nI x)), some (.int (nI y))] rfl (Nat.le_of_ble_eq_true rfl) (by decide) (fun X Post hX hp => ?_)
  refine wp_aload_n hX dX3_layOut_0 rfl ?_
  refine wp_iload_n hX dX3_layOut_1 rfl ?_
  refine wp_put hX dX3_layOut_2 fwX3_9 rfl (Nat.le_of_ble_eq_true rfl) rfl rfl ?_
  refine wp_aload_n hX dX3_layOut_5 rfl ?_
  refine wp_iload_n hX dX3_layOut_6 rfl ?_
  refine wp_put hX dX3_layOut_7 fwX3_15 rfl (Nat.le_of_ble_eq_true rfl) rfl rfl ?_
  refine wp_vret hX dX3_layOut_10 rfl ?_
  exact hp
set_option maxRecDepth 100000 in
theorem t_areaBlocks : MD1 mdX3_areaBlocks [.ref 5] (wX st it B W q pf jb jp jr tf te C S H τ) (some (.int (nI te))) (wX st it B W q pf jb jp jr tf te C S H τ) := by
  refine md_of [some (.ref 5)] rfl (Nat.le_of_ble_eq_true rfl) (by decide) (fun X Post hX hp => ?_)
  refine wp_aload_n hX dX3_areaBlocks_0 rfl ?_
  refine wp_get hX dX3_areaBlocks_1 flX3_15 rfl rfl ?_
  refine wp_iret hX dX3_areaBlocks_4 rfl rfl ?_
  exact hp
set_option maxRecDepth 100000 in
theorem t_fan (hW : 3 ≤ W) (hW2 : W ≤ 64) : MD1 mdX3_fan [.ref 5] (wX st it B W q pf jb jp jr tf te C S H τ) (some (.int (nI (fan W)))) (wX st it B W q pf jb jp jr tf te C S H τ) := by
  refine md_of [some (.ref 5)] rfl (Nat.le_of_ble_eq_true rfl) (by decide) (fun X Post hX hp => ?_)
  refine wp_aload_n hX dX3_fan_0 rfl ?_
  refine wp_get hX dX3_fan_1 flX3_18 rfl rfl ?_
  refine wp_cv0 hX dX3_fan_4 mlX3_62 ⟨Nat.le_of_ble_eq_true rfl, Nat.le_of_ble_eq_true rfl⟩ (d_wordsInBlock rfl) rfl (Nat.le_of_ble_eq_true rfl) ?_
  refine wp_iconst (v := 3) hX dX3_fan_7 ic_3 ?_
  refine wp_isub hX dX3_fan_8 ?_
  refine wp_ti (y := (nI (W - 3))) (pk_sub (a := W) (b := 3) hW) ?_
  refine wp_iconst (v := 2) hX dX3_fan_9 ic_2 ?_
  refine wp_idiv hX dX3_fan_10 (by decide) ?_
  refine wp_ti (y := nI (fan W)) (pk_div (a := W - 3) (d := 2) (by omega) (by decide) (by decide)) ?_
  refine wp_iret hX dX3_fan_11 rfl rfl ?_
  exact hp
theorem fan_2 (hW : 16 ≤ W) : 2 ≤ fan W := by unfold fan; omega
theorem fan_le (hW2 : W ≤ 64) : fan W ≤ 30 := by unfold fan; omega
theorem fan_w : 2 * fan W ≤ W - 3 := by unfold fan; omega
set_option maxHeartbeats 4000000 in
set_option maxRecDepth 100000 in
theorem t_blocksFor {n : Nat} (hW : 16 ≤ W) (hW2 : W ≤ 64) (hn : n ≤ 20000) : MD1 mdX3_blocksFor [.ref 5, .int (nI n)] (wX st it B W q pf jb jp jr tf te C S H τ) (some (.int (nI (tBl (fan W) n)))) (wX st it B W q pf jb jp jr tf te C S H τ) := by
  refine md_of [some (.ref 5), some (.int (nI n)), none, none, none] rfl (Nat.le_of_ble_eq_true rfl) (by decide) (fun X Post hX hp => ?_)
  have hF := fan_2 hW
  have hF2 := fan_le hW2
  have hle := cdv_le (n := n) (e := fan W) (by omega)
  have loop : ∀ (k i row all : Nat), i + k = 32 → row ≤ 2 ^ k → row ≤ 20000 → all + 2 * row ≤ 100000 → all + tbl (fan W) k row = tBl (fan W) n → Wp X Post 14 [some (.ref 5), some (.int (nI n)), some (.int (nI row)), some (.int (nI all)), some (.int (nI i))] [] (wX st it B W q pf jb jp jr tf te C S H τ) := by
    intro k
    induction k with
    | zero =>
      intro i row all hi hr hr2 ha he
      refine wp_iload hX dX3_blocksFor_14 rfl ?_
      refine wp_bipush (v := 32) hX dX3_blocksFor_16 bp_32 ?_
      refine wp_icmp_ge (tgt := 45) hX dX3_blocksFor_18 (by decide) (fun _ => ?_) (fun c => absurd (nI_le (a := 32) (b := i) (by omega) (by omega)) c)
      refine wp_iload_n hX dX3_blocksFor_45 rfl ?_
      refine wp_iret hX dX3_blocksFor_46 rfl rfl ?_
      rw [← he] at hp
      exact hp
    | succ k ih =>
      intro i row all hi hr hr2 ha he
      rw [tbl_s] at he
      refine wp_iload hX dX3_blocksFor_14 rfl ?_
      refine wp_bipush (v := 32) hX dX3_blocksFor_16 bp_32 ?_
      refine wp_icmp_ge (tgt := 45) hX dX3_blocksFor_18 (by decide) (fun c => absurd c (nI_ge (a := i) (b := 32) (by omega) (by omega))) (fun _ => ?_)
      refine wp_iload_n hX dX3_blocksFor_21 rfl ?_
      refine wp_iconst (v := 1) hX dX3_blocksFor_22 ic_1 ?_
      refine wp_icmp_le (tgt := 45) hX dX3_blocksFor_23 (by decide) (fun c => ?_) (fun c => ?_)
      · have h1 := (nI_leI (a := row) (b := 1) (by omega) (by decide)).mp c
        rw [if_pos h1] at he
        refine wp_iload_n hX dX3_blocksFor_45 rfl ?_
        refine wp_iret hX dX3_blocksFor_46 rfl rfl ?_
        rw [← he] at hp
        exact hp
      · have h1 : ¬ row ≤ 1 := fun z => c (nI_le (a := row) (b := 1) z (by decide))
        rw [if_neg h1] at he
        have h2 := cdv_le (n := row) (e := fan W) (by omega)
        have h3 : cdv row (fan W) * 2 ≤ row + 1 := by
          rcases Nat.lt_or_ge (cdv row 2) (cdv row (fan W)) with z | z
          · have h4 := (cdv_lt (n := row) (e := fan W) (k := cdv row 2) (by omega)).mp z
            have h5 := cdv_mul (n := row) (e := 2) (by omega)
            have h6 : cdv row 2 * 2 ≤ cdv row 2 * fan W := Nat.mul_le_mul (Nat.le_refl _) hF
            omega
          · have h7 : cdv row 2 * 2 ≤ row + 1 := by unfold cdv; omega
            omega
        refine wp_iload_n hX dX3_blocksFor_26 rfl ?_
        refine wp_aload_n hX dX3_blocksFor_27 rfl ?_
        refine wp_cv0 hX dX3_blocksFor_28 mlX3_22 ⟨Nat.le_of_ble_eq_true rfl, Nat.le_of_ble_eq_true rfl⟩ (t_fan (by omega) hW2) rfl (Nat.le_of_ble_eq_true rfl) ?_
        refine wp_cn2 hX dX3_blocksFor_31 msX4_blocksOf (fun s h => h.2) ⟨Nat.le_of_ble_eq_true rfl, Nat.le_of_ble_eq_true rfl⟩ (b_blocksOf (by omega) (by omega) (by omega)) (Nat.le_of_ble_eq_true rfl) ?_
        refine wp_istore_n hX dX3_blocksFor_34 (Nat.le_of_ble_eq_true rfl) rfl ?_
        refine wp_iload_n hX dX3_blocksFor_35 rfl ?_
        refine wp_iload_n hX dX3_blocksFor_36 rfl ?_
        refine wp_iadd hX dX3_blocksFor_37 ?_
        refine wp_ti (y := (nI (all + cdv row (fan W)))) (nI_add _ _) ?_
        refine wp_istore_n hX dX3_blocksFor_38 (Nat.le_of_ble_eq_true rfl) rfl ?_
        refine wp_iinc hX dX3_blocksFor_39 ic_1 rfl (Nat.le_of_ble_eq_true rfl) rfl ?_
        refine wp_goto (tgt := 14) hX dX3_blocksFor_42 (by decide) ?_
        rw [nI_1]
        exact ih (i + 1) (cdv row (fan W)) (all + cdv row (fan W)) (by omega) (cdv_half hF hr) (by omega) (by omega) (by omega)
  refine wp_iload_n hX dX3_blocksFor_0 rfl ?_
  refine wp_aload_n hX dX3_blocksFor_1 rfl ?_
  refine wp_cv0 hX dX3_blocksFor_2 mlX3_22 ⟨Nat.le_of_ble_eq_true rfl, Nat.le_of_ble_eq_true rfl⟩ (t_fan (by omega) hW2) rfl (Nat.le_of_ble_eq_true rfl) ?_
  refine wp_cn2 hX dX3_blocksFor_5 msX4_blocksOf (fun s h => h.2) ⟨Nat.le_of_ble_eq_true rfl, Nat.le_of_ble_eq_true rfl⟩ (b_blocksOf (by omega) (by omega) (by omega)) (Nat.le_of_ble_eq_true rfl) ?_
  refine wp_istore_n hX dX3_blocksFor_8 (Nat.le_of_ble_eq_true rfl) rfl ?_
  refine wp_iload_n hX dX3_blocksFor_9 rfl ?_
  refine wp_istore_n hX dX3_blocksFor_10 (Nat.le_of_ble_eq_true rfl) rfl ?_
  refine wp_iconst (v := 0) hX dX3_blocksFor_11 ic_0 ?_
  refine wp_istore hX dX3_blocksFor_12 (Nat.le_of_ble_eq_true rfl) rfl ?_
  exact loop 32 0 (cdv n (fan W)) (cdv n (fan W)) (by omega) (by omega) (by omega) (by omega) rfl
set_option maxHeartbeats 4000000 in
set_option maxRecDepth 100000 in
theorem t_startOf {a : Int32} : MD1 mdX3_startOf [.ref 5, .int a] (wX st it B W q pf jb jp jr tf te C S H τ) (some (.int (nI (if a = 0 then tf else tf + te)))) (wX st it B W q pf jb jp jr tf te C S H τ) := by
  refine md_of [some (.ref 5), some (.int a)] rfl (Nat.le_of_ble_eq_true rfl) (by decide) (fun X Post hX hp => ?_)
  refine wp_iload_n hX dX3_startOf_0 rfl ?_
  refine wp_if_ne (tgt := 11) hX dX3_startOf_1 (by decide) (fun c => ?_) (fun c => ?_)
  · rw [if_neg c] at hp
    refine wp_aload_n hX dX3_startOf_11 rfl ?_
    refine wp_get hX dX3_startOf_12 flX3_9 rfl rfl ?_
    refine wp_aload_n hX dX3_startOf_15 rfl ?_
    refine wp_get hX dX3_startOf_16 flX3_15 rfl rfl ?_
    refine wp_iadd hX dX3_startOf_19 ?_
    refine wp_ti (y := nI (tf + te)) (nI_add _ _) ?_
    refine wp_iret hX dX3_startOf_20 rfl rfl ?_
    exact hp
  · rw [if_pos c] at hp
    refine wp_aload_n hX dX3_startOf_4 rfl ?_
    refine wp_get hX dX3_startOf_5 flX3_9 rfl rfl ?_
    refine wp_goto (tgt := 20) hX dX3_startOf_8 (by decide) ?_
    refine wp_iret hX dX3_startOf_20 rfl rfl ?_
    exact hp
set_option maxHeartbeats 4000000 in
set_option maxRecDepth 100000 in
theorem t_rootOf {a : Int32} {n : Nat} (hW : 16 ≤ W) (hW2 : W ≤ 64) (hn : n ≤ 20000) (htf : tf + te ≤ 1000) : MD1 mdX3_rootOf [.ref 5, .int a, .int (nI n)] (wX st it B W q pf jb jp jr tf te C S H τ) (some (.int (nI (if n = 0 then 0 else (if a = 0 then tf else tf + te) + tBl (fan W) n - 1)))) (wX st it B W q pf jb jp jr tf te C S H τ) := by
  refine md_of [some (.ref 5), some (.int a), some (.int (nI n))] rfl (Nat.le_of_ble_eq_true rfl) (by decide) (fun X Post hX hp => ?_)
  have hF := fan_2 hW
  refine wp_iload_n hX dX3_rootOf_0 rfl ?_
  refine wp_iconst (v := 1) hX dX3_rootOf_1 ic_1 ?_
  refine wp_icmp_ge (tgt := 9) hX dX3_rootOf_2 (by decide) (fun c => ?_) (fun c => ?_)
  · have h1 := (nI_leI (a := 1) (b := n) (by decide) (by omega)).mp c
    rw [if_neg (by omega)] at hp
    have h2 : 1 ≤ tBl (fan W) n := by
      unfold tBl
      have : 0 < cdv n (fan W) := (cdv_lt (by omega)).mpr (by omega)
      omega
    refine wp_aload_n hX dX3_rootOf_9 rfl ?_
    refine wp_iload_n hX dX3_rootOf_10 rfl ?_
    refine wp_cv1 hX dX3_rootOf_11 mlX3_30 ⟨Nat.le_of_ble_eq_true rfl, Nat.le_of_ble_eq_true rfl⟩ (t_startOf) rfl (Nat.le_of_ble_eq_true rfl) ?_
    refine wp_aload_n hX dX3_rootOf_14 rfl ?_
    refine wp_iload_n hX dX3_rootOf_15 rfl ?_
    refine wp_cv1 hX dX3_rootOf_16 mlX3_34 ⟨Nat.le_of_ble_eq_true rfl, Nat.le_of_ble_eq_true rfl⟩ (t_blocksFor hW hW2 hn) rfl (Nat.le_of_ble_eq_true rfl) ?_
    refine wp_iadd hX dX3_rootOf_19 ?_
    refine wp_ti (y := nI ((if a = 0 then tf else tf + te) + tBl (fan W) n)) (nI_add _ _) ?_
    refine wp_iconst (v := 1) hX dX3_rootOf_20 ic_1 ?_
    refine wp_isub hX dX3_rootOf_21 ?_
    refine wp_ti (y := nI ((if a = 0 then tf else tf + te) + tBl (fan W) n - 1)) (pk_sub (b := 1) (by omega)) ?_
    refine wp_iret hX dX3_rootOf_22 rfl rfl ?_
    exact hp
  · have h1 : n = 0 := by
      rcases Nat.eq_zero_or_pos n with h | h
      · exact h
      · exact absurd (nI_le (a := 1) (b := n) h (by omega)) c
    rw [if_pos h1] at hp
    refine wp_iconst (v := 0) hX dX3_rootOf_5 ic_0 ?_
    refine wp_goto (tgt := 22) hX dX3_rootOf_6 (by decide) ?_
    refine wp_iret hX dX3_rootOf_22 rfl rfl ?_
    exact hp
set_option maxHeartbeats 4000000 in
set_option maxRecDepth 100000 in
theorem t_beginPage {x y : Int32} (hW : 16 ≤ W) (hW2 : W ≤ 64) : MD1 mdX3_beginPage [.ref 5, .int x, .int y] (wX st it B W q pf jb jp jr tf te C S H τ) none (wX st it B W q (upd (upd (fun j => if j < 64 then 0 else pf j) 0 x) 1 y) jb jp jr tf te C S H τ) := by
  refine md_of [some (.ref 5), some (.int x), some (.int y)] rfl (Nat.le_of_ble_eq_true rfl) (by decide) (fun X Post hX hp => ?_)
  refine wp_aload_n hX dX3_beginPage_0 rfl ?_
  refine wp_get hX dX3_beginPage_1 flX3_18 rfl rfl ?_
  refine wp_cv0 hX dX3_beginPage_4 mlX3_87 ⟨Nat.le_of_ble_eq_true rfl, Nat.le_of_ble_eq_true rfl⟩ (d_clearPage rfl rfl) rfl (Nat.le_of_ble_eq_true rfl) ?_
  refine wp_aload_n hX dX3_beginPage_7 rfl ?_
  refine wp_get hX dX3_beginPage_8 flX3_18 rfl rfl ?_
  refine wp_iconst (v := 0) hX dX3_beginPage_11 ic_0 ?_
  refine wp_iload_n hX dX3_beginPage_12 rfl ?_
  refine wp_cv2 hX dX3_beginPage_13 mlX3_90 ⟨Nat.le_of_ble_eq_true rfl, Nat.le_of_ble_eq_true rfl⟩ (d_setPage (i := 0) rfl rfl hW2 (by omega)) rfl (Nat.le_of_ble_eq_true rfl) ?_
  refine wp_aload_n hX dX3_beginPage_16 rfl ?_
  refine wp_get hX dX3_beginPage_17 flX3_18 rfl rfl ?_
  refine wp_iconst (v := 1) hX dX3_beginPage_20 ic_1 ?_
  refine wp_iload_n hX dX3_beginPage_21 rfl ?_
  refine wp_cv2 hX dX3_beginPage_22 mlX3_90 ⟨Nat.le_of_ble_eq_true rfl, Nat.le_of_ble_eq_true rfl⟩ (d_setPage (i := 1) rfl rfl hW2 (by omega)) rfl (Nat.le_of_ble_eq_true rfl) ?_
  refine wp_vret hX dX3_beginPage_25 rfl ?_
  exact hp
set_option maxHeartbeats 4000000 in
set_option maxRecDepth 100000 in
theorem t_setPair {i : Nat} {x y : Int32} (hW : 16 ≤ W) (hW2 : W ≤ 64) (hi : i < fan W) : MD1 mdX3_setPair [.ref 5, .int (nI i), .int x, .int y] (wX st it B W q pf jb jp jr tf te C S H τ) none (wX st it B W q (upd (upd pf (2 + 2 * i) x) (2 + 2 * i + 1) y) jb jp jr tf te C S H τ) := by
  refine md_of [some (.ref 5), some (.int (nI i)), some (.int x), some (.int y)] rfl (Nat.le_of_ble_eq_true rfl) (by decide) (fun X Post hX hp => ?_)
  have hw := fan_w (W := W)
  have e1 : (2 : Int32) + 2 * nI i = nI (2 + 2 * i) := by rw [show (2 : Int32) = nI 2 from rfl, pk_mul, nI_add]
  refine wp_aload_n hX dX3_setPair_0 rfl ?_
  refine wp_get hX dX3_setPair_1 flX3_18 rfl rfl ?_
  refine wp_iconst (v := 2) hX dX3_setPair_4 ic_2 ?_
  refine wp_iconst (v := 2) hX dX3_setPair_5 ic_2 ?_
  refine wp_iload_n hX dX3_setPair_6 rfl ?_
  refine wp_imul hX dX3_setPair_7 ?_
  refine wp_iadd hX dX3_setPair_8 ?_
  refine wp_ti (y := (nI (2 + 2 * i))) (e1) ?_
  refine wp_iload_n hX dX3_setPair_9 rfl ?_
  refine wp_cv2 hX dX3_setPair_10 mlX3_90 ⟨Nat.le_of_ble_eq_true rfl, Nat.le_of_ble_eq_true rfl⟩ (d_setPage (i := 2 + 2 * i) rfl rfl hW2 (by omega)) rfl (Nat.le_of_ble_eq_true rfl) ?_
  refine wp_aload_n hX dX3_setPair_13 rfl ?_
  refine wp_get hX dX3_setPair_14 flX3_18 rfl rfl ?_
  refine wp_iconst (v := 2) hX dX3_setPair_17 ic_2 ?_
  refine wp_iconst (v := 2) hX dX3_setPair_18 ic_2 ?_
  refine wp_iload_n hX dX3_setPair_19 rfl ?_
  refine wp_imul hX dX3_setPair_20 ?_
  refine wp_iadd hX dX3_setPair_21 ?_
  refine wp_ti (y := (nI (2 + 2 * i))) (e1) ?_
  refine wp_iconst (v := 1) hX dX3_setPair_22 ic_1 ?_
  refine wp_iadd hX dX3_setPair_23 ?_
  refine wp_ti (y := (nI (2 + 2 * i + 1))) (nI_1 _) ?_
  refine wp_iload_n hX dX3_setPair_24 rfl ?_
  refine wp_cv2 hX dX3_setPair_25 mlX3_90 ⟨Nat.le_of_ble_eq_true rfl, Nat.le_of_ble_eq_true rfl⟩ (d_setPage (i := 2 + 2 * i + 1) rfl rfl hW2 (by omega)) rfl (Nat.le_of_ble_eq_true rfl) ?_
  refine wp_vret hX dX3_setPair_28 rfl ?_
  exact hp
end TR
end
section
/-! Tree: written and read -/
theorem n_min {a b : Nat} (ha : a < 2 ^ 31) (hb : b < 2 ^ 31) : (if nI b < nI a then nI b else nI a) = nI (min a b) := by
  by_cases h : b < a
  · rw [if_pos (nI_lt h ha), Nat.min_eq_right (by omega)]
  · rw [if_neg (nI_nlt (by omega) hb), Nat.min_eq_left (by omega)]
/-- the rows of nodes above the row of blocks at s, whose least keys are ls -/
def nodW (W : Nat) : Nat → Nat → Nat → (Nat → Int32) → DQ → Bool × DQ
  | 0, _, _, _, q => (true, q)
  | k + 1, s, row, ls, q => if row ≤ 1 then (true, q) else
    if (wrN W (fun j => (s + row + j, rowB (fan W) 2 row (fun i => (ls i, nI (s + i))) j)) 0 (cdv row (fan W)) q).1 then
      nodW W k (s + row) (cdv row (fan W)) (fun j => ls (fan W * j)) (wrN W (fun j => (s + row + j, rowB (fan W) 2 row (fun i => (ls i, nI (s + i))) j)) 0 (cdv row (fan W)) q).2
    else (false, (wrN W (fun j => (s + row + j, rowB (fan W) 2 row (fun i => (ls i, nI (s + i))) j)) 0 (cdv row (fan W)) q).2)
theorem nodW_s (W k s row : Nat) (ls : Nat → Int32) (q : DQ) : nodW W (k + 1) s row ls q = if row ≤ 1 then (true, q) else
    if (wrN W (fun j => (s + row + j, rowB (fan W) 2 row (fun i => (ls i, nI (s + i))) j)) 0 (cdv row (fan W)) q).1 then
      nodW W k (s + row) (cdv row (fan W)) (fun j => ls (fan W * j)) (wrN W (fun j => (s + row + j, rowB (fan W) 2 row (fun i => (ls i, nI (s + i))) j)) 0 (cdv row (fan W)) q).2
    else (false, (wrN W (fun j => (s + row + j, rowB (fan W) 2 row (fun i => (ls i, nI (s + i))) j)) 0 (cdv row (fan W)) q).2) := rfl
/-- the leaves of a map at block s -/
def leaW (W s : Nat) (m : PM) (q : DQ) : Bool × DQ := wrN W (fun k => (s + k, rowB (fan W) 1 m.length (fun i => m.getD i (0, 0)) k)) 0 (cdv m.length (fan W)) q
/-- a map as a tree at block s -/
def treW (W s : Nat) (m : PM) (q : DQ) : Bool × DQ :=
  if (leaW W s m q).1 then nodW W 32 s (cdv m.length (fan W)) (fun k => (m.getD (fan W * k) (0, 0)).1) (leaW W s m q).2 else (false, (leaW W s m q).2)
/-- the first n pairs of the leaves at block s, from pair c on r of them -/
def ldo (W : Nat) (D : Nat → Int32) (s : Nat) : Nat → Nat → PM → PM
  | _, 0, m => m
  | c, r + 1, m => ldo W D s (c + 1) r (ins m (D (W * (s + c / fan W) + (2 + 2 * (c % fan W)))) (D (W * (s + c / fan W) + (2 + 2 * (c % fan W) + 1))))
theorem ldo_s (W : Nat) (D : Nat → Int32) (s c r : Nat) (m : PM) : ldo W D s c (r + 1) m = ldo W D s (c + 1) r (ins m (D (W * (s + c / fan W) + (2 + 2 * (c % fan W)))) (D (W * (s + c / fan W) + (2 + 2 * (c % fan W) + 1)))) := rfl
/-- a write touches its block alone -/
theorem wrD_off {wf pf : Nat → Int32} {W b b1 i : Nat} (h : ¬ b1 = b) (hi : i < W) : wrD wf W b pf (W * b1 + i) = wf (W * b1 + i) := by
  unfold wrD
  rw [if_neg]
  rintro ⟨h1, h2⟩
  rcases Nat.lt_or_ge b1 b with z | z
  · have : W * (b1 + 1) ≤ W * b := Nat.mul_le_mul (Nat.le_refl _) z
    rw [Nat.mul_add] at this
    omega
  · have : W * (b + 1) ≤ W * b1 := Nat.mul_le_mul (Nat.le_refl _) (by omega)
    rw [Nat.mul_add] at this
    omega
theorem wrD_in {wf pf : Nat → Int32} {W b i : Nat} (hi : i < W - 1) : wrD wf W b pf (W * b + i) = pf i := by
  unfold wrD
  rw [if_pos (by omega), if_neg (by omega)]
  congr 1
  omega
/-- the words of a block that none of the writes is of -/
theorem wrN_off {W : Nat} {f : Nat → Nat × (Nat → Int32)} {b i : Nat} (hi : i < W) : ∀ (n k : Nat) (q : DQ), (∀ j, k ≤ j → j < k + n → ¬ b = (f j).1) → (wrN W f k n q).2.1 (W * b + i) = q.1 (W * b + i)
  | 0, k, q, _ => rfl
  | n + 1, k, q, h => by
    rw [wrN_s]
    split
    · rfl
    · rw [wrN_off hi n (k + 1) _ (fun j h1 h2 => h j (by omega) (by omega))]
      exact wrD_off (h k (Nat.le_refl _) (by omega)) hi
/-- the words of block f j, when all the writes happened -/
theorem wrN_at {W : Nat} {f : Nat → Nat × (Nat → Int32)} {i : Nat} (hi : i < W - 1) : ∀ (n k : Nat) (q : DQ) (j : Nat), (wrN W f k n q).1 = true → k ≤ j → j < k + n → (∀ a b, k ≤ a → a < b → b < k + n → ¬ (f a).1 = (f b).1) → (wrN W f k n q).2.1 (W * (f j).1 + i) = (f j).2 i
  | 0, k, q, j, _, _, _, _ => by omega
  | n + 1, k, q, j, h0, h1, h2, h3 => by
    rw [wrN_s] at h0 ⊢
    by_cases hf : q.2.2 = 1
    · rw [if_pos hf] at h0; cases h0
    · rw [if_neg hf] at h0 ⊢
      rcases Nat.lt_or_ge k j with z | z
      · exact wrN_at hi n (k + 1) _ j h0 (by omega) (by omega) (fun a b a1 a2 a3 => h3 a b (by omega) a2 (by omega))
      · have : j = k := by omega
        subst this
        rw [wrN_off (by omega) n (j + 1) _ (fun a a1 a2 => h3 j a (by omega) (by omega) (by omega))]
        exact wrD_in hi
section TR
variable {st it : Int32} {B W : Nat} {q : DQ} {pf : Nat → Int32} {jb jp jr tf te : Nat} {C S H : MP} {τ : aW} {Cm : PM}
set_option maxHeartbeats 4000000 in
set_option maxRecDepth 100000 in
theorem t_writeLeaves {s : Nat} (hB : B ≤ 512) (hW : 16 ≤ W) (hW2 : W ≤ 64) (hC : KAm Cm C) (hCu : C.1 ≤ 8700) (hs : s + cdv Cm.length (fan W) ≤ B) : MT mdX3_writeLeaves [.ref 5, .ref 6, .int (nI s), .int (nI (cdv Cm.length (fan W)))] (wX st it B W q pf jb jp jr tf te C S H τ) (fun r σ1 => ∃ pf1, r = some (.int (b2i (leaW W s Cm q).1)) ∧ σ1 = wX st it B W (leaW W s Cm q).2 pf1 jb jp jr tf te C S H τ) := by
  refine mp_of [some (.ref 5), some (.ref 6), some (.int (nI s)), some (.int (nI (cdv Cm.length (fan W)))), none, none, none, none] rfl (Nat.le_of_ble_eq_true rfl) (by decide) (fun X Post hX hp => ?_)
  have hF := fan_2 hW
  have hF2 := fan_le hW2
  have hl : Cm.length = C.1 := hC.1
  unfold leaW at hp
  generalize hf : (fun k => (s + k, rowB (fan W) 1 Cm.length (fun i => Cm.getD i (0, 0)) k)) = f at hp
  have loop : ∀ (n k : Nat) (q1 : DQ) (pf1 : Nat → Int32) (x5 x6 x7 : Option Value), noL [none, none, none, none, none, x5] 6 = true → noL [none, none, none, none, none, none, x6] 7 = true → k + n = cdv Cm.length (fan W) → wrN W f k n q1 = wrN W f 0 (cdv Cm.length (fan W)) q → Wp X Post 3 [some (.ref 5), some (.ref 6), some (.int (nI s)), some (.int (nI (cdv Cm.length (fan W)))), some (.int (nI k)), x5, x6, x7] [] (wX st it B W q1 pf1 jb jp jr tf te C S H τ) := by
    intro n
    induction n with
    | zero =>
      intro k q1 pf1 x5 x6 x7 _ _ hk he
      rw [← he] at hp
      refine wp_iload hX dX3_writeLeaves_3 rfl ?_
      refine wp_iload_n hX dX3_writeLeaves_5 rfl ?_
      refine wp_icmp_ge (tgt := 103) hX dX3_writeLeaves_6 (by decide) (fun _ => ?_) (fun c_ => absurd (nI_le (by omega) (by omega)) c_)
      refine wp_iconst (v := 1) hX dX3_writeLeaves_103 ic_1 ?_
      refine wp_iret hX dX3_writeLeaves_104 rfl rfl ?_
      exact hp _ _ ⟨pf1, rfl, rfl⟩
    | succ n ih =>
      intro k q1 pf1 x5 x6 x7 _ _ hk he
      have hlt : fan W * k < Cm.length := by rw [Nat.mul_comm]; exact (cdv_lt (by omega)).mp (by omega)
      refine wp_iload hX dX3_writeLeaves_3 rfl ?_
      refine wp_iload_n hX dX3_writeLeaves_5 rfl ?_
      refine wp_icmp_ge (tgt := 103) hX dX3_writeLeaves_6 (by decide) (fun c_ => absurd c_ (nI_ge (by omega) (by omega))) (fun _ => ?_)
      refine wp_iload hX dX3_writeLeaves_9 rfl ?_
      refine wp_aload_n hX dX3_writeLeaves_11 rfl ?_
      refine wp_cv0 hX dX3_writeLeaves_12 mlX3_22 ⟨Nat.le_of_ble_eq_true rfl, Nat.le_of_ble_eq_true rfl⟩ (t_fan (by omega) hW2) rfl (Nat.le_of_ble_eq_true rfl) ?_
      refine wp_imul hX dX3_writeLeaves_15 ?_
      refine wp_ti (y := (nI (fan W * k))) (by rw [pk_mul, Nat.mul_comm]) ?_
      refine wp_istore hX dX3_writeLeaves_16 (Nat.le_of_ble_eq_true rfl) rfl ?_
      refine wp_aload_n hX dX3_writeLeaves_18 rfl ?_
      refine wp_cv0 hX dX3_writeLeaves_19 mlX3_22 ⟨Nat.le_of_ble_eq_true rfl, Nat.le_of_ble_eq_true rfl⟩ (t_fan (by omega) hW2) rfl (Nat.le_of_ble_eq_true rfl) ?_
      refine wp_aload_n hX dX3_writeLeaves_22 rfl ?_
      refine wp_cv0 hX dX3_writeLeaves_23 mlX3_37 ⟨Nat.le_of_ble_eq_true rfl, Nat.le_of_ble_eq_true rfl⟩ (k_entries rfl) rfl (Nat.le_of_ble_eq_true rfl) ?_
      refine wp_iload hX dX3_writeLeaves_26 rfl ?_
      refine wp_isub hX dX3_writeLeaves_28 ?_
      refine wp_ti (y := nI (Cm.length - fan W * k)) (by rw [← hl]; exact pk_sub (by omega)) ?_
      refine wp_min hX dX3_writeLeaves_29 mlX3_65 ⟨Nat.le_of_ble_eq_true rfl, Nat.le_of_ble_eq_true rfl⟩ (Nat.le_of_ble_eq_true rfl) ?_
      refine wp_ti (y := nI (min (fan W) (Cm.length - fan W * k))) (n_min (by omega) (by omega)) ?_
      generalize hmany : min (fan W) (Cm.length - fan W * k) = many
      refine wp_istore hX dX3_writeLeaves_32 (Nat.le_of_ble_eq_true rfl) rfl ?_
      refine wp_aload_n hX dX3_writeLeaves_34 rfl ?_
      refine wp_iconst (v := 1) hX dX3_writeLeaves_35 ic_1 ?_
      refine wp_iload hX dX3_writeLeaves_36 rfl ?_
      refine wp_cv2 hX dX3_writeLeaves_38 mlX3_70 ⟨Nat.le_of_ble_eq_true rfl, Nat.le_of_ble_eq_true rfl⟩ (t_beginPage hW hW2) rfl (Nat.le_of_ble_eq_true rfl) ?_
      refine wp_iconst (v := 0) hX dX3_writeLeaves_41 ic_0 ?_
      refine wp_istore hX dX3_writeLeaves_42 (Nat.le_of_ble_eq_true rfl) rfl ?_
      have inner : ∀ (r i : Nat), i + r = many → Wp X Post 44 [some (.ref 5), some (.ref 6), some (.int (nI s)), some (.int (nI (cdv Cm.length (fan W)))), some (.int (nI k)), some (.int (nI (fan W * k))), some (.int (nI many)), some (.int (nI i))] [] (wX st it B W q1 (prP (upd (upd (fun j => if j < 64 then 0 else pf1 j) 0 1) 1 (nI many)) (fun i => Cm.getD (fan W * k + i) (0, 0)) i) jb jp jr tf te C S H τ) := by
        intro r
        induction r with
        | zero =>
          intro i hi
          rw [show i = many by omega]
          have hfi : (f k).2 = rowB (fan W) 1 Cm.length (fun i => Cm.getD i (0, 0)) k := by rw [← hf]
          have hfb : (f k).1 = s + k := by rw [← hf]
          by_cases h1 : q1.2.2 = 1
          · rw [wrN_s, if_pos h1] at he
            rw [← he] at hp
            refine wp_iload hX dX3_writeLeaves_44 rfl ?_
            refine wp_iload hX dX3_writeLeaves_46 rfl ?_
            refine wp_icmp_ge (tgt := 81) hX dX3_writeLeaves_48 (by decide) (fun _ => ?_) (fun c_ => absurd (nI_le (by omega) (by omega)) c_)
            refine wp_aload_n hX dX3_writeLeaves_81 rfl ?_
            refine wp_get hX dX3_writeLeaves_82 flX3_18 rfl rfl ?_
            refine wp_iload_n hX dX3_writeLeaves_85 rfl ?_
            refine wp_iload hX dX3_writeLeaves_86 rfl ?_
            refine wp_iadd hX dX3_writeLeaves_88 ?_
            refine wp_ti (y := (nI (s + k))) (nI_add _ _) ?_
            refine wp_cv1 hX dX3_writeLeaves_89 mlX3_83 ⟨Nat.le_of_ble_eq_true rfl, Nat.le_of_ble_eq_true rfl⟩ (d_writePage_no rfl hB hW2 (by omega) (by omega) h1) rfl (Nat.le_of_ble_eq_true rfl) ?_
            refine wp_if_ne (tgt := 97) hX dX3_writeLeaves_92 (by decide) (fun c_ => absurd (rfl) c_) (fun _ => ?_)
            refine wp_iconst (v := 0) hX dX3_writeLeaves_95 ic_0 ?_
            refine wp_iret hX dX3_writeLeaves_96 rfl rfl ?_
            exact hp _ _ ⟨_, rfl, rfl⟩
          · rw [wrN_s, if_neg h1] at he
            refine wp_iload hX dX3_writeLeaves_44 rfl ?_
            refine wp_iload hX dX3_writeLeaves_46 rfl ?_
            refine wp_icmp_ge (tgt := 81) hX dX3_writeLeaves_48 (by decide) (fun _ => ?_) (fun c_ => absurd (nI_le (by omega) (by omega)) c_)
            refine wp_aload_n hX dX3_writeLeaves_81 rfl ?_
            refine wp_get hX dX3_writeLeaves_82 flX3_18 rfl rfl ?_
            refine wp_iload_n hX dX3_writeLeaves_85 rfl ?_
            refine wp_iload hX dX3_writeLeaves_86 rfl ?_
            refine wp_iadd hX dX3_writeLeaves_88 ?_
            refine wp_ti (y := (nI (s + k))) (nI_add _ _) ?_
            refine wp_cv1 hX dX3_writeLeaves_89 mlX3_83 ⟨Nat.le_of_ble_eq_true rfl, Nat.le_of_ble_eq_true rfl⟩ (d_writePage_ok rfl rfl rfl hB hW2 (by omega) (by omega) h1) rfl (Nat.le_of_ble_eq_true rfl) ?_
            refine wp_if_ne (tgt := 97) hX dX3_writeLeaves_92 (by decide) (fun _ => ?_) (fun c_ => absurd c_ (by decide))
            refine wp_iinc hX dX3_writeLeaves_97 ic_1 rfl (Nat.le_of_ble_eq_true rfl) rfl ?_
            refine wp_goto (tgt := 3) hX dX3_writeLeaves_100 (by decide) ?_
            have e2 : pgB 1 many (fun i => Cm.getD (fan W * k + i) (0, 0)) = (f k).2 := by rw [hfi]; unfold rowB; rw [hmany]
            rw [nI_1, wrD_congr (pgB_eq hW2), e2, ← hfb]
            exact ih (k + 1) (wrD q1.1 W (f k).1 (f k).2, q1.2.1 + 1, pwd q1.2.2) _ (some (.int (nI (fan W * k)))) (some (.int (nI many))) _ rfl rfl (by omega) he
        | succ r ih2 =>
          intro i hi
          refine wp_iload hX dX3_writeLeaves_44 rfl ?_
          refine wp_iload hX dX3_writeLeaves_46 rfl ?_
          refine wp_icmp_ge (tgt := 81) hX dX3_writeLeaves_48 (by decide) (fun c_ => absurd c_ (nI_ge (by omega) (by omega))) (fun _ => ?_)
          refine wp_aload_n hX dX3_writeLeaves_51 rfl ?_
          refine wp_iload hX dX3_writeLeaves_52 rfl ?_
          refine wp_aload_n hX dX3_writeLeaves_54 rfl ?_
          refine wp_iload hX dX3_writeLeaves_55 rfl ?_
          refine wp_iload hX dX3_writeLeaves_57 rfl ?_
          refine wp_iadd hX dX3_writeLeaves_59 ?_
          refine wp_ti (y := (nI (fan W * k + i))) (nI_add _ _) ?_
          refine wp_cv1 hX dX3_writeLeaves_60 mlX3_73 ⟨Nat.le_of_ble_eq_true rfl, Nat.le_of_ble_eq_true rfl⟩ (k_keyAt rfl rfl hCu (by decide)) rfl (Nat.le_of_ble_eq_true rfl) ?_
          rw [at0_nI (by omega), if_pos (by omega)]
          refine wp_aload_n hX dX3_writeLeaves_63 rfl ?_
          refine wp_iload hX dX3_writeLeaves_64 rfl ?_
          refine wp_iload hX dX3_writeLeaves_66 rfl ?_
          refine wp_iadd hX dX3_writeLeaves_68 ?_
          refine wp_ti (y := (nI (fan W * k + i))) (nI_add _ _) ?_
          refine wp_cv1 hX dX3_writeLeaves_69 mlX3_76 ⟨Nat.le_of_ble_eq_true rfl, Nat.le_of_ble_eq_true rfl⟩ (k_valueAt rfl rfl hCu (by decide)) rfl (Nat.le_of_ble_eq_true rfl) ?_
          rw [at0_nI (by omega), if_pos (by omega)]
          refine wp_cv3 hX dX3_writeLeaves_72 mlX3_79 ⟨Nat.le_of_ble_eq_true rfl, Nat.le_of_ble_eq_true rfl⟩ (t_setPair hW hW2 (by omega)) rfl (Nat.le_of_ble_eq_true rfl) ?_
          have e := prP_s (upd (upd (fun j => if j < 64 then 0 else pf1 j) 0 1) 1 (nI many)) (fun i => Cm.getD (fan W * k + i) (0, 0)) i
          rw [show Cm.getD (fan W * k + i) (0, 0) = (C.2.1 (fan W * k + i), C.2.2 (fan W * k + i)) from KA.getD hC (by omega)] at e
          rw [e]
          refine wp_iinc hX dX3_writeLeaves_75 ic_1 rfl (Nat.le_of_ble_eq_true rfl) rfl ?_
          refine wp_goto (tgt := 44) hX dX3_writeLeaves_78 (by decide) ?_
          rw [nI_1]
          exact ih2 (i + 1) (by omega)
      have z := inner many 0 (by omega)
      rw [prP_0] at z
      exact z
  refine wp_iconst (v := 0) hX dX3_writeLeaves_0 ic_0 ?_
  refine wp_istore hX dX3_writeLeaves_1 (Nat.le_of_ble_eq_true rfl) rfl ?_
  exact loop (cdv Cm.length (fan W)) 0 q pf none none none rfl rfl (by omega) rfl
set_option maxHeartbeats 4000000 in
set_option maxRecDepth 100000 in
theorem t_writeNodes {s row : Nat} {ls : Nat → Int32} (hB : B ≤ 512) (hW : 16 ≤ W) (hW2 : W ≤ 64) (hs : s + row + cdv row (fan W) ≤ B) (hls : ∀ i, i < row → q.1 (W * (s + i) + 2) = ls i) : MT mdX3_writeNodes [.ref 5, .int (nI s), .int (nI row)] (wX st it B W q pf jb jp jr tf te C S H τ)
    (fun r σ1 => ∃ pf1, r = some (.int (b2i (wrN W (fun j => (s + row + j, rowB (fan W) 2 row (fun i => (ls i, nI (s + i))) j)) 0 (cdv row (fan W)) q).1)) ∧ σ1 = wX st it B W (wrN W (fun j => (s + row + j, rowB (fan W) 2 row (fun i => (ls i, nI (s + i))) j)) 0 (cdv row (fan W)) q).2 pf1 jb jp jr tf te C S H τ) := by
  refine mp_of [some (.ref 5), some (.int (nI s)), some (.int (nI row)), none, none, none, none, none, none] rfl (Nat.le_of_ble_eq_true rfl) (by decide) (fun X Post hX hp => ?_)
  have hF := fan_2 hW
  have hF2 := fan_le hW2
  generalize hf : (fun j => (s + row + j, rowB (fan W) 2 row (fun i => (ls i, nI (s + i))) j)) = f at hp
  have loop : ∀ (n k : Nat) (q1 : DQ) (pf1 : Nat → Int32) (x5 x6 x7 x8 : Option Value), noL [none, none, none, none, none, x5] 6 = true → noL [none, none, none, none, none, none, x6] 7 = true → noL [none, none, none, none, none, none, none, x7] 8 = true → k + n = cdv row (fan W) → (∀ i, i < row → q1.1 (W * (s + i) + 2) = ls i) → wrN W f k n q1 = wrN W f 0 (cdv row (fan W)) q → Wp X Post 12 [some (.ref 5), some (.int (nI s)), some (.int (nI row)), some (.int (nI (cdv row (fan W)))), some (.int (nI k)), x5, x6, x7, x8] [] (wX st it B W q1 pf1 jb jp jr tf te C S H τ) := by
    intro n
    induction n with
    | zero =>
      intro k q1 pf1 x5 x6 x7 x8 _ _ _ hk hl1 he
      rw [← he] at hp
      refine wp_iload hX dX3_writeNodes_12 rfl ?_
      refine wp_iload_n hX dX3_writeNodes_14 rfl ?_
      refine wp_icmp_ge (tgt := 114) hX dX3_writeNodes_15 (by decide) (fun _ => ?_) (fun c_ => absurd (nI_le (by omega) (by omega)) c_)
      refine wp_iconst (v := 1) hX dX3_writeNodes_114 ic_1 ?_
      refine wp_iret hX dX3_writeNodes_115 rfl rfl ?_
      exact hp _ _ ⟨pf1, rfl, rfl⟩
    | succ n ih =>
      intro k q1 pf1 x5 x6 x7 x8 _ _ _ hk hl1 he
      have hlt : fan W * k < row := by rw [Nat.mul_comm]; exact (cdv_lt (by omega)).mp (by omega)
      refine wp_iload hX dX3_writeNodes_12 rfl ?_
      refine wp_iload_n hX dX3_writeNodes_14 rfl ?_
      refine wp_icmp_ge (tgt := 114) hX dX3_writeNodes_15 (by decide) (fun c_ => absurd c_ (nI_ge (by omega) (by omega))) (fun _ => ?_)
      refine wp_iload hX dX3_writeNodes_18 rfl ?_
      refine wp_aload_n hX dX3_writeNodes_20 rfl ?_
      refine wp_cv0 hX dX3_writeNodes_21 mlX3_22 ⟨Nat.le_of_ble_eq_true rfl, Nat.le_of_ble_eq_true rfl⟩ (t_fan (by omega) hW2) rfl (Nat.le_of_ble_eq_true rfl) ?_
      refine wp_imul hX dX3_writeNodes_24 ?_
      refine wp_ti (y := (nI (fan W * k))) (by rw [pk_mul, Nat.mul_comm]) ?_
      refine wp_istore hX dX3_writeNodes_25 (Nat.le_of_ble_eq_true rfl) rfl ?_
      refine wp_aload_n hX dX3_writeNodes_27 rfl ?_
      refine wp_cv0 hX dX3_writeNodes_28 mlX3_22 ⟨Nat.le_of_ble_eq_true rfl, Nat.le_of_ble_eq_true rfl⟩ (t_fan (by omega) hW2) rfl (Nat.le_of_ble_eq_true rfl) ?_
      refine wp_iload_n hX dX3_writeNodes_31 rfl ?_
      refine wp_iload hX dX3_writeNodes_32 rfl ?_
      refine wp_isub hX dX3_writeNodes_34 ?_
      refine wp_ti (y := nI (row - fan W * k)) (pk_sub (by omega)) ?_
      refine wp_min hX dX3_writeNodes_35 mlX3_65 ⟨Nat.le_of_ble_eq_true rfl, Nat.le_of_ble_eq_true rfl⟩ (Nat.le_of_ble_eq_true rfl) ?_
      refine wp_ti (y := nI (min (fan W) (row - fan W * k))) (n_min (by omega) (by omega)) ?_
      generalize hmany : min (fan W) (row - fan W * k) = many
      refine wp_istore hX dX3_writeNodes_38 (Nat.le_of_ble_eq_true rfl) rfl ?_
      refine wp_aload_n hX dX3_writeNodes_40 rfl ?_
      refine wp_iconst (v := 2) hX dX3_writeNodes_41 ic_2 ?_
      refine wp_iload hX dX3_writeNodes_42 rfl ?_
      refine wp_cv2 hX dX3_writeNodes_44 mlX3_70 ⟨Nat.le_of_ble_eq_true rfl, Nat.le_of_ble_eq_true rfl⟩ (t_beginPage hW hW2) rfl (Nat.le_of_ble_eq_true rfl) ?_
      refine wp_iconst (v := 0) hX dX3_writeNodes_47 ic_0 ?_
      refine wp_istore hX dX3_writeNodes_48 (Nat.le_of_ble_eq_true rfl) rfl ?_
      have inner : ∀ (r i : Nat) (x8 : Option Value), i + r = many → Wp X Post 50 [some (.ref 5), some (.int (nI s)), some (.int (nI row)), some (.int (nI (cdv row (fan W)))), some (.int (nI k)), some (.int (nI (fan W * k))), some (.int (nI many)), some (.int (nI i)), x8] [] (wX st it B W q1 (prP (upd (upd (fun j => if j < 64 then 0 else pf1 j) 0 2) 1 (nI many)) (fun i => (ls (fan W * k + i), nI (s + (fan W * k + i)))) i) jb jp jr tf te C S H τ) := by
        intro r
        induction r with
        | zero =>
          intro i x8 hi
          rw [show i = many by omega]
          have hfi : (f k).2 = rowB (fan W) 2 row (fun i => (ls i, nI (s + i))) k := by rw [← hf]
          have hfb : (f k).1 = s + row + k := by rw [← hf]
          by_cases h1 : q1.2.2 = 1
          · rw [wrN_s, if_pos h1] at he
            rw [← he] at hp
            refine wp_iload hX dX3_writeNodes_50 rfl ?_
            refine wp_iload hX dX3_writeNodes_52 rfl ?_
            refine wp_icmp_ge (tgt := 90) hX dX3_writeNodes_54 (by decide) (fun _ => ?_) (fun c_ => absurd (nI_le (by omega) (by omega)) c_)
            refine wp_aload_n hX dX3_writeNodes_90 rfl ?_
            refine wp_get hX dX3_writeNodes_91 flX3_18 rfl rfl ?_
            refine wp_iload_n hX dX3_writeNodes_94 rfl ?_
            refine wp_iload_n hX dX3_writeNodes_95 rfl ?_
            refine wp_iadd hX dX3_writeNodes_96 ?_
            refine wp_iload hX dX3_writeNodes_97 rfl ?_
            refine wp_iadd hX dX3_writeNodes_99 ?_
            refine wp_ti (y := (nI (s + row + k))) (by rw [nI_add, nI_add]) ?_
            refine wp_cv1 hX dX3_writeNodes_100 mlX3_83 ⟨Nat.le_of_ble_eq_true rfl, Nat.le_of_ble_eq_true rfl⟩ (d_writePage_no rfl hB hW2 (by omega) (by omega) h1) rfl (Nat.le_of_ble_eq_true rfl) ?_
            refine wp_if_ne (tgt := 108) hX dX3_writeNodes_103 (by decide) (fun c_ => absurd (rfl) c_) (fun _ => ?_)
            refine wp_iconst (v := 0) hX dX3_writeNodes_106 ic_0 ?_
            refine wp_iret hX dX3_writeNodes_107 rfl rfl ?_
            exact hp _ _ ⟨_, rfl, rfl⟩
          · rw [wrN_s, if_neg h1] at he
            refine wp_iload hX dX3_writeNodes_50 rfl ?_
            refine wp_iload hX dX3_writeNodes_52 rfl ?_
            refine wp_icmp_ge (tgt := 90) hX dX3_writeNodes_54 (by decide) (fun _ => ?_) (fun c_ => absurd (nI_le (by omega) (by omega)) c_)
            refine wp_aload_n hX dX3_writeNodes_90 rfl ?_
            refine wp_get hX dX3_writeNodes_91 flX3_18 rfl rfl ?_
            refine wp_iload_n hX dX3_writeNodes_94 rfl ?_
            refine wp_iload_n hX dX3_writeNodes_95 rfl ?_
            refine wp_iadd hX dX3_writeNodes_96 ?_
            refine wp_iload hX dX3_writeNodes_97 rfl ?_
            refine wp_iadd hX dX3_writeNodes_99 ?_
            refine wp_ti (y := (nI (s + row + k))) (by rw [nI_add, nI_add]) ?_
            refine wp_cv1 hX dX3_writeNodes_100 mlX3_83 ⟨Nat.le_of_ble_eq_true rfl, Nat.le_of_ble_eq_true rfl⟩ (d_writePage_ok rfl rfl rfl hB hW2 (by omega) (by omega) h1) rfl (Nat.le_of_ble_eq_true rfl) ?_
            refine wp_if_ne (tgt := 108) hX dX3_writeNodes_103 (by decide) (fun _ => ?_) (fun c_ => absurd c_ (by decide))
            refine wp_iinc hX dX3_writeNodes_108 ic_1 rfl (Nat.le_of_ble_eq_true rfl) rfl ?_
            refine wp_goto (tgt := 12) hX dX3_writeNodes_111 (by decide) ?_
            have e2 : pgB 2 many (fun i => (ls (fan W * k + i), nI (s + (fan W * k + i)))) = (f k).2 := by rw [hfi]; unfold rowB; rw [hmany]
            rw [nI_1, wrD_congr (pgB_eq hW2), e2, ← hfb]
            refine ih (k + 1) (wrD q1.1 W (f k).1 (f k).2, q1.2.1 + 1, pwd q1.2.2) _ (some (.int (nI (fan W * k)))) (some (.int (nI many))) (some (.int (nI many))) _ rfl rfl rfl (by omega) (fun i hi => ?_) he
            show wrD q1.1 W (f k).1 (f k).2 (W * (s + i) + 2) = ls i
            rw [wrD_off (by rw [hfb]; omega) (by omega)]
            exact hl1 i hi
        | succ r ih2 =>
          intro i x8 hi
          refine wp_iload hX dX3_writeNodes_50 rfl ?_
          refine wp_iload hX dX3_writeNodes_52 rfl ?_
          refine wp_icmp_ge (tgt := 90) hX dX3_writeNodes_54 (by decide) (fun c_ => absurd c_ (nI_ge (by omega) (by omega))) (fun _ => ?_)
          refine wp_iload_n hX dX3_writeNodes_57 rfl ?_
          refine wp_iload hX dX3_writeNodes_58 rfl ?_
          refine wp_iadd hX dX3_writeNodes_60 ?_
          refine wp_iload hX dX3_writeNodes_61 rfl ?_
          refine wp_iadd hX dX3_writeNodes_63 ?_
          refine wp_ti (y := (nI (s + (fan W * k + i)))) (by rw [nI_add, nI_add, Nat.add_assoc]) ?_
          refine wp_istore hX dX3_writeNodes_64 (Nat.le_of_ble_eq_true rfl) rfl ?_
          refine wp_aload_n hX dX3_writeNodes_66 rfl ?_
          refine wp_iload hX dX3_writeNodes_67 rfl ?_
          refine wp_aload_n hX dX3_writeNodes_69 rfl ?_
          refine wp_get hX dX3_writeNodes_70 flX3_18 rfl rfl ?_
          refine wp_iload hX dX3_writeNodes_73 rfl ?_
          refine wp_iconst (v := 2) hX dX3_writeNodes_75 ic_2 ?_
          refine wp_cv2 hX dX3_writeNodes_76 mlX3_53 ⟨Nat.le_of_ble_eq_true rfl, Nat.le_of_ble_eq_true rfl⟩ (d_wordAt rfl rfl hB hW2) rfl (Nat.le_of_ble_eq_true rfl) ?_
          rw [show wA B W q1.1 (nI (s + (fan W * k + i))) 2 = q1.1 (W * (s + (fan W * k + i)) + 2) from wA_in (i := 2) hB hW2 (by omega) (by omega), hl1 _ (by omega)]
          refine wp_iload hX dX3_writeNodes_79 rfl ?_
          refine wp_cv3 hX dX3_writeNodes_81 mlX3_79 ⟨Nat.le_of_ble_eq_true rfl, Nat.le_of_ble_eq_true rfl⟩ (t_setPair hW hW2 (by omega)) rfl (Nat.le_of_ble_eq_true rfl) ?_
          have e := prP_s (upd (upd (fun j => if j < 64 then 0 else pf1 j) 0 2) 1 (nI many)) (fun i => (ls (fan W * k + i), nI (s + (fan W * k + i)))) i
          rw [e]
          refine wp_iinc hX dX3_writeNodes_84 ic_1 rfl (Nat.le_of_ble_eq_true rfl) rfl ?_
          refine wp_goto (tgt := 50) hX dX3_writeNodes_87 (by decide) ?_
          rw [nI_1]
          exact ih2 (i + 1) _ (by omega)
      have z := inner many 0 x8 (by omega)
      rw [prP_0] at z
      exact z
  have hle := cdv_le (n := row) (e := fan W) (by omega)
  refine wp_iload_n hX dX3_writeNodes_0 rfl ?_
  refine wp_aload_n hX dX3_writeNodes_1 rfl ?_
  refine wp_cv0 hX dX3_writeNodes_2 mlX3_22 ⟨Nat.le_of_ble_eq_true rfl, Nat.le_of_ble_eq_true rfl⟩ (t_fan (by omega) hW2) rfl (Nat.le_of_ble_eq_true rfl) ?_
  refine wp_cn2 hX dX3_writeNodes_5 msX4_blocksOf (fun s h => h.2) ⟨Nat.le_of_ble_eq_true rfl, Nat.le_of_ble_eq_true rfl⟩ (b_blocksOf (by omega) (by omega) (by omega)) (Nat.le_of_ble_eq_true rfl) ?_
  refine wp_istore_n hX dX3_writeNodes_8 (Nat.le_of_ble_eq_true rfl) rfl ?_
  refine wp_iconst (v := 0) hX dX3_writeNodes_9 ic_0 ?_
  refine wp_istore hX dX3_writeNodes_10 (Nat.le_of_ble_eq_true rfl) rfl ?_
  exact loop (cdv row (fan W)) 0 q pf none none none none rfl rfl rfl (by omega) hls rfl
end TR
section TR3
variable {st it : Int32} {B W : Nat} {q : DQ} {pf : Nat → Int32} {jb jp jr tf te : Nat} {C S H : MP} {τ : aW} {Cm : PM}
set_option maxHeartbeats 4000000 in
set_option maxRecDepth 100000 in
theorem t_save {a : Int32} {s : Nat} (hB : B ≤ 512) (hW : 16 ≤ W) (hW2 : W ≤ 64) (hC : KAm Cm C) (hCu : C.1 ≤ 8700) (hs0 : (if a = 0 then tf else tf + te) = s) (hs : s + tBl (fan W) Cm.length ≤ B) : MT mdX3_save [.ref 5, .ref 6, .int a] (wX st it B W q pf jb jp jr tf te C S H τ) (fun r σ1 => ∃ pf1, r = some (.int (b2i (treW W s Cm q).1)) ∧ σ1 = wX st it B W (treW W s Cm q).2 pf1 jb jp jr tf te C S H τ) := by
  refine mp_of [some (.ref 5), some (.ref 6), some (.int a), none, none, none] rfl (Nat.le_of_ble_eq_true rfl) (by decide) (fun X Post hX hp => ?_)
  have hF := fan_2 hW
  have hF2 := fan_le hW2
  have hl : Cm.length = C.1 := hC.1
  unfold tBl at hs
  have hle := cdv_le (n := Cm.length) (e := fan W) (by omega)
  have loop : ∀ (k i s1 row : Nat) (ls : Nat → Int32) (q1 : DQ) (pf1 : Nat → Int32), i + k = 32 → row ≤ 2 ^ k → s1 + row + tbl (fan W) k row ≤ B → (∀ j, j < row → q1.1 (W * (s1 + j) + 2) = ls j) → nodW W k s1 row ls q1 = treW W s Cm q → Wp X Post 35 [some (.ref 5), some (.ref 6), some (.int a), some (.int (nI s1)), some (.int (nI row)), some (.int (nI i))] [] (wX st it B W q1 pf1 jb jp jr tf te C S H τ) := by
    intro k
    induction k with
    | zero =>
      intro i s1 row ls q1 pf1 hi hr hb hl1 he
      rw [← he] at hp
      refine wp_iload hX dX3_save_35 rfl ?_
      refine wp_bipush (v := 32) hX dX3_save_37 bp_32 ?_
      refine wp_icmp_ge (tgt := 82) hX dX3_save_39 (by decide) (fun _ => ?_) (fun c_ => absurd (nI_le (a := 32) (b := i) (by omega) (by omega)) c_)
      refine wp_iconst (v := 1) hX dX3_save_82 ic_1 ?_
      refine wp_iret hX dX3_save_83 rfl rfl ?_
      exact hp _ _ ⟨pf1, rfl, rfl⟩
    | succ k ih =>
      intro i s1 row ls q1 pf1 hi hr hb hl1 he
      rw [nodW_s] at he
      rw [tbl_s] at hb
      refine wp_iload hX dX3_save_35 rfl ?_
      refine wp_bipush (v := 32) hX dX3_save_37 bp_32 ?_
      refine wp_icmp_ge (tgt := 82) hX dX3_save_39 (by decide) (fun c_ => absurd c_ (nI_ge (a := i) (b := 32) (by omega) (by omega))) (fun _ => ?_)
      refine wp_iload hX dX3_save_42 rfl ?_
      refine wp_iconst (v := 1) hX dX3_save_44 ic_1 ?_
      refine wp_icmp_le (tgt := 82) hX dX3_save_45 (by decide) (fun c => ?_) (fun c => ?_)
      · have h1 := (nI_leI (a := row) (b := 1) (by omega) (by decide)).mp c
        rw [if_pos h1] at he
        rw [← he] at hp
        refine wp_iconst (v := 1) hX dX3_save_82 ic_1 ?_
        refine wp_iret hX dX3_save_83 rfl rfl ?_
        exact hp _ _ ⟨pf1, rfl, rfl⟩
      · have h1 : ¬ row ≤ 1 := fun z => c (nI_le (a := row) (b := 1) z (by decide))
        rw [if_neg h1] at he hb
        refine wp_aload_n hX dX3_save_48 rfl ?_
        refine wp_iload_n hX dX3_save_49 rfl ?_
        refine wp_iload hX dX3_save_50 rfl ?_
        refine wp_cv2p hX dX3_save_52 mlX3_46 ⟨Nat.le_of_ble_eq_true rfl, Nat.le_of_ble_eq_true rfl⟩ (t_writeNodes hB hW hW2 (by omega) hl1) rfl (Nat.le_of_ble_eq_true rfl) ?_
        rintro r1 σ1 ⟨pf2, rfl, rfl⟩
        generalize hz : wrN W (fun j => (s1 + row + j, rowB (fan W) 2 row (fun i => (ls i, nI (s1 + i))) j)) 0 (cdv row (fan W)) q1 = z at he ⊢
        obtain ⟨zb, z2⟩ := z
        cases zb with
        | false =>
          rw [if_neg (show ¬ false = true by decide)] at he
          rw [← he] at hp
          refine wp_if_ne (tgt := 60) hX dX3_save_55 (by decide) (fun c_ => absurd (rfl) c_) (fun _ => ?_)
          refine wp_iconst (v := 0) hX dX3_save_58 ic_0 ?_
          refine wp_iret hX dX3_save_59 rfl rfl ?_
          exact hp _ _ ⟨pf2, rfl, rfl⟩
        | true =>
          rw [if_pos rfl] at he
          refine wp_if_ne (tgt := 60) hX dX3_save_55 (by decide) (fun _ => ?_) (fun c_ => absurd c_ (show ¬ b2i true = 0 by decide))
          refine wp_iload_n hX dX3_save_60 rfl ?_
          refine wp_iload hX dX3_save_61 rfl ?_
          refine wp_iadd hX dX3_save_63 ?_
          refine wp_ti (y := (nI (s1 + row))) (nI_add _ _) ?_
          refine wp_istore_n hX dX3_save_64 (Nat.le_of_ble_eq_true rfl) rfl ?_
          refine wp_iload hX dX3_save_65 rfl ?_
          refine wp_aload_n hX dX3_save_67 rfl ?_
          refine wp_cv0 hX dX3_save_68 mlX3_22 ⟨Nat.le_of_ble_eq_true rfl, Nat.le_of_ble_eq_true rfl⟩ (t_fan (by omega) hW2) rfl (Nat.le_of_ble_eq_true rfl) ?_
          refine wp_cn2 hX dX3_save_71 msX4_blocksOf (fun s h => h.2) ⟨Nat.le_of_ble_eq_true rfl, Nat.le_of_ble_eq_true rfl⟩ (b_blocksOf (by omega) (by omega) (by omega)) (Nat.le_of_ble_eq_true rfl) ?_
          refine wp_istore hX dX3_save_74 (Nat.le_of_ble_eq_true rfl) rfl ?_
          refine wp_iinc hX dX3_save_76 ic_1 rfl (Nat.le_of_ble_eq_true rfl) rfl ?_
          refine wp_goto (tgt := 35) hX dX3_save_79 (by decide) ?_
          rw [nI_1]
          refine ih (i + 1) (s1 + row) (cdv row (fan W)) (fun j => ls (fan W * j)) z2 pf2 (by omega) (cdv_half hF hr) (by omega) (fun j hj => ?_) he
          have e := wrN_at (W := W) (f := fun j => (s1 + row + j, rowB (fan W) 2 row (fun i => (ls i, nI (s1 + i))) j)) (i := 2) (by omega) (cdv row (fan W)) 0 q1 j (by rw [hz]) (by omega) (by omega) (fun a b _ h _ => by show ¬ s1 + row + a = s1 + row + b; omega)
          rw [hz] at e
          refine e.trans ?_
          have hlt : fan W * j < row := by rw [Nat.mul_comm]; exact (cdv_lt (by omega)).mp hj
          show rowB (fan W) 2 row (fun i => (ls i, nI (s1 + i))) j 2 = ls (fan W * j)
          unfold rowB pgB
          rw [if_neg (by decide), if_neg (by decide), if_pos (by omega), if_pos (by decide)]
          rfl
  have h0 : s + cdv Cm.length (fan W) ≤ B := by omega
  refine wp_aload_n hX dX3_save_0 rfl ?_
  refine wp_iload_n hX dX3_save_1 rfl ?_
  refine wp_cv1 hX dX3_save_2 mlX3_30 ⟨Nat.le_of_ble_eq_true rfl, Nat.le_of_ble_eq_true rfl⟩ (t_startOf) rfl (Nat.le_of_ble_eq_true rfl) ?_
  rw [hs0]
  refine wp_istore_n hX dX3_save_5 (Nat.le_of_ble_eq_true rfl) rfl ?_
  refine wp_aload_n hX dX3_save_6 rfl ?_
  refine wp_cv0 hX dX3_save_7 mlX3_37 ⟨Nat.le_of_ble_eq_true rfl, Nat.le_of_ble_eq_true rfl⟩ (k_entries rfl) rfl (Nat.le_of_ble_eq_true rfl) ?_
  rw [← hl]
  refine wp_aload_n hX dX3_save_10 rfl ?_
  refine wp_cv0 hX dX3_save_11 mlX3_22 ⟨Nat.le_of_ble_eq_true rfl, Nat.le_of_ble_eq_true rfl⟩ (t_fan (by omega) hW2) rfl (Nat.le_of_ble_eq_true rfl) ?_
  refine wp_cn2 hX dX3_save_14 msX4_blocksOf (fun s h => h.2) ⟨Nat.le_of_ble_eq_true rfl, Nat.le_of_ble_eq_true rfl⟩ (b_blocksOf (by omega) (by omega) (by omega)) (Nat.le_of_ble_eq_true rfl) ?_
  refine wp_istore hX dX3_save_17 (Nat.le_of_ble_eq_true rfl) rfl ?_
  refine wp_aload_n hX dX3_save_19 rfl ?_
  refine wp_aload_n hX dX3_save_20 rfl ?_
  refine wp_iload_n hX dX3_save_21 rfl ?_
  refine wp_iload hX dX3_save_22 rfl ?_
  refine wp_cv3p hX dX3_save_24 mlX3_42 ⟨Nat.le_of_ble_eq_true rfl, Nat.le_of_ble_eq_true rfl⟩ (t_writeLeaves hB hW hW2 hC hCu h0) rfl (Nat.le_of_ble_eq_true rfl) ?_
  rintro r1 σ1 ⟨pf2, rfl, rfl⟩
  cases hz : (leaW W s Cm q).1 with
  | false =>
    unfold treW at hp
    rw [hz, if_neg (by decide)] at hp
    refine wp_if_ne (tgt := 32) hX dX3_save_27 (by decide) (fun c_ => absurd (rfl) c_) (fun _ => ?_)
    refine wp_iconst (v := 0) hX dX3_save_30 ic_0 ?_
    refine wp_iret hX dX3_save_31 rfl rfl ?_
    exact hp _ _ ⟨pf2, rfl, rfl⟩
  | true =>
    refine wp_if_ne (tgt := 32) hX dX3_save_27 (by decide) (fun _ => ?_) (fun c_ => absurd c_ (by decide))
    refine wp_iconst (v := 0) hX dX3_save_32 ic_0 ?_
    refine wp_istore hX dX3_save_33 (Nat.le_of_ble_eq_true rfl) rfl ?_
    refine loop 32 0 s (cdv Cm.length (fan W)) (fun k => (Cm.getD (fan W * k) (0, 0)).1) (leaW W s Cm q).2 pf2 (by omega) (by omega) (by omega) (fun j hj => ?_) (by unfold treW; rw [if_pos hz])
    have e := wrN_at (W := W) (f := fun k => (s + k, rowB (fan W) 1 Cm.length (fun i => Cm.getD i (0, 0)) k)) (i := 2) (by omega) (cdv Cm.length (fan W)) 0 q j hz (by omega) (by omega) (fun a b _ h _ => by show ¬ s + a = s + b; omega)
    refine e.trans ?_
    have hlt : fan W * j < Cm.length := by rw [Nat.mul_comm]; exact (cdv_lt (by omega)).mp hj
    show rowB (fan W) 1 Cm.length (fun i => Cm.getD i (0, 0)) j 2 = _
    unfold rowB pgB
    rw [if_neg (by decide), if_neg (by decide), if_pos (by omega), if_pos (by decide)]
    rfl
theorem ldo_srt {D : Nat → Int32} {s : Nat} : ∀ (r c : Nat) {m : PM}, Srt m → Srt (ldo W D s c r m)
  | 0, _, _, h => h
  | r + 1, c, m, h => by
    rw [ldo_s]
    exact ldo_srt r (c + 1) (ins_srt h _ _)
theorem ldo_len {D : Nat → Int32} {s : Nat} : ∀ (r c : Nat) {m : PM}, Srt m → (ldo W D s c r m).length ≤ m.length + r
  | 0, _, _, _ => Nat.le_refl _
  | r + 1, c, m, h => by
    rw [ldo_s]
    have h1 := ldo_len (D := D) (s := s) r (c + 1) (ins_srt h (D (W * (s + c / fan W) + (2 + 2 * (c % fan W)))) (D (W * (s + c / fan W) + (2 + 2 * (c % fan W) + 1))))
    have h2 := ins_len_le m (D (W * (s + c / fan W) + (2 + 2 * (c % fan W)))) (D (W * (s + c / fan W) + (2 + 2 * (c % fan W) + 1))) h
    omega
set_option maxHeartbeats 4000000 in
set_option maxRecDepth 100000 in
theorem t_load {a : Int32} {s n : Nat} (hB : B ≤ 512) (hW : 16 ≤ W) (hW2 : W ≤ 64) (hs0 : (if a = 0 then tf else tf + te) = s) (hn : n ≤ 8000) (hs : s + cdv n (fan W) ≤ B) : MT mdX3_load [.ref 5, .ref 6, .int a, .int (nI n)] (wX st it B W q pf jb jp jr tf te C S H τ) (fun r σ1 => ∃ C1, r = none ∧ KAm (ldo W q.1 s 0 n []) C1 ∧ σ1 = wX st it B W q pf jb jp jr tf te C1 S H τ) := by
  refine mp_of [some (.ref 5), some (.ref 6), some (.int a), some (.int (nI n)), none, none, none, none, none] rfl (Nat.le_of_ble_eq_true rfl) (by decide) (fun X Post hX hp => ?_)
  have hF := fan_2 hW
  have hF2 := fan_le hW2
  have hw := fan_w (W := W)
  have hne : ¬ nI (fan W) = 0 := nI_ne0 (by omega) (by omega)
  have loop : ∀ (r c : Nat) (m : PM) (C1 : MP) (x7 x8 : Option Value), noL [none, none, none, none, none, none, none, x7] 8 = true → c + r = n → KAm m C1 → Srt m → m.length ≤ c → ldo W q.1 s c r m = ldo W q.1 s 0 n [] → Wp X Post 27 [some (.ref 5), some (.ref 6), some (.int a), some (.int (nI n)), some (.int (nI s)), some (.int (nI (fan W))), some (.int (nI c)), x7, x8] [] (wX st it B W q pf jb jp jr tf te C1 S H τ) := by
    intro r
    induction r with
    | zero =>
      intro c m C1 x7 x8 _ hc hk hsm hl he
      refine wp_iload hX dX3_load_27 rfl ?_
      refine wp_iload_n hX dX3_load_29 rfl ?_
      refine wp_icmp_ge (tgt := 96) hX dX3_load_30 (by decide) (fun _ => ?_) (fun c_ => absurd (nI_le (by omega) (by omega)) c_)
      refine wp_vret hX dX3_load_96 rfl ?_
      exact hp _ _ ⟨C1, rfl, by rw [← he]; exact hk, rfl⟩
    | succ r ih =>
      intro c m C1 x7 x8 _ hc hk hsm hl he
      rw [ldo_s] at he
      have hku : C1.1 = m.length := hk.1.symm
      have hmod : c % fan W < fan W := Nat.mod_lt _ (by omega)
      have hdv : c / fan W < cdv n (fan W) := by
        refine (cdv_lt (by omega)).mpr ?_
        have := Nat.div_mul_le_self c (fan W)
        omega
      refine wp_iload hX dX3_load_27 rfl ?_
      refine wp_iload_n hX dX3_load_29 rfl ?_
      refine wp_icmp_ge (tgt := 96) hX dX3_load_30 (by decide) (fun c_ => absurd c_ (nI_ge (by omega) (by omega))) (fun _ => ?_)
      refine wp_iload hX dX3_load_33 rfl ?_
      refine wp_sipush (v := 8700) hX dX3_load_35 sp_8700 ?_
      refine wp_icmp_ge (tgt := 96) hX dX3_load_38 (by decide) (fun c_ => absurd c_ (nI_ge (a := c) (b := 8700) (by omega) (by decide))) (fun _ => ?_)
      refine wp_iload hX dX3_load_41 rfl ?_
      refine wp_iload hX dX3_load_43 rfl ?_
      refine wp_iload hX dX3_load_45 rfl ?_
      refine wp_idiv hX dX3_load_47 (hne) ?_
      refine wp_ti (y := (nI (c / fan W))) (pk_div (by omega) (by omega) (by omega)) ?_
      refine wp_iadd hX dX3_load_48 ?_
      refine wp_ti (y := (nI (s + c / fan W))) (nI_add _ _) ?_
      refine wp_istore hX dX3_load_49 (Nat.le_of_ble_eq_true rfl) rfl ?_
      refine wp_iconst (v := 2) hX dX3_load_51 ic_2 ?_
      refine wp_iconst (v := 2) hX dX3_load_52 ic_2 ?_
      refine wp_iload hX dX3_load_53 rfl ?_
      refine wp_iload hX dX3_load_55 rfl ?_
      refine wp_irem hX dX3_load_57 (hne) ?_
      refine wp_ti (y := nI (c % fan W)) (pk_rem (by omega) (by omega) (by omega)) ?_
      refine wp_imul hX dX3_load_58 ?_
      refine wp_iadd hX dX3_load_59 ?_
      refine wp_ti (y := (nI (2 + 2 * (c % fan W)))) (by rw [show (2 : Int32) = nI 2 from rfl, pk_mul, nI_add]) ?_
      refine wp_istore hX dX3_load_60 (Nat.le_of_ble_eq_true rfl) rfl ?_
      refine wp_aload_n hX dX3_load_62 rfl ?_
      refine wp_aload_n hX dX3_load_63 rfl ?_
      refine wp_get hX dX3_load_64 flX3_18 rfl rfl ?_
      refine wp_iload hX dX3_load_67 rfl ?_
      refine wp_iload hX dX3_load_69 rfl ?_
      refine wp_cv2 hX dX3_load_71 mlX3_53 ⟨Nat.le_of_ble_eq_true rfl, Nat.le_of_ble_eq_true rfl⟩ (d_wordAt rfl rfl hB hW2) rfl (Nat.le_of_ble_eq_true rfl) ?_
      rw [wA_in hB hW2 (by omega) (by omega)]
      refine wp_aload_n hX dX3_load_74 rfl ?_
      refine wp_get hX dX3_load_75 flX3_18 rfl rfl ?_
      refine wp_iload hX dX3_load_78 rfl ?_
      refine wp_iload hX dX3_load_80 rfl ?_
      refine wp_iconst (v := 1) hX dX3_load_82 ic_1 ?_
      refine wp_iadd hX dX3_load_83 ?_
      refine wp_ti (y := (nI (2 + 2 * (c % fan W) + 1))) (nI_1 _) ?_
      refine wp_cv2 hX dX3_load_84 mlX3_53 ⟨Nat.le_of_ble_eq_true rfl, Nat.le_of_ble_eq_true rfl⟩ (d_wordAt rfl rfl hB hW2) rfl (Nat.le_of_ble_eq_true rfl) ?_
      rw [wA_in hB hW2 (by omega) (by omega)]
      refine wp_cv2p hX dX3_load_87 mlX3_58 ⟨Nat.le_of_ble_eq_true rfl, Nat.le_of_ble_eq_true rfl⟩ (k_enter (by decide) rfl rfl rfl (by omega) (by decide) hk hsm) rfl (Nat.le_of_ble_eq_true rfl) ?_
      rintro r1 σ1 ⟨rfl, u1, kf1, vf1, hk1, rfl⟩
      refine wp_eqW (σ1 := wX st it B W q pf jb jp jr tf te (u1, kf1, vf1) S H τ) rfl ?_
      refine wp_iinc hX dX3_load_90 ic_1 rfl (Nat.le_of_ble_eq_true rfl) rfl ?_
      refine wp_goto (tgt := 27) hX dX3_load_93 (by decide) ?_
      rw [nI_1]
      refine ih (c + 1) _ (u1, kf1, vf1) (some (.int (nI (s + c / fan W)))) _ rfl (by omega) hk1 (ins_srt hsm _ _) ?_ he
      have := ins_len_le m (q.1 (W * (s + c / fan W) + (2 + 2 * (c % fan W)))) (q.1 (W * (s + c / fan W) + (2 + 2 * (c % fan W) + 1))) hsm
      omega
  refine wp_aload_n hX dX3_load_0 rfl ?_
  refine wp_cv0 hX dX3_load_1 mlX3_50 ⟨Nat.le_of_ble_eq_true rfl, Nat.le_of_ble_eq_true rfl⟩ (k_clear rfl) rfl (Nat.le_of_ble_eq_true rfl) ?_
  refine wp_aload_n hX dX3_load_4 rfl ?_
  refine wp_iload_n hX dX3_load_5 rfl ?_
  refine wp_cv1 hX dX3_load_6 mlX3_30 ⟨Nat.le_of_ble_eq_true rfl, Nat.le_of_ble_eq_true rfl⟩ (t_startOf (C := (0, C.2))) rfl (Nat.le_of_ble_eq_true rfl) ?_
  rw [hs0]
  refine wp_istore hX dX3_load_9 (Nat.le_of_ble_eq_true rfl) rfl ?_
  refine wp_aload_n hX dX3_load_11 rfl ?_
  refine wp_cv0 hX dX3_load_12 mlX3_22 ⟨Nat.le_of_ble_eq_true rfl, Nat.le_of_ble_eq_true rfl⟩ (t_fan (by omega) hW2) rfl (Nat.le_of_ble_eq_true rfl) ?_
  refine wp_istore hX dX3_load_15 (Nat.le_of_ble_eq_true rfl) rfl ?_
  refine wp_iload hX dX3_load_17 rfl ?_
  refine wp_iconst (v := 1) hX dX3_load_19 ic_1 ?_
  refine wp_icmp_ge (tgt := 24) hX dX3_load_20 (by decide) (fun _ => ?_) (fun c_ => absurd (nI_le (a := 1) (b := fan W) (by omega) (by omega)) c_)
  refine wp_iconst (v := 0) hX dX3_load_24 ic_0 ?_
  refine wp_istore hX dX3_load_25 (Nat.le_of_ble_eq_true rfl) rfl ?_
  exact loop n 0 [] (0, C.2) none none rfl (by omega) KA.nil List.Pairwise.nil (by simp) rfl
end TR3
end
section
/-! what the store is: a state number, (blocks, words, log), the disk, (place, records, committed map, transaction) -/
abbrev CL : Type := List (Int32 × Bool × Int32)
abbrev Ab : Type := Int32 × (Nat × Nat × Nat) × DQ × (Nat × Nat × PM × Option CL)
def stepC (m : PM) (a : Int32 × Bool × Int32) : PM := if a.2.1 then del m a.1 else ins m a.1 a.2.2
def ov (M : PM) (C : CL) : PM := C.foldl stepC M
def seenT (M : PM) (tx : Option CL) : PM := match tx with
  | none => M
  | some C => ov M C
def chK (C : CL) : PM := C.map (fun a => (a.1, a.2.2))
/-- int i of the record of the changes C -/
def recC (C : CL) (i : Nat) : Int32 := if i = 0 then nI C.length else
  if (i - 1) % 3 = 0 then (if (C.getD ((i - 1) / 3) (0, false, 0)).2.1 then 2 else 1) else if (i - 1) % 3 = 1 then (C.getD ((i - 1) / 3) (0, false, 0)).1 else (C.getD ((i - 1) / 3) (0, false, 0)).2.2
def MARK : Int32 := 1129337682
def rfs (st : Int32) : Int32 := if st = 0 then -7 else if st = 1 then -2 else -1
/-- the head -/
def hdB (e bt a r n : Int32) : Nat → Int32 := fun j => if j = 0 then MARK else if j = 1 then e else if j = 2 then bt else if j = 3 then a else if j = 4 then r else if j = 5 then n else 0
def fmB (e : Int32) : Nat → Int32 := fun j => if j = 1 then e else 0
def wr1 (W : Nat) (q : DQ) (b : Nat) (c : Nat → Int32) : Bool × DQ := wrN W (fun _ => (b, c)) 0 1 q
theorem wr1_no {W : Nat} {q : DQ} {b : Nat} {c : Nat → Int32} (h : q.2.2 = 1) : wr1 W q b c = (false, (q.1, q.2.1, 0)) := by unfold wr1; rw [wrN_s, if_pos h]
theorem wr1_ok {W : Nat} {q : DQ} {b : Nat} {c : Nat → Int32} (h : ¬ q.2.2 = 1) : wr1 W q b c = (true, (wrD q.1 W b c, q.2.1 + 1, pwd q.2.2)) := by unfold wr1; rw [wrN_s, if_neg h]; rfl
def AR (B LG : Nat) : Nat := (B - 1 - LG) / 2
/-- where an area begins -/
def arS (B LG : Nat) (a : Int32) : Nat := if a = 0 then LG + 1 else LG + 1 + AR B LG
def sDisk (A : Ab) (x y z : Int32) : Bool × Ab :=
  if x < 16 ∨ 512 < x ∨ y < 16 ∨ 64 < y ∨ z < 4 ∨ 128 < z ∨ x - 1 - z < 4 then (false, A) else (true, (1, (x.toNatClampNeg, y.toNatClampNeg, z.toNatClampNeg), (fun _ => 0, 0, 0), A.2.2.2))
def sFormat (A : Ab) : Int32 × Ab := match A with
  | (st, (B, W, LG), q, u) => if ¬ (st = 1 ∨ st = 2) then (rfs st, A) else
    if (wr1 W q 0 (fmB (q.1 1 + 1))).1 = false then (-1, (3, (B, W, LG), (wr1 W q 0 (fmB (q.1 1 + 1))).2, u)) else
    if (wr1 W (wr1 W q 0 (fmB (q.1 1 + 1))).2 0 (hdB (q.1 1 + 1) 1 0 0 0)).1 = false then (-1, (3, (B, W, LG), (wr1 W (wr1 W q 0 (fmB (q.1 1 + 1))).2 0 (hdB (q.1 1 + 1) 1 0 0 0)).2, u)) else
    (0, (2, (B, W, LG), (wr1 W (wr1 W q 0 (fmB (q.1 1 + 1))).2 0 (hdB (q.1 1 + 1) 1 0 0 0)).2, (0, 0, [], none)))
def sPower (A : Ab) (x : Int32) : Int32 × Ab := match A with
  | (st, g, q, u) => if st = 0 then (-7, A) else (0, (st, g, (q.1, q.2.1, if x < 0 then 0 else x), u))
def rcM (B W LG : Nat) (D : Nat → Int32) : Nat × Nat × PM := rpl W LG D (D 1) LG 0 0 (ldo W D (arS B LG (D 3)) 0 (D 5).toNatClampNeg [])
def sRecover (A : Ab) : Int32 × Ab := match A with
  | (st, (B, W, LG), q, u) => if st = 0 then (-7, A) else
    if ¬ (q.1 (W - 1) = sumD q.1 0 (W - 1) ∧ q.1 0 = MARK) then (-2, (1, (B, W, LG), q, u)) else
    if (wr1 W q 0 (hdB (q.1 1) (q.1 2 + 1) (q.1 3) (q.1 4) (q.1 5))).1 = false then (-1, (3, (B, W, LG), (wr1 W q 0 (hdB (q.1 1) (q.1 2 + 1) (q.1 3) (q.1 4) (q.1 5))).2, u)) else
    (0, (2, (B, W, LG), (wr1 W q 0 (hdB (q.1 1) (q.1 2 + 1) (q.1 3) (q.1 4) (q.1 5))).2, ((rcM B W LG q.1).1, (rcM B W LG q.1).2.1, (rcM B W LG q.1).2.2, none)))
def sBegin (A : Ab) : Int32 × Ab := match A with
  | (st, g, q, (pl, rc, M, tx)) => if ¬ st = 2 then (rfs st, A) else match tx with
    | some _ => (-4, A)
    | none => (0, (st, g, q, (pl, rc, M, some [])))
def sPut (A : Ab) (k v : Int32) : Int32 × Ab := match A with
  | (st, g, q, (pl, rc, M, tx)) => if ¬ st = 2 then (rfs st, A) else match tx with
    | none => (-3, A)
    | some C => if (lk C k).isSome = false ∧ C.length = 600 then (-6, A) else (0, (st, g, q, (pl, rc, M, some (ins C k (false, v)))))
def sRemove (A : Ab) (k : Int32) : Int32 × Ab := match A with
  | (st, g, q, (pl, rc, M, tx)) => if ¬ st = 2 then (rfs st, A) else match tx with
    | none => (-3, A)
    | some C => if (lk (ov M C) k).isSome = false then (-5, A) else if (lk C k).isSome = false ∧ C.length = 600 then (-6, A) else (0, (st, g, q, (pl, rc, M, some (ins C k (true, 0)))))
def cmW (W pl rc : Nat) (q : DQ) (C : CL) : Bool × DQ := wrN W (fun p => (1 + pl + p, recB W (recC C) (1 + 3 * C.length) (q.1 1) (nI (rc + 1)) (q.1 2) p)) 0 (rB W C.length) q
def sCommit (A : Ab) : Int32 × Ab := match A with
  | (st, (B, W, LG), q, (pl, rc, M, tx)) => if ¬ st = 2 then (rfs st, A) else match tx with
    | none => (-3, A)
    | some C => if LG < pl + rB W C.length then (-6, A) else
      if (cmW W pl rc q C).1 = false then (-1, (3, (B, W, LG), (cmW W pl rc q C).2, (pl, rc, M, tx))) else
      (0, (2, (B, W, LG), (cmW W pl rc q C).2, (pl + rB W C.length, (if C.length = 0 then rc else rc + 1), ov M C, none)))
def sAbort (A : Ab) : Int32 × Ab := match A with
  | (st, g, q, (pl, rc, M, tx)) => if ¬ st = 2 then (rfs st, A) else match tx with
    | none => (-3, A)
    | some _ => (0, (st, g, q, (pl, rc, M, none)))
def ckT (q : DQ) : Int32 := if q.1 3 = 0 then 1 else 0
def ckR (B W LG : Nat) (q : DQ) (M : PM) : Int32 := nI (if M.length = 0 then 0 else arS B LG (ckT q) + tBl (fan W) M.length - 1)
def ckW (B W LG : Nat) (q : DQ) (M : PM) : Bool × DQ := treW W (arS B LG (ckT q)) M q
def sCheck (A : Ab) : Int32 × Ab := match A with
  | (st, (B, W, LG), q, (pl, rc, M, tx)) => if ¬ st = 2 then (rfs st, A) else match tx with
    | some _ => (-4, A)
    | none => if AR B LG < tBl (fan W) M.length then (-6, A) else
      if (ckW B W LG q M).1 = false then (-1, (3, (B, W, LG), (ckW B W LG q M).2, (pl, rc, M, tx))) else
      if (wr1 W (ckW B W LG q M).2 0 (hdB (q.1 1 + 1) (q.1 2) (ckT q) (ckR B W LG q M) (nI M.length))).1 = false then (-1, (3, (B, W, LG), (wr1 W (ckW B W LG q M).2 0 (hdB (q.1 1 + 1) (q.1 2) (ckT q) (ckR B W LG q M) (nI M.length))).2, (pl, rc, M, tx))) else
      (0, (2, (B, W, LG), (wr1 W (ckW B W LG q M).2 0 (hdB (q.1 1 + 1) (q.1 2) (ckT q) (ckR B W LG q M) (nI M.length))).2, (0, 0, M, none)))
def smA (A : Ab) : PM := seenT A.2.2.2.2.2.1 A.2.2.2.2.2.2
def sGet (A : Ab) (k : Int32) : Int32 := if A.1 = 2 then (lk (smA A) k).getD 0 else 0
def sHas (A : Ab) (k : Int32) : Bool := if A.1 = 2 then (lk (smA A) k).isSome else false
def sSize (A : Ab) : Int32 := if A.1 = 2 then nI (smA A).length else 0
def sKey (A : Ab) (x : Int32) : Int32 := if A.1 = 2 then at0 (fun i => ((smA A).getD i (0, 0)).1) (smA A).length x else 0
/-- where the keys above y begin -/
def rkB (m : PM) (y : Int32) : Nat := if (lk m y).isSome then rk m y + 1 else rk m y
def sSum (A : Ab) (x y w : Int32) : Int64 := if ¬ A.1 = 2 then 0 else if rkB (smA A) y ≤ rk (smA A) x then 0 else
  if w = 0 then (nI (rkB (smA A) y - rk (smA A) x)).toInt64 else if w = 1 then sumF (fun i => ((smA A).getD i (0, 0)).2) (rk (smA A) x) (rkB (smA A) y - rk (smA A) x) else
  if w = 2 then ((smA A).getD (rk (smA A) x) (0, 0)).1.toInt64 else if w = 3 then ((smA A).getD (rkB (smA A) y - 1) (0, 0)).1.toInt64 else 0
def sWord (A : Ab) (x y : Int32) : Int32 := wA A.2.1.1 A.2.1.2.1 A.2.2.1.1 x y
def sCount (A : Ab) (w : Int32) : Int32 := match A with
  | (st, (B, W, LG), q, (pl, rc, M, tx)) => if w = 0 then q.2.1 else if w = 1 then q.2.2 else if w = 8 then nI (AR B LG) else if ¬ st = 2 then 0 else
    if w = 2 then nI pl else if w = 3 then q.1 1 else if w = 4 then q.1 2 else if w = 5 then nI rc else if w = 6 then (match tx with
      | none => -3
      | some C => nI C.length) else if w = 7 then nI (tBl (fan W) M.length) else 0
/-! what holds of it -/
def Geo (B W LG : Nat) : Prop := 16 ≤ B ∧ B ≤ 512 ∧ 16 ≤ W ∧ W ≤ 64 ∧ 4 ≤ LG ∧ LG ≤ 128 ∧ LG + 5 ≤ B
def prD (W : Nat) (D : Nat → Int32) (s i : Nat) : Int32 × Int32 := (D (W * (s + i / fan W) + (2 + 2 * (i % fan W))), D (W * (s + i / fan W) + (2 + 2 * (i % fan W) + 1)))
/-- from block b by first children down to the leaf s -/
def chn (W : Nat) (D : Nat → Int32) (s : Nat) : Nat → Nat → Prop
  | 0, b => b = s ∧ D (W * b) = 1
  | k + 1, b => D (W * b) = 2 ∧ ∃ b1, b1 < 512 ∧ D (W * b + 3) = nI b1 ∧ chn W D s k b1
def TrOK (B W LG : Nat) (D : Nat → Int32) (s n : Nat) : Prop := tBl (fan W) n ≤ AR B LG ∧ ∃ m : PM, Srt m ∧ m.length = n ∧ (∀ i, i < n → m[i]? = some (prD W D s i)) ∧ (∀ l, l < cdv n (fan W) → D (W * (s + l)) = 1 ∧ D (W * (s + l) + 1) = nI (min (fan W) (n - fan W * l))) ∧ (0 < n → ∃ k, k ≤ 32 ∧ chn W D s k (s + tBl (fan W) n - 1))
def HdOK (B W LG : Nat) (D : Nat → Int32) : Prop := D 0 = 0 ∨ (D 0 = MARK ∧ ∃ n, (D 3 = 0 ∨ D 3 = 1) ∧ D 5 = nI n ∧ D 4 = nI (if n = 0 then 0 else arS B LG (D 3) + tBl (fan W) n - 1) ∧ TrOK B W LG D (arS B LG (D 3)) n)
def TxOK (tx : Option CL) : Prop := match tx with
  | none => True
  | some C => Srt C ∧ C.length ≤ 600
def AInv (A : Ab) : Prop := match A with
  | (st, (B, W, LG), q, (pl, rc, M, tx)) => (∀ j, 32768 ≤ j → q.1 j = 0) ∧ (st = 0 ∨ st = 1 ∨ st = 2 ∨ st = 3) ∧ (st = 0 → B = 0 ∧ W = 0 ∧ LG = 0 ∧ q = (fun _ => 0, 0, 0)) ∧ (¬ st = 0 → Geo B W LG ∧ HdOK B W LG q.1) ∧
    (st = 2 → q.1 0 = MARK ∧ pl ≤ LG ∧ rc ≤ pl ∧ Srt M ∧ (∃ n, q.1 5 = nI n ∧ tBl (fan W) n ≤ AR B LG ∧ 3 * M.length ≤ 3 * n + (W - 5) * pl) ∧ TxOK tx)
/-! the changes -/
theorem stepC_srt {m : PM} (h : Srt m) (a : Int32 × Bool × Int32) : Srt (stepC m a) := by
  unfold stepC
  split
  · exact del_srt h _
  · exact ins_srt h _ _
theorem ov_srt : ∀ (C : CL) {M : PM}, Srt M → Srt (ov M C)
  | [], _, h => h
  | a :: C, M, h => ov_srt C (stepC_srt h a)
theorem lk_stepC {m : PM} (h : Srt m) (a : Int32 × Bool × Int32) (k : Int32) : lk (stepC m a) k = if a.1 = k then (if a.2.1 then none else some a.2.2) else lk m k := by
  unfold stepC
  cases a.2.1
  · simp only [Bool.false_eq_true, if_false]
    rw [lk_ins _ _ _ _ h]
  · simp only [if_true]
    rw [lk_del _ _ _ h]
theorem lk_ov : ∀ (C : CL) {M : PM} (_ : Srt M) (_ : Srt C) (k : Int32), lk (ov M C) k = match lk C k with
    | some a => if a.1 then none else some a.2
    | none => lk M k
  | [], M, _, _, k => rfl
  | a :: C, M, hM, hC, k => by
    obtain ⟨h1, h2⟩ := List.pairwise_cons.mp hC
    show lk (ov (stepC M a) C) k = _
    rw [lk_ov C (stepC_srt hM a) h2 k, lk_stepC hM a k]
    show _ = match (if a.1 = k then some a.2 else lk C k) with
      | some a => if a.1 then none else some a.2
      | none => lk M k
    by_cases e : a.1 = k
    · rw [if_pos e, if_pos e, ← e, lk_none_of_lt h1]
    · rw [if_neg e, if_neg e]
theorem chK_srt {C : CL} (h : Srt C) : Srt (chK C) := by
  unfold Srt chK
  rw [List.pairwise_map]
  exact h
theorem chK_len (C : CL) : (chK C).length = C.length := by simp [chK]
theorem chK_lk : ∀ (C : CL) (k : Int32), lk (chK C) k = (lk C k).map (fun a => a.2)
  | [], _ => rfl
  | a :: C, k => by
    show (if a.1 = k then some a.2.2 else lk (chK C) k) = ((if a.1 = k then some a.2 else lk C k)).map _
    by_cases e : a.1 = k
    · rw [if_pos e, if_pos e]; rfl
    · rw [if_neg e, if_neg e, chK_lk C k]
theorem chK_ins : ∀ (C : CL) (k : Int32) (g : Bool) (v : Int32), chK (ins C k (g, v)) = ins (chK C) k v
  | [], _, _, _ => rfl
  | a :: C, k, g, v => by
    show chK (if a.1 < k then a :: ins C k (g, v) else if a.1 = k then (k, (g, v)) :: C else (k, (g, v)) :: a :: C) = (if a.1 < k then (a.1, a.2.2) :: ins (chK C) k v else if a.1 = k then (k, v) :: chK C else (k, v) :: (a.1, a.2.2) :: chK C)
    split
    · show (a.1, a.2.2) :: chK (ins C k (g, v)) = _
      rw [chK_ins C k g v]
    · split <;> rfl
theorem ov_put {M : PM} {C : CL} (hM : Srt M) (hC : Srt C) (k v : Int32) : ov M (ins C k (false, v)) = ins (ov M C) k v := by
  refine pm_ext (ov_srt _ hM) (ins_srt (ov_srt _ hM) _ _) (fun k' => ?_)
  rw [lk_ov _ hM (ins_srt hC _ _), lk_ins _ _ _ _ hC, lk_ins _ _ _ _ (ov_srt _ hM), lk_ov _ hM hC]
  by_cases e : k = k'
  · rw [if_pos e, if_pos e]; rfl
  · rw [if_neg e, if_neg e]
theorem ov_rem {M : PM} {C : CL} (hM : Srt M) (hC : Srt C) (k v : Int32) : ov M (ins C k (true, v)) = del (ov M C) k := by
  refine pm_ext (ov_srt _ hM) (del_srt (ov_srt _ hM) _) (fun k' => ?_)
  rw [lk_ov _ hM (ins_srt hC _ _), lk_ins _ _ _ _ hC, lk_del _ _ _ (ov_srt _ hM), lk_ov _ hM hC]
  by_cases e : k = k'
  · rw [if_pos e, if_pos e]; rfl
  · rw [if_neg e, if_neg e]
theorem ov_len {M : PM} : ∀ (C : CL) {M : PM}, Srt M → (ov M C).length ≤ M.length + C.length
  | [], _, _ => Nat.le_refl _
  | a :: C, M, h => by
    have h1 := ov_len (M := M) C (stepC_srt h a)
    have h2 : (stepC M a).length ≤ M.length + 1 := by
      unfold stepC
      split
      · have := del_len_le M a.1; omega
      · exact ins_len_le M _ _ h
    show (ov (stepC M a) C).length ≤ _
    simp only [List.length_cons]
    omega
/-- a record's ints, by what is seen and by the changes -/
theorem recH_C {M : PM} {C : CL} (hM : Srt M) (hC : Srt C) {i : Nat} (hi : i < 1 + 3 * C.length) : recH (chK C) (ov M C) i = recC C i := by
  unfold recH recC
  by_cases h0 : i = 0
  · rw [if_pos h0, if_pos h0, chK_len]
  · rw [if_neg h0, if_neg h0]
    have hlt : (i - 1) / 3 < C.length := by omega
    have e : C[(i - 1) / 3]? = some C[(i - 1) / 3] := List.getElem?_eq_getElem hlt
    have e1 : C.getD ((i - 1) / 3) (0, false, 0) = C[(i - 1) / 3] := by rw [List.getD_eq_getElem?_getD, e]; rfl
    have e2 : (chK C).getD ((i - 1) / 3) (0, 0) = (C[(i - 1) / 3].1, C[(i - 1) / 3].2.2) := by
      rw [List.getD_eq_getElem?_getD, chK, List.getElem?_map, e]
      rfl
    rw [e1, e2]
    generalize hx : C[(i - 1) / 3] = x at e ⊢
    obtain ⟨k, g, v⟩ := x
    have hl : lk (ov M C) k = if g then none else some v := by
      rw [lk_ov _ hM hC, (lk_mem hC e).1]
    simp only
    rw [hl]
    cases g <;> rfl
theorem recB_congr {W n p : Nat} {g g1 : Nat → Int32} {e num bt : Int32} (h : ∀ i, i < n → g i = g1 i) : recB W g n e num bt p = recB W g1 n e num bt p := by
  funext j
  unfold recB
  by_cases h4 : j < 4 + min (W - 5) (n - (W - 5) * p)
  · by_cases h5 : 4 ≤ j
    · rw [if_pos h4, if_pos h4, h _ (by omega)]
    · have : j = 0 ∨ j = 1 ∨ j = 2 ∨ j = 3 := by omega
      rcases this with rfl | rfl | rfl | rfl <;> rfl
  · rw [if_neg h4, if_neg h4]
end
section
/-! BlockStore: its private methods -/
theorem tBl_cap {W n a : Nat} (hW : 16 ≤ W) (hW2 : W ≤ 64) (ha : 2 ≤ a) (h : tBl (fan W) n ≤ a) : 31 * n ≤ 900 * a := by
  have hF := fan_2 hW
  have hF2 := fan_le hW2
  unfold tBl at h
  have h1 := cdv_mul (n := n) (e := fan W) (by omega)
  have h2 : cdv n (fan W) * fan W ≤ cdv n (fan W) * 30 := Nat.mul_le_mul (Nat.le_refl _) hF2
  by_cases hl : cdv n (fan W) ≤ 1
  · omega
  · rw [tbl_s, if_neg hl] at h
    have h3 := cdv_mul (n := cdv n (fan W)) (e := fan W) (by omega)
    have h4 : cdv (cdv n (fan W)) (fan W) * fan W ≤ cdv (cdv n (fan W)) (fan W) * 30 := Nat.mul_le_mul (Nat.le_refl _) hF2
    omega
theorem AInv.cap {B W LG pl rc : Nat} {q : DQ} {M : PM} {tx : Option CL} (h : AInv (2, (B, W, LG), q, (pl, rc, M, tx))) : M.length ≤ 8100 := by
  obtain ⟨-, -, -, h4, h5⟩ := h
  obtain ⟨⟨g1, g2, g3, g4, g5, g6, g7⟩, -⟩ := h4 (by decide)
  obtain ⟨-, k1, k2, k3, ⟨n, k4, k5, k6⟩, -⟩ := h5 rfl
  have h6 := tBl_cap g3 g4 (by unfold AR; omega) k5
  have h7 : (W - 5) * pl ≤ 59 * LG := Nat.mul_le_mul (by omega) k1
  unfold AR at h6
  omega
def TXR (it : Int32) (H : MP) (tx : Option CL) : Prop := match tx with
  | none => it = 0 ∧ H.1 = 0
  | some C => it = 1 ∧ KAm (chK C) H
/-- the class's cells hold this store; behind them is τ -/
def RX (A : Ab) (τ σ : aW) : Prop := match A with
  | (st, (B, W, LG), q, (pl, rc, M, tx)) => ∃ (it : Int32) (pf : Nat → Int32) (jp jr tf : Nat) (C S H : MP), σ = wX st it B W q pf LG jp jr tf (AR B LG) C S H τ ∧ (¬ st = 0 → tf = LG + 1) ∧ (st = 2 → jp = pl ∧ jr = rc ∧ KAm M C ∧ KAm (seenT M tx) S ∧ TXR it H tx)
section BS
variable {st it : Int32} {B W : Nat} {q : DQ} {pf : Nat → Int32} {jb jp jr tf te : Nat} {C S H : MP} {τ : aW}
set_option maxHeartbeats 4000000 in
set_option maxRecDepth 100000 in
theorem b_refusal : MD1 mdX4_refusal [.ref 0] (wX st it B W q pf jb jp jr tf te C S H τ) (some (.int (rfs st))) (wX st it B W q pf jb jp jr tf te C S H τ) := by
  refine md_of [some (.ref 0)] rfl (Nat.le_of_ble_eq_true rfl) (by decide) (fun X Post hX hp => ?_)
  unfold rfs at hp
  refine wp_aload_n hX dX4_refusal_0 rfl ?_
  refine wp_get hX dX4_refusal_1 flX4_47 rfl rfl ?_
  by_cases h0 : st = 0
  · rw [if_pos h0] at hp
    refine wp_lookup (off := 28) (tgt := 32) hX dX4_refusal_4 (by decide) (by rw [h0]; decide) (by decide) ?_
    refine wp_bipush (v := (-7)) hX dX4_refusal_32 bp_m7 ?_
    refine wp_iret hX dX4_refusal_34 rfl rfl ?_
    exact hp
  · rw [if_neg h0] at hp
    by_cases h1 : st = 1
    · rw [if_pos h1] at hp
      refine wp_lookup (off := 31) (tgt := 35) hX dX4_refusal_4 (by decide) (by rw [h1]; decide) (by decide) ?_
      refine wp_bipush (v := (-2)) hX dX4_refusal_35 bp_m2 ?_
      refine wp_iret hX dX4_refusal_37 rfl rfl ?_
      exact hp
    · rw [if_neg h1] at hp
      refine wp_lookup (off := 34) (tgt := 38) hX dX4_refusal_4 (by decide) ((lv_osw (k := 0) h0 rfl).trans (lv_osw (k := 1) h1 rfl)) (by decide) ?_
      refine wp_iconst (v := (-1)) hX dX4_refusal_38 ic_m1 ?_
      refine wp_iret hX dX4_refusal_39 rfl rfl ?_
      exact hp
set_option maxRecDepth 100000 in
theorem b_fail : MD1 mdX4_fail [.ref 0] (wX st it B W q pf jb jp jr tf te C S H τ) (some (.int (-1))) (wX 3 it B W q pf jb jp jr tf te C S H τ) := by
  refine md_of [some (.ref 0)] rfl (Nat.le_of_ble_eq_true rfl) (by decide) (fun X Post hX hp => ?_)
  refine wp_aload_n hX dX4_fail_0 rfl ?_
  refine wp_iconst (v := 3) hX dX4_fail_1 ic_3 ?_
  refine wp_put hX dX4_fail_2 fwX4_47 rfl (Nat.le_of_ble_eq_true rfl) rfl rfl ?_
  refine wp_iconst (v := (-1)) hX dX4_fail_5 ic_m1 ?_
  refine wp_iret hX dX4_fail_6 rfl rfl ?_
  exact hp
theorem hdB_eq {W : Nat} {e bt a r n : Int32} (hW : W ≤ 64) : ∀ j, j < W - 1 → upd (upd (upd (upd (upd (upd (fun j => if j < 64 then 0 else pf j) 0 1129337682) 1 e) 2 bt) 3 a) 4 r) 5 n j = hdB e bt a r n j := by
  intro j hj
  unfold hdB
  by_cases h0 : j = 0
  · subst h0; rfl
  · by_cases h1 : j = 1
    · subst h1; rfl
    · by_cases h2 : j = 2
      · subst h2; rfl
      · by_cases h3 : j = 3
        · subst h3; rfl
        · by_cases h4 : j = 4
          · subst h4; rfl
          · by_cases h5 : j = 5
            · subst h5; rfl
            · rw [pk_un h5, pk_un h4, pk_un h3, pk_un h2, pk_un h1, pk_un h0, if_neg h0, if_neg h1, if_neg h2, if_neg h3, if_neg h4, if_neg h5, if_pos (by omega)]
set_option maxHeartbeats 4000000 in
set_option maxRecDepth 100000 in
theorem b_writeHead {e bt a r n : Int32} (hB : B ≤ 512) (hB1 : 1 ≤ B) (hW : 16 ≤ W) (hW2 : W ≤ 64) : MT mdX4_writeHead [.ref 0, .int e, .int bt, .int a, .int r, .int n] (wX st it B W q pf jb jp jr tf te C S H τ) (fun r0 σ1 => ∃ pf1, r0 = some (.int (b2i (wr1 W q 0 (hdB e bt a r n)).1)) ∧ σ1 = wX st it B W (wr1 W q 0 (hdB e bt a r n)).2 pf1 jb jp jr tf te C S H τ) := by
  refine mp_of [some (.ref 0), some (.int e), some (.int bt), some (.int a), some (.int r), some (.int n)] rfl (Nat.le_of_ble_eq_true rfl) (by decide) (fun X Post hX hp => ?_)
  refine wp_aload_n hX dX4_writeHead_0 rfl ?_
  refine wp_get hX dX4_writeHead_1 flX4_10 rfl rfl ?_
  refine wp_cv0 hX dX4_writeHead_4 mlX4_72 ⟨Nat.le_of_ble_eq_true rfl, Nat.le_of_ble_eq_true rfl⟩ (d_clearPage rfl rfl) rfl (Nat.le_of_ble_eq_true rfl) ?_
  refine wp_aload_n hX dX4_writeHead_7 rfl ?_
  refine wp_get hX dX4_writeHead_8 flX4_10 rfl rfl ?_
  refine wp_iconst (v := 0) hX dX4_writeHead_11 ic_0 ?_
  refine wp_ldc hX dX4_writeHead_12 lcX4_104 ?_
  refine wp_cv2 hX dX4_writeHead_14 mlX4_75 ⟨Nat.le_of_ble_eq_true rfl, Nat.le_of_ble_eq_true rfl⟩ (d_setPage (i := 0) rfl rfl hW2 (by omega)) rfl (Nat.le_of_ble_eq_true rfl) ?_
  refine wp_aload_n hX dX4_writeHead_17 rfl ?_
  refine wp_get hX dX4_writeHead_18 flX4_10 rfl rfl ?_
  refine wp_iconst (v := 1) hX dX4_writeHead_21 ic_1 ?_
  refine wp_iload_n hX dX4_writeHead_22 rfl ?_
  refine wp_cv2 hX dX4_writeHead_23 mlX4_75 ⟨Nat.le_of_ble_eq_true rfl, Nat.le_of_ble_eq_true rfl⟩ (d_setPage (i := 1) rfl rfl hW2 (by omega)) rfl (Nat.le_of_ble_eq_true rfl) ?_
  refine wp_aload_n hX dX4_writeHead_26 rfl ?_
  refine wp_get hX dX4_writeHead_27 flX4_10 rfl rfl ?_
  refine wp_iconst (v := 2) hX dX4_writeHead_30 ic_2 ?_
  refine wp_iload_n hX dX4_writeHead_31 rfl ?_
  refine wp_cv2 hX dX4_writeHead_32 mlX4_75 ⟨Nat.le_of_ble_eq_true rfl, Nat.le_of_ble_eq_true rfl⟩ (d_setPage (i := 2) rfl rfl hW2 (by omega)) rfl (Nat.le_of_ble_eq_true rfl) ?_
  refine wp_aload_n hX dX4_writeHead_35 rfl ?_
  refine wp_get hX dX4_writeHead_36 flX4_10 rfl rfl ?_
  refine wp_iconst (v := 3) hX dX4_writeHead_39 ic_3 ?_
  refine wp_iload_n hX dX4_writeHead_40 rfl ?_
  refine wp_cv2 hX dX4_writeHead_41 mlX4_75 ⟨Nat.le_of_ble_eq_true rfl, Nat.le_of_ble_eq_true rfl⟩ (d_setPage (i := 3) rfl rfl hW2 (by omega)) rfl (Nat.le_of_ble_eq_true rfl) ?_
  refine wp_aload_n hX dX4_writeHead_44 rfl ?_
  refine wp_get hX dX4_writeHead_45 flX4_10 rfl rfl ?_
  refine wp_iconst (v := 4) hX dX4_writeHead_48 ic_4 ?_
  refine wp_iload hX dX4_writeHead_49 rfl ?_
  refine wp_cv2 hX dX4_writeHead_51 mlX4_75 ⟨Nat.le_of_ble_eq_true rfl, Nat.le_of_ble_eq_true rfl⟩ (d_setPage (i := 4) rfl rfl hW2 (by omega)) rfl (Nat.le_of_ble_eq_true rfl) ?_
  refine wp_aload_n hX dX4_writeHead_54 rfl ?_
  refine wp_get hX dX4_writeHead_55 flX4_10 rfl rfl ?_
  refine wp_iconst (v := 5) hX dX4_writeHead_58 ic_5 ?_
  refine wp_iload hX dX4_writeHead_59 rfl ?_
  refine wp_cv2 hX dX4_writeHead_61 mlX4_75 ⟨Nat.le_of_ble_eq_true rfl, Nat.le_of_ble_eq_true rfl⟩ (d_setPage (i := 5) rfl rfl hW2 (by omega)) rfl (Nat.le_of_ble_eq_true rfl) ?_
  refine wp_eqW (σ1 := wX st it B W q (upd (upd (upd (upd (upd (upd (fun j => if j < 64 then 0 else pf j) 0 1129337682) 1 e) 2 bt) 3 a) 4 r) 5 n) jb jp jr tf te C S H τ) rfl ?_
  by_cases h1 : q.2.2 = 1
  · rw [wr1_no h1] at hp
    refine wp_aload_n hX dX4_writeHead_64 rfl ?_
    refine wp_get hX dX4_writeHead_65 flX4_10 rfl rfl ?_
    refine wp_iconst (v := 0) hX dX4_writeHead_68 ic_0 ?_
    refine wp_cv1 hX dX4_writeHead_69 mlX4_78 ⟨Nat.le_of_ble_eq_true rfl, Nat.le_of_ble_eq_true rfl⟩ (d_writePage_no (b := 0) rfl hB hW2 (by omega) (by omega) h1) rfl (Nat.le_of_ble_eq_true rfl) ?_
    refine wp_iret hX dX4_writeHead_72 rfl rfl ?_
    exact hp _ _ ⟨_, rfl, rfl⟩
  · rw [wr1_ok h1] at hp
    refine wp_aload_n hX dX4_writeHead_64 rfl ?_
    refine wp_get hX dX4_writeHead_65 flX4_10 rfl rfl ?_
    refine wp_iconst (v := 0) hX dX4_writeHead_68 ic_0 ?_
    refine wp_cv1 hX dX4_writeHead_69 mlX4_78 ⟨Nat.le_of_ble_eq_true rfl, Nat.le_of_ble_eq_true rfl⟩ (d_writePage_ok (b := 0) rfl rfl rfl hB hW2 (by omega) (by omega) h1) rfl (Nat.le_of_ble_eq_true rfl) ?_
    refine wp_iret hX dX4_writeHead_72 rfl rfl ?_
    rw [wrD_congr (hdB_eq hW2)]
    exact hp _ _ ⟨_, rfl, rfl⟩
set_option maxHeartbeats 4000000 in
set_option maxRecDepth 100000 in
theorem b_endTransaction (hC : C.1 ≤ 8700) : MD1 mdX4_endTransaction [.ref 0] (wX st it B W q pf jb jp jr tf te C S H τ) none (wX st 0 B W q pf jb jp jr tf te C (C.1, va_cpy C.2.1 S.2.1 0 0 C.1, va_cpy C.2.2 S.2.2 0 0 C.1) (0, H.2) τ) := by
  refine md_of [some (.ref 0)] rfl (Nat.le_of_ble_eq_true rfl) (by decide) (fun X Post hX hp => ?_)
  refine wp_aload_n hX dX4_endTransaction_0 rfl ?_
  refine wp_get hX dX4_endTransaction_1 flX4_41 rfl rfl ?_
  refine wp_aload_n hX dX4_endTransaction_4 rfl ?_
  refine wp_get hX dX4_endTransaction_5 flX4_37 rfl rfl ?_
  refine wp_cv1 hX dX4_endTransaction_8 mlX4_135 ⟨Nat.le_of_ble_eq_true rfl, Nat.le_of_ble_eq_true rfl⟩ (k_copyFrom (by decide) rfl rfl rfl rfl rfl rfl hC hC (by decide) (by decide)) rfl (Nat.le_of_ble_eq_true rfl) ?_
  refine wp_aload_n hX dX4_endTransaction_11 rfl ?_
  refine wp_get hX dX4_endTransaction_12 flX4_44 rfl rfl ?_
  refine wp_cv0 hX dX4_endTransaction_15 mlX4_89 ⟨Nat.le_of_ble_eq_true rfl, Nat.le_of_ble_eq_true rfl⟩ (k_clear rfl) rfl (Nat.le_of_ble_eq_true rfl) ?_
  refine wp_aload_n hX dX4_endTransaction_18 rfl ?_
  refine wp_iconst (v := 0) hX dX4_endTransaction_19 ic_0 ?_
  refine wp_put hX dX4_endTransaction_20 fwX4_51 rfl (Nat.le_of_ble_eq_true rfl) rfl rfl ?_
  refine wp_vret hX dX4_endTransaction_23 rfl ?_
  exact hp
set_option maxHeartbeats 4000000 in
set_option maxRecDepth 100000 in
theorem b_comeUp (hC : C.1 ≤ 8700) : MD1 mdX4_comeUp [.ref 0] (wX st it B W q pf jb jp jr tf te C S H τ) none (wX 2 0 B W q pf jb jp jr tf te C (C.1, va_cpy C.2.1 S.2.1 0 0 C.1, va_cpy C.2.2 S.2.2 0 0 C.1) (0, H.2) τ) := by
  refine md_of [some (.ref 0)] rfl (Nat.le_of_ble_eq_true rfl) (by decide) (fun X Post hX hp => ?_)
  refine wp_aload_n hX dX4_comeUp_0 rfl ?_
  refine wp_cv0 hX dX4_comeUp_1 mlX4_139 ⟨Nat.le_of_ble_eq_true rfl, Nat.le_of_ble_eq_true rfl⟩ (b_endTransaction hC) rfl (Nat.le_of_ble_eq_true rfl) ?_
  refine wp_aload_n hX dX4_comeUp_4 rfl ?_
  refine wp_iconst (v := 2) hX dX4_comeUp_5 ic_2 ?_
  refine wp_put hX dX4_comeUp_6 fwX4_47 rfl (Nat.le_of_ble_eq_true rfl) rfl rfl ?_
  refine wp_vret hX dX4_comeUp_9 rfl ?_
  exact hp
set_option maxHeartbeats 4000000 in
set_option maxRecDepth 100000 in
theorem b_hasRoom {key : Int32} {Hm : PM} (hH : KAm Hm H) (hs : Srt Hm) (hl : H.1 ≤ 600) : MD1 mdX4_hasRoomForChange [.ref 0, .int key] (wX st it B W q pf jb jp jr tf te C S H τ) (some (.int (b2i (decide (¬ ((lk Hm key).isSome = false ∧ Hm.length = 600)))))) (wX st it B W q pf jb jp jr tf te C S H τ) := by
  refine md_of [some (.ref 0), some (.int key)] rfl (Nat.le_of_ble_eq_true rfl) (by decide) (fun X Post hX hp => ?_)
  have hHl : Hm.length = H.1 := hH.1
  refine wp_aload_n hX dX4_hasRoomForChange_0 rfl ?_
  refine wp_get hX dX4_hasRoomForChange_1 flX4_44 rfl rfl ?_
  refine wp_cv0 hX dX4_hasRoomForChange_4 mlX4_125 ⟨Nat.le_of_ble_eq_true rfl, Nat.le_of_ble_eq_true rfl⟩ (k_entries rfl) rfl (Nat.le_of_ble_eq_true rfl) ?_
  refine wp_sipush (v := 600) hX dX4_hasRoomForChange_7 sp_600 ?_
  refine wp_icmp_lt (tgt := 24) hX dX4_hasRoomForChange_10 (by decide) (fun c => ?_) (fun c => ?_)
  · have h1 := (nI_ltI (a := H.1) (b := 600) (by omega) (by decide)).mp c
    refine wp_iconst (v := 1) hX dX4_hasRoomForChange_24 ic_1 ?_
    refine wp_goto (tgt := 29) hX dX4_hasRoomForChange_25 (by decide) ?_
    refine wp_iret hX dX4_hasRoomForChange_29 rfl rfl ?_
    rw [decide_eq_true (by omega)] at hp
    exact hp
  · have h1 : H.1 = 600 := by
      have : ¬ H.1 < 600 := fun z => c (nI_lt (a := H.1) (b := 600) z (by decide))
      omega
    refine wp_aload_n hX dX4_hasRoomForChange_13 rfl ?_
    refine wp_get hX dX4_hasRoomForChange_14 flX4_44 rfl rfl ?_
    refine wp_iload_n hX dX4_hasRoomForChange_17 rfl ?_
    refine wp_cv1 hX dX4_hasRoomForChange_18 mlX4_119 ⟨Nat.le_of_ble_eq_true rfl, Nat.le_of_ble_eq_true rfl⟩ (k_holds rfl rfl hl (by decide) hH hs) rfl (Nat.le_of_ble_eq_true rfl) ?_
    cases hh : (lk Hm key).isSome with
    | true =>
      rw [decide_eq_true (by rw [hh]; simp)] at hp
      refine wp_if_eq (tgt := 28) hX dX4_hasRoomForChange_21 (by decide) (fun c_ => absurd c_ (by decide)) (fun _ => ?_)
      refine wp_iconst (v := 1) hX dX4_hasRoomForChange_24 ic_1 ?_
      refine wp_goto (tgt := 29) hX dX4_hasRoomForChange_25 (by decide) ?_
      refine wp_iret hX dX4_hasRoomForChange_29 rfl rfl ?_
      exact hp
    | false =>
      rw [decide_eq_false (by rw [hh]; simp; omega)] at hp
      refine wp_if_eq (tgt := 28) hX dX4_hasRoomForChange_21 (by decide) (fun _ => ?_) (fun c_ => absurd (rfl) c_)
      refine wp_iconst (v := 0) hX dX4_hasRoomForChange_28 ic_0 ?_
      refine wp_iret hX dX4_hasRoomForChange_29 rfl rfl ?_
      exact hp
end BS
theorem KAm.copy {m : PM} {C S : MP} (h : KAm m C) : KAm m (C.1, va_cpy C.2.1 S.2.1 0 0 C.1, va_cpy C.2.2 S.2.2 0 0 C.1) := KA.copy h
end
section
/-! BlockStore: the simpler public methods -/
theorem wA_h {B W i : Nat} {D : Nat → Int32} (hB : B ≤ 512) (hB1 : 1 ≤ B) (hW : W ≤ 64) (hi : i < W) : wA B W D 0 (nI i) = D i := by
  have := wA_in (B := B) (W := W) (wf := D) (b := 0) (i := i) hB hW hB1 hi
  rw [Nat.mul_zero, Nat.zero_add] at this
  exact this
theorem KAm.nil {H : MP} (h : H.1 = 0) : KAm [] H := ⟨h.symm, fun i hi => by omega⟩
section PB
variable {A : Ab} {τ σ : aW}
set_option maxHeartbeats 4000000 in
set_option maxRecDepth 100000 in
theorem x_state (hR : RX A τ σ) : MT mdX4_state [.ref 0] σ (fun r σ1 => r = some (.int A.1) ∧ RX A τ σ1) := by
  obtain ⟨st, ⟨B, W, LG⟩, q, pl, rc, M, tx⟩ := A
  obtain ⟨it, pf, jp, jr, tf, C, S, H, rfl, htf, hup⟩ := hR
  refine mp_of [some (.ref 0)] rfl (Nat.le_of_ble_eq_true rfl) (by decide) (fun X Post hX hp => ?_)
  refine wp_aload_n hX dX4_state_0 rfl ?_
  refine wp_get hX dX4_state_1 flX4_47 rfl rfl ?_
  refine wp_iret hX dX4_state_4 rfl rfl ?_
  exact hp _ _ ⟨rfl, it, pf, jp, jr, tf, C, S, H, rfl, htf, hup⟩
set_option maxHeartbeats 4000000 in
set_option maxRecDepth 100000 in
theorem x_power {x : Int32} (hR : RX A τ σ) : MT mdX4_power [.ref 0, .int x] σ (fun r σ1 => r = some (.int (sPower A x).1) ∧ RX (sPower A x).2 τ σ1) := by
  obtain ⟨st, ⟨B, W, LG⟩, q, pl, rc, M, tx⟩ := A
  obtain ⟨it, pf, jp, jr, tf, C, S, H, rfl, htf, hup⟩ := hR
  refine mp_of [some (.ref 0), some (.int x)] rfl (Nat.le_of_ble_eq_true rfl) (by decide) (fun X Post hX hp => ?_)
  unfold sPower at hp
  dsimp only at hp
  refine wp_aload_n hX dX4_power_0 rfl ?_
  refine wp_get hX dX4_power_1 flX4_47 rfl rfl ?_
  refine wp_if_ne (tgt := 10) hX dX4_power_4 (by decide) (fun c => ?_) (fun c => ?_)
  · rw [if_neg c] at hp
    refine wp_aload_n hX dX4_power_10 rfl ?_
    refine wp_get hX dX4_power_11 flX4_10 rfl rfl ?_
    refine wp_iload_n hX dX4_power_14 rfl ?_
    refine wp_cv1 hX dX4_power_15 mlX4_98 ⟨Nat.le_of_ble_eq_true rfl, Nat.le_of_ble_eq_true rfl⟩ (d_arm rfl) rfl (Nat.le_of_ble_eq_true rfl) ?_
    refine wp_iconst (v := 0) hX dX4_power_18 ic_0 ?_
    refine wp_iret hX dX4_power_19 rfl rfl ?_
    exact hp _ _ ⟨rfl, it, pf, jp, jr, tf, C, S, H, rfl, htf, hup⟩
  · rw [if_pos c] at hp
    refine wp_bipush (v := (-7)) hX dX4_power_7 bp_m7 ?_
    refine wp_iret hX dX4_power_9 rfl rfl ?_
    exact hp _ _ ⟨rfl, it, pf, jp, jr, tf, C, S, H, rfl, htf, hup⟩
set_option maxHeartbeats 4000000 in
set_option maxRecDepth 100000 in
theorem x_word {x y : Int32} (hA : AInv A) (hR : RX A τ σ) : MT mdX4_word [.ref 0, .int x, .int y] σ (fun r σ1 => r = some (.int (sWord A x y)) ∧ RX A τ σ1) := by
  obtain ⟨st, ⟨B, W, LG⟩, q, pl, rc, M, tx⟩ := A
  obtain ⟨it, pf, jp, jr, tf, C, S, H, rfl, htf, hup⟩ := hR
  have hg : B ≤ 512 ∧ W ≤ 64 := by
    obtain ⟨-, -, a3, a4, -⟩ := hA
    by_cases h : st = 0
    · obtain ⟨rfl, rfl, -⟩ := a3 h
      decide
    · obtain ⟨⟨g1, g2, g3, g4, -⟩, -⟩ := a4 h
      exact ⟨g2, g4⟩
  refine mp_of [some (.ref 0), some (.int x), some (.int y)] rfl (Nat.le_of_ble_eq_true rfl) (by decide) (fun X Post hX hp => ?_)
  refine wp_aload_n hX dX4_word_0 rfl ?_
  refine wp_get hX dX4_word_1 flX4_10 rfl rfl ?_
  refine wp_iload_n hX dX4_word_4 rfl ?_
  refine wp_iload_n hX dX4_word_5 rfl ?_
  refine wp_cv2 hX dX4_word_6 mlX4_68 ⟨Nat.le_of_ble_eq_true rfl, Nat.le_of_ble_eq_true rfl⟩ (d_wordAt rfl rfl hg.1 hg.2) rfl (Nat.le_of_ble_eq_true rfl) ?_
  refine wp_iret hX dX4_word_9 rfl rfl ?_
  exact hp _ _ ⟨rfl, it, pf, jp, jr, tf, C, S, H, rfl, htf, hup⟩
set_option maxHeartbeats 4000000 in
set_option maxRecDepth 100000 in
theorem x_begin (hR : RX A τ σ) : MT mdX4_begin [.ref 0] σ (fun r σ1 => r = some (.int (sBegin A).1) ∧ RX (sBegin A).2 τ σ1) := by
  obtain ⟨st, ⟨B, W, LG⟩, q, pl, rc, M, tx⟩ := A
  obtain ⟨it, pf, jp, jr, tf, C, S, H, rfl, htf, hup⟩ := hR
  refine mp_of [some (.ref 0)] rfl (Nat.le_of_ble_eq_true rfl) (by decide) (fun X Post hX hp => ?_)
  unfold sBegin at hp
  dsimp only at hp
  refine wp_aload_n hX dX4_begin_0 rfl ?_
  refine wp_get hX dX4_begin_1 flX4_47 rfl rfl ?_
  refine wp_iconst (v := 2) hX dX4_begin_4 ic_2 ?_
  refine wp_icmp_eq (tgt := 13) hX dX4_begin_5 (by decide) (fun c => ?_) (fun c => ?_)
  · subst c
    rw [if_neg (by decide)] at hp
    obtain ⟨u1, u2, u3, u4, u5⟩ := hup rfl
    cases tx with
    | none =>
      obtain ⟨u5, u6⟩ := u5
      refine wp_aload_n hX dX4_begin_13 rfl ?_
      refine wp_get hX dX4_begin_14 flX4_51 rfl rfl ?_
      rw [u5]
      refine wp_if_eq (tgt := 23) hX dX4_begin_17 (by decide) (fun _ => ?_) (fun c_ => absurd (rfl) c_)
      refine wp_aload_n hX dX4_begin_23 rfl ?_
      refine wp_iconst (v := 1) hX dX4_begin_24 ic_1 ?_
      refine wp_put hX dX4_begin_25 fwX4_51 rfl (Nat.le_of_ble_eq_true rfl) rfl rfl ?_
      refine wp_iconst (v := 0) hX dX4_begin_28 ic_0 ?_
      refine wp_iret hX dX4_begin_29 rfl rfl ?_
      exact hp _ _ ⟨rfl, 1, pf, jp, jr, tf, C, S, H, rfl, htf, fun _ => ⟨u1, u2, u3, u4, rfl, KAm.nil u6⟩⟩
    | some CC =>
      obtain ⟨u5, u6⟩ := u5
      refine wp_aload_n hX dX4_begin_13 rfl ?_
      refine wp_get hX dX4_begin_14 flX4_51 rfl rfl ?_
      subst u5
      refine wp_if_eq (tgt := 23) hX dX4_begin_17 (by decide) (fun c_ => absurd c_ (by decide)) (fun _ => ?_)
      refine wp_bipush (v := (-4)) hX dX4_begin_20 bp_m4 ?_
      refine wp_iret hX dX4_begin_22 rfl rfl ?_
      exact hp _ _ ⟨rfl, 1, pf, jp, jr, tf, C, S, H, rfl, htf, fun _ => ⟨u1, u2, u3, u4, rfl, u6⟩⟩
  · rw [if_pos c] at hp
    refine wp_aload_n hX dX4_begin_8 rfl ?_
    refine wp_cv0 hX dX4_begin_9 mlX4_64 ⟨Nat.le_of_ble_eq_true rfl, Nat.le_of_ble_eq_true rfl⟩ (b_refusal) rfl (Nat.le_of_ble_eq_true rfl) ?_
    refine wp_iret hX dX4_begin_12 rfl rfl ?_
    exact hp _ _ ⟨rfl, it, pf, jp, jr, tf, C, S, H, rfl, htf, hup⟩
set_option maxHeartbeats 4000000 in
set_option maxRecDepth 100000 in
theorem x_abort (hA : AInv A) (hR : RX A τ σ) : MT mdX4_abort [.ref 0] σ (fun r σ1 => r = some (.int (sAbort A).1) ∧ RX (sAbort A).2 τ σ1) := by
  obtain ⟨st, ⟨B, W, LG⟩, q, pl, rc, M, tx⟩ := A
  obtain ⟨it, pf, jp, jr, tf, C, S, H, rfl, htf, hup⟩ := hR
  refine mp_of [some (.ref 0)] rfl (Nat.le_of_ble_eq_true rfl) (by decide) (fun X Post hX hp => ?_)
  unfold sAbort at hp
  dsimp only at hp
  refine wp_aload_n hX dX4_abort_0 rfl ?_
  refine wp_get hX dX4_abort_1 flX4_47 rfl rfl ?_
  refine wp_iconst (v := 2) hX dX4_abort_4 ic_2 ?_
  refine wp_icmp_eq (tgt := 13) hX dX4_abort_5 (by decide) (fun c => ?_) (fun c => ?_)
  · subst c
    rw [if_neg (by decide)] at hp
    have hcap := hA.cap
    obtain ⟨u1, u2, u3, u4, u5⟩ := hup rfl
    have hcl : M.length = C.1 := u3.1
    cases tx with
    | none =>
      obtain ⟨u5, u6⟩ := u5
      subst u5
      refine wp_aload_n hX dX4_abort_13 rfl ?_
      refine wp_get hX dX4_abort_14 flX4_51 rfl rfl ?_
      refine wp_if_ne (tgt := 23) hX dX4_abort_17 (by decide) (fun c_ => absurd (rfl) c_) (fun _ => ?_)
      refine wp_bipush (v := (-3)) hX dX4_abort_20 bp_m3 ?_
      refine wp_iret hX dX4_abort_22 rfl rfl ?_
      exact hp _ _ ⟨rfl, 0, pf, jp, jr, tf, C, S, H, rfl, htf, fun _ => ⟨u1, u2, u3, u4, rfl, u6⟩⟩
    | some CC =>
      obtain ⟨u5, u6⟩ := u5
      subst u5
      refine wp_aload_n hX dX4_abort_13 rfl ?_
      refine wp_get hX dX4_abort_14 flX4_51 rfl rfl ?_
      refine wp_if_ne (tgt := 23) hX dX4_abort_17 (by decide) (fun _ => ?_) (fun c_ => absurd c_ (by decide))
      refine wp_aload_n hX dX4_abort_23 rfl ?_
      refine wp_cv0 hX dX4_abort_24 mlX4_139 ⟨Nat.le_of_ble_eq_true rfl, Nat.le_of_ble_eq_true rfl⟩ (b_endTransaction (by omega)) rfl (Nat.le_of_ble_eq_true rfl) ?_
      refine wp_iconst (v := 0) hX dX4_abort_27 ic_0 ?_
      refine wp_iret hX dX4_abort_28 rfl rfl ?_
      exact hp _ _ ⟨rfl, 0, pf, jp, jr, tf, C, _, _, rfl, htf, fun _ => ⟨u1, u2, u3, u3.copy, rfl, rfl⟩⟩
  · rw [if_pos c] at hp
    refine wp_aload_n hX dX4_abort_8 rfl ?_
    refine wp_cv0 hX dX4_abort_9 mlX4_64 ⟨Nat.le_of_ble_eq_true rfl, Nat.le_of_ble_eq_true rfl⟩ (b_refusal) rfl (Nat.le_of_ble_eq_true rfl) ?_
    refine wp_iret hX dX4_abort_12 rfl rfl ?_
    exact hp _ _ ⟨rfl, it, pf, jp, jr, tf, C, S, H, rfl, htf, hup⟩
/-- when the store is up: its maps -/
theorem RX_up {B W LG pl rc : Nat} {q : DQ} {M : PM} {tx : Option CL} (hA : AInv (2, (B, W, LG), q, (pl, rc, M, tx))) : Srt M ∧ Srt (seenT M tx) ∧ M.length ≤ 8100 ∧ (seenT M tx).length ≤ 8700 := by
  have hc := hA.cap
  obtain ⟨-, -, -, -, h5⟩ := hA
  obtain ⟨-, -, -, k3, -, k5⟩ := h5 rfl
  cases tx with
  | none => exact ⟨k3, k3, hc, by show M.length ≤ 8700; omega⟩
  | some C =>
    have := ov_len (M := M) C k3
    exact ⟨k3, ov_srt C k3, hc, by have := k5.2; show (ov M C).length ≤ 8700; omega⟩
set_option maxHeartbeats 4000000 in
set_option maxRecDepth 100000 in
theorem x_get {k : Int32} (hA : AInv A) (hR : RX A τ σ) : MT mdX4_get [.ref 0, .int k] σ (fun r σ1 => r = some (.int (sGet A k)) ∧ RX A τ σ1) := by
  obtain ⟨st, ⟨B, W, LG⟩, q, pl, rc, M, tx⟩ := A
  obtain ⟨it, pf, jp, jr, tf, C, S, H, rfl, htf, hup⟩ := hR
  refine mp_of [some (.ref 0), some (.int k)] rfl (Nat.le_of_ble_eq_true rfl) (by decide) (fun X Post hX hp => ?_)
  unfold sGet smA at hp
  refine wp_aload_n hX dX4_get_0 rfl ?_
  refine wp_get hX dX4_get_1 flX4_47 rfl rfl ?_
  refine wp_iconst (v := 2) hX dX4_get_4 ic_2 ?_
  refine wp_icmp_ne (tgt := 19) hX dX4_get_5 (by decide) (fun c => ?_) (fun c => ?_)
  · rw [if_neg c] at hp
    refine wp_iconst (v := 0) hX dX4_get_19 ic_0 ?_
    refine wp_iret hX dX4_get_20 rfl rfl ?_
    exact hp _ _ ⟨rfl, it, pf, jp, jr, tf, C, S, H, rfl, htf, hup⟩
  · subst c
    obtain ⟨r1, r2, r3, r4⟩ := RX_up hA
    have u4 := (hup rfl).2.2.2.1
    have hl : (seenT M tx).length = S.1 := u4.1
    rw [if_pos rfl] at hp
    refine wp_aload_n hX dX4_get_8 rfl ?_
    refine wp_get hX dX4_get_9 flX4_41 rfl rfl ?_
    refine wp_iload_n hX dX4_get_12 rfl ?_
    refine wp_cv1 hX dX4_get_13 mlX4_156 ⟨Nat.le_of_ble_eq_true rfl, Nat.le_of_ble_eq_true rfl⟩ (k_valueOf rfl rfl rfl (by omega) (by decide) u4 r2) rfl (Nat.le_of_ble_eq_true rfl) ?_
    refine wp_goto (tgt := 20) hX dX4_get_16 (by decide) ?_
    refine wp_iret hX dX4_get_20 rfl rfl ?_
    exact hp _ _ ⟨rfl, it, pf, jp, jr, tf, C, S, H, rfl, htf, hup⟩
set_option maxHeartbeats 4000000 in
set_option maxRecDepth 100000 in
theorem x_has {k : Int32} (hA : AInv A) (hR : RX A τ σ) : MT mdX4_has [.ref 0, .int k] σ (fun r σ1 => r = some (.int (b2i (sHas A k))) ∧ RX A τ σ1) := by
  obtain ⟨st, ⟨B, W, LG⟩, q, pl, rc, M, tx⟩ := A
  obtain ⟨it, pf, jp, jr, tf, C, S, H, rfl, htf, hup⟩ := hR
  refine mp_of [some (.ref 0), some (.int k)] rfl (Nat.le_of_ble_eq_true rfl) (by decide) (fun X Post hX hp => ?_)
  unfold sHas smA at hp
  refine wp_aload_n hX dX4_has_0 rfl ?_
  refine wp_get hX dX4_has_1 flX4_47 rfl rfl ?_
  refine wp_iconst (v := 2) hX dX4_has_4 ic_2 ?_
  refine wp_icmp_ne (tgt := 23) hX dX4_has_5 (by decide) (fun c => ?_) (fun c => ?_)
  · rw [if_neg c] at hp
    refine wp_iconst (v := 0) hX dX4_has_23 ic_0 ?_
    refine wp_iret hX dX4_has_24 rfl rfl ?_
    exact hp _ _ ⟨rfl, it, pf, jp, jr, tf, C, S, H, rfl, htf, hup⟩
  · subst c
    obtain ⟨r1, r2, r3, r4⟩ := RX_up hA
    have u4 := (hup rfl).2.2.2.1
    have hl : (seenT M tx).length = S.1 := u4.1
    rw [if_pos rfl] at hp
    refine wp_aload_n hX dX4_has_8 rfl ?_
    refine wp_get hX dX4_has_9 flX4_41 rfl rfl ?_
    refine wp_iload_n hX dX4_has_12 rfl ?_
    refine wp_cv1 hX dX4_has_13 mlX4_119 ⟨Nat.le_of_ble_eq_true rfl, Nat.le_of_ble_eq_true rfl⟩ (k_holds rfl rfl (by omega) (by decide) u4 r2) rfl (Nat.le_of_ble_eq_true rfl) ?_
    cases hh : (lk (seenT M tx) k).isSome with
    | true =>
      rw [show (lk (seenT ((2 : Int32), (B, W, LG), q, pl, rc, M, tx).2.2.2.2.2.1 ((2 : Int32), (B, W, LG), q, pl, rc, M, tx).2.2.2.2.2.2) k).isSome = true from hh] at hp
      refine wp_if_eq (tgt := 23) hX dX4_has_16 (by decide) (fun c_ => absurd c_ (by decide)) (fun _ => ?_)
      refine wp_iconst (v := 1) hX dX4_has_19 ic_1 ?_
      refine wp_goto (tgt := 24) hX dX4_has_20 (by decide) ?_
      refine wp_iret hX dX4_has_24 rfl rfl ?_
      exact hp _ _ ⟨rfl, it, pf, jp, jr, tf, C, S, H, rfl, htf, hup⟩
    | false =>
      rw [show (lk (seenT ((2 : Int32), (B, W, LG), q, pl, rc, M, tx).2.2.2.2.2.1 ((2 : Int32), (B, W, LG), q, pl, rc, M, tx).2.2.2.2.2.2) k).isSome = false from hh] at hp
      refine wp_if_eq (tgt := 23) hX dX4_has_16 (by decide) (fun _ => ?_) (fun c_ => absurd (rfl) c_)
      refine wp_iconst (v := 0) hX dX4_has_23 ic_0 ?_
      refine wp_iret hX dX4_has_24 rfl rfl ?_
      exact hp _ _ ⟨rfl, it, pf, jp, jr, tf, C, S, H, rfl, htf, hup⟩
set_option maxHeartbeats 4000000 in
set_option maxRecDepth 100000 in
theorem x_size (hA : AInv A) (hR : RX A τ σ) : MT mdX4_size [.ref 0] σ (fun r σ1 => r = some (.int (sSize A)) ∧ RX A τ σ1) := by
  obtain ⟨st, ⟨B, W, LG⟩, q, pl, rc, M, tx⟩ := A
  obtain ⟨it, pf, jp, jr, tf, C, S, H, rfl, htf, hup⟩ := hR
  refine mp_of [some (.ref 0)] rfl (Nat.le_of_ble_eq_true rfl) (by decide) (fun X Post hX hp => ?_)
  unfold sSize smA at hp
  refine wp_aload_n hX dX4_size_0 rfl ?_
  refine wp_get hX dX4_size_1 flX4_47 rfl rfl ?_
  refine wp_iconst (v := 2) hX dX4_size_4 ic_2 ?_
  refine wp_icmp_ne (tgt := 18) hX dX4_size_5 (by decide) (fun c => ?_) (fun c => ?_)
  · rw [if_neg c] at hp
    refine wp_iconst (v := 0) hX dX4_size_18 ic_0 ?_
    refine wp_iret hX dX4_size_19 rfl rfl ?_
    exact hp _ _ ⟨rfl, it, pf, jp, jr, tf, C, S, H, rfl, htf, hup⟩
  · subst c
    have u4 := (hup rfl).2.2.2.1
    have hl : (seenT M tx).length = S.1 := u4.1
    rw [if_pos rfl] at hp
    refine wp_aload_n hX dX4_size_8 rfl ?_
    refine wp_get hX dX4_size_9 flX4_41 rfl rfl ?_
    refine wp_cv0 hX dX4_size_12 mlX4_125 ⟨Nat.le_of_ble_eq_true rfl, Nat.le_of_ble_eq_true rfl⟩ (k_entries rfl) rfl (Nat.le_of_ble_eq_true rfl) ?_
    refine wp_goto (tgt := 19) hX dX4_size_15 (by decide) ?_
    refine wp_iret hX dX4_size_19 rfl rfl ?_
    exact hp _ _ ⟨by rw [← hl], it, pf, jp, jr, tf, C, S, H, rfl, htf, hup⟩
theorem at0_KA {m : PM} {u : Nat} {kf vf : Nat → Int32} (h : KA m u kf vf) (x : Int32) : at0 kf u x = at0 (fun i => (m.getD i (0, 0)).1) m.length x ∧ at0 vf u x = at0 (fun i => (m.getD i (0, 0)).2) m.length x := by
  by_cases hi : vp_in x u
  · rw [at0_in hi, at0_in hi, at0_in (by rw [h.1]; exact hi), at0_in (by rw [h.1]; exact hi)]
    have hlt : x.toNatClampNeg < u := Nat.not_le.mp fun q => hi (Or.inr q)
    show kf _ = (m.getD _ (0, 0)).1 ∧ vf _ = (m.getD _ (0, 0)).2
    rw [KA.getD h hlt]
    exact ⟨rfl, rfl⟩
  · rw [at0_out hi, at0_out hi, at0_out (by rw [h.1]; exact hi), at0_out (by rw [h.1]; exact hi)]
    exact ⟨rfl, rfl⟩
set_option maxHeartbeats 4000000 in
set_option maxRecDepth 100000 in
theorem x_key {x : Int32} (hA : AInv A) (hR : RX A τ σ) : MT mdX4_key [.ref 0, .int x] σ (fun r σ1 => r = some (.int (sKey A x)) ∧ RX A τ σ1) := by
  obtain ⟨st, ⟨B, W, LG⟩, q, pl, rc, M, tx⟩ := A
  obtain ⟨it, pf, jp, jr, tf, C, S, H, rfl, htf, hup⟩ := hR
  refine mp_of [some (.ref 0), some (.int x)] rfl (Nat.le_of_ble_eq_true rfl) (by decide) (fun X Post hX hp => ?_)
  unfold sKey smA at hp
  refine wp_aload_n hX dX4_key_0 rfl ?_
  refine wp_get hX dX4_key_1 flX4_47 rfl rfl ?_
  refine wp_iconst (v := 2) hX dX4_key_4 ic_2 ?_
  refine wp_icmp_ne (tgt := 19) hX dX4_key_5 (by decide) (fun c => ?_) (fun c => ?_)
  · rw [if_neg c] at hp
    refine wp_iconst (v := 0) hX dX4_key_19 ic_0 ?_
    refine wp_iret hX dX4_key_20 rfl rfl ?_
    exact hp _ _ ⟨rfl, it, pf, jp, jr, tf, C, S, H, rfl, htf, hup⟩
  · subst c
    obtain ⟨r1, r2, r3, r4⟩ := RX_up hA
    have u4 := (hup rfl).2.2.2.1
    have hl : (seenT M tx).length = S.1 := u4.1
    rw [if_pos rfl] at hp
    refine wp_aload_n hX dX4_key_8 rfl ?_
    refine wp_get hX dX4_key_9 flX4_41 rfl rfl ?_
    refine wp_iload_n hX dX4_key_12 rfl ?_
    refine wp_cv1 hX dX4_key_13 mlX4_159 ⟨Nat.le_of_ble_eq_true rfl, Nat.le_of_ble_eq_true rfl⟩ (k_keyAt rfl rfl (by omega) (by decide)) rfl (Nat.le_of_ble_eq_true rfl) ?_
    refine wp_goto (tgt := 20) hX dX4_key_16 (by decide) ?_
    refine wp_iret hX dX4_key_20 rfl rfl ?_
    exact hp _ _ ⟨by rw [(at0_KA u4 x).1], it, pf, jp, jr, tf, C, S, H, rfl, htf, hup⟩
theorem sumF_congr {f g : Nat → Int32} {a : Nat} : ∀ n, (∀ i, i < n → f (a + i) = g (a + i)) → sumF f a n = sumF g a n
  | 0, _ => rfl
  | n + 1, h => by
    unfold sumF
    rw [sumF_congr n (fun i hi => h i (by omega)), h n (by omega)]
theorem lk_some_rk {m : PM} (h : Srt m) {y : Int32} (hs : (lk m y).isSome = true) : rk m y < m.length := by
  cases e : lk m y with
  | none => rw [e] at hs; cases hs
  | some v => exact (List.getElem?_eq_some_iff.mp ((lk_some h).mp e)).1
theorem rkB_le {m : PM} (h : Srt m) (y : Int32) : rkB m y ≤ m.length := by
  unfold rkB
  split
  next hs => exact lk_some_rk h hs
  next => exact rk_le m y
set_option maxHeartbeats 4000000 in
set_option maxRecDepth 100000 in
theorem x_sum {x y w : Int32} (hA : AInv A) (hR : RX A τ σ) : MT mdX4_sum [.ref 0, .int x, .int y, .int w] σ (fun r σ1 => r = some (.long (sSum A x y w)) ∧ RX A τ σ1) := by
  obtain ⟨st, ⟨B, W, LG⟩, q, pl, rc, M, tx⟩ := A
  obtain ⟨it, pf, jp, jr, tf, C, S, H, rfl, htf, hup⟩ := hR
  refine mp_of [some (.ref 0), some (.int x), some (.int y), some (.int w), none, none] rfl (Nat.le_of_ble_eq_true rfl) (by decide) (fun X Post hX hp => ?_)
  unfold sSum at hp
  refine wp_aload_n hX dX4_sum_0 rfl ?_
  refine wp_get hX dX4_sum_1 flX4_47 rfl rfl ?_
  refine wp_iconst (v := 2) hX dX4_sum_4 ic_2 ?_
  refine wp_icmp_eq (tgt := 10) hX dX4_sum_5 (by decide) (fun c => ?_) (fun c => ?_)
  · subst c
    obtain ⟨r1, r2, r3, r4⟩ := RX_up hA
    have u4 := (hup rfl).2.2.2.1
    have hl : (seenT M tx).length = S.1 := u4.1
    rw [if_neg (show ¬ ¬ (2 : Int32) = 2 by decide)] at hp
    generalize hm : seenT M tx = m at r2 r4 u4 hl
    rw [show smA ((2 : Int32), (B, W, LG), q, pl, rc, M, tx) = m from hm] at hp
    have b1 := rk_le m x
    have b2 := rkB_le r2 y
    refine wp_aload_n hX dX4_sum_10 rfl ?_
    refine wp_get hX dX4_sum_11 flX4_41 rfl rfl ?_
    refine wp_iload_n hX dX4_sum_14 rfl ?_
    refine wp_cv1 hX dX4_sum_15 mlX4_162 ⟨Nat.le_of_ble_eq_true rfl, Nat.le_of_ble_eq_true rfl⟩ (k_placeOf rfl rfl (by omega) (by decide) u4 r2) rfl (Nat.le_of_ble_eq_true rfl) ?_
    refine wp_istore hX dX4_sum_18 (Nat.le_of_ble_eq_true rfl) rfl ?_
    refine wp_aload_n hX dX4_sum_20 rfl ?_
    refine wp_get hX dX4_sum_21 flX4_41 rfl rfl ?_
    refine wp_iload_n hX dX4_sum_24 rfl ?_
    refine wp_cv1 hX dX4_sum_25 mlX4_165 ⟨Nat.le_of_ble_eq_true rfl, Nat.le_of_ble_eq_true rfl⟩ (k_placeBehind rfl rfl (by omega) (by decide) u4 r2) rfl (Nat.le_of_ble_eq_true rfl) ?_
    rw [show (if (lk m y).isSome = true then rk m y + 1 else rk m y) = rkB m y from rfl]
    refine wp_istore hX dX4_sum_28 (Nat.le_of_ble_eq_true rfl) rfl ?_
    refine wp_iload hX dX4_sum_30 rfl ?_
    refine wp_iload hX dX4_sum_32 rfl ?_
    refine wp_icmp_lt (tgt := 39) hX dX4_sum_34 (by decide) (fun d => ?_) (fun d => ?_)
    · have d1 := (nI_ltI (a := rk m x) (b := rkB m y) (by omega) (by omega)).mp d
      rw [if_neg (by omega)] at hp
      refine wp_iload_n hX dX4_sum_39 rfl ?_
      by_cases w0 : w = 0
      · subst w0
        rw [if_pos rfl] at hp
        refine wp_tableIn (off := 32) (tgt := 72) hX dX4_sum_40 (by decide) (by decide) (by decide) (by decide) ?_
        refine wp_iload hX dX4_sum_72 rfl ?_
        refine wp_iload hX dX4_sum_74 rfl ?_
        refine wp_isub hX dX4_sum_76 ?_
        refine wp_ti (y := (nI (rkB m y - rk m x))) (pk_sub (by omega)) ?_
        refine wp_i2l hX dX4_sum_77 ?_
        refine wp_lret hX dX4_sum_78 rfl ?_
        exact hp _ _ ⟨rfl, it, pf, jp, jr, tf, C, S, H, rfl, htf, hup⟩
      · rw [if_neg w0] at hp
        by_cases w1 : w = 1
        · subst w1
          rw [if_pos rfl] at hp
          refine wp_tableIn (off := 39) (tgt := 79) hX dX4_sum_40 (by decide) (by decide) (by decide) (by decide) ?_
          refine wp_aload_n hX dX4_sum_79 rfl ?_
          refine wp_get hX dX4_sum_80 flX4_41 rfl rfl ?_
          refine wp_iload hX dX4_sum_83 rfl ?_
          refine wp_iload hX dX4_sum_85 rfl ?_
          refine wp_cv2 hX dX4_sum_87 mlX4_168 ⟨Nat.le_of_ble_eq_true rfl, Nat.le_of_ble_eq_true rfl⟩ (k_sumOfValues rfl rfl (by omega) (by decide) (by omega) (by omega)) rfl (Nat.le_of_ble_eq_true rfl) ?_
          refine wp_lret hX dX4_sum_90 rfl ?_
          refine hp _ _ ⟨?_, it, pf, jp, jr, tf, C, S, H, rfl, htf, hup⟩
          rw [sumF_congr (f := fun i => (m.getD i (0, 0)).2) (g := S.2.2) _ (fun i hi => by rw [KA.getD u4 (by omega)])]
        · rw [if_neg w1] at hp
          by_cases w2 : w = 2
          · subst w2
            rw [if_pos rfl] at hp
            refine wp_tableIn (off := 51) (tgt := 91) hX dX4_sum_40 (by decide) (by decide) (by decide) (by decide) ?_
            refine wp_aload_n hX dX4_sum_91 rfl ?_
            refine wp_get hX dX4_sum_92 flX4_41 rfl rfl ?_
            refine wp_iload hX dX4_sum_95 rfl ?_
            refine wp_cv1 hX dX4_sum_97 mlX4_159 ⟨Nat.le_of_ble_eq_true rfl, Nat.le_of_ble_eq_true rfl⟩ (k_keyAt rfl rfl (by omega) (by decide)) rfl (Nat.le_of_ble_eq_true rfl) ?_
            rw [at0_nI (by omega), if_pos (by omega)]
            refine wp_i2l hX dX4_sum_100 ?_
            refine wp_lret hX dX4_sum_101 rfl ?_
            exact hp _ _ ⟨by rw [KA.getD u4 (by omega)], it, pf, jp, jr, tf, C, S, H, rfl, htf, hup⟩
          · rw [if_neg w2] at hp
            by_cases w3 : w = 3
            · subst w3
              rw [if_pos rfl] at hp
              refine wp_tableIn (off := 62) (tgt := 102) hX dX4_sum_40 (by decide) (by decide) (by decide) (by decide) ?_
              refine wp_aload_n hX dX4_sum_102 rfl ?_
              refine wp_get hX dX4_sum_103 flX4_41 rfl rfl ?_
              refine wp_iload hX dX4_sum_106 rfl ?_
              refine wp_iconst (v := 1) hX dX4_sum_108 ic_1 ?_
              refine wp_isub hX dX4_sum_109 ?_
              refine wp_ti (y := (nI (rkB m y - 1))) (pk_sub (b := 1) (by omega)) ?_
              refine wp_cv1 hX dX4_sum_110 mlX4_159 ⟨Nat.le_of_ble_eq_true rfl, Nat.le_of_ble_eq_true rfl⟩ (k_keyAt rfl rfl (by omega) (by decide)) rfl (Nat.le_of_ble_eq_true rfl) ?_
              rw [at0_nI (by omega), if_pos (by omega)]
              refine wp_i2l hX dX4_sum_113 ?_
              refine wp_lret hX dX4_sum_114 rfl ?_
              exact hp _ _ ⟨by rw [KA.getD u4 (by omega)], it, pf, jp, jr, tf, C, S, H, rfl, htf, hup⟩
            · rw [if_neg w3] at hp
              have ho : w.toInt < 0 ∨ 3 < w.toInt := by
                rw [ieq] at w0 w1 w2 w3
                rw [show (0 : Int32).toInt = 0 from rfl] at w0
                rw [show (1 : Int32).toInt = 1 from rfl] at w1
                rw [show (2 : Int32).toInt = 2 from rfl] at w2
                rw [show (3 : Int32).toInt = 3 from rfl] at w3
                omega
              refine wp_tableOut (tgt := 115) hX dX4_sum_40 ho (by decide) ?_
              refine wp_lconst (v := 0) hX dX4_sum_115 lc_0 ?_
              refine wp_lret hX dX4_sum_116 rfl ?_
              exact hp _ _ ⟨rfl, it, pf, jp, jr, tf, C, S, H, rfl, htf, hup⟩
    · have d1 : rkB m y ≤ rk m x := Nat.le_of_not_lt (fun z => d (nI_lt z (by omega)))
      rw [if_pos d1] at hp
      refine wp_lconst (v := 0) hX dX4_sum_37 lc_0 ?_
      refine wp_lret hX dX4_sum_38 rfl ?_
      exact hp _ _ ⟨rfl, it, pf, jp, jr, tf, C, S, H, rfl, htf, hup⟩
  · rw [if_pos c] at hp
    refine wp_lconst (v := 0) hX dX4_sum_8 lc_0 ?_
    refine wp_lret hX dX4_sum_9 rfl ?_
    exact hp _ _ ⟨rfl, it, pf, jp, jr, tf, C, S, H, rfl, htf, hup⟩
end PB
end
section
/-! BlockStore: the public methods that write -/
theorem rpl_b {W LG : Nat} {D : Nat → Int32} {e : Int32} (hW : 6 ≤ W) (hW2 : W ≤ 64) (hL : LG ≤ 128) : ∀ (t pl rc : Nat) (m : PM), pl ≤ LG → rc ≤ pl → Srt m → pl ≤ (rpl W LG D e t pl rc m).1 ∧ (rpl W LG D e t pl rc m).1 ≤ LG ∧ (rpl W LG D e t pl rc m).2.1 ≤ (rpl W LG D e t pl rc m).1 ∧ Srt (rpl W LG D e t pl rc m).2.2 ∧ 3 * (rpl W LG D e t pl rc m).2.2.length + (W - 5) * pl ≤ 3 * m.length + (W - 5) * (rpl W LG D e t pl rc m).1
  | 0, pl, rc, m, h1, h2, h3 => ⟨Nat.le_refl _, h1, h2, h3, Nat.le_refl _⟩
  | t + 1, pl, rc, m, h1, h2, h3 => by
    rw [rpl_s]
    by_cases h0 : whl W LG D (1 + pl) e (nI (rc + 1)) = 0
    · rw [if_pos h0]
      exact ⟨Nat.le_refl _, h1, h2, h3, Nat.le_refl _⟩
    · rw [if_neg h0]
      obtain ⟨g1, mm, g2, g3, g4, g5, g6⟩ := whl_pos hW hW2 hL h0
      have g7 : 1 + 3 * mm ≤ rB W mm * (W - 5) := by
        unfold rB
        rw [if_neg (by omega)]
        exact cdv_mul (by omega)
      rw [g5, g2, nI_clamp (by omega)]
      have g10 : 1 ≤ rB W mm := Nat.pos_of_ne_zero (fun z => h0 (by rw [g5]; exact z))
      obtain ⟨i1, i2, i3, i4, i5⟩ := rpl_b (D := D) (e := e) hW hW2 hL t (pl + rB W mm) (rc + 1) (rdo W D (1 + pl) 0 mm m) (by omega) (by omega) (rdo_srt _ _ h3)
      have h8 := rdo_len (W := W) (D := D) (b := 1 + pl) mm 0 h3
      have g8 : (W - 5) * (pl + rB W mm) = (W - 5) * pl + rB W mm * (W - 5) := by rw [Nat.mul_add, Nat.mul_comm (W - 5) (rB W mm)]
      exact ⟨by omega, i2, i3, i4, by omega⟩
theorem fmB_eq {W : Nat} {e : Int32} {pf : Nat → Int32} (hW : W ≤ 64) : ∀ j, j < W - 1 → upd (fun j => if j < 64 then 0 else pf j) 1 e j = fmB e j := by
  intro j hj
  unfold fmB
  by_cases h1 : j = 1
  · rw [h1, pk_us, if_pos rfl]
  · rw [pk_un h1, if_neg h1, if_pos (by omega)]
theorem AInv.geo {st : Int32} {B W LG : Nat} {q : DQ} {u : Nat × Nat × PM × Option CL} (h : AInv (st, (B, W, LG), q, u)) (h0 : ¬ st = 0) : Geo B W LG ∧ HdOK B W LG q.1 := by
  obtain ⟨pl, rc, M, tx⟩ := u
  exact h.2.2.2.1 h0
theorem mark_ne : ¬ MARK = 0 := by decide
section PB
variable {A : Ab} {τ σ : aW}
set_option maxHeartbeats 4000000 in
set_option maxRecDepth 100000 in
theorem x_disk {x y z : Int32} (hA : AInv A) (hR : RX A τ σ) : MT mdX4_disk [.ref 0, .int x, .int y, .int z] σ (fun r σ1 => r = some (.int (b2i (sDisk A x y z).1)) ∧ RX (sDisk A x y z).2 τ σ1) := by
  obtain ⟨st, ⟨B, W, LG⟩, q, pl, rc, M, tx⟩ := A
  have hR0 := hR
  obtain ⟨it, pf, jp, jr, tf, C, S, H, rfl, htf, hup⟩ := hR
  refine mp_of [some (.ref 0), some (.int x), some (.int y), some (.int z)] rfl (Nat.le_of_ble_eq_true rfl) (by decide) (fun X Post hX hp => ?_)
  unfold sDisk at hp
  refine wp_iload_n hX dX4_disk_0 rfl ?_
  refine wp_bipush (v := 16) hX dX4_disk_1 bp_16 ?_
  refine wp_icmp_lt (tgt := 13) hX dX4_disk_3 (by decide) (fun c1 => ?_) (fun c1 => ?_)
  · rw [if_pos (Or.inl c1)] at hp
    refine wp_iconst (v := 0) hX dX4_disk_13 ic_0 ?_
    refine wp_iret hX dX4_disk_14 rfl rfl ?_
    exact hp _ _ ⟨rfl, hR0⟩
  · refine wp_iload_n hX dX4_disk_6 rfl ?_
    refine wp_sipush (v := 512) hX dX4_disk_7 sp_512 ?_
    refine wp_icmp_le (tgt := 15) hX dX4_disk_10 (by decide) (fun c2 => ?_) (fun c2 => ?_)
    · refine wp_iload_n hX dX4_disk_15 rfl ?_
      refine wp_bipush (v := 16) hX dX4_disk_16 bp_16 ?_
      refine wp_icmp_lt (tgt := 27) hX dX4_disk_18 (by decide) (fun c3 => ?_) (fun c3 => ?_)
      · rw [if_pos (Or.inr (Or.inr (Or.inl c3)))] at hp
        refine wp_iconst (v := 0) hX dX4_disk_27 ic_0 ?_
        refine wp_iret hX dX4_disk_28 rfl rfl ?_
        exact hp _ _ ⟨rfl, hR0⟩
      · refine wp_iload_n hX dX4_disk_21 rfl ?_
        refine wp_bipush (v := 64) hX dX4_disk_22 bp_64 ?_
        refine wp_icmp_le (tgt := 29) hX dX4_disk_24 (by decide) (fun c4 => ?_) (fun c4 => ?_)
        · refine wp_iload_n hX dX4_disk_29 rfl ?_
          refine wp_iconst (v := 4) hX dX4_disk_30 ic_4 ?_
          refine wp_icmp_lt (tgt := 50) hX dX4_disk_31 (by decide) (fun c5 => ?_) (fun c5 => ?_)
          · rw [if_pos (Or.inr (Or.inr (Or.inr (Or.inr (Or.inl c5)))))] at hp
            refine wp_iconst (v := 0) hX dX4_disk_50 ic_0 ?_
            refine wp_iret hX dX4_disk_51 rfl rfl ?_
            exact hp _ _ ⟨rfl, hR0⟩
          · refine wp_iload_n hX dX4_disk_34 rfl ?_
            refine wp_sipush (v := 128) hX dX4_disk_35 sp_128 ?_
            refine wp_icmp_gt (tgt := 50) hX dX4_disk_38 (by decide) (fun c6 => ?_) (fun c6 => ?_)
            · rw [if_pos (Or.inr (Or.inr (Or.inr (Or.inr (Or.inr (Or.inl c6))))))] at hp
              refine wp_iconst (v := 0) hX dX4_disk_50 ic_0 ?_
              refine wp_iret hX dX4_disk_51 rfl rfl ?_
              exact hp _ _ ⟨rfl, hR0⟩
            · refine wp_iload_n hX dX4_disk_41 rfl ?_
              refine wp_iconst (v := 1) hX dX4_disk_42 ic_1 ?_
              refine wp_isub hX dX4_disk_43 ?_
              refine wp_iload_n hX dX4_disk_44 rfl ?_
              refine wp_isub hX dX4_disk_45 ?_
              refine wp_iconst (v := 4) hX dX4_disk_46 ic_4 ?_
              refine wp_icmp_ge (tgt := 52) hX dX4_disk_47 (by decide) (fun c7 => ?_) (fun c7 => ?_)
              · rw [if_neg (by
                  rintro (h | h | h | h | h | h | h)
                  · exact c1 h
                  · exact Int32.not_le.mpr h c2
                  · exact c3 h
                  · exact Int32.not_le.mpr h c4
                  · exact c5 h
                  · exact c6 h
                  · exact Int32.not_lt.mpr c7 h)] at hp
                have e16 : (16 : Int32).toInt = 16 := rfl
                have e512 : (512 : Int32).toInt = 512 := rfl
                have e64 : (64 : Int32).toInt = 64 := rfl
                have e4 : (4 : Int32).toInt = 4 := rfl
                have e128 : (128 : Int32).toInt = 128 := rfl
                have e0 : (0 : Int32).toInt = 0 := rfl
                rw [ilt, e16] at c1
                rw [ile, e512] at c2
                rw [ilt, e16] at c3
                rw [ile, e64] at c4
                rw [ilt, e4] at c5
                rw [ilt, e128] at c6
                obtain ⟨b, hb, rfl⟩ := nI_of (x := x) (by rw [ilt, e0]; omega)
                obtain ⟨w, hw, rfl⟩ := nI_of (x := y) (by rw [ilt, e0]; omega)
                obtain ⟨l, hl, rfl⟩ := nI_of (x := z) (by rw [ilt, e0]; omega)
                rw [nT hb] at c1 c2
                rw [nT hw] at c3 c4
                rw [nT hl] at c5 c6
                have eb : nI b - 1 = nI (b - 1) := w1 (by omega)
                rw [eb, ile, e4, pk_sub_toInt (by omega) (by omega)] at c7
                have ebl : nI b - 1 - nI l = nI (b - 1 - l) := by rw [eb]; exact pk_sub (by omega)
                rw [nI_clamp hb, nI_clamp hw, nI_clamp hl] at hp
                refine wp_aload_n hX dX4_disk_52 rfl ?_
                refine wp_get hX dX4_disk_53 flX4_10 rfl rfl ?_
                refine wp_iload_n hX dX4_disk_56 rfl ?_
                refine wp_iload_n hX dX4_disk_57 rfl ?_
                refine wp_cv2 hX dX4_disk_58 mlX4_55 ⟨Nat.le_of_ble_eq_true rfl, Nat.le_of_ble_eq_true rfl⟩ (d_renew rfl rfl) rfl (Nat.le_of_ble_eq_true rfl) ?_
                refine wp_aload_n hX dX4_disk_61 rfl ?_
                refine wp_get hX dX4_disk_62 flX4_21 rfl rfl ?_
                refine wp_iload_n hX dX4_disk_65 rfl ?_
                refine wp_cv1 hX dX4_disk_66 mlX4_59 ⟨Nat.le_of_ble_eq_true rfl, Nat.le_of_ble_eq_true rfl⟩ (j_layOut (q := ((fun j => if j < 32768 then 0 else q.1 j), 0, 0))) rfl (Nat.le_of_ble_eq_true rfl) ?_
                refine wp_aload_n hX dX4_disk_69 rfl ?_
                refine wp_get hX dX4_disk_70 flX4_28 rfl rfl ?_
                refine wp_iload_n hX dX4_disk_73 rfl ?_
                refine wp_iconst (v := 1) hX dX4_disk_74 ic_1 ?_
                refine wp_iadd hX dX4_disk_75 ?_
                refine wp_ti (y := (nI (l + 1))) (nI_1 _) ?_
                refine wp_iload_n hX dX4_disk_76 rfl ?_
                refine wp_iconst (v := 1) hX dX4_disk_77 ic_1 ?_
                refine wp_isub hX dX4_disk_78 ?_
                refine wp_iload_n hX dX4_disk_79 rfl ?_
                refine wp_isub hX dX4_disk_80 ?_
                refine wp_ti (y := nI (b - 1 - l)) ebl ?_
                refine wp_iconst (v := 2) hX dX4_disk_81 ic_2 ?_
                refine wp_idiv hX dX4_disk_82 (by decide) ?_
                refine wp_ti (y := nI ((b - 1 - l) / 2)) (pk_div (a := b - 1 - l) (d := 2) (by omega) (by decide) (by decide)) ?_
                refine wp_cv2 hX dX4_disk_83 mlX4_62 ⟨Nat.le_of_ble_eq_true rfl, Nat.le_of_ble_eq_true rfl⟩ (t_layOut (q := ((fun j => if j < 32768 then 0 else q.1 j), 0, 0))) rfl (Nat.le_of_ble_eq_true rfl) ?_
                have ez : (fun j => if j < 32768 then 0 else q.1 j) = (fun _ => (0 : Int32)) := by
                  funext j
                  by_cases hj : j < 32768
                  · rw [if_pos hj]
                  · rw [if_neg hj, hA.1 j (by omega)]
                rw [ez]
                refine wp_aload_n hX dX4_disk_86 rfl ?_
                refine wp_iconst (v := 1) hX dX4_disk_87 ic_1 ?_
                refine wp_put hX dX4_disk_88 fwX4_47 rfl (Nat.le_of_ble_eq_true rfl) rfl rfl ?_
                refine wp_iconst (v := 1) hX dX4_disk_91 ic_1 ?_
                refine wp_iret hX dX4_disk_92 rfl rfl ?_
                exact hp _ _ ⟨rfl, it, pf, 0, 0, l + 1, C, S, H, rfl, fun _ => rfl, fun h => absurd h (by decide)⟩
              · rw [if_pos (Or.inr (Or.inr (Or.inr (Or.inr (Or.inr (Or.inr (Int32.not_le.mp c7)))))))] at hp
                refine wp_iconst (v := 0) hX dX4_disk_50 ic_0 ?_
                refine wp_iret hX dX4_disk_51 rfl rfl ?_
                exact hp _ _ ⟨rfl, hR0⟩
        · rw [if_pos (Or.inr (Or.inr (Or.inr (Or.inl (Int32.not_le.mp c4)))))] at hp
          refine wp_iconst (v := 0) hX dX4_disk_27 ic_0 ?_
          refine wp_iret hX dX4_disk_28 rfl rfl ?_
          exact hp _ _ ⟨rfl, hR0⟩
    · rw [if_pos (Or.inr (Or.inl (Int32.not_le.mp c2)))] at hp
      refine wp_iconst (v := 0) hX dX4_disk_13 ic_0 ?_
      refine wp_iret hX dX4_disk_14 rfl rfl ?_
      exact hp _ _ ⟨rfl, hR0⟩
set_option maxHeartbeats 4000000 in
set_option maxRecDepth 100000 in
theorem x_format (hA : AInv A) (hR : RX A τ σ) : MT mdX4_format [.ref 0] σ (fun r σ1 => r = some (.int (sFormat A).1) ∧ RX (sFormat A).2 τ σ1) := by
  obtain ⟨st, ⟨B, W, LG⟩, q, pl, rc, M, tx⟩ := A
  have hR0 := hR
  obtain ⟨it, pf, jp, jr, tf, C, S, H, rfl, htf, hup⟩ := hR
  refine mp_of [some (.ref 0), none] rfl (Nat.le_of_ble_eq_true rfl) (by decide) (fun X Post hX hp => ?_)
  have tail : (st = 1 ∨ st = 2) → Wp X Post 21 [some (.ref 0), none] [] (wX st it B W q pf LG jp jr tf (AR B LG) C S H τ) := by
    intro hst
    have hs0 : ¬ st = 0 := by rcases hst with rfl | rfl <;> decide
    obtain ⟨⟨g1, g2, g3, g4, g5, g6, g7⟩, hH⟩ := hA.geo hs0
    unfold sFormat at hp
    dsimp only at hp
    rw [if_neg (fun z => z hst)] at hp
    refine wp_aload_n hX dX4_format_21 rfl ?_
    refine wp_get hX dX4_format_22 flX4_10 rfl rfl ?_
    refine wp_iconst (v := 0) hX dX4_format_25 ic_0 ?_
    refine wp_iconst (v := 1) hX dX4_format_26 ic_1 ?_
    refine wp_cv2 hX dX4_format_27 mlX4_68 ⟨Nat.le_of_ble_eq_true rfl, Nat.le_of_ble_eq_true rfl⟩ (d_wordAt rfl rfl g2 g4) rfl (Nat.le_of_ble_eq_true rfl) ?_
    rw [show wA B W q.1 0 1 = q.1 1 from wA_h (i := 1) g2 (by omega) g4 (by omega)]
    refine wp_iconst (v := 1) hX dX4_format_30 ic_1 ?_
    refine wp_iadd hX dX4_format_31 ?_
    refine wp_istore_n hX dX4_format_32 (Nat.le_of_ble_eq_true rfl) rfl ?_
    refine wp_aload_n hX dX4_format_33 rfl ?_
    refine wp_get hX dX4_format_34 flX4_10 rfl rfl ?_
    refine wp_cv0 hX dX4_format_37 mlX4_72 ⟨Nat.le_of_ble_eq_true rfl, Nat.le_of_ble_eq_true rfl⟩ (d_clearPage rfl rfl) rfl (Nat.le_of_ble_eq_true rfl) ?_
    refine wp_aload_n hX dX4_format_40 rfl ?_
    refine wp_get hX dX4_format_41 flX4_10 rfl rfl ?_
    refine wp_iconst (v := 1) hX dX4_format_44 ic_1 ?_
    refine wp_iload_n hX dX4_format_45 rfl ?_
    refine wp_cv2 hX dX4_format_46 mlX4_75 ⟨Nat.le_of_ble_eq_true rfl, Nat.le_of_ble_eq_true rfl⟩ (d_setPage (i := 1) rfl rfl g4 (by omega)) rfl (Nat.le_of_ble_eq_true rfl) ?_
    by_cases h1 : q.2.2 = 1
    · rw [wr1_no h1] at hp
      rw [if_pos rfl] at hp
      refine wp_aload_n hX dX4_format_49 rfl ?_
      refine wp_get hX dX4_format_50 flX4_10 rfl rfl ?_
      refine wp_iconst (v := 0) hX dX4_format_53 ic_0 ?_
      refine wp_cv1 hX dX4_format_54 mlX4_78 ⟨Nat.le_of_ble_eq_true rfl, Nat.le_of_ble_eq_true rfl⟩ (d_writePage_no (b := 0) rfl g2 g4 (by omega) (by omega) h1) rfl (Nat.le_of_ble_eq_true rfl) ?_
      refine wp_if_ne (tgt := 65) hX dX4_format_57 (by decide) (fun c_ => absurd (rfl) c_) (fun _ => ?_)
      refine wp_eqW (σ1 := wX st it B W (q.1, q.2.1, 0) (upd (fun j => if j < 64 then 0 else pf j) 1 (q.1 1 + 1)) LG jp jr tf (AR B LG) C S H τ) rfl ?_
      refine wp_aload_n hX dX4_format_60 rfl ?_
      refine wp_cv0 hX dX4_format_61 mlX4_82 ⟨Nat.le_of_ble_eq_true rfl, Nat.le_of_ble_eq_true rfl⟩ (b_fail) rfl (Nat.le_of_ble_eq_true rfl) ?_
      refine wp_iret hX dX4_format_64 rfl rfl ?_
      exact hp _ _ ⟨rfl, it, _, jp, jr, tf, C, S, H, rfl, fun _ => htf hs0, fun h => absurd h (by decide)⟩
    · rw [wr1_ok h1] at hp
      rw [if_neg (show ¬ true = false by decide)] at hp
      dsimp only at hp
      refine wp_aload_n hX dX4_format_49 rfl ?_
      refine wp_get hX dX4_format_50 flX4_10 rfl rfl ?_
      refine wp_iconst (v := 0) hX dX4_format_53 ic_0 ?_
      refine wp_cv1 hX dX4_format_54 mlX4_78 ⟨Nat.le_of_ble_eq_true rfl, Nat.le_of_ble_eq_true rfl⟩ (d_writePage_ok (b := 0) rfl rfl rfl g2 g4 (by omega) (by omega) h1) rfl (Nat.le_of_ble_eq_true rfl) ?_
      rw [wrD_congr (fmB_eq g4)]
      refine wp_eqW (σ1 := wX st it B W (wrD q.1 W 0 (fmB (q.1 1 + 1)), q.2.1 + 1, pwd q.2.2) (upd (fun j => if j < 64 then 0 else pf j) 1 (q.1 1 + 1)) LG jp jr tf (AR B LG) C S H τ) rfl ?_
      refine wp_if_ne (tgt := 65) hX dX4_format_57 (by decide) (fun _ => ?_) (fun c_ => absurd c_ (by decide))
      refine wp_aload_n hX dX4_format_65 rfl ?_
      refine wp_iload_n hX dX4_format_66 rfl ?_
      refine wp_iconst (v := 1) hX dX4_format_67 ic_1 ?_
      refine wp_iconst (v := 0) hX dX4_format_68 ic_0 ?_
      refine wp_iconst (v := 0) hX dX4_format_69 ic_0 ?_
      refine wp_iconst (v := 0) hX dX4_format_70 ic_0 ?_
      refine wp_cv5p hX dX4_format_71 mlX4_85 ⟨Nat.le_of_ble_eq_true rfl, Nat.le_of_ble_eq_true rfl⟩ (b_writeHead g2 (by omega) g3 g4) rfl (Nat.le_of_ble_eq_true rfl) ?_
      rintro r1 σ1 ⟨pf1, rfl, rfl⟩
      generalize hz : wr1 W (wrD q.1 W 0 (fmB (q.1 1 + 1)), q.2.1 + 1, pwd q.2.2) 0 (hdB (q.1 1 + 1) 1 0 0 0) = zz at hp ⊢
      obtain ⟨zb, z2⟩ := zz
      cases zb with
      | false =>
        rw [if_pos rfl] at hp
        refine wp_if_ne (tgt := 82) hX dX4_format_74 (by decide) (fun c_ => absurd (rfl) c_) (fun _ => ?_)
        refine wp_aload_n hX dX4_format_77 rfl ?_
        refine wp_cv0 hX dX4_format_78 mlX4_82 ⟨Nat.le_of_ble_eq_true rfl, Nat.le_of_ble_eq_true rfl⟩ (b_fail) rfl (Nat.le_of_ble_eq_true rfl) ?_
        refine wp_iret hX dX4_format_81 rfl rfl ?_
        exact hp _ _ ⟨rfl, it, _, jp, jr, tf, C, S, H, rfl, fun _ => htf hs0, fun h => absurd h (by decide)⟩
      | true =>
        rw [if_neg (show ¬ true = false by decide)] at hp
        refine wp_if_ne (tgt := 82) hX dX4_format_74 (by decide) (fun _ => ?_) (fun c_ => absurd c_ (show ¬ b2i true = 0 by decide))
        refine wp_aload_n hX dX4_format_82 rfl ?_
        refine wp_get hX dX4_format_83 flX4_37 rfl rfl ?_
        refine wp_cv0 hX dX4_format_86 mlX4_89 ⟨Nat.le_of_ble_eq_true rfl, Nat.le_of_ble_eq_true rfl⟩ (k_clear rfl) rfl (Nat.le_of_ble_eq_true rfl) ?_
        refine wp_aload_n hX dX4_format_89 rfl ?_
        refine wp_get hX dX4_format_90 flX4_21 rfl rfl ?_
        refine wp_cv0 hX dX4_format_93 mlX4_92 ⟨Nat.le_of_ble_eq_true rfl, Nat.le_of_ble_eq_true rfl⟩ (j_restart (C := (0, C.2))) rfl (Nat.le_of_ble_eq_true rfl) ?_
        refine wp_aload_n hX dX4_format_96 rfl ?_
        refine wp_cv0 hX dX4_format_97 mlX4_95 ⟨Nat.le_of_ble_eq_true rfl, Nat.le_of_ble_eq_true rfl⟩ (b_comeUp (C := (0, C.2)) (Nat.zero_le _)) rfl (Nat.le_of_ble_eq_true rfl) ?_
        refine wp_iconst (v := 0) hX dX4_format_100 ic_0 ?_
        refine wp_iret hX dX4_format_101 rfl rfl ?_
        exact hp _ _ ⟨rfl, 0, _, 0, 0, tf, (0, C.2), _, _, rfl, fun _ => htf hs0, fun _ => ⟨rfl, rfl, KAm.nil rfl, KAm.nil rfl, rfl, rfl⟩⟩
  refine wp_aload_n hX dX4_format_0 rfl ?_
  refine wp_get hX dX4_format_1 flX4_47 rfl rfl ?_
  refine wp_iconst (v := 1) hX dX4_format_4 ic_1 ?_
  refine wp_icmp_eq (tgt := 21) hX dX4_format_5 (by decide) (fun c => ?_) (fun c => ?_)
  · exact tail (Or.inl c)
  · refine wp_aload_n hX dX4_format_8 rfl ?_
    refine wp_get hX dX4_format_9 flX4_47 rfl rfl ?_
    refine wp_iconst (v := 2) hX dX4_format_12 ic_2 ?_
    refine wp_icmp_eq (tgt := 21) hX dX4_format_13 (by decide) (fun d => ?_) (fun d => ?_)
    · exact tail (Or.inr d)
    · unfold sFormat at hp
      dsimp only at hp
      rw [if_pos (fun z => z.elim c d)] at hp
      refine wp_aload_n hX dX4_format_16 rfl ?_
      refine wp_cv0 hX dX4_format_17 mlX4_64 ⟨Nat.le_of_ble_eq_true rfl, Nat.le_of_ble_eq_true rfl⟩ (b_refusal) rfl (Nat.le_of_ble_eq_true rfl) ?_
      refine wp_iret hX dX4_format_20 rfl rfl ?_
      exact hp _ _ ⟨rfl, hR0⟩
end PB
end
section
/-! BlockStore: transactions, commit, recover, checkpoint, count -/
section PB
variable {A : Ab} {τ σ : aW}
set_option maxHeartbeats 4000000 in
set_option maxRecDepth 100000 in
theorem x_put {k v : Int32} (hA : AInv A) (hR : RX A τ σ) : MT mdX4_put [.ref 0, .int k, .int v] σ (fun r σ1 => r = some (.int (sPut A k v).1) ∧ RX (sPut A k v).2 τ σ1) := by
  obtain ⟨st, ⟨B, W, LG⟩, q, pl, rc, M, tx⟩ := A
  have hR0 := hR
  obtain ⟨it, pf, jp, jr, tf, C, S, H, rfl, htf, hup⟩ := hR
  refine mp_of [some (.ref 0), some (.int k), some (.int v)] rfl (Nat.le_of_ble_eq_true rfl) (by decide) (fun X Post hX hp => ?_)
  unfold sPut at hp
  dsimp only at hp
  refine wp_aload_n hX dX4_put_0 rfl ?_
  refine wp_get hX dX4_put_1 flX4_47 rfl rfl ?_
  refine wp_iconst (v := 2) hX dX4_put_4 ic_2 ?_
  refine wp_icmp_eq (tgt := 13) hX dX4_put_5 (by decide) (fun c => ?_) (fun c => ?_)
  · subst c
    rw [if_neg (by decide)] at hp
    obtain ⟨u1, u2, u3, u4, u5⟩ := hup rfl
    have hcap := hA.cap
    have h6 := (hA.2.2.2.2 rfl).2.2.2.2.2
    have hMs := (hA.2.2.2.2 rfl).2.2.2.1
    cases tx with
    | none =>
      obtain ⟨u5, u6⟩ := u5
      subst u5
      refine wp_aload_n hX dX4_put_13 rfl ?_
      refine wp_get hX dX4_put_14 flX4_51 rfl rfl ?_
      refine wp_if_ne (tgt := 23) hX dX4_put_17 (by decide) (fun c_ => absurd (rfl) c_) (fun _ => ?_)
      refine wp_bipush (v := (-3)) hX dX4_put_20 bp_m3 ?_
      refine wp_iret hX dX4_put_22 rfl rfl ?_
      exact hp _ _ ⟨rfl, hR0⟩
    | some CC =>
      obtain ⟨u5, u6⟩ := u5
      obtain ⟨k1, k2⟩ := h6
      subst u5
      have hHl : CC.length = H.1 := by rw [← chK_len]; exact u6.1
      have hSl : (ov M CC).length = S.1 := u4.1
      have hol := ov_len (M := M) CC hMs
      refine wp_aload_n hX dX4_put_13 rfl ?_
      refine wp_get hX dX4_put_14 flX4_51 rfl rfl ?_
      refine wp_if_ne (tgt := 23) hX dX4_put_17 (by decide) (fun _ => ?_) (fun c_ => absurd c_ (by decide))
      refine wp_aload_n hX dX4_put_23 rfl ?_
      refine wp_iload_n hX dX4_put_24 rfl ?_
      refine wp_cv1 hX dX4_put_25 mlX4_113 ⟨Nat.le_of_ble_eq_true rfl, Nat.le_of_ble_eq_true rfl⟩ (b_hasRoom u6 (chK_srt k1) (by omega)) rfl (Nat.le_of_ble_eq_true rfl) ?_
      have elk : (lk (chK CC) k).isSome = (lk CC k).isSome := by rw [chK_lk]; cases lk CC k <;> rfl
      rw [elk, chK_len]
      by_cases hf : (lk CC k).isSome = false ∧ CC.length = 600
      · rw [decide_eq_false (fun z => z hf)]
        dsimp only at hp
        rw [if_pos hf] at hp
        refine wp_if_ne (tgt := 34) hX dX4_put_28 (by decide) (fun c_ => absurd (rfl) c_) (fun _ => ?_)
        refine wp_bipush (v := (-6)) hX dX4_put_31 bp_m6 ?_
        refine wp_iret hX dX4_put_33 rfl rfl ?_
        exact hp _ _ ⟨rfl, hR0⟩
      · rw [decide_eq_true hf]
        dsimp only at hp
        rw [if_neg hf] at hp
        have hl1 := ov_len (M := M) (ins CC k (false, v)) hMs
        have hl2 := ins_len CC k (false, v) k1
        have hcl : (ins CC k (false, v)).length ≤ 600 := by
          rw [hl2]
          cases e : (lk CC k).isSome with
          | true => simp; omega
          | false =>
            have : ¬ CC.length = 600 := fun z => hf ⟨e, z⟩
            simp
            omega
        rw [ov_put hMs k1, ins_len _ k v (ov_srt CC hMs)] at hl1
        refine wp_if_ne (tgt := 34) hX dX4_put_28 (by decide) (fun _ => ?_) (fun c_ => absurd c_ (by decide))
        refine wp_aload_n hX dX4_put_34 rfl ?_
        refine wp_get hX dX4_put_35 flX4_44 rfl rfl ?_
        refine wp_iload_n hX dX4_put_38 rfl ?_
        refine wp_iload_n hX dX4_put_39 rfl ?_
        refine wp_cv2p hX dX4_put_40 mlX4_116 ⟨Nat.le_of_ble_eq_true rfl, Nat.le_of_ble_eq_true rfl⟩ (k_enterG (by decide) rfl rfl rfl (by omega) (fun z => by rw [elk] at z; rw [← hHl]; have : ¬ CC.length = 600 := fun y => hf ⟨z, y⟩; omega) (by decide) u6 (chK_srt k1)) rfl (Nat.le_of_ble_eq_true rfl) ?_
        rintro r1 σ1 ⟨rfl, hu, hkf, hvf, hk1, rfl⟩
        refine wp_eqW (σ1 := wX 2 1 B W q pf LG jp jr tf (AR B LG) C S (hu, hkf, hvf) τ) rfl ?_
        refine wp_aload_n hX dX4_put_43 rfl ?_
        refine wp_get hX dX4_put_44 flX4_41 rfl rfl ?_
        refine wp_iload_n hX dX4_put_47 rfl ?_
        refine wp_iload_n hX dX4_put_48 rfl ?_
        refine wp_cv2p hX dX4_put_49 mlX4_116 ⟨Nat.le_of_ble_eq_true rfl, Nat.le_of_ble_eq_true rfl⟩ (k_enterG (by decide) rfl rfl rfl (by omega) (fun z => by rw [show (lk (ov M CC) k).isSome = false from z] at hl1; simp at hl1; omega) (by decide) u4 (ov_srt CC hMs)) rfl (Nat.le_of_ble_eq_true rfl) ?_
        rintro r1 σ1 ⟨rfl, su, skf, svf, hk2, rfl⟩
        refine wp_iconst (v := 0) hX dX4_put_52 ic_0 ?_
        refine wp_iret hX dX4_put_53 rfl rfl ?_
        refine hp _ _ ⟨rfl, 1, pf, jp, jr, tf, C, (su, skf, svf), (hu, hkf, hvf), rfl, htf, fun _ => ⟨u1, u2, u3, ?_, rfl, ?_⟩⟩
        · show KAm (ov M (ins CC k (false, v))) _
          rw [ov_put hMs k1]
          exact hk2
        · rw [chK_ins]
          exact hk1
  · rw [if_pos c] at hp
    refine wp_aload_n hX dX4_put_8 rfl ?_
    refine wp_cv0 hX dX4_put_9 mlX4_64 ⟨Nat.le_of_ble_eq_true rfl, Nat.le_of_ble_eq_true rfl⟩ (b_refusal) rfl (Nat.le_of_ble_eq_true rfl) ?_
    refine wp_iret hX dX4_put_12 rfl rfl ?_
    exact hp _ _ ⟨rfl, hR0⟩
set_option maxHeartbeats 4000000 in
set_option maxRecDepth 100000 in
theorem x_remove {k : Int32} (hA : AInv A) (hR : RX A τ σ) : MT mdX4_remove [.ref 0, .int k] σ (fun r σ1 => r = some (.int (sRemove A k).1) ∧ RX (sRemove A k).2 τ σ1) := by
  obtain ⟨st, ⟨B, W, LG⟩, q, pl, rc, M, tx⟩ := A
  have hR0 := hR
  obtain ⟨it, pf, jp, jr, tf, C, S, H, rfl, htf, hup⟩ := hR
  refine mp_of [some (.ref 0), some (.int k)] rfl (Nat.le_of_ble_eq_true rfl) (by decide) (fun X Post hX hp => ?_)
  unfold sRemove at hp
  dsimp only at hp
  refine wp_aload_n hX dX4_remove_0 rfl ?_
  refine wp_get hX dX4_remove_1 flX4_47 rfl rfl ?_
  refine wp_iconst (v := 2) hX dX4_remove_4 ic_2 ?_
  refine wp_icmp_eq (tgt := 13) hX dX4_remove_5 (by decide) (fun c => ?_) (fun c => ?_)
  · subst c
    rw [if_neg (by decide)] at hp
    obtain ⟨u1, u2, u3, u4, u5⟩ := hup rfl
    have hcap := hA.cap
    have h6 := (hA.2.2.2.2 rfl).2.2.2.2.2
    have hMs := (hA.2.2.2.2 rfl).2.2.2.1
    cases tx with
    | none =>
      obtain ⟨u5, u6⟩ := u5
      subst u5
      refine wp_aload_n hX dX4_remove_13 rfl ?_
      refine wp_get hX dX4_remove_14 flX4_51 rfl rfl ?_
      refine wp_if_ne (tgt := 23) hX dX4_remove_17 (by decide) (fun c_ => absurd (rfl) c_) (fun _ => ?_)
      refine wp_bipush (v := (-3)) hX dX4_remove_20 bp_m3 ?_
      refine wp_iret hX dX4_remove_22 rfl rfl ?_
      exact hp _ _ ⟨rfl, hR0⟩
    | some CC =>
      obtain ⟨u5, u6⟩ := u5
      obtain ⟨k1, k2⟩ := h6
      subst u5
      have hHl : CC.length = H.1 := by rw [← chK_len]; exact u6.1
      have hSl : (ov M CC).length = S.1 := u4.1
      have hol := ov_len (M := M) CC hMs
      dsimp only at hp
      refine wp_aload_n hX dX4_remove_13 rfl ?_
      refine wp_get hX dX4_remove_14 flX4_51 rfl rfl ?_
      refine wp_if_ne (tgt := 23) hX dX4_remove_17 (by decide) (fun _ => ?_) (fun c_ => absurd c_ (by decide))
      refine wp_aload_n hX dX4_remove_23 rfl ?_
      refine wp_get hX dX4_remove_24 flX4_41 rfl rfl ?_
      refine wp_iload_n hX dX4_remove_27 rfl ?_
      refine wp_cv1 hX dX4_remove_28 mlX4_119 ⟨Nat.le_of_ble_eq_true rfl, Nat.le_of_ble_eq_true rfl⟩ (k_holds rfl rfl (by omega) (by decide) u4 (ov_srt CC hMs)) rfl (Nat.le_of_ble_eq_true rfl) ?_
      cases hh : (lk (ov M CC) k).isSome with
      | false =>
        rw [if_pos hh] at hp
        rw [show (lk (seenT M (some CC)) k).isSome = false from hh]
        refine wp_if_ne (tgt := 37) hX dX4_remove_31 (by decide) (fun c_ => absurd (rfl) c_) (fun _ => ?_)
        refine wp_bipush (v := (-5)) hX dX4_remove_34 bp_m5 ?_
        refine wp_iret hX dX4_remove_36 rfl rfl ?_
        exact hp _ _ ⟨rfl, hR0⟩
      | true =>
        rw [if_neg (by rw [hh]; decide)] at hp
        rw [show (lk (seenT M (some CC)) k).isSome = true from hh]
        refine wp_if_ne (tgt := 37) hX dX4_remove_31 (by decide) (fun _ => ?_) (fun c_ => absurd c_ (by decide))
        refine wp_aload_n hX dX4_remove_37 rfl ?_
        refine wp_iload_n hX dX4_remove_38 rfl ?_
        refine wp_cv1 hX dX4_remove_39 mlX4_113 ⟨Nat.le_of_ble_eq_true rfl, Nat.le_of_ble_eq_true rfl⟩ (b_hasRoom u6 (chK_srt k1) (by omega)) rfl (Nat.le_of_ble_eq_true rfl) ?_
        have elk : (lk (chK CC) k).isSome = (lk CC k).isSome := by rw [chK_lk]; cases lk CC k <;> rfl
        rw [elk, chK_len]
        by_cases hf : (lk CC k).isSome = false ∧ CC.length = 600
        · rw [decide_eq_false (fun z => z hf)]
          rw [if_pos hf] at hp
          refine wp_if_ne (tgt := 48) hX dX4_remove_42 (by decide) (fun c_ => absurd (rfl) c_) (fun _ => ?_)
          refine wp_bipush (v := (-6)) hX dX4_remove_45 bp_m6 ?_
          refine wp_iret hX dX4_remove_47 rfl rfl ?_
          exact hp _ _ ⟨rfl, hR0⟩
        · rw [decide_eq_true hf]
          rw [if_neg hf] at hp
          refine wp_if_ne (tgt := 48) hX dX4_remove_42 (by decide) (fun _ => ?_) (fun c_ => absurd c_ (by decide))
          refine wp_aload_n hX dX4_remove_48 rfl ?_
          refine wp_get hX dX4_remove_49 flX4_44 rfl rfl ?_
          refine wp_iload_n hX dX4_remove_52 rfl ?_
          refine wp_iconst (v := 0) hX dX4_remove_53 ic_0 ?_
          refine wp_cv2p hX dX4_remove_54 mlX4_116 ⟨Nat.le_of_ble_eq_true rfl, Nat.le_of_ble_eq_true rfl⟩ (k_enterG (by decide) rfl rfl rfl (by omega) (fun z => by rw [elk] at z; rw [← hHl]; have : ¬ CC.length = 600 := fun y => hf ⟨z, y⟩; omega) (by decide) u6 (chK_srt k1)) rfl (Nat.le_of_ble_eq_true rfl) ?_
          rintro r1 σ1 ⟨rfl, hu, hkf, hvf, hk1, rfl⟩
          refine wp_eqW (σ1 := wX 2 1 B W q pf LG jp jr tf (AR B LG) C S (hu, hkf, hvf) τ) rfl ?_
          refine wp_aload_n hX dX4_remove_57 rfl ?_
          refine wp_get hX dX4_remove_58 flX4_41 rfl rfl ?_
          refine wp_iload_n hX dX4_remove_61 rfl ?_
          refine wp_cv1p hX dX4_remove_62 mlX4_122 ⟨Nat.le_of_ble_eq_true rfl, Nat.le_of_ble_eq_true rfl⟩ (k_drop (by decide) rfl rfl rfl (by omega) (by decide) u4 (ov_srt CC hMs)) rfl (Nat.le_of_ble_eq_true rfl) ?_
          rintro r1 σ1 ⟨rfl, su, skf, svf, hk2, rfl⟩
          refine wp_iconst (v := 0) hX dX4_remove_65 ic_0 ?_
          refine wp_iret hX dX4_remove_66 rfl rfl ?_
          refine hp _ _ ⟨rfl, 1, pf, jp, jr, tf, C, (su, skf, svf), (hu, hkf, hvf), rfl, htf, fun _ => ⟨u1, u2, u3, ?_, rfl, ?_⟩⟩
          · show KAm (ov M (ins CC k (true, 0))) _
            rw [ov_rem hMs k1]
            exact hk2
          · rw [chK_ins]
            exact hk1
  · rw [if_pos c] at hp
    refine wp_aload_n hX dX4_remove_8 rfl ?_
    refine wp_cv0 hX dX4_remove_9 mlX4_64 ⟨Nat.le_of_ble_eq_true rfl, Nat.le_of_ble_eq_true rfl⟩ (b_refusal) rfl (Nat.le_of_ble_eq_true rfl) ?_
    refine wp_iret hX dX4_remove_12 rfl rfl ?_
    exact hp _ _ ⟨rfl, hR0⟩
set_option maxHeartbeats 4000000 in
set_option maxRecDepth 100000 in
theorem x_commit (hA : AInv A) (hR : RX A τ σ) : MT mdX4_commit [.ref 0] σ (fun r σ1 => r = some (.int (sCommit A).1) ∧ RX (sCommit A).2 τ σ1) := by
  obtain ⟨st, ⟨B, W, LG⟩, q, pl, rc, M, tx⟩ := A
  have hR0 := hR
  obtain ⟨it, pf, jp, jr, tf, C, S, H, rfl, htf, hup⟩ := hR
  refine mp_of [some (.ref 0), none, none] rfl (Nat.le_of_ble_eq_true rfl) (by decide) (fun X Post hX hp => ?_)
  unfold sCommit at hp
  dsimp only at hp
  refine wp_aload_n hX dX4_commit_0 rfl ?_
  refine wp_get hX dX4_commit_1 flX4_47 rfl rfl ?_
  refine wp_iconst (v := 2) hX dX4_commit_4 ic_2 ?_
  refine wp_icmp_eq (tgt := 13) hX dX4_commit_5 (by decide) (fun c => ?_) (fun c => ?_)
  · subst c
    rw [if_neg (by decide)] at hp
    obtain ⟨u1, u2, u3, u4, u5⟩ := hup rfl
    subst u1
    subst u2
    have hcap := hA.cap
    obtain ⟨⟨g1, g2, g3, g4, g5, g6, g7⟩, hHd⟩ := hA.geo (by decide)
    obtain ⟨-, hpl, hrc, hMs, -, h6⟩ := hA.2.2.2.2 rfl
    cases tx with
    | none =>
      obtain ⟨u5, u6⟩ := u5
      subst u5
      refine wp_aload_n hX dX4_commit_13 rfl ?_
      refine wp_get hX dX4_commit_14 flX4_51 rfl rfl ?_
      refine wp_if_ne (tgt := 23) hX dX4_commit_17 (by decide) (fun c_ => absurd (rfl) c_) (fun _ => ?_)
      refine wp_bipush (v := (-3)) hX dX4_commit_20 bp_m3 ?_
      refine wp_iret hX dX4_commit_22 rfl rfl ?_
      exact hp _ _ ⟨rfl, hR0⟩
    | some CC =>
      obtain ⟨u5, u6⟩ := u5
      obtain ⟨k1, k2⟩ := h6
      subst u5
      have hHl : CC.length = H.1 := by rw [← chK_len]; exact u6.1
      have hSl : (ov M CC).length = S.1 := u4.1
      have hol := ov_len (M := M) CC hMs
      have hcu : (2 : Nat) ^ 29 = 536870912 := by decide
      dsimp only at hp
      refine wp_aload_n hX dX4_commit_13 rfl ?_
      refine wp_get hX dX4_commit_14 flX4_51 rfl rfl ?_
      refine wp_if_ne (tgt := 23) hX dX4_commit_17 (by decide) (fun _ => ?_) (fun c_ => absurd c_ (by decide))
      refine wp_aload_n hX dX4_commit_23 rfl ?_
      refine wp_get hX dX4_commit_24 flX4_21 rfl rfl ?_
      refine wp_aload_n hX dX4_commit_27 rfl ?_
      refine wp_get hX dX4_commit_28 flX4_44 rfl rfl ?_
      refine wp_cv0 hX dX4_commit_31 mlX4_125 ⟨Nat.le_of_ble_eq_true rfl, Nat.le_of_ble_eq_true rfl⟩ (k_entries rfl) rfl (Nat.le_of_ble_eq_true rfl) ?_
      refine wp_cv1 hX dX4_commit_34 mlX4_128 ⟨Nat.le_of_ble_eq_true rfl, Nat.le_of_ble_eq_true rfl⟩ (j_hasRoom (by omega) g4 (by omega) hpl g6) rfl (Nat.le_of_ble_eq_true rfl) ?_
      rw [← hHl]
      by_cases hf : LG < jp + rB W CC.length
      · rw [if_pos hf] at hp
        rw [decide_eq_false (by omega)]
        refine wp_if_ne (tgt := 43) hX dX4_commit_37 (by decide) (fun c_ => absurd (rfl) c_) (fun _ => ?_)
        refine wp_bipush (v := (-6)) hX dX4_commit_40 bp_m6 ?_
        refine wp_iret hX dX4_commit_42 rfl rfl ?_
        exact hp _ _ ⟨rfl, hR0⟩
      · rw [if_neg hf] at hp
        rw [decide_eq_true (by omega)]
        refine wp_if_ne (tgt := 43) hX dX4_commit_37 (by decide) (fun _ => ?_) (fun c_ => absurd c_ (by decide))
        refine wp_aload_n hX dX4_commit_43 rfl ?_
        refine wp_get hX dX4_commit_44 flX4_10 rfl rfl ?_
        refine wp_iconst (v := 0) hX dX4_commit_47 ic_0 ?_
        refine wp_iconst (v := 1) hX dX4_commit_48 ic_1 ?_
        refine wp_cv2 hX dX4_commit_49 mlX4_68 ⟨Nat.le_of_ble_eq_true rfl, Nat.le_of_ble_eq_true rfl⟩ (d_wordAt rfl rfl g2 g4) rfl (Nat.le_of_ble_eq_true rfl) ?_
        rw [show wA B W q.1 0 1 = q.1 1 from wA_h (i := 1) g2 (by omega) g4 (by omega)]
        refine wp_istore_n hX dX4_commit_52 (Nat.le_of_ble_eq_true rfl) rfl ?_
        refine wp_aload_n hX dX4_commit_53 rfl ?_
        refine wp_get hX dX4_commit_54 flX4_10 rfl rfl ?_
        refine wp_iconst (v := 0) hX dX4_commit_57 ic_0 ?_
        refine wp_iconst (v := 2) hX dX4_commit_58 ic_2 ?_
        refine wp_cv2 hX dX4_commit_59 mlX4_68 ⟨Nat.le_of_ble_eq_true rfl, Nat.le_of_ble_eq_true rfl⟩ (d_wordAt rfl rfl g2 g4) rfl (Nat.le_of_ble_eq_true rfl) ?_
        rw [show wA B W q.1 0 2 = q.1 2 from wA_h (i := 2) g2 (by omega) g4 (by omega)]
        by_cases hz : CC.length = 0
        · have e1 : cmW W jp jr q CC = (true, q) := by
            unfold cmW
            rw [hz]
            rfl
          have e2 : ov M CC = M := by
            rw [List.eq_nil_of_length_eq_zero hz]
            rfl
          rw [e1, if_neg (show ¬ true = false by decide), if_pos hz, hz, e2] at hp
          rw [show seenT M (some CC) = M from e2] at u4
          refine wp_istore_n hX dX4_commit_62 (Nat.le_of_ble_eq_true rfl) rfl ?_
          refine wp_aload_n hX dX4_commit_63 rfl ?_
          refine wp_get hX dX4_commit_64 flX4_21 rfl rfl ?_
          refine wp_aload_n hX dX4_commit_67 rfl ?_
          refine wp_get hX dX4_commit_68 flX4_44 rfl rfl ?_
          refine wp_aload_n hX dX4_commit_71 rfl ?_
          refine wp_get hX dX4_commit_72 flX4_41 rfl rfl ?_
          refine wp_iload_n hX dX4_commit_75 rfl ?_
          refine wp_iload_n hX dX4_commit_76 rfl ?_
          refine wp_cv4 hX dX4_commit_77 mlX4_131 ⟨Nat.le_of_ble_eq_true rfl, Nat.le_of_ble_eq_true rfl⟩ (j_append0 (by omega) g4 (by omega)) rfl (Nat.le_of_ble_eq_true rfl) ?_
          refine wp_if_ne (tgt := 88) hX dX4_commit_80 (by decide) (fun _ => ?_) (fun c_ => absurd c_ (by decide))
          refine wp_aload_n hX dX4_commit_88 rfl ?_
          refine wp_get hX dX4_commit_89 flX4_37 rfl rfl ?_
          refine wp_aload_n hX dX4_commit_92 rfl ?_
          refine wp_get hX dX4_commit_93 flX4_41 rfl rfl ?_
          refine wp_cv1 hX dX4_commit_96 mlX4_135 ⟨Nat.le_of_ble_eq_true rfl, Nat.le_of_ble_eq_true rfl⟩ (k_copyFrom (by decide) rfl rfl rfl rfl rfl rfl (by omega) (by omega) (by decide) (by decide)) rfl (Nat.le_of_ble_eq_true rfl) ?_
          refine wp_eqW (σ1 := wX 2 1 B W q pf LG jp jr tf (AR B LG) (S.1, va_cpy S.2.1 C.2.1 0 0 S.1, va_cpy S.2.2 C.2.2 0 0 S.1) S H τ) rfl ?_
          refine wp_aload_n hX dX4_commit_99 rfl ?_
          refine wp_cv0 hX dX4_commit_100 mlX4_139 ⟨Nat.le_of_ble_eq_true rfl, Nat.le_of_ble_eq_true rfl⟩ (b_endTransaction (C := (S.1, va_cpy S.2.1 C.2.1 0 0 S.1, va_cpy S.2.2 C.2.2 0 0 S.1)) (by show S.1 ≤ 8700; omega)) rfl (Nat.le_of_ble_eq_true rfl) ?_
          refine wp_iconst (v := 0) hX dX4_commit_103 ic_0 ?_
          refine wp_iret hX dX4_commit_104 rfl rfl ?_
          exact hp _ _ ⟨rfl, 0, _, jp, jr, tf, _, _, _, rfl, htf, fun _ => ⟨rfl, rfl, u4.copy, (u4.copy (S := C)).copy, rfl, rfl⟩⟩
        · have hcm : wrN W (fun p => (1 + jp + p, recB W (recH (chK CC) (ov M CC)) (1 + 3 * (chK CC).length) (q.1 1) (nI (jr + 1)) (q.1 2) p)) 0 (rB W (chK CC).length) q = cmW W jp jr q CC := by
            unfold cmW
            rw [chK_len]
            congr 1
            funext p
            rw [recB_congr (fun i hi => recH_C hMs k1 hi)]
          refine wp_istore_n hX dX4_commit_62 (Nat.le_of_ble_eq_true rfl) rfl ?_
          refine wp_aload_n hX dX4_commit_63 rfl ?_
          refine wp_get hX dX4_commit_64 flX4_21 rfl rfl ?_
          refine wp_aload_n hX dX4_commit_67 rfl ?_
          refine wp_get hX dX4_commit_68 flX4_44 rfl rfl ?_
          refine wp_aload_n hX dX4_commit_71 rfl ?_
          refine wp_get hX dX4_commit_72 flX4_41 rfl rfl ?_
          refine wp_iload_n hX dX4_commit_75 rfl ?_
          refine wp_iload_n hX dX4_commit_76 rfl ?_
          refine wp_cv4p hX dX4_commit_77 mlX4_131 ⟨Nat.le_of_ble_eq_true rfl, Nat.le_of_ble_eq_true rfl⟩ (j_append g2 (by omega) g4 u6 u4 (ov_srt CC hMs) (by omega) (by omega) (by rw [chK_len]; exact hz) (by omega) (by rw [chK_len]; omega) (by omega)) rfl (Nat.le_of_ble_eq_true rfl) ?_
          rintro r1 σ1 ⟨pf1, e1, e2⟩
          rw [show seenT M (some CC) = ov M CC from rfl, hcm] at e1 e2
          rw [chK_len] at e2
          subst e1
          subst e2
          generalize hzz : cmW W jp jr q CC = zz at hp ⊢
          obtain ⟨zb, z2⟩ := zz
          cases zb with
          | false =>
            rw [if_pos rfl] at hp
            refine wp_if_ne (tgt := 88) hX dX4_commit_80 (by decide) (fun c_ => absurd (rfl) c_) (fun _ => ?_)
            refine wp_eqW (σ1 := wX 2 1 B W z2 pf1 LG jp jr tf (AR B LG) C S H τ) rfl ?_
            refine wp_aload_n hX dX4_commit_83 rfl ?_
            refine wp_cv0 hX dX4_commit_84 mlX4_82 ⟨Nat.le_of_ble_eq_true rfl, Nat.le_of_ble_eq_true rfl⟩ (b_fail) rfl (Nat.le_of_ble_eq_true rfl) ?_
            refine wp_iret hX dX4_commit_87 rfl rfl ?_
            exact hp _ _ ⟨rfl, 1, _, jp, jr, tf, C, S, H, rfl, fun _ => htf (by decide), fun h => absurd h (by decide)⟩
          | true =>
            rw [if_neg (show ¬ true = false by decide), if_neg hz] at hp
            refine wp_eqW (σ1 := wX 2 1 B W z2 pf1 LG (jp + rB W CC.length) (jr + 1) tf (AR B LG) C S H τ) rfl ?_
            refine wp_if_ne (tgt := 88) hX dX4_commit_80 (by decide) (fun _ => ?_) (fun c_ => absurd c_ (show ¬ b2i true = 0 by decide))
            refine wp_aload_n hX dX4_commit_88 rfl ?_
            refine wp_get hX dX4_commit_89 flX4_37 rfl rfl ?_
            refine wp_aload_n hX dX4_commit_92 rfl ?_
            refine wp_get hX dX4_commit_93 flX4_41 rfl rfl ?_
            refine wp_cv1 hX dX4_commit_96 mlX4_135 ⟨Nat.le_of_ble_eq_true rfl, Nat.le_of_ble_eq_true rfl⟩ (k_copyFrom (by decide) rfl rfl rfl rfl rfl rfl (by omega) (by omega) (by decide) (by decide)) rfl (Nat.le_of_ble_eq_true rfl) ?_
            refine wp_eqW (σ1 := wX 2 1 B W z2 pf1 LG (jp + rB W CC.length) (jr + 1) tf (AR B LG) (S.1, va_cpy S.2.1 C.2.1 0 0 S.1, va_cpy S.2.2 C.2.2 0 0 S.1) S H τ) rfl ?_
            refine wp_aload_n hX dX4_commit_99 rfl ?_
            refine wp_cv0 hX dX4_commit_100 mlX4_139 ⟨Nat.le_of_ble_eq_true rfl, Nat.le_of_ble_eq_true rfl⟩ (b_endTransaction (C := (S.1, va_cpy S.2.1 C.2.1 0 0 S.1, va_cpy S.2.2 C.2.2 0 0 S.1)) (by show S.1 ≤ 8700; omega)) rfl (Nat.le_of_ble_eq_true rfl) ?_
            refine wp_iconst (v := 0) hX dX4_commit_103 ic_0 ?_
            refine wp_iret hX dX4_commit_104 rfl rfl ?_
            exact hp _ _ ⟨rfl, 0, _, _, _, tf, _, _, _, rfl, htf, fun _ => ⟨rfl, rfl, u4.copy, (u4.copy (S := C)).copy, rfl, rfl⟩⟩
  · rw [if_pos c] at hp
    refine wp_aload_n hX dX4_commit_8 rfl ?_
    refine wp_cv0 hX dX4_commit_9 mlX4_64 ⟨Nat.le_of_ble_eq_true rfl, Nat.le_of_ble_eq_true rfl⟩ (b_refusal) rfl (Nat.le_of_ble_eq_true rfl) ?_
    refine wp_iret hX dX4_commit_12 rfl rfl ?_
    exact hp _ _ ⟨rfl, hR0⟩
end PB
end
section
/-! BlockStore: recover, checkpoint, count -/
/-- the area that begins at s lies on the disk -/
theorem ars_le {B LG : Nat} (a : Int32) (h : LG + 5 ≤ B) : arS B LG a + AR B LG ≤ B := by
  unfold arS AR
  split <;> omega
section PB
variable {A : Ab} {τ σ : aW}
set_option maxHeartbeats 4000000 in
set_option maxRecDepth 100000 in
theorem x_recover (hA : AInv A) (hR : RX A τ σ) : MT mdX4_recover [.ref 0] σ (fun r σ1 => r = some (.int (sRecover A).1) ∧ RX (sRecover A).2 τ σ1) := by
  obtain ⟨st, ⟨B, W, LG⟩, q, pl, rc, M, tx⟩ := A
  have hR0 := hR
  obtain ⟨it, pf, jp, jr, tf, C, S, H, rfl, htf, hup⟩ := hR
  refine mp_of [some (.ref 0), none, none, none, none] rfl (Nat.le_of_ble_eq_true rfl) (by decide) (fun X Post hX hp => ?_)
  unfold sRecover at hp
  dsimp only at hp
  refine wp_aload_n hX dX4_recover_0 rfl ?_
  refine wp_get hX dX4_recover_1 flX4_47 rfl rfl ?_
  refine wp_if_ne (tgt := 10) hX dX4_recover_4 (by decide) (fun c => ?_) (fun c => ?_)
  · rw [if_neg c] at hp
    obtain ⟨⟨g1, g2, g3, g4, g5, g6, g7⟩, hHd⟩ := hA.geo c
    have htf := htf c
    subst htf
    have wah : ∀ i, i < 6 → wA B W q.1 0 (nI i) = q.1 i := fun i hi => wA_h g2 (by omega) g4 (by omega)
    refine wp_aload_n hX dX4_recover_10 rfl ?_
    refine wp_get hX dX4_recover_11 flX4_10 rfl rfl ?_
    refine wp_iconst (v := 0) hX dX4_recover_14 ic_0 ?_
    refine wp_cv1 hX dX4_recover_15 mlX4_101 ⟨Nat.le_of_ble_eq_true rfl, Nat.le_of_ble_eq_true rfl⟩ (d_isGood (b := 0) rfl rfl g2 g4 (by omega) (by omega)) rfl (Nat.le_of_ble_eq_true rfl) ?_
    rw [Nat.mul_zero, Nat.zero_add]
    have bad : (¬ (q.1 (W - 1) = sumD q.1 0 (W - 1) ∧ q.1 0 = MARK)) → Wp X Post 35 [some (.ref 0), none, none, none, none] [] (wX st it B W q pf LG jp jr (LG + 1) (AR B LG) C S H τ) := by
      intro hb
      rw [if_pos hb] at hp
      refine wp_aload_n hX dX4_recover_35 rfl ?_
      refine wp_iconst (v := 1) hX dX4_recover_36 ic_1 ?_
      refine wp_put hX dX4_recover_37 fwX4_47 rfl (Nat.le_of_ble_eq_true rfl) rfl rfl ?_
      refine wp_bipush (v := (-2)) hX dX4_recover_40 bp_m2 ?_
      refine wp_iret hX dX4_recover_42 rfl rfl ?_
      exact hp _ _ ⟨rfl, it, pf, jp, jr, LG + 1, C, S, H, rfl, fun _ => rfl, fun h => absurd h (by decide)⟩
    by_cases hg : q.1 (W - 1) = sumD q.1 0 (W - 1)
    · rw [decide_eq_true hg]
      refine wp_if_eq (tgt := 35) hX dX4_recover_18 (by decide) (fun c_ => absurd c_ (by decide)) (fun _ => ?_)
      refine wp_aload_n hX dX4_recover_21 rfl ?_
      refine wp_get hX dX4_recover_22 flX4_10 rfl rfl ?_
      refine wp_iconst (v := 0) hX dX4_recover_25 ic_0 ?_
      refine wp_iconst (v := 0) hX dX4_recover_26 ic_0 ?_
      refine wp_cv2 hX dX4_recover_27 mlX4_68 ⟨Nat.le_of_ble_eq_true rfl, Nat.le_of_ble_eq_true rfl⟩ (d_wordAt rfl rfl g2 g4) rfl (Nat.le_of_ble_eq_true rfl) ?_
      rw [show wA B W q.1 0 0 = q.1 0 from wah 0 (by decide)]
      refine wp_ldc hX dX4_recover_30 lcX4_104 ?_
      refine wp_icmp_eq (tgt := 43) hX dX4_recover_32 (by decide) (fun d => ?_) (fun d => ?_)
      · have hmk : q.1 0 = MARK := d
        rw [if_neg (fun z => z ⟨hg, hmk⟩)] at hp
        rcases hHd with h0 | ⟨-, n, hn3, hn5, hn4, hT⟩
        · rw [h0] at hmk
          exact absurd hmk.symm mark_ne
        obtain ⟨hT1, -⟩ := hT
        have h6 := tBl_cap g3 g4 (by unfold AR; omega) hT1
        have hb := ars_le (B := B) (LG := LG) (q.1 3) g7
        have hcn : cdv n (fan W) ≤ tBl (fan W) n := by unfold tBl; omega
        have har : AR B LG ≤ 253 := by unfold AR; omega
        have harx : 2 * AR B LG + LG ≤ 511 := by unfold AR; omega
        have hn : n ≤ 8000 := by omega
        have hmc : rcM B W LG q.1 = rpl W LG q.1 (q.1 1) LG 0 0 (ldo W q.1 (arS B LG (q.1 3)) 0 n []) := by
          unfold rcM
          rw [hn5, nI_clamp (by omega)]
        rw [hmc] at hp
        have hld := ldo_len (W := W) (D := q.1) (s := arS B LG (q.1 3)) n 0 (m := []) List.Pairwise.nil
        have hlds := ldo_srt (W := W) (D := q.1) (s := arS B LG (q.1 3)) n 0 (m := []) List.Pairwise.nil
        have hwl : (W - 5) * LG ≤ 59 * LG := Nat.mul_le_mul (by omega) (Nat.le_refl _)
        simp only [List.length_nil, Nat.zero_add] at hld
        refine wp_aload_n hX dX4_recover_43 rfl ?_
        refine wp_get hX dX4_recover_44 flX4_10 rfl rfl ?_
        refine wp_iconst (v := 0) hX dX4_recover_47 ic_0 ?_
        refine wp_iconst (v := 1) hX dX4_recover_48 ic_1 ?_
        refine wp_cv2 hX dX4_recover_49 mlX4_68 ⟨Nat.le_of_ble_eq_true rfl, Nat.le_of_ble_eq_true rfl⟩ (d_wordAt rfl rfl g2 g4) rfl (Nat.le_of_ble_eq_true rfl) ?_
        rw [show wA B W q.1 0 1 = q.1 1 from wah 1 (by decide)]
        refine wp_istore_n hX dX4_recover_52 (Nat.le_of_ble_eq_true rfl) rfl ?_
        refine wp_aload_n hX dX4_recover_53 rfl ?_
        refine wp_get hX dX4_recover_54 flX4_10 rfl rfl ?_
        refine wp_iconst (v := 0) hX dX4_recover_57 ic_0 ?_
        refine wp_iconst (v := 3) hX dX4_recover_58 ic_3 ?_
        refine wp_cv2 hX dX4_recover_59 mlX4_68 ⟨Nat.le_of_ble_eq_true rfl, Nat.le_of_ble_eq_true rfl⟩ (d_wordAt rfl rfl g2 g4) rfl (Nat.le_of_ble_eq_true rfl) ?_
        rw [show wA B W q.1 0 3 = q.1 3 from wah 3 (by decide)]
        refine wp_istore_n hX dX4_recover_62 (Nat.le_of_ble_eq_true rfl) rfl ?_
        refine wp_aload_n hX dX4_recover_63 rfl ?_
        refine wp_get hX dX4_recover_64 flX4_10 rfl rfl ?_
        refine wp_iconst (v := 0) hX dX4_recover_67 ic_0 ?_
        refine wp_iconst (v := 4) hX dX4_recover_68 ic_4 ?_
        refine wp_cv2 hX dX4_recover_69 mlX4_68 ⟨Nat.le_of_ble_eq_true rfl, Nat.le_of_ble_eq_true rfl⟩ (d_wordAt rfl rfl g2 g4) rfl (Nat.le_of_ble_eq_true rfl) ?_
        rw [show wA B W q.1 0 4 = q.1 4 from wah 4 (by decide)]
        refine wp_istore_n hX dX4_recover_72 (Nat.le_of_ble_eq_true rfl) rfl ?_
        refine wp_aload_n hX dX4_recover_73 rfl ?_
        refine wp_get hX dX4_recover_74 flX4_10 rfl rfl ?_
        refine wp_iconst (v := 0) hX dX4_recover_77 ic_0 ?_
        refine wp_iconst (v := 5) hX dX4_recover_78 ic_5 ?_
        refine wp_cv2 hX dX4_recover_79 mlX4_68 ⟨Nat.le_of_ble_eq_true rfl, Nat.le_of_ble_eq_true rfl⟩ (d_wordAt rfl rfl g2 g4) rfl (Nat.le_of_ble_eq_true rfl) ?_
        rw [show wA B W q.1 0 5 = q.1 5 from wah 5 (by decide), hn5]
        rw [hn5] at hp
        refine wp_istore hX dX4_recover_82 (Nat.le_of_ble_eq_true rfl) rfl ?_
        refine wp_aload_n hX dX4_recover_84 rfl ?_
        refine wp_get hX dX4_recover_85 flX4_28 rfl rfl ?_
        refine wp_aload_n hX dX4_recover_88 rfl ?_
        refine wp_get hX dX4_recover_89 flX4_37 rfl rfl ?_
        refine wp_iload_n hX dX4_recover_92 rfl ?_
        refine wp_iload hX dX4_recover_93 rfl ?_
        refine wp_cv3p hX dX4_recover_95 mlX4_105 ⟨Nat.le_of_ble_eq_true rfl, Nat.le_of_ble_eq_true rfl⟩ (t_load (s := arS B LG (q.1 3)) g2 g3 g4 rfl hn (by omega)) rfl (Nat.le_of_ble_eq_true rfl) ?_
        rintro r1 σ1 ⟨C1, rfl, hk1, rfl⟩
        refine wp_aload_n hX dX4_recover_98 rfl ?_
        refine wp_get hX dX4_recover_99 flX4_21 rfl rfl ?_
        refine wp_aload_n hX dX4_recover_102 rfl ?_
        refine wp_get hX dX4_recover_103 flX4_37 rfl rfl ?_
        refine wp_iload_n hX dX4_recover_106 rfl ?_
        refine wp_cv2p hX dX4_recover_107 mlX4_109 ⟨Nat.le_of_ble_eq_true rfl, Nat.le_of_ble_eq_true rfl⟩ (j_replay g2 (by omega) g4 (by omega) g6 hk1 hlds (by omega)) rfl (Nat.le_of_ble_eq_true rfl) ?_
        rintro r1 σ1 ⟨C2, rfl, hk2, rfl⟩
        obtain ⟨i1, i2, i3, i4, i5⟩ := rpl_b (W := W) (LG := LG) (D := q.1) (e := q.1 1) (by omega) g4 g6 LG 0 0 _ (Nat.zero_le _) (Nat.le_refl _) hlds
        generalize hrr : rpl W LG q.1 (q.1 1) LG 0 0 (ldo W q.1 (arS B LG (q.1 3)) 0 n []) = rr at hp hk2 i1 i2 i3 i4 i5 ⊢
        have hwl2 : (W - 5) * rr.1 ≤ 59 * LG := Nat.mul_le_mul (by omega) i2
        have hC2 : rr.2.2.length = C2.1 := hk2.1
        refine wp_aload_n hX dX4_recover_110 rfl ?_
        refine wp_iload_n hX dX4_recover_111 rfl ?_
        refine wp_aload_n hX dX4_recover_112 rfl ?_
        refine wp_get hX dX4_recover_113 flX4_10 rfl rfl ?_
        refine wp_iconst (v := 0) hX dX4_recover_116 ic_0 ?_
        refine wp_iconst (v := 2) hX dX4_recover_117 ic_2 ?_
        refine wp_cv2 hX dX4_recover_118 mlX4_68 ⟨Nat.le_of_ble_eq_true rfl, Nat.le_of_ble_eq_true rfl⟩ (d_wordAt rfl rfl g2 g4) rfl (Nat.le_of_ble_eq_true rfl) ?_
        rw [show wA B W q.1 0 2 = q.1 2 from wah 2 (by decide)]
        refine wp_iconst (v := 1) hX dX4_recover_121 ic_1 ?_
        refine wp_iadd hX dX4_recover_122 ?_
        refine wp_iload_n hX dX4_recover_123 rfl ?_
        refine wp_iload_n hX dX4_recover_124 rfl ?_
        refine wp_iload hX dX4_recover_125 rfl ?_
        refine wp_cv5p hX dX4_recover_127 mlX4_85 ⟨Nat.le_of_ble_eq_true rfl, Nat.le_of_ble_eq_true rfl⟩ (b_writeHead g2 (by omega) g3 g4) rfl (Nat.le_of_ble_eq_true rfl) ?_
        rintro r1 σ1 ⟨pf1, rfl, rfl⟩
        generalize hz : wr1 W q 0 (hdB (q.1 1) (q.1 2 + 1) (q.1 3) (q.1 4) (nI n)) = zz at hp ⊢
        obtain ⟨zb, z2⟩ := zz
        cases zb with
        | false =>
          rw [if_pos rfl] at hp
          refine wp_if_ne (tgt := 138) hX dX4_recover_130 (by decide) (fun c_ => absurd (rfl) c_) (fun _ => ?_)
          refine wp_aload_n hX dX4_recover_133 rfl ?_
          refine wp_cv0 hX dX4_recover_134 mlX4_82 ⟨Nat.le_of_ble_eq_true rfl, Nat.le_of_ble_eq_true rfl⟩ (b_fail) rfl (Nat.le_of_ble_eq_true rfl) ?_
          refine wp_iret hX dX4_recover_137 rfl rfl ?_
          exact hp _ _ ⟨rfl, it, _, _, _, LG + 1, C2, S, H, rfl, fun _ => rfl, fun h => absurd h (by decide)⟩
        | true =>
          rw [if_neg (show ¬ true = false by decide)] at hp
          refine wp_if_ne (tgt := 138) hX dX4_recover_130 (by decide) (fun _ => ?_) (fun c_ => absurd c_ (show ¬ b2i true = 0 by decide))
          refine wp_aload_n hX dX4_recover_138 rfl ?_
          refine wp_cv0 hX dX4_recover_139 mlX4_95 ⟨Nat.le_of_ble_eq_true rfl, Nat.le_of_ble_eq_true rfl⟩ (b_comeUp (by omega)) rfl (Nat.le_of_ble_eq_true rfl) ?_
          refine wp_iconst (v := 0) hX dX4_recover_142 ic_0 ?_
          refine wp_iret hX dX4_recover_143 rfl rfl ?_
          exact hp _ _ ⟨rfl, 0, _, _, _, LG + 1, C2, _, _, rfl, fun _ => rfl, fun _ => ⟨rfl, rfl, hk2, hk2.copy, rfl, rfl⟩⟩
      · exact bad (fun z => d z.2)
    · rw [decide_eq_false hg]
      refine wp_if_eq (tgt := 35) hX dX4_recover_18 (by decide) (fun _ => ?_) (fun c_ => absurd (rfl) c_)
      exact bad (fun z => hg z.1)
  · rw [if_pos c] at hp
    refine wp_bipush (v := (-7)) hX dX4_recover_7 bp_m7 ?_
    refine wp_iret hX dX4_recover_9 rfl rfl ?_
    exact hp _ _ ⟨rfl, hR0⟩
set_option maxHeartbeats 4000000 in
set_option maxRecDepth 100000 in
theorem nodW_off {W b i : Nat} (hi : i < W) : ∀ (k s row : Nat) (ls : Nat → Int32) (q : DQ), b < s + row → (nodW W k s row ls q).2.1 (W * b + i) = q.1 (W * b + i)
  | 0, _, _, _, _, _ => rfl
  | k + 1, s, row, ls, q, h => by
    rw [nodW_s]
    split
    · rfl
    · have h1 := wrN_off (W := W) (f := fun j => (s + row + j, rowB (fan W) 2 row (fun i => (ls i, nI (s + i))) j)) (b := b) hi (cdv row (fan W)) 0 q (fun j _ _ => by show ¬ b = s + row + j; omega)
      split
      · rw [nodW_off hi k (s + row) (cdv row (fan W)) _ _ (by omega)]
        exact h1
      · exact h1
theorem treW_off {W b i s : Nat} {m : PM} {q : DQ} (hi : i < W) (hb : b < s) : (treW W s m q).2.1 (W * b + i) = q.1 (W * b + i) := by
  have h1 : (leaW W s m q).2.1 (W * b + i) = q.1 (W * b + i) := wrN_off hi _ _ _ (fun j _ _ => by show ¬ b = s + j; omega)
  unfold treW
  split
  · rw [nodW_off hi _ _ _ _ _ (by omega)]
    exact h1
  · exact h1
set_option maxHeartbeats 4000000 in
set_option maxRecDepth 100000 in
theorem x_checkpoint (hA : AInv A) (hR : RX A τ σ) : MT mdX4_checkpoint [.ref 0] σ (fun r σ1 => r = some (.int (sCheck A).1) ∧ RX (sCheck A).2 τ σ1) := by
  obtain ⟨st, ⟨B, W, LG⟩, q, pl, rc, M, tx⟩ := A
  have hR0 := hR
  obtain ⟨it, pf, jp, jr, tf, C, S, H, rfl, htf, hup⟩ := hR
  refine mp_of [some (.ref 0), none, none, none, none] rfl (Nat.le_of_ble_eq_true rfl) (by decide) (fun X Post hX hp => ?_)
  unfold sCheck at hp
  dsimp only at hp
  refine wp_aload_n hX dX4_checkpoint_0 rfl ?_
  refine wp_get hX dX4_checkpoint_1 flX4_47 rfl rfl ?_
  refine wp_iconst (v := 2) hX dX4_checkpoint_4 ic_2 ?_
  refine wp_icmp_eq (tgt := 13) hX dX4_checkpoint_5 (by decide) (fun c => ?_) (fun c => ?_)
  · subst c
    rw [if_neg (by decide)] at hp
    obtain ⟨u1, u2, u3, u4, u5⟩ := hup rfl
    subst u1
    subst u2
    have hcap := hA.cap
    obtain ⟨⟨g1, g2, g3, g4, g5, g6, g7⟩, hHd⟩ := hA.geo (by decide)
    have htf := htf (by decide)
    subst htf
    cases tx with
    | some CC =>
      obtain ⟨u5, u6⟩ := u5
      subst u5
      refine wp_aload_n hX dX4_checkpoint_13 rfl ?_
      refine wp_get hX dX4_checkpoint_14 flX4_51 rfl rfl ?_
      refine wp_if_eq (tgt := 23) hX dX4_checkpoint_17 (by decide) (fun c_ => absurd c_ (by decide)) (fun _ => ?_)
      refine wp_bipush (v := (-4)) hX dX4_checkpoint_20 bp_m4 ?_
      refine wp_iret hX dX4_checkpoint_22 rfl rfl ?_
      exact hp _ _ ⟨rfl, hR0⟩
    | none =>
      obtain ⟨u5, u6⟩ := u5
      subst u5
      have hCl : M.length = C.1 := u3.1
      have har : AR B LG ≤ 253 := by unfold AR; omega
      dsimp only at hp
      refine wp_aload_n hX dX4_checkpoint_13 rfl ?_
      refine wp_get hX dX4_checkpoint_14 flX4_51 rfl rfl ?_
      refine wp_if_eq (tgt := 23) hX dX4_checkpoint_17 (by decide) (fun _ => ?_) (fun c_ => absurd (rfl) c_)
      refine wp_aload_n hX dX4_checkpoint_23 rfl ?_
      refine wp_get hX dX4_checkpoint_24 flX4_37 rfl rfl ?_
      refine wp_cv0 hX dX4_checkpoint_27 mlX4_125 ⟨Nat.le_of_ble_eq_true rfl, Nat.le_of_ble_eq_true rfl⟩ (k_entries rfl) rfl (Nat.le_of_ble_eq_true rfl) ?_
      rw [← hCl]
      have htb : tBl (fan W) M.length ≤ 100000 := by
        unfold tBl
        have h1 := cdv_le (n := M.length) (e := fan W) (by have := fan_2 g3; omega)
        have h2 := tbl_le (fan_2 g3) 32 (cdv M.length (fan W))
        omega
      refine wp_istore_n hX dX4_checkpoint_30 (Nat.le_of_ble_eq_true rfl) rfl ?_
      refine wp_aload_n hX dX4_checkpoint_31 rfl ?_
      refine wp_get hX dX4_checkpoint_32 flX4_28 rfl rfl ?_
      refine wp_iload_n hX dX4_checkpoint_35 rfl ?_
      refine wp_cv1 hX dX4_checkpoint_36 mlX4_142 ⟨Nat.le_of_ble_eq_true rfl, Nat.le_of_ble_eq_true rfl⟩ (t_blocksFor g3 g4 (by omega)) rfl (Nat.le_of_ble_eq_true rfl) ?_
      refine wp_aload_n hX dX4_checkpoint_39 rfl ?_
      refine wp_get hX dX4_checkpoint_40 flX4_28 rfl rfl ?_
      refine wp_cv0 hX dX4_checkpoint_43 mlX4_146 ⟨Nat.le_of_ble_eq_true rfl, Nat.le_of_ble_eq_true rfl⟩ (t_areaBlocks) rfl (Nat.le_of_ble_eq_true rfl) ?_
      refine wp_icmp_le (tgt := 52) hX dX4_checkpoint_46 (by decide) (fun d => ?_) (fun d => ?_)
      · have d1 := (nI_leI (a := tBl (fan W) M.length) (b := AR B LG) (by omega) (by omega)).mp d
        rw [if_neg (by omega)] at hp
        refine wp_aload_n hX dX4_checkpoint_52 rfl ?_
        refine wp_get hX dX4_checkpoint_53 flX4_10 rfl rfl ?_
        refine wp_iconst (v := 0) hX dX4_checkpoint_56 ic_0 ?_
        refine wp_iconst (v := 3) hX dX4_checkpoint_57 ic_3 ?_
        refine wp_cv2 hX dX4_checkpoint_58 mlX4_68 ⟨Nat.le_of_ble_eq_true rfl, Nat.le_of_ble_eq_true rfl⟩ (d_wordAt rfl rfl g2 g4) rfl (Nat.le_of_ble_eq_true rfl) ?_
        rw [show wA B W q.1 0 3 = q.1 3 from wA_h (i := 3) g2 (by omega) g4 (by omega)]
        have hb := ars_le (B := B) (LG := LG) (ckT q) g7
        have hs1 : 1 ≤ arS B LG (ckT q) := by unfold arS; split <;> omega
        have tail : Wp X Post 69 [some (.ref 0), some (.int (nI M.length)), none, none, none] [.int (ckT q)] (wX 2 0 B W q pf LG jp jr (LG + 1) (AR B LG) C S H τ) := by
          refine wp_istore_n hX dX4_checkpoint_69 (Nat.le_of_ble_eq_true rfl) rfl ?_
          refine wp_aload_n hX dX4_checkpoint_70 rfl ?_
          refine wp_get hX dX4_checkpoint_71 flX4_28 rfl rfl ?_
          refine wp_aload_n hX dX4_checkpoint_74 rfl ?_
          refine wp_get hX dX4_checkpoint_75 flX4_37 rfl rfl ?_
          refine wp_iload_n hX dX4_checkpoint_78 rfl ?_
          refine wp_cv2p hX dX4_checkpoint_79 mlX4_149 ⟨Nat.le_of_ble_eq_true rfl, Nat.le_of_ble_eq_true rfl⟩ (t_save (s := arS B LG (ckT q)) g2 g3 g4 u3 (by omega) rfl (by omega)) rfl (Nat.le_of_ble_eq_true rfl) ?_
          rintro r1 σ1 ⟨pf1, rfl, rfl⟩
          rw [show treW W (arS B LG (ckT q)) M q = ckW B W LG q M from rfl]
          have hoff : ∀ i, i < 6 → (ckW B W LG q M).2.1 i = q.1 i := fun i hi => by
            have := treW_off (W := W) (b := 0) (i := i) (s := arS B LG (ckT q)) (m := M) (q := q) (by omega) (by omega)
            rw [Nat.mul_zero, Nat.zero_add] at this
            exact this
          generalize hz : ckW B W LG q M = zz at hp hoff ⊢
          obtain ⟨zb, z2⟩ := zz
          cases zb with
          | false =>
            rw [if_pos rfl] at hp
            refine wp_if_ne (tgt := 90) hX dX4_checkpoint_82 (by decide) (fun c_ => absurd (rfl) c_) (fun _ => ?_)
            refine wp_aload_n hX dX4_checkpoint_85 rfl ?_
            refine wp_cv0 hX dX4_checkpoint_86 mlX4_82 ⟨Nat.le_of_ble_eq_true rfl, Nat.le_of_ble_eq_true rfl⟩ (b_fail) rfl (Nat.le_of_ble_eq_true rfl) ?_
            refine wp_iret hX dX4_checkpoint_89 rfl rfl ?_
            exact hp _ _ ⟨rfl, 0, _, jp, jr, LG + 1, C, S, H, rfl, fun _ => rfl, fun h => absurd h (by decide)⟩
          | true =>
            rw [if_neg (show ¬ true = false by decide)] at hp
            refine wp_if_ne (tgt := 90) hX dX4_checkpoint_82 (by decide) (fun _ => ?_) (fun c_ => absurd c_ (show ¬ b2i true = 0 by decide))
            refine wp_aload_n hX dX4_checkpoint_90 rfl ?_
            refine wp_get hX dX4_checkpoint_91 flX4_10 rfl rfl ?_
            refine wp_iconst (v := 0) hX dX4_checkpoint_94 ic_0 ?_
            refine wp_iconst (v := 1) hX dX4_checkpoint_95 ic_1 ?_
            refine wp_cv2 hX dX4_checkpoint_96 mlX4_68 ⟨Nat.le_of_ble_eq_true rfl, Nat.le_of_ble_eq_true rfl⟩ (d_wordAt rfl rfl g2 g4) rfl (Nat.le_of_ble_eq_true rfl) ?_
            rw [show wA B W z2.1 0 1 = z2.1 1 from wA_h (i := 1) g2 (by omega) g4 (by omega), show z2.1 1 = q.1 1 from hoff 1 (by decide)]
            refine wp_iconst (v := 1) hX dX4_checkpoint_99 ic_1 ?_
            refine wp_iadd hX dX4_checkpoint_100 ?_
            refine wp_istore_n hX dX4_checkpoint_101 (Nat.le_of_ble_eq_true rfl) rfl ?_
            refine wp_aload_n hX dX4_checkpoint_102 rfl ?_
            refine wp_get hX dX4_checkpoint_103 flX4_10 rfl rfl ?_
            refine wp_iconst (v := 0) hX dX4_checkpoint_106 ic_0 ?_
            refine wp_iconst (v := 2) hX dX4_checkpoint_107 ic_2 ?_
            refine wp_cv2 hX dX4_checkpoint_108 mlX4_68 ⟨Nat.le_of_ble_eq_true rfl, Nat.le_of_ble_eq_true rfl⟩ (d_wordAt rfl rfl g2 g4) rfl (Nat.le_of_ble_eq_true rfl) ?_
            rw [show wA B W z2.1 0 2 = z2.1 2 from wA_h (i := 2) g2 (by omega) g4 (by omega), show z2.1 2 = q.1 2 from hoff 2 (by decide)]
            refine wp_istore hX dX4_checkpoint_111 (Nat.le_of_ble_eq_true rfl) rfl ?_
            refine wp_aload_n hX dX4_checkpoint_113 rfl ?_
            refine wp_iload_n hX dX4_checkpoint_114 rfl ?_
            refine wp_iload hX dX4_checkpoint_115 rfl ?_
            refine wp_iload_n hX dX4_checkpoint_117 rfl ?_
            refine wp_aload_n hX dX4_checkpoint_118 rfl ?_
            refine wp_get hX dX4_checkpoint_119 flX4_28 rfl rfl ?_
            refine wp_iload_n hX dX4_checkpoint_122 rfl ?_
            refine wp_iload_n hX dX4_checkpoint_123 rfl ?_
            refine wp_cv2 hX dX4_checkpoint_124 mlX4_153 ⟨Nat.le_of_ble_eq_true rfl, Nat.le_of_ble_eq_true rfl⟩ (t_rootOf g3 g4 (by omega) (by omega)) rfl (Nat.le_of_ble_eq_true rfl) ?_
            refine wp_iload_n hX dX4_checkpoint_127 rfl ?_
            refine wp_cv5p hX dX4_checkpoint_128 mlX4_85 ⟨Nat.le_of_ble_eq_true rfl, Nat.le_of_ble_eq_true rfl⟩ (b_writeHead g2 (by omega) g3 g4) rfl (Nat.le_of_ble_eq_true rfl) ?_
            rintro r1 σ1 ⟨pf2, rfl, rfl⟩
            rw [show wr1 W z2 0 (hdB (q.1 1 + 1) (q.1 2) (ckT q) (nI (if M.length = 0 then 0 else (if ckT q = 0 then LG + 1 else LG + 1 + AR B LG) + tBl (fan W) M.length - 1)) (nI M.length)) = wr1 W z2 0 (hdB (q.1 1 + 1) (q.1 2) (ckT q) (ckR B W LG q M) (nI M.length)) from rfl]
            generalize hz2 : wr1 W z2 0 (hdB (q.1 1 + 1) (q.1 2) (ckT q) (ckR B W LG q M) (nI M.length)) = z3 at hp ⊢
            obtain ⟨zb, z3⟩ := z3
            cases zb with
            | false =>
              rw [if_pos rfl] at hp
              refine wp_if_ne (tgt := 139) hX dX4_checkpoint_131 (by decide) (fun c_ => absurd (rfl) c_) (fun _ => ?_)
              refine wp_aload_n hX dX4_checkpoint_134 rfl ?_
              refine wp_cv0 hX dX4_checkpoint_135 mlX4_82 ⟨Nat.le_of_ble_eq_true rfl, Nat.le_of_ble_eq_true rfl⟩ (b_fail) rfl (Nat.le_of_ble_eq_true rfl) ?_
              refine wp_iret hX dX4_checkpoint_138 rfl rfl ?_
              exact hp _ _ ⟨rfl, 0, _, jp, jr, LG + 1, C, S, H, rfl, fun _ => rfl, fun h => absurd h (by decide)⟩
            | true =>
              rw [if_neg (show ¬ true = false by decide)] at hp
              refine wp_if_ne (tgt := 139) hX dX4_checkpoint_131 (by decide) (fun _ => ?_) (fun c_ => absurd c_ (show ¬ b2i true = 0 by decide))
              refine wp_aload_n hX dX4_checkpoint_139 rfl ?_
              refine wp_get hX dX4_checkpoint_140 flX4_21 rfl rfl ?_
              refine wp_cv0 hX dX4_checkpoint_143 mlX4_92 ⟨Nat.le_of_ble_eq_true rfl, Nat.le_of_ble_eq_true rfl⟩ (j_restart) rfl (Nat.le_of_ble_eq_true rfl) ?_
              refine wp_iconst (v := 0) hX dX4_checkpoint_146 ic_0 ?_
              refine wp_iret hX dX4_checkpoint_147 rfl rfl ?_
              exact hp _ _ ⟨rfl, 0, _, 0, 0, LG + 1, C, S, H, rfl, fun _ => rfl, fun _ => ⟨rfl, rfl, u3, u4, rfl, u6⟩⟩
        refine wp_if_ne (tgt := 68) hX dX4_checkpoint_61 (by decide) (fun f => ?_) (fun f => ?_)
        · rw [show ckT q = 0 from if_neg f] at tail
          refine wp_iconst (v := 0) hX dX4_checkpoint_68 ic_0 ?_
          exact tail
        · rw [show ckT q = 1 from if_pos f] at tail
          refine wp_iconst (v := 1) hX dX4_checkpoint_64 ic_1 ?_
          refine wp_goto (tgt := 69) hX dX4_checkpoint_65 (by decide) ?_
          exact tail
      · have d1 : AR B LG < tBl (fan W) M.length := Nat.lt_of_not_le (fun z => d (nI_le z (by omega)))
        rw [if_pos d1] at hp
        refine wp_bipush (v := (-6)) hX dX4_checkpoint_49 bp_m6 ?_
        refine wp_iret hX dX4_checkpoint_51 rfl rfl ?_
        exact hp _ _ ⟨rfl, hR0⟩
  · rw [if_pos c] at hp
    refine wp_aload_n hX dX4_checkpoint_8 rfl ?_
    refine wp_cv0 hX dX4_checkpoint_9 mlX4_64 ⟨Nat.le_of_ble_eq_true rfl, Nat.le_of_ble_eq_true rfl⟩ (b_refusal) rfl (Nat.le_of_ble_eq_true rfl) ?_
    refine wp_iret hX dX4_checkpoint_12 rfl rfl ?_
    exact hp _ _ ⟨rfl, hR0⟩
set_option maxHeartbeats 4000000 in
set_option maxRecDepth 100000 in
theorem x_count {w : Int32} (hA : AInv A) (hR : RX A τ σ) : MT mdX4_count [.ref 0, .int w] σ (fun r σ1 => r = some (.int (sCount A w)) ∧ RX A τ σ1) := by
  obtain ⟨st, ⟨B, W, LG⟩, q, pl, rc, M, tx⟩ := A
  have hR0 := hR
  obtain ⟨it, pf, jp, jr, tf, C, S, H, rfl, htf, hup⟩ := hR
  have up : st = 2 → ¬ w = 0 → ¬ w = 1 → ¬ w = 8 → MD1 mdX4_countWhileUp [.ref 0, .int w] (wX st it B W q pf LG jp jr tf (AR B LG) C S H τ) (some (.int (sCount (st, (B, W, LG), q, (pl, rc, M, tx)) w))) (wX st it B W q pf LG jp jr tf (AR B LG) C S H τ) := by
    rintro rfl w0 w1 w8
    obtain ⟨u1, u2, u3, u4, u5⟩ := hup rfl
    subst u1
    subst u2
    have hcap := hA.cap
    have hCl : M.length = C.1 := u3.1
    obtain ⟨⟨g1, g2, g3, g4, g5, g6, g7⟩, hHd⟩ := hA.geo (by decide)
    refine md_of [some (.ref 0), some (.int w)] rfl (Nat.le_of_ble_eq_true rfl) (by decide) (fun X Post hX hp => ?_)
    unfold sCount at hp
    dsimp only at hp
    rw [if_neg w0, if_neg w1, if_neg w8, if_neg (by decide)] at hp
    refine wp_iload_n hX dX4_countWhileUp_0 rfl ?_
    by_cases w2 : w = 2
    · subst w2
      rw [if_pos rfl] at hp
      refine wp_tableIn (off := 39) (tgt := 40) hX dX4_countWhileUp_1 (by decide) (by decide) (by decide) (by decide) ?_
      refine wp_aload_n hX dX4_countWhileUp_40 rfl ?_
      refine wp_get hX dX4_countWhileUp_41 flX4_21 rfl rfl ?_
      refine wp_cv0 hX dX4_countWhileUp_44 mlX4_181 ⟨Nat.le_of_ble_eq_true rfl, Nat.le_of_ble_eq_true rfl⟩ (j_usedBlocks) rfl (Nat.le_of_ble_eq_true rfl) ?_
      refine wp_iret hX dX4_countWhileUp_47 rfl rfl ?_
      exact hp
    · rw [if_neg w2] at hp
      by_cases w3 : w = 3
      · subst w3
        rw [if_pos rfl] at hp
        refine wp_tableIn (off := 47) (tgt := 48) hX dX4_countWhileUp_1 (by decide) (by decide) (by decide) (by decide) ?_
        refine wp_aload_n hX dX4_countWhileUp_48 rfl ?_
        refine wp_get hX dX4_countWhileUp_49 flX4_10 rfl rfl ?_
        refine wp_iconst (v := 0) hX dX4_countWhileUp_52 ic_0 ?_
        refine wp_iconst (v := 1) hX dX4_countWhileUp_53 ic_1 ?_
        refine wp_cv2 hX dX4_countWhileUp_54 mlX4_68 ⟨Nat.le_of_ble_eq_true rfl, Nat.le_of_ble_eq_true rfl⟩ (d_wordAt rfl rfl g2 g4) rfl (Nat.le_of_ble_eq_true rfl) ?_
        rw [show wA B W q.1 0 1 = q.1 1 from wA_h (i := 1) g2 (by omega) g4 (by omega)]
        refine wp_iret hX dX4_countWhileUp_57 rfl rfl ?_
        exact hp
      · rw [if_neg w3] at hp
        by_cases w4 : w = 4
        · subst w4
          rw [if_pos rfl] at hp
          refine wp_tableIn (off := 57) (tgt := 58) hX dX4_countWhileUp_1 (by decide) (by decide) (by decide) (by decide) ?_
          refine wp_aload_n hX dX4_countWhileUp_58 rfl ?_
          refine wp_get hX dX4_countWhileUp_59 flX4_10 rfl rfl ?_
          refine wp_iconst (v := 0) hX dX4_countWhileUp_62 ic_0 ?_
          refine wp_iconst (v := 2) hX dX4_countWhileUp_63 ic_2 ?_
          refine wp_cv2 hX dX4_countWhileUp_64 mlX4_68 ⟨Nat.le_of_ble_eq_true rfl, Nat.le_of_ble_eq_true rfl⟩ (d_wordAt rfl rfl g2 g4) rfl (Nat.le_of_ble_eq_true rfl) ?_
          rw [show wA B W q.1 0 2 = q.1 2 from wA_h (i := 2) g2 (by omega) g4 (by omega)]
          refine wp_iret hX dX4_countWhileUp_67 rfl rfl ?_
          exact hp
        · rw [if_neg w4] at hp
          by_cases w5 : w = 5
          · subst w5
            rw [if_pos rfl] at hp
            refine wp_tableIn (off := 67) (tgt := 68) hX dX4_countWhileUp_1 (by decide) (by decide) (by decide) (by decide) ?_
            refine wp_aload_n hX dX4_countWhileUp_68 rfl ?_
            refine wp_get hX dX4_countWhileUp_69 flX4_21 rfl rfl ?_
            refine wp_cv0 hX dX4_countWhileUp_72 mlX4_184 ⟨Nat.le_of_ble_eq_true rfl, Nat.le_of_ble_eq_true rfl⟩ (j_recordCount) rfl (Nat.le_of_ble_eq_true rfl) ?_
            refine wp_iret hX dX4_countWhileUp_75 rfl rfl ?_
            exact hp
          · rw [if_neg w5] at hp
            by_cases w6 : w = 6
            · subst w6
              rw [if_pos rfl] at hp
              refine wp_tableIn (off := 75) (tgt := 76) hX dX4_countWhileUp_1 (by decide) (by decide) (by decide) (by decide) ?_
              cases tx with
              | none =>
                obtain ⟨u5, u6⟩ := u5
                subst u5
                refine wp_aload_n hX dX4_countWhileUp_76 rfl ?_
                refine wp_get hX dX4_countWhileUp_77 flX4_51 rfl rfl ?_
                refine wp_if_eq (tgt := 93) hX dX4_countWhileUp_80 (by decide) (fun _ => ?_) (fun c_ => absurd (rfl) c_)
                refine wp_bipush (v := (-3)) hX dX4_countWhileUp_93 bp_m3 ?_
                refine wp_iret hX dX4_countWhileUp_95 rfl rfl ?_
                exact hp
              | some CC =>
                obtain ⟨u5, u6⟩ := u5
                subst u5
                have hHl : CC.length = H.1 := by rw [← chK_len]; exact u6.1
                refine wp_aload_n hX dX4_countWhileUp_76 rfl ?_
                refine wp_get hX dX4_countWhileUp_77 flX4_51 rfl rfl ?_
                refine wp_if_eq (tgt := 93) hX dX4_countWhileUp_80 (by decide) (fun c_ => absurd c_ (by decide)) (fun _ => ?_)
                refine wp_aload_n hX dX4_countWhileUp_83 rfl ?_
                refine wp_get hX dX4_countWhileUp_84 flX4_44 rfl rfl ?_
                refine wp_cv0 hX dX4_countWhileUp_87 mlX4_125 ⟨Nat.le_of_ble_eq_true rfl, Nat.le_of_ble_eq_true rfl⟩ (k_entries rfl) rfl (Nat.le_of_ble_eq_true rfl) ?_
                refine wp_goto (tgt := 95) hX dX4_countWhileUp_90 (by decide) ?_
                rw [← hHl]
                refine wp_iret hX dX4_countWhileUp_95 rfl rfl ?_
                exact hp
            · rw [if_neg w6] at hp
              by_cases w7 : w = 7
              · subst w7
                rw [if_pos rfl] at hp
                refine wp_tableIn (off := 95) (tgt := 96) hX dX4_countWhileUp_1 (by decide) (by decide) (by decide) (by decide) ?_
                refine wp_aload_n hX dX4_countWhileUp_96 rfl ?_
                refine wp_get hX dX4_countWhileUp_97 flX4_28 rfl rfl ?_
                refine wp_aload_n hX dX4_countWhileUp_100 rfl ?_
                refine wp_get hX dX4_countWhileUp_101 flX4_37 rfl rfl ?_
                refine wp_cv0 hX dX4_countWhileUp_104 mlX4_125 ⟨Nat.le_of_ble_eq_true rfl, Nat.le_of_ble_eq_true rfl⟩ (k_entries rfl) rfl (Nat.le_of_ble_eq_true rfl) ?_
                rw [← hCl]
                refine wp_cv1 hX dX4_countWhileUp_107 mlX4_142 ⟨Nat.le_of_ble_eq_true rfl, Nat.le_of_ble_eq_true rfl⟩ (t_blocksFor g3 g4 (by omega)) rfl (Nat.le_of_ble_eq_true rfl) ?_
                refine wp_iret hX dX4_countWhileUp_110 rfl rfl ?_
                exact hp
              · rw [if_neg w7] at hp
                have ho : w.toInt < 2 ∨ 7 < w.toInt := by
                  rw [ieq] at w2 w3 w4 w5 w6 w7
                  rw [show (2 : Int32).toInt = 2 from rfl] at w2
                  rw [show (3 : Int32).toInt = 3 from rfl] at w3
                  rw [show (4 : Int32).toInt = 4 from rfl] at w4
                  rw [show (5 : Int32).toInt = 5 from rfl] at w5
                  rw [show (6 : Int32).toInt = 6 from rfl] at w6
                  rw [show (7 : Int32).toInt = 7 from rfl] at w7
                  omega
                refine wp_tableOut (tgt := 111) hX dX4_countWhileUp_1 ho (by decide) ?_
                refine wp_iconst (v := 0) hX dX4_countWhileUp_111 ic_0 ?_
                refine wp_iret hX dX4_countWhileUp_112 rfl rfl ?_
                exact hp
  refine mp_of [some (.ref 0), some (.int w)] rfl (Nat.le_of_ble_eq_true rfl) (by decide) (fun X Post hX hp => ?_)
  refine wp_iload_n hX dX4_count_0 rfl ?_
  by_cases w0 : w = 0
  · subst w0
    unfold sCount at hp
    dsimp only at hp
    rw [if_pos rfl] at hp
    refine wp_lookup (off := 35) (tgt := 36) hX dX4_count_1 (by decide) (by decide) (by decide) ?_
    refine wp_aload_n hX dX4_count_36 rfl ?_
    refine wp_get hX dX4_count_37 flX4_10 rfl rfl ?_
    refine wp_cv0 hX dX4_count_40 mlX4_172 ⟨Nat.le_of_ble_eq_true rfl, Nat.le_of_ble_eq_true rfl⟩ (d_writesDone rfl) rfl (Nat.le_of_ble_eq_true rfl) ?_
    refine wp_iret hX dX4_count_43 rfl rfl ?_
    exact hp _ _ ⟨rfl, hR0⟩
  · by_cases w1 : w = 1
    · subst w1
      unfold sCount at hp
      dsimp only at hp
      rw [if_neg w0, if_pos rfl] at hp
      refine wp_lookup (off := 43) (tgt := 44) hX dX4_count_1 (by decide) (by decide) (by decide) ?_
      refine wp_aload_n hX dX4_count_44 rfl ?_
      refine wp_get hX dX4_count_45 flX4_10 rfl rfl ?_
      refine wp_cv0 hX dX4_count_48 mlX4_175 ⟨Nat.le_of_ble_eq_true rfl, Nat.le_of_ble_eq_true rfl⟩ (d_writesToFailure rfl) rfl (Nat.le_of_ble_eq_true rfl) ?_
      refine wp_iret hX dX4_count_51 rfl rfl ?_
      exact hp _ _ ⟨rfl, hR0⟩
    · by_cases w8 : w = 8
      · subst w8
        unfold sCount at hp
        dsimp only at hp
        rw [if_neg w0, if_neg w1, if_pos rfl] at hp
        refine wp_lookup (off := 51) (tgt := 52) hX dX4_count_1 (by decide) (by decide) (by decide) ?_
        refine wp_aload_n hX dX4_count_52 rfl ?_
        refine wp_get hX dX4_count_53 flX4_28 rfl rfl ?_
        refine wp_cv0 hX dX4_count_56 mlX4_146 ⟨Nat.le_of_ble_eq_true rfl, Nat.le_of_ble_eq_true rfl⟩ (t_areaBlocks) rfl (Nat.le_of_ble_eq_true rfl) ?_
        refine wp_iret hX dX4_count_59 rfl rfl ?_
        exact hp _ _ ⟨rfl, hR0⟩
      · refine wp_lookup (off := 59) (tgt := 60) hX dX4_count_1 (by decide) ((lv_osw (k := 0) w0 rfl).trans ((lv_osw (k := 1) w1 rfl).trans (lv_osw (k := 8) w8 rfl))) (by decide) ?_
        refine wp_aload_n hX dX4_count_60 rfl ?_
        refine wp_get hX dX4_count_61 flX4_47 rfl rfl ?_
        refine wp_iconst (v := 2) hX dX4_count_64 ic_2 ?_
        refine wp_icmp_ne (tgt := 76) hX dX4_count_65 (by decide) (fun c => ?_) (fun c => ?_)
        · unfold sCount at hp
          dsimp only at hp
          rw [if_neg w0, if_neg w1, if_neg w8, if_pos c] at hp
          refine wp_iconst (v := 0) hX dX4_count_76 ic_0 ?_
          refine wp_iret hX dX4_count_77 rfl rfl ?_
          exact hp _ _ ⟨rfl, hR0⟩
        · refine wp_aload_n hX dX4_count_68 rfl ?_
          refine wp_iload_n hX dX4_count_69 rfl ?_
          refine wp_cv1 hX dX4_count_70 mlX4_178 ⟨Nat.le_of_ble_eq_true rfl, Nat.le_of_ble_eq_true rfl⟩ (up c w0 w1 w8) rfl (Nat.le_of_ble_eq_true rfl) ?_
          refine wp_goto (tgt := 77) hX dX4_count_73 (by decide) ?_
          refine wp_iret hX dX4_count_77 rfl rfl ?_
          exact hp _ _ ⟨rfl, hR0⟩
end PB
end
section
/-! the reference: object in cell 15, arrays in cells 16 to 25; cells 0 to 14 are the class's -/
abbrev HQ : Type := Nat × (Nat → Int32) × (Nat → Int32) × (Nat → Int32)
abbrev ZQ : Type := (Nat → Int32) × (Nat → Int32) × (Nat → Int32)
abbrev SQ : Type := Int32 × Int32 × Int32 × Nat × Nat
abbrev emd (B W LG : Nat) (st ar wr : Int32) (pl : Nat) (ep bt : Int32) (rc mn : Nat) (op : Int32) (ch : Nat) (s : SQ) : aE := .inr (5, [.ref 16, .int (nI B), .int (nI W), .int (nI LG), .int st, .int ar, .int wr, .int (nI pl), .int ep, .int bt, .int (nI rc), .ref 17, .ref 18, .int (nI mn), .int op, .ref 19, .ref 20, .ref 21, .int (nI ch), .ref 22, .ref 23, .ref 24, .ref 25, .int s.1, .int s.2.1, .int s.2.2.1, .int (nI s.2.2.2.1), .int (nI s.2.2.2.2)])
abbrev wM (c : Nat → aE) (B W LG : Nat) (q : DQ) (st op : Int32) (pl rc : Nat) (ep bt : Int32) (K : MP) (h : HQ) (bf : Nat → Int32) (z : ZQ) (s : SQ) : aW :=
  c 0 :: c 1 :: c 2 :: c 3 :: c 4 :: c 5 :: c 6 :: c 7 :: c 8 :: c 9 :: c 10 :: c 11 :: c 12 :: c 13 :: c 14 ::
  emd B W LG st q.2.2 q.2.1 pl ep bt rc K.1 op h.1 s :: ear 32768 q.1 :: ear 12000 K.2.1 :: ear 12000 K.2.2 :: ear 600 h.2.1 :: ear 600 h.2.2.1 :: .inl (true, 600, h.2.2.2) :: ear 64 bf :: ear 512 z.1 :: ear 512 z.2.1 :: ear 1801 z.2.2 :: []
section MO
variable {c : Nat → aE} {B W LG : Nat} {q : DQ} {st op : Int32} {pl rc : Nat} {ep bt : Int32} {K : MP} {h : HQ} {bf : Nat → Int32} {z : ZQ} {s : SQ}
set_option maxHeartbeats 4000000 in
set_option maxRecDepth 100000 in
theorem m_sumOf {σ : aW} {a N o n : Nat} {f : Nat → Int32} (ha : σ[a]? = some (ear N f)) (hN : N < 2 ^ 31) (hn : o + n ≤ N) : MD1 mdX5_sumOf [.ref a, .int (nI o), .int (nI n)] σ (some (.int (sumD f o n))) σ := by
  refine md_of [some (.ref a), some (.int (nI o)), some (.int (nI n)), none, none] rfl (Nat.le_of_ble_eq_true rfl) (by decide) (fun X Post hX hp => ?_)
  have loop : ∀ (r i : Nat), i + r = n → Wp X Post 6 [some (.ref a), some (.int (nI o)), some (.int (nI n)), some (.int (sumD f o i)), some (.int (nI i))] [] σ := by
    intro r
    induction r with
    | zero =>
      intro i hi
      rw [show i = n by omega]
      refine wp_iload hX dX5_sumOf_6 rfl ?_
      refine wp_iload_n hX dX5_sumOf_8 rfl ?_
      refine wp_icmp_ge (tgt := 30) hX dX5_sumOf_9 (by decide) (fun _ => ?_) (fun c_ => absurd (nI_le (Nat.le_refl _) (by omega)) c_)
      refine wp_iload_n hX dX5_sumOf_30 rfl ?_
      refine wp_iret hX dX5_sumOf_31 rfl rfl ?_
      exact hp
    | succ r ih =>
      intro i hi
      refine wp_iload hX dX5_sumOf_6 rfl ?_
      refine wp_iload_n hX dX5_sumOf_8 rfl ?_
      refine wp_icmp_ge (tgt := 30) hX dX5_sumOf_9 (by decide) (fun c_ => absurd c_ (nI_ge (by omega) (by omega))) (fun _ => ?_)
      refine wp_bipush (v := 31) hX dX5_sumOf_12 bp_31 ?_
      refine wp_iload_n hX dX5_sumOf_14 rfl ?_
      refine wp_imul hX dX5_sumOf_15 ?_
      refine wp_aload_n hX dX5_sumOf_16 rfl ?_
      refine wp_iload_n hX dX5_sumOf_17 rfl ?_
      refine wp_iload hX dX5_sumOf_18 rfl ?_
      refine wp_iadd hX dX5_sumOf_20 ?_
      refine wp_ti (y := (nI (o + i))) (nI_add _ _) ?_
      refine wp_iald hX dX5_sumOf_21 (ha) (vp_in_nI (by omega) hN) ?_
      refine wp_ti (y := (f (o + i))) (by rw [nI_clamp (by omega)]) ?_
      refine wp_iadd hX dX5_sumOf_22 ?_
      refine wp_istore_n hX dX5_sumOf_23 (Nat.le_of_ble_eq_true rfl) rfl ?_
      refine wp_iinc hX dX5_sumOf_24 ic_1 rfl (Nat.le_of_ble_eq_true rfl) rfl ?_
      refine wp_goto (tgt := 6) hX dX5_sumOf_27 (by decide) ?_
      rw [nI_1]
      exact ih (i + 1) (by omega)
  refine wp_bipush (v := 7) hX dX5_sumOf_0 bp_7 ?_
  refine wp_istore_n hX dX5_sumOf_2 (Nat.le_of_ble_eq_true rfl) rfl ?_
  refine wp_iconst (v := 0) hX dX5_sumOf_3 ic_0 ?_
  refine wp_istore hX dX5_sumOf_4 (Nat.le_of_ble_eq_true rfl) rfl ?_
  exact loop n 0 (by omega)
set_option maxHeartbeats 4000000 in
set_option maxRecDepth 100000 in
theorem m_isGood {b : Nat} (hB : B ≤ 512) (hW : W ≤ 64) (hW1 : 1 ≤ W) (hb : b < B) : MD1 mdX5_isGood [.ref 15, .int (nI b)] (wM c B W LG q st op pl rc ep bt K h bf z s) (some (.int (b2i (decide (q.1 (W * b + (W - 1)) = sumD q.1 (W * b) (W - 1)))))) (wM c B W LG q st op pl rc ep bt K h bf z s) := by
  refine md_of [some (.ref 15), some (.int (nI b))] rfl (Nat.le_of_ble_eq_true rfl) (by decide) (fun X Post hX hp => ?_)
  have hix := ixb hB hW hb (show W - 1 < W by omega)
  have e1 : nI W * nI b = nI (W * b) := pk_mul _ _
  refine wp_aload_n hX dX5_isGood_0 rfl ?_
  refine wp_get hX dX5_isGood_1 flX5_8 rfl rfl ?_
  refine wp_aload_n hX dX5_isGood_4 rfl ?_
  refine wp_get hX dX5_isGood_5 flX5_42 rfl rfl ?_
  refine wp_iload_n hX dX5_isGood_8 rfl ?_
  refine wp_imul hX dX5_isGood_9 ?_
  refine wp_ti (y := (nI (W * b))) (e1) ?_
  refine wp_aload_n hX dX5_isGood_10 rfl ?_
  refine wp_get hX dX5_isGood_11 flX5_42 rfl rfl ?_
  refine wp_iadd hX dX5_isGood_14 ?_
  refine wp_iconst (v := 1) hX dX5_isGood_15 ic_1 ?_
  refine wp_isub hX dX5_isGood_16 ?_
  refine wp_ti (y := (nI (W * b + (W - 1)))) (by rw [nI_add]; exact (pk_sub (a := W * b + W) (b := 1) (by omega)).trans (by congr 1; omega)) ?_
  refine wp_iald hX dX5_isGood_17 rfl (vp_in_nI hix (by decide)) ?_
  refine wp_ti (y := q.1 (W * b + (W - 1))) (by rw [nI_clamp (by omega)]) ?_
  refine wp_aload_n hX dX5_isGood_18 rfl ?_
  refine wp_get hX dX5_isGood_19 flX5_8 rfl rfl ?_
  refine wp_aload_n hX dX5_isGood_22 rfl ?_
  refine wp_get hX dX5_isGood_23 flX5_42 rfl rfl ?_
  refine wp_iload_n hX dX5_isGood_26 rfl ?_
  refine wp_imul hX dX5_isGood_27 ?_
  refine wp_ti (y := (nI (W * b))) (e1) ?_
  refine wp_aload_n hX dX5_isGood_28 rfl ?_
  refine wp_get hX dX5_isGood_29 flX5_42 rfl rfl ?_
  refine wp_iconst (v := 1) hX dX5_isGood_32 ic_1 ?_
  refine wp_isub hX dX5_isGood_33 ?_
  refine wp_ti (y := (nI (W - 1))) (w1 hW1) ?_
  refine wp_cs3 hX dX5_isGood_34 mlX5_46 ⟨Nat.le_of_ble_eq_true rfl, Nat.le_of_ble_eq_true rfl⟩ (m_sumOf rfl (by decide) (by omega)) (Nat.le_of_ble_eq_true rfl) ?_
  refine wp_icmp_ne (tgt := 44) hX dX5_isGood_37 (by decide) (fun d => ?_) (fun d => ?_)
  · refine wp_iconst (v := 0) hX dX5_isGood_44 ic_0 ?_
    refine wp_iret hX dX5_isGood_45 rfl rfl ?_
    rw [decide_eq_false d] at hp
    exact hp
  · refine wp_iconst (v := 1) hX dX5_isGood_40 ic_1 ?_
    refine wp_goto (tgt := 45) hX dX5_isGood_41 (by decide) ?_
    refine wp_iret hX dX5_isGood_45 rfl rfl ?_
    rw [decide_eq_true d] at hp
    exact hp
set_option maxHeartbeats 4000000 in
set_option maxRecDepth 100000 in
theorem m_blank : MD1 mdX5_blank [.ref 15] (wM c B W LG q st op pl rc ep bt K h bf z s) none (wM c B W LG q st op pl rc ep bt K h (fun j => if j < 64 then 0 else bf j) z s) := by
  refine md_of [some (.ref 15), none] rfl (Nat.le_of_ble_eq_true rfl) (by decide) (fun X Post hX hp => ?_)
  have loop : ∀ (r i : Nat), i + r = 64 → Wp X Post 2 [some (.ref 15), some (.int (nI i))] [] (wM c B W LG q st op pl rc ep bt K h (fun j => if j < i then 0 else bf j) z s) := by
    intro r
    induction r with
    | zero =>
      intro i hi
      rw [show i = 64 by omega]
      refine wp_iload_n hX dX5_blank_2 rfl ?_
      refine wp_bipush (v := 64) hX dX5_blank_3 bp_64 ?_
      refine wp_icmp_ge (tgt := 21) hX dX5_blank_5 (by decide) (fun _ => ?_) (fun c_ => absurd (by decide) c_)
      refine wp_vret hX dX5_blank_21 rfl ?_
      exact hp
    | succ r ih =>
      intro i hi
      refine wp_iload_n hX dX5_blank_2 rfl ?_
      refine wp_bipush (v := 64) hX dX5_blank_3 bp_64 ?_
      refine wp_icmp_ge (tgt := 21) hX dX5_blank_5 (by decide) (fun c_ => absurd c_ (nI_ge (a := i) (b := 64) (by omega) (by decide))) (fun _ => ?_)
      refine wp_aload_n hX dX5_blank_8 rfl ?_
      refine wp_get hX dX5_blank_9 flX5_30 rfl rfl ?_
      refine wp_iload_n hX dX5_blank_12 rfl ?_
      refine wp_iconst (v := 0) hX dX5_blank_13 ic_0 ?_
      refine wp_iast hX dX5_blank_14 rfl (vp_in_nI (by omega) (by decide)) ?_
      rw [nI_clamp (by omega)]
      have e : upd (fun j => if j < i then 0 else bf j) i 0 = (fun j => if j < i + 1 then 0 else bf j) := by
        funext j
        by_cases h1 : j = i
        · rw [h1, pk_us, if_pos (by omega)]
        · rw [pk_un h1]
          by_cases h2 : j < i
          · rw [if_pos h2, if_pos (by omega)]
          · rw [if_neg h2, if_neg (by omega)]
      rw [e]
      refine wp_iinc hX dX5_blank_15 ic_1 rfl (Nat.le_of_ble_eq_true rfl) rfl ?_
      refine wp_goto (tgt := 2) hX dX5_blank_18 (by decide) ?_
      rw [nI_1]
      exact ih (i + 1) (by omega)
  refine wp_iconst (v := 0) hX dX5_blank_0 ic_0 ?_
  refine wp_istore_n hX dX5_blank_1 (Nat.le_of_ble_eq_true rfl) rfl ?_
  have := loop 64 0 (by omega)
  have e : (fun j => if j < 0 then 0 else bf j) = bf := by funext j; simp
  rw [e] at this
  exact this
set_option maxHeartbeats 4000000 in
set_option maxRecDepth 100000 in
theorem m_write_no {b : Nat} (hf : q.2.2 = 1) : MD1 mdX5_write [.ref 15, .int (nI b)] (wM c B W LG q st op pl rc ep bt K h bf z s) (some (.int 0)) (wM c B W LG (q.1, q.2.1, 0) 3 0 pl rc ep bt K h bf z s) := by
  refine md_of [some (.ref 15), some (.int (nI b)), none] rfl (Nat.le_of_ble_eq_true rfl) (by decide) (fun X Post hX hp => ?_)
  obtain ⟨D, wr, fu⟩ := q
  dsimp only at hf
  subst hf
  refine wp_aload_n hX dX5_write_0 rfl ?_
  refine wp_get hX dX5_write_1 flX5_50 rfl rfl ?_
  refine wp_if_le (tgt := 36) hX dX5_write_4 (by decide) (fun c_ => absurd c_ (show ¬ (1 : Int32) ≤ 0 by decide)) (fun _ => ?_)
  refine wp_aload_n hX dX5_write_7 rfl ?_
  refine wp_dup hX dX5_write_8 rfl ?_
  refine wp_get hX dX5_write_9 flX5_50 rfl rfl ?_
  refine wp_iconst (v := 1) hX dX5_write_12 ic_1 ?_
  refine wp_isub hX dX5_write_13 ?_
  refine wp_ti (y := (0)) (show (1 : Int32) - 1 = 0 by decide) ?_
  refine wp_put hX dX5_write_14 fwX5_50 rfl (Nat.le_of_ble_eq_true rfl) rfl rfl ?_
  refine wp_aload_n hX dX5_write_17 rfl ?_
  refine wp_get hX dX5_write_18 flX5_50 rfl rfl ?_
  refine wp_if_ne (tgt := 36) hX dX5_write_21 (by decide) (fun c_ => absurd (rfl) c_) (fun _ => ?_)
  refine wp_aload_n hX dX5_write_24 rfl ?_
  refine wp_iconst (v := 3) hX dX5_write_25 ic_3 ?_
  refine wp_put hX dX5_write_26 fwX5_53 rfl (Nat.le_of_ble_eq_true rfl) rfl rfl ?_
  refine wp_aload_n hX dX5_write_29 rfl ?_
  refine wp_iconst (v := 0) hX dX5_write_30 ic_0 ?_
  refine wp_put hX dX5_write_31 fwX5_56 rfl (Nat.le_of_ble_eq_true rfl) rfl rfl ?_
  refine wp_iconst (v := 0) hX dX5_write_34 ic_0 ?_
  refine wp_iret hX dX5_write_35 rfl rfl ?_
  exact hp
theorem cpB {D bf : Nat → Int32} {W b : Nat} (hW1 : 1 ≤ W) : va_cpy (upd bf (W - 1) (sumD bf 0 (W - 1))) D 0 (W * b) W = wrD D W b bf := by
  funext j
  unfold wrD
  by_cases h1 : W * b ≤ j ∧ j < W * b + W
  · rw [if_pos h1, pk_cpy_in h1.1 h1.2, Nat.zero_add]
    by_cases h2 : j = W * b + (W - 1)
    · rw [if_pos h2, h2, show W * b + (W - 1) - W * b = W - 1 by omega, pk_us]
    · rw [if_neg h2, pk_un (by omega)]
  · rw [if_neg h1, pk_cpy_out (by omega)]
set_option maxHeartbeats 4000000 in
set_option maxRecDepth 100000 in
theorem m_write_ok {b : Nat} (hB : B ≤ 512) (hW : W ≤ 64) (hW1 : 1 ≤ W) (hb : b < B) (hf : ¬ q.2.2 = 1) : MD1 mdX5_write [.ref 15, .int (nI b)] (wM c B W LG q st op pl rc ep bt K h bf z s) (some (.int 1)) (wM c B W LG (wrD q.1 W b bf, q.2.1 + 1, pwd q.2.2) st op pl rc ep bt K h (upd bf (W - 1) (sumD bf 0 (W - 1))) z s) := by
  refine md_of [some (.ref 15), some (.int (nI b)), none] rfl (Nat.le_of_ble_eq_true rfl) (by decide) (fun X Post hX hp => ?_)
  have hix := ixb hB hW hb (show W - 1 < W by omega)
  have tail : ∀ fu1, fu1 = pwd q.2.2 → Wp X Post 36 [some (.ref 15), some (.int (nI b)), none] [] (wM c B W LG (q.1, q.2.1, fu1) st op pl rc ep bt K h bf z s) := by
    intro fu1 hfu
    have loop : ∀ (r k : Nat), k + r = W → Wp X Post 63 [some (.ref 15), some (.int (nI b)), some (.int (nI k))] [] (wM c B W LG (va_cpy (upd bf (W - 1) (sumD bf 0 (W - 1))) q.1 0 (W * b) k, q.2.1, fu1) st op pl rc ep bt K h (upd bf (W - 1) (sumD bf 0 (W - 1))) z s) := by
      intro r
      induction r with
      | zero =>
        intro k hk
        rw [show k = W by omega]
        refine wp_iload_n hX dX5_write_63 rfl ?_
        refine wp_aload_n hX dX5_write_64 rfl ?_
        refine wp_get hX dX5_write_65 flX5_42 rfl rfl ?_
        refine wp_icmp_ge (tgt := 96) hX dX5_write_68 (by decide) (fun _ => ?_) (fun c_ => absurd (nI_le (Nat.le_refl _) (by omega)) c_)
        rw [cpB hW1, hfu]
        refine wp_aload_n hX dX5_write_96 rfl ?_
        refine wp_dup hX dX5_write_97 rfl ?_
        refine wp_get hX dX5_write_98 flX5_60 rfl rfl ?_
        refine wp_iconst (v := 1) hX dX5_write_101 ic_1 ?_
        refine wp_iadd hX dX5_write_102 ?_
        refine wp_put hX dX5_write_103 fwX5_60 rfl (Nat.le_of_ble_eq_true rfl) rfl rfl ?_
        refine wp_iconst (v := 1) hX dX5_write_106 ic_1 ?_
        refine wp_iret hX dX5_write_107 rfl rfl ?_
        exact hp
      | succ r ih =>
        intro k hk
        refine wp_iload_n hX dX5_write_63 rfl ?_
        refine wp_aload_n hX dX5_write_64 rfl ?_
        refine wp_get hX dX5_write_65 flX5_42 rfl rfl ?_
        refine wp_icmp_ge (tgt := 96) hX dX5_write_68 (by decide) (fun c_ => absurd c_ (nI_ge (by omega) (by omega))) (fun _ => ?_)
        refine wp_aload_n hX dX5_write_71 rfl ?_
        refine wp_get hX dX5_write_72 flX5_8 rfl rfl ?_
        refine wp_aload_n hX dX5_write_75 rfl ?_
        refine wp_get hX dX5_write_76 flX5_42 rfl rfl ?_
        refine wp_iload_n hX dX5_write_79 rfl ?_
        refine wp_imul hX dX5_write_80 ?_
        refine wp_iload_n hX dX5_write_81 rfl ?_
        refine wp_iadd hX dX5_write_82 ?_
        refine wp_ti (y := nI (W * b + k)) (by rw [pk_mul, nI_add]) ?_
        refine wp_aload_n hX dX5_write_83 rfl ?_
        refine wp_get hX dX5_write_84 flX5_30 rfl rfl ?_
        refine wp_iload_n hX dX5_write_87 rfl ?_
        refine wp_iald hX dX5_write_88 rfl (vp_in_nI (by omega) (by decide)) ?_
        refine wp_iast hX dX5_write_89 rfl (vp_in_nI (by omega) (by decide)) ?_
        rw [nI_clamp (show k < 2 ^ 31 by omega), nI_clamp (show W * b + k < 2 ^ 31 by omega)]
        have e : upd (va_cpy (upd bf (W - 1) (sumD bf 0 (W - 1))) q.1 0 (W * b) k) (W * b + k) (upd bf (W - 1) (sumD bf 0 (W - 1)) k) = va_cpy (upd bf (W - 1) (sumD bf 0 (W - 1))) q.1 0 (W * b) (k + 1) := by
          funext j
          by_cases h1 : j = W * b + k
          · rw [h1, pk_us, pk_cpy_in (by omega) (by omega)]
            congr 1
            omega
          · rw [pk_un h1]
            by_cases h2 : W * b ≤ j ∧ j < W * b + k
            · rw [pk_cpy_in h2.1 h2.2, pk_cpy_in h2.1 (by omega)]
            · rw [pk_cpy_out (by omega), pk_cpy_out (by omega)]
        refine wp_eqW (σ1 := wM c B W LG (upd (va_cpy (upd bf (W - 1) (sumD bf 0 (W - 1))) q.1 0 (W * b) k) (W * b + k) (upd bf (W - 1) (sumD bf 0 (W - 1)) k), q.2.1, fu1) st op pl rc ep bt K h (upd bf (W - 1) (sumD bf 0 (W - 1))) z s) rfl ?_
        rw [e]
        refine wp_iinc hX dX5_write_90 ic_1 rfl (Nat.le_of_ble_eq_true rfl) rfl ?_
        refine wp_goto (tgt := 63) hX dX5_write_93 (by decide) ?_
        rw [nI_1]
        exact ih (k + 1) (by omega)
    refine wp_aload_n hX dX5_write_36 rfl ?_
    refine wp_get hX dX5_write_37 flX5_30 rfl rfl ?_
    refine wp_aload_n hX dX5_write_40 rfl ?_
    refine wp_get hX dX5_write_41 flX5_42 rfl rfl ?_
    refine wp_iconst (v := 1) hX dX5_write_44 ic_1 ?_
    refine wp_isub hX dX5_write_45 ?_
    refine wp_ti (y := (nI (W - 1))) (w1 hW1) ?_
    refine wp_aload_n hX dX5_write_46 rfl ?_
    refine wp_get hX dX5_write_47 flX5_30 rfl rfl ?_
    refine wp_iconst (v := 0) hX dX5_write_50 ic_0 ?_
    refine wp_aload_n hX dX5_write_51 rfl ?_
    refine wp_get hX dX5_write_52 flX5_42 rfl rfl ?_
    refine wp_iconst (v := 1) hX dX5_write_55 ic_1 ?_
    refine wp_isub hX dX5_write_56 ?_
    refine wp_ti (y := (nI (W - 1))) (w1 hW1) ?_
    refine wp_cs3 hX dX5_write_57 mlX5_46 ⟨Nat.le_of_ble_eq_true rfl, Nat.le_of_ble_eq_true rfl⟩ (m_sumOf (o := 0) rfl (by decide) (by omega)) (Nat.le_of_ble_eq_true rfl) ?_
    refine wp_iast hX dX5_write_60 rfl (vp_in_nI (by omega) (by decide)) ?_
    rw [nI_clamp (by omega)]
    refine wp_iconst (v := 0) hX dX5_write_61 ic_0 ?_
    refine wp_istore_n hX dX5_write_62 (Nat.le_of_ble_eq_true rfl) rfl ?_
    have := loop W 0 (by omega)
    have e0 : va_cpy (upd bf (W - 1) (sumD bf 0 (W - 1))) q.1 0 (W * b) 0 = q.1 := by
      funext j
      rw [pk_cpy_out (by omega)]
    rw [e0] at this
    exact this
  refine wp_aload_n hX dX5_write_0 rfl ?_
  refine wp_get hX dX5_write_1 flX5_50 rfl rfl ?_
  refine wp_if_le (tgt := 36) hX dX5_write_4 (by decide) (fun d => ?_) (fun d => ?_)
  · exact tail q.2.2 (by unfold pwd; rw [if_neg (Int32.not_lt.mpr d)])
  · have d0 : 0 < q.2.2 := Int32.not_le.mp d
    have hne : ¬ q.2.2 - 1 = 0 := fun y => hf (by
      have : q.2.2 - 1 + 1 = 0 + 1 := by rw [y]
      simpa using this)
    refine wp_aload_n hX dX5_write_7 rfl ?_
    refine wp_dup hX dX5_write_8 rfl ?_
    refine wp_get hX dX5_write_9 flX5_50 rfl rfl ?_
    refine wp_iconst (v := 1) hX dX5_write_12 ic_1 ?_
    refine wp_isub hX dX5_write_13 ?_
    refine wp_put hX dX5_write_14 fwX5_50 rfl (Nat.le_of_ble_eq_true rfl) rfl rfl ?_
    refine wp_aload_n hX dX5_write_17 rfl ?_
    refine wp_get hX dX5_write_18 flX5_50 rfl rfl ?_
    refine wp_if_ne (tgt := 36) hX dX5_write_21 (by decide) (fun _ => ?_) (fun c_ => absurd c_ (hne))
    exact tail (q.2.2 - 1) (by unfold pwd; rw [if_pos d0])
set_option maxHeartbeats 4000000 in
set_option maxRecDepth 100000 in
/-- writeHead: the state is 3 behind a power that failed -/
theorem m_writeHead {e b1 a r n : Int32} (hB : B ≤ 512) (hB1 : 1 ≤ B) (hW : 16 ≤ W) (hW2 : W ≤ 64) : MT mdX5_writeHead [.ref 15, .int e, .int b1, .int a, .int r, .int n] (wM c B W LG q st op pl rc ep bt K h bf z s) (fun r0 σ1 => ∃ bf1, r0 = some (.int (b2i (wr1 W q 0 (hdB e b1 a r n)).1)) ∧ σ1 = wM c B W LG (wr1 W q 0 (hdB e b1 a r n)).2 (if (wr1 W q 0 (hdB e b1 a r n)).1 then st else 3) (if (wr1 W q 0 (hdB e b1 a r n)).1 then op else 0) pl rc ep bt K h bf1 z s) := by
  refine mp_of [some (.ref 15), some (.int e), some (.int b1), some (.int a), some (.int r), some (.int n)] rfl (Nat.le_of_ble_eq_true rfl) (by decide) (fun X Post hX hp => ?_)
  refine wp_aload_n hX dX5_writeHead_0 rfl ?_
  refine wp_cv0 hX dX5_writeHead_1 mlX5_63 ⟨Nat.le_of_ble_eq_true rfl, Nat.le_of_ble_eq_true rfl⟩ (m_blank) rfl (Nat.le_of_ble_eq_true rfl) ?_
  refine wp_aload_n hX dX5_writeHead_4 rfl ?_
  refine wp_get hX dX5_writeHead_5 flX5_30 rfl rfl ?_
  refine wp_iconst (v := 0) hX dX5_writeHead_8 ic_0 ?_
  refine wp_ldc hX dX5_writeHead_9 lcX5_66 ?_
  refine wp_iast hX dX5_writeHead_11 rfl (vp_in_nI (n := 0) (by decide) (by decide)) ?_
  refine wp_aload_n hX dX5_writeHead_12 rfl ?_
  refine wp_get hX dX5_writeHead_13 flX5_30 rfl rfl ?_
  refine wp_iconst (v := 1) hX dX5_writeHead_16 ic_1 ?_
  refine wp_iload_n hX dX5_writeHead_17 rfl ?_
  refine wp_iast hX dX5_writeHead_18 rfl (vp_in_nI (n := 1) (by decide) (by decide)) ?_
  refine wp_aload_n hX dX5_writeHead_19 rfl ?_
  refine wp_get hX dX5_writeHead_20 flX5_30 rfl rfl ?_
  refine wp_iconst (v := 2) hX dX5_writeHead_23 ic_2 ?_
  refine wp_iload_n hX dX5_writeHead_24 rfl ?_
  refine wp_iast hX dX5_writeHead_25 rfl (vp_in_nI (n := 2) (by decide) (by decide)) ?_
  refine wp_aload_n hX dX5_writeHead_26 rfl ?_
  refine wp_get hX dX5_writeHead_27 flX5_30 rfl rfl ?_
  refine wp_iconst (v := 3) hX dX5_writeHead_30 ic_3 ?_
  refine wp_iload_n hX dX5_writeHead_31 rfl ?_
  refine wp_iast hX dX5_writeHead_32 rfl (vp_in_nI (n := 3) (by decide) (by decide)) ?_
  refine wp_aload_n hX dX5_writeHead_33 rfl ?_
  refine wp_get hX dX5_writeHead_34 flX5_30 rfl rfl ?_
  refine wp_iconst (v := 4) hX dX5_writeHead_37 ic_4 ?_
  refine wp_iload hX dX5_writeHead_38 rfl ?_
  refine wp_iast hX dX5_writeHead_40 rfl (vp_in_nI (n := 4) (by decide) (by decide)) ?_
  refine wp_aload_n hX dX5_writeHead_41 rfl ?_
  refine wp_get hX dX5_writeHead_42 flX5_30 rfl rfl ?_
  refine wp_iconst (v := 5) hX dX5_writeHead_45 ic_5 ?_
  refine wp_iload hX dX5_writeHead_46 rfl ?_
  refine wp_iast hX dX5_writeHead_48 rfl (vp_in_nI (n := 5) (by decide) (by decide)) ?_
  refine wp_eqW (σ1 := wM c B W LG q st op pl rc ep bt K h (upd (upd (upd (upd (upd (upd (fun j => if j < 64 then 0 else bf j) 0 1129337682) 1 e) 2 b1) 3 a) 4 r) 5 n) z s) rfl ?_
  by_cases h1 : q.2.2 = 1
  · rw [wr1_no h1] at hp
    refine wp_aload_n hX dX5_writeHead_49 rfl ?_
    refine wp_iconst (v := 0) hX dX5_writeHead_50 ic_0 ?_
    refine wp_cv1 hX dX5_writeHead_51 mlX5_67 ⟨Nat.le_of_ble_eq_true rfl, Nat.le_of_ble_eq_true rfl⟩ (m_write_no (b := 0) h1) rfl (Nat.le_of_ble_eq_true rfl) ?_
    refine wp_iret hX dX5_writeHead_54 rfl rfl ?_
    exact hp _ _ ⟨_, rfl, rfl⟩
  · rw [wr1_ok h1] at hp
    refine wp_aload_n hX dX5_writeHead_49 rfl ?_
    refine wp_iconst (v := 0) hX dX5_writeHead_50 ic_0 ?_
    refine wp_cv1 hX dX5_writeHead_51 mlX5_67 ⟨Nat.le_of_ble_eq_true rfl, Nat.le_of_ble_eq_true rfl⟩ (m_write_ok (b := 0) hB hW2 (by omega) (by omega) h1) rfl (Nat.le_of_ble_eq_true rfl) ?_
    refine wp_iret hX dX5_writeHead_54 rfl rfl ?_
    rw [wrD_congr (hdB_eq hW2)]
    exact hp _ _ ⟨_, rfl, rfl⟩
set_option maxRecDepth 100000 in
theorem m_area (hg : LG + 1 ≤ B) (hB : B ≤ 512) : MD1 mdX5_area [.ref 15] (wM c B W LG q st op pl rc ep bt K h bf z s) (some (.int (nI (AR B LG)))) (wM c B W LG q st op pl rc ep bt K h bf z s) := by
  refine md_of [some (.ref 15)] rfl (Nat.le_of_ble_eq_true rfl) (by decide) (fun X Post hX hp => ?_)
  refine wp_aload_n hX dX5_area_0 rfl ?_
  refine wp_get hX dX5_area_1 flX5_71 rfl rfl ?_
  refine wp_iconst (v := 1) hX dX5_area_4 ic_1 ?_
  refine wp_isub hX dX5_area_5 ?_
  refine wp_ti (y := (nI (B - 1))) (w1 (by omega)) ?_
  refine wp_aload_n hX dX5_area_6 rfl ?_
  refine wp_get hX dX5_area_7 flX5_74 rfl rfl ?_
  refine wp_isub hX dX5_area_10 ?_
  refine wp_ti (y := (nI (B - 1 - LG))) (pk_sub (by omega)) ?_
  refine wp_iconst (v := 2) hX dX5_area_11 ic_2 ?_
  refine wp_idiv hX dX5_area_12 (by decide) ?_
  refine wp_ti (y := nI (AR B LG)) (pk_div (a := B - 1 - LG) (d := 2) (by omega) (by decide) (by decide)) ?_
  refine wp_iret hX dX5_area_13 rfl rfl ?_
  exact hp
set_option maxRecDepth 100000 in
theorem m_fan (hW : 3 ≤ W) (hW2 : W ≤ 64) : MD1 mdX5_fan [.ref 15] (wM c B W LG q st op pl rc ep bt K h bf z s) (some (.int (nI (fan W)))) (wM c B W LG q st op pl rc ep bt K h bf z s) := by
  refine md_of [some (.ref 15)] rfl (Nat.le_of_ble_eq_true rfl) (by decide) (fun X Post hX hp => ?_)
  refine wp_aload_n hX dX5_fan_0 rfl ?_
  refine wp_get hX dX5_fan_1 flX5_42 rfl rfl ?_
  refine wp_iconst (v := 3) hX dX5_fan_4 ic_3 ?_
  refine wp_isub hX dX5_fan_5 ?_
  refine wp_ti (y := (nI (W - 3))) (pk_sub (a := W) (b := 3) hW) ?_
  refine wp_iconst (v := 2) hX dX5_fan_6 ic_2 ?_
  refine wp_idiv hX dX5_fan_7 (by decide) ?_
  refine wp_ti (y := nI (fan W)) (pk_div (a := W - 3) (d := 2) (by omega) (by decide) (by decide)) ?_
  refine wp_iret hX dX5_fan_8 rfl rfl ?_
  exact hp
set_option maxRecDepth 100000 in
theorem m_part (hW : 5 ≤ W) : MD1 mdX5_part [.ref 15] (wM c B W LG q st op pl rc ep bt K h bf z s) (some (.int (nI (W - 5)))) (wM c B W LG q st op pl rc ep bt K h bf z s) := by
  refine md_of [some (.ref 15)] rfl (Nat.le_of_ble_eq_true rfl) (by decide) (fun X Post hX hp => ?_)
  refine wp_aload_n hX dX5_part_0 rfl ?_
  refine wp_get hX dX5_part_1 flX5_42 rfl rfl ?_
  refine wp_iconst (v := 5) hX dX5_part_4 ic_5 ?_
  refine wp_isub hX dX5_part_5 ?_
  refine wp_ti (y := nI (W - 5)) (pk_sub (a := W) (b := 5) hW) ?_
  refine wp_iret hX dX5_part_6 rfl rfl ?_
  exact hp
set_option maxHeartbeats 4000000 in
set_option maxRecDepth 100000 in
theorem m_not (hst : st = 0 ∨ st = 1 ∨ st = 2 ∨ st = 3) (h2 : ¬ st = 2) : MD1 mdX5_not [.ref 15] (wM c B W LG q st op pl rc ep bt K h bf z s) (some (.int (rfs st))) (wM c B W LG q st op pl rc ep bt K h bf z s) := by
  refine md_of [some (.ref 15)] rfl (Nat.le_of_ble_eq_true rfl) (by decide) (fun X Post hX hp => ?_)
  rcases hst with rfl | rfl | rfl | rfl
  · refine wp_aload_n hX dX5_not_0 rfl ?_
    refine wp_get hX dX5_not_1 flX5_53 rfl rfl ?_
    refine wp_if_ne (tgt := 12) hX dX5_not_4 (by decide) (fun c_ => absurd (rfl) c_) (fun _ => ?_)
    refine wp_bipush (v := (-7)) hX dX5_not_7 bp_m7 ?_
    refine wp_goto (tgt := 38) hX dX5_not_9 (by decide) ?_
    refine wp_iret hX dX5_not_38 rfl rfl ?_
    exact hp
  · refine wp_aload_n hX dX5_not_0 rfl ?_
    refine wp_get hX dX5_not_1 flX5_53 rfl rfl ?_
    refine wp_if_ne (tgt := 12) hX dX5_not_4 (by decide) (fun _ => ?_) (fun c_ => absurd c_ (by decide))
    refine wp_aload_n hX dX5_not_12 rfl ?_
    refine wp_get hX dX5_not_13 flX5_53 rfl rfl ?_
    refine wp_iconst (v := 1) hX dX5_not_16 ic_1 ?_
    refine wp_icmp_ne (tgt := 25) hX dX5_not_17 (by decide) (fun c_ => absurd (rfl) c_) (fun _ => ?_)
    refine wp_bipush (v := (-2)) hX dX5_not_20 bp_m2 ?_
    refine wp_goto (tgt := 38) hX dX5_not_22 (by decide) ?_
    refine wp_iret hX dX5_not_38 rfl rfl ?_
    exact hp
  · exact absurd rfl h2
  · refine wp_aload_n hX dX5_not_0 rfl ?_
    refine wp_get hX dX5_not_1 flX5_53 rfl rfl ?_
    refine wp_if_ne (tgt := 12) hX dX5_not_4 (by decide) (fun _ => ?_) (fun c_ => absurd c_ (by decide))
    refine wp_aload_n hX dX5_not_12 rfl ?_
    refine wp_get hX dX5_not_13 flX5_53 rfl rfl ?_
    refine wp_iconst (v := 1) hX dX5_not_16 ic_1 ?_
    refine wp_icmp_ne (tgt := 25) hX dX5_not_17 (by decide) (fun _ => ?_) (fun c_ => absurd c_ (by decide))
    refine wp_aload_n hX dX5_not_25 rfl ?_
    refine wp_get hX dX5_not_26 flX5_53 rfl rfl ?_
    refine wp_iconst (v := 3) hX dX5_not_29 ic_3 ?_
    refine wp_icmp_ne (tgt := 37) hX dX5_not_30 (by decide) (fun c_ => absurd (rfl) c_) (fun _ => ?_)
    refine wp_iconst (v := (-1)) hX dX5_not_33 ic_m1 ?_
    refine wp_goto (tgt := 38) hX dX5_not_34 (by decide) ?_
    refine wp_iret hX dX5_not_38 rfl rfl ?_
    exact hp
end MO
end
section
/-! the reference: its maps -/
/-- a list of changes in three arrays -/
def HA (C : CL) (h : HQ) : Prop := C.length = h.1 ∧ ∀ i, i < h.1 → ∃ g : Bool, C[i]? = some (h.2.1 i, g, h.2.2.1 i) ∧ h.2.2.2 i = b2i g
def TXM (op : Int32) (h : HQ) (tx : Option CL) : Prop := match tx with
  | none => op = 0
  | some C => op = 1 ∧ HA C h
/-- the reference's cells hold this store; before them are the cells c -/
def RM (A : Ab) (c : Nat → aE) (σ : aW) : Prop := match A with
  | (st, (B, W, LG), q, (pl, rc, M, tx)) => ∃ (op : Int32) (jp jr : Nat) (ep bt : Int32) (K : MP) (h : HQ) (bf : Nat → Int32) (z : ZQ) (s : SQ), σ = wM c B W LG q st op jp jr ep bt K h bf z s ∧ (st = 2 → jp = pl ∧ jr = rc ∧ ep = q.1 1 ∧ bt = q.1 2 ∧ KAm M K ∧ TXM op h tx)
section MO
variable {c : Nat → aE} {B W LG : Nat} {q : DQ} {st op : Int32} {pl rc : Nat} {ep bt : Int32} {K : MP} {h : HQ} {bf : Nat → Int32} {z : ZQ} {s : SQ} {m : PM} {key : Int32}
set_option maxHeartbeats 4000000 in
set_option maxRecDepth 100000 in
theorem m_at (hK : KAm m K) (hs : Srt m) (hu : K.1 ≤ 12000) : MD1 mdX5_at [.ref 15, .int key] (wM c B W LG q st op pl rc ep bt K h bf z s) (some (.int (nI (rk m key)))) (wM c B W LG q st op pl rc ep bt K h bf z s) := by
  refine md_of [some (.ref 15), some (.int key), none, none, none] rfl (Nat.le_of_ble_eq_true rfl) (by decide) (fun X Post hX hp => ?_)
  obtain ⟨u, kf, vf⟩ := K
  dsimp only at hu
  have hm : KA m u kf vf := hK
  have mono : ∀ i j, i < j → j < u → kf i < kf j := fun i j hij hj => srt_get hs hij (hm.2 i (by omega)) (hm.2 j hj)
  have loop : ∀ (n lo hi : Nat) (mid : Option Value), lo ≤ hi → hi ≤ u → hi - lo ≤ n → (∀ i, i < lo → kf i < key) → (∀ i, hi ≤ i → i < u → ¬ kf i < key) → Wp X Post 7 [some (.ref 15), some (.int key), some (.int (nI lo)), some (.int (nI hi)), mid] [] (wM c B W LG q st op pl rc ep bt (u, kf, vf) h bf z s) := by
    intro n
    induction n with
    | zero =>
      intro lo hi mid h2 h3 h4 h5 h6
      have e : lo = hi := by omega
      subst e
      refine wp_iload_n hX dX5_at_7 rfl ?_
      refine wp_iload_n hX dX5_at_8 rfl ?_
      refine wp_icmp_ge (tgt := 44) hX dX5_at_9 (by decide) (fun _ => ?_) (fun c_ => absurd (nI_le (Nat.le_refl lo) (by omega)) c_)
      refine wp_iload_n hX dX5_at_44 rfl ?_
      refine wp_iret hX dX5_at_45 rfl rfl ?_
      have e : rk m key = lo := rk_char (by rw [hm.1]; exact h3) (fun i x hi hx => by obtain ⟨_, rfl⟩ := hm.get hx; exact h5 i hi) (fun x hx => by obtain ⟨q, rfl⟩ := hm.get hx; exact h6 _ (Nat.le_refl _) q)
      rw [← e]
      exact hp
    | succ n ih =>
      intro lo hi mid h2 h3 h4 h5 h6
      refine wp_iload_n hX dX5_at_7 rfl ?_
      refine wp_iload_n hX dX5_at_8 rfl ?_
      refine wp_icmp_ge (tgt := 44) hX dX5_at_9 (by decide) (fun d0 => ?_) (fun d0 => ?_)
      · have e : lo = hi := by
          have := (nI_leI (a := hi) (b := lo) (by omega) (by omega)).mp d0
          omega
        subst e
        refine wp_iload_n hX dX5_at_44 rfl ?_
        refine wp_iret hX dX5_at_45 rfl rfl ?_
        have e : rk m key = lo := rk_char (by rw [hm.1]; exact h3) (fun i x hi hx => by obtain ⟨_, rfl⟩ := hm.get hx; exact h5 i hi) (fun x hx => by obtain ⟨q, rfl⟩ := hm.get hx; exact h6 _ (Nat.le_refl _) q)
        rw [← e]
        exact hp
      · have hlt : lo < hi := Nat.lt_of_not_le (fun y => d0 (nI_le y (by omega)))
        obtain ⟨md, hmd⟩ : ∃ md, md = (lo + hi) / 2 := ⟨_, rfl⟩
        refine wp_iload_n hX dX5_at_12 rfl ?_
        refine wp_iload_n hX dX5_at_13 rfl ?_
        refine wp_iadd hX dX5_at_14 ?_
        refine wp_iconst (v := 2) hX dX5_at_15 ic_2 ?_
        refine wp_idiv hX dX5_at_16 (by decide) ?_
        refine wp_ti (y := (nI md)) (by rw [nI_add, hmd]; exact pk_div (a := lo + hi) (d := 2) (by omega) (by decide) (by decide)) ?_
        refine wp_istore hX dX5_at_17 (Nat.le_of_ble_eq_true rfl) rfl ?_
        refine wp_aload_n hX dX5_at_19 rfl ?_
        refine wp_get hX dX5_at_20 flX5_14 rfl rfl ?_
        refine wp_iload hX dX5_at_23 rfl ?_
        refine wp_iald hX dX5_at_25 rfl (vp_in_nI (by omega) (by decide)) ?_
        refine wp_ti (y := (kf md)) (by rw [nI_clamp (by omega)]) ?_
        refine wp_iload_n hX dX5_at_26 rfl ?_
        refine wp_icmp_ge (tgt := 38) hX dX5_at_27 (by decide) (fun d => ?_) (fun d => ?_)
        · refine wp_iload hX dX5_at_38 rfl ?_
          refine wp_istore_n hX dX5_at_40 (Nat.le_of_ble_eq_true rfl) rfl ?_
          refine wp_goto (tgt := 7) hX dX5_at_41 (by decide) ?_
          refine ih lo md (some (.int (nI md))) (by omega) (by omega) (by omega) h5 (fun i q1 q2 => ?_)
          rcases Nat.lt_or_ge md i with y | y
          · have := mono md i y q2
            exact fun z => by rw [ilt] at *; rw [ile] at d; omega
          · have : i = md := by omega
            subst this
            exact fun z => by rw [ilt] at z; rw [ile] at d; omega
        · refine wp_iload hX dX5_at_30 rfl ?_
          refine wp_iconst (v := 1) hX dX5_at_32 ic_1 ?_
          refine wp_iadd hX dX5_at_33 ?_
          refine wp_ti (y := (nI (md + 1))) (nI_1 md) ?_
          refine wp_istore_n hX dX5_at_34 (Nat.le_of_ble_eq_true rfl) rfl ?_
          refine wp_goto (tgt := 41) hX dX5_at_35 (by decide) ?_
          refine wp_goto (tgt := 7) hX dX5_at_41 (by decide) ?_
          refine ih (md + 1) hi (some (.int (nI md))) (by omega) (by omega) (by omega) (fun i q1 => ?_) h6
          have hd : kf md < key := by rw [ilt]; rw [ile] at d; omega
          rcases Nat.lt_or_ge i md with y | y
          · exact i_tr (mono i md y (by omega)) hd
          · have : i = md := by omega
            subst this
            exact hd
  refine wp_iconst (v := 0) hX dX5_at_0 ic_0 ?_
  refine wp_istore_n hX dX5_at_1 (Nat.le_of_ble_eq_true rfl) rfl ?_
  refine wp_aload_n hX dX5_at_2 rfl ?_
  refine wp_get hX dX5_at_3 flX5_97 rfl rfl ?_
  refine wp_istore_n hX dX5_at_6 (Nat.le_of_ble_eq_true rfl) rfl ?_
  exact loop u 0 u none (by omega) (by omega) (by omega) (fun i y => by omega) (fun i q1 q2 => by omega)
theorem shD {f : Nat → Int32} {i n : Nat} (hi : 1 ≤ i) (hn : i ≤ n) : upd (va_cpy f f i (i + 1) (n - i)) i (va_cpy f f i (i + 1) (n - i) (i - 1)) = va_cpy f f (i - 1) i (n - (i - 1)) := by
  funext j
  by_cases h1 : j = i
  · rw [h1, pk_us, pk_cpy_out (by omega), pk_cpy_in (by omega) (by omega)]
    congr 1
    omega
  · rw [pk_un h1]
    by_cases h2 : i + 1 ≤ j ∧ j < i + 1 + (n - i)
    · rw [pk_cpy_in h2.1 h2.2, pk_cpy_in (by omega) (by omega)]
      congr 1
      omega
    · rw [pk_cpy_out (by omega), pk_cpy_out (by omega)]
theorem shU {f : Nat → Int32} {k i : Nat} (hi : k ≤ i) : upd (va_cpy f f (k + 1) k (i - k)) i (va_cpy f f (k + 1) k (i - k) (i + 1)) = va_cpy f f (k + 1) k (i + 1 - k) := by
  funext j
  by_cases h1 : j = i
  · rw [h1, pk_us, pk_cpy_out (by omega), pk_cpy_in (by omega) (by omega)]
    congr 1
    omega
  · rw [pk_un h1]
    by_cases h2 : k ≤ j ∧ j < k + (i - k)
    · rw [pk_cpy_in h2.1 h2.2, pk_cpy_in (by omega) (by omega)]
    · rw [pk_cpy_out (by omega), pk_cpy_out (by omega)]
theorem cpy0 {α : Type} (f g : Nat → α) (a b : Nat) : va_cpy f g a b 0 = g := by
  funext j
  rw [pk_cpy_out (by omega)]
set_option maxHeartbeats 4000000 in
set_option maxRecDepth 100000 in
theorem m_bind {v : Int32} (hK : KAm m K) (hs : Srt m) (hu : K.1 < 12000) : MT mdX5_bind [.ref 15, .int key, .int v] (wM c B W LG q st op pl rc ep bt K h bf z s) (fun r σ1 => ∃ K1, r = none ∧ KAm (ins m key v) K1 ∧ σ1 = wM c B W LG q st op pl rc ep bt K1 h bf z s) := by
  refine mp_of [some (.ref 15), some (.int key), some (.int v), none, none] rfl (Nat.le_of_ble_eq_true rfl) (by decide) (fun X Post hX hp => ?_)
  obtain ⟨u, kf, vf⟩ := K
  dsimp only at hu
  have hm : KA m u kf vf := hK
  have hr := rk_b hm (key := key)
  refine wp_aload_n hX dX5_bind_0 rfl ?_
  refine wp_iload_n hX dX5_bind_1 rfl ?_
  refine wp_cv1 hX dX5_bind_2 mlX5_100 ⟨Nat.le_of_ble_eq_true rfl, Nat.le_of_ble_eq_true rfl⟩ (m_at hK hs (Nat.le_of_lt hu)) rfl (Nat.le_of_ble_eq_true rfl) ?_
  refine wp_istore_n hX dX5_bind_5 (Nat.le_of_ble_eq_true rfl) rfl ?_
  refine wp_iload_n hX dX5_bind_6 rfl ?_
  refine wp_aload_n hX dX5_bind_7 rfl ?_
  refine wp_get hX dX5_bind_8 flX5_97 rfl rfl ?_
  have new : lk m key = none → Wp X Post 24 [some (.ref 15), some (.int key), some (.int v), some (.int (nI (rk m key))), none] [] (wM c B W LG q st op pl rc ep bt (u, kf, vf) h bf z s) := by
    intro hn
    have loop : ∀ (r i : Nat), i = rk m key + r → i ≤ u → Wp X Post 30 [some (.ref 15), some (.int key), some (.int v), some (.int (nI (rk m key))), some (.int (nI i))] [] (wM c B W LG q st op pl rc ep bt (u, va_cpy kf kf i (i + 1) (u - i), va_cpy vf vf i (i + 1) (u - i)) h bf z s) := by
      intro r
      induction r with
      | zero =>
        intro i hi hiu
        rw [show i = rk m key by omega]
        refine wp_iload hX dX5_bind_30 rfl ?_
        refine wp_iload_n hX dX5_bind_32 rfl ?_
        refine wp_icmp_le (tgt := 74) hX dX5_bind_33 (by decide) (fun _ => ?_) (fun c_ => absurd (nI_le (Nat.le_refl _) (by omega)) c_)
        refine wp_aload_n hX dX5_bind_74 rfl ?_
        refine wp_get hX dX5_bind_75 flX5_14 rfl rfl ?_
        refine wp_iload_n hX dX5_bind_78 rfl ?_
        refine wp_iload_n hX dX5_bind_79 rfl ?_
        refine wp_iast hX dX5_bind_80 rfl (vp_in_nI (by omega) (by decide)) ?_
        rw [nI_clamp (by omega)]
        refine wp_aload_n hX dX5_bind_81 rfl ?_
        refine wp_dup hX dX5_bind_82 rfl ?_
        refine wp_get hX dX5_bind_83 flX5_97 rfl rfl ?_
        refine wp_iconst (v := 1) hX dX5_bind_86 ic_1 ?_
        refine wp_iadd hX dX5_bind_87 ?_
        refine wp_ti (y := (nI (u + 1))) (nI_1 _) ?_
        refine wp_put hX dX5_bind_88 fwX5_97 rfl (Nat.le_of_ble_eq_true rfl) rfl rfl ?_
        refine wp_aload_n hX dX5_bind_91 rfl ?_
        refine wp_get hX dX5_bind_92 flX5_17 rfl rfl ?_
        refine wp_iload_n hX dX5_bind_95 rfl ?_
        refine wp_iload_n hX dX5_bind_96 rfl ?_
        refine wp_iast hX dX5_bind_97 rfl (vp_in_nI (by omega) (by decide)) ?_
        rw [nI_clamp (by omega)]
        refine wp_vret hX dX5_bind_98 rfl ?_
        exact hp _ _ ⟨(u + 1, _, _), rfl, hm.ins_new hs hn, rfl⟩
      | succ r ih =>
        intro i hi hiu
        have e1 : nI i - 1 = nI (i - 1) := w1 (by omega)
        refine wp_iload hX dX5_bind_30 rfl ?_
        refine wp_iload_n hX dX5_bind_32 rfl ?_
        refine wp_icmp_le (tgt := 74) hX dX5_bind_33 (by decide) (fun c_ => absurd c_ (nI_ge (by omega) (by omega))) (fun _ => ?_)
        refine wp_aload_n hX dX5_bind_36 rfl ?_
        refine wp_get hX dX5_bind_37 flX5_14 rfl rfl ?_
        refine wp_iload hX dX5_bind_40 rfl ?_
        refine wp_aload_n hX dX5_bind_42 rfl ?_
        refine wp_get hX dX5_bind_43 flX5_14 rfl rfl ?_
        refine wp_iload hX dX5_bind_46 rfl ?_
        refine wp_iconst (v := 1) hX dX5_bind_48 ic_1 ?_
        refine wp_isub hX dX5_bind_49 ?_
        refine wp_ti (y := (nI (i - 1))) (e1) ?_
        refine wp_iald hX dX5_bind_50 rfl (vp_in_nI (by omega) (by decide)) ?_
        refine wp_iast hX dX5_bind_51 rfl (vp_in_nI (by omega) (by decide)) ?_
        rw [nI_clamp (show i - 1 < 2 ^ 31 by omega), nI_clamp (show i < 2 ^ 31 by omega)]
        refine wp_aload_n hX dX5_bind_52 rfl ?_
        refine wp_get hX dX5_bind_53 flX5_17 rfl rfl ?_
        refine wp_iload hX dX5_bind_56 rfl ?_
        refine wp_aload_n hX dX5_bind_58 rfl ?_
        refine wp_get hX dX5_bind_59 flX5_17 rfl rfl ?_
        refine wp_iload hX dX5_bind_62 rfl ?_
        refine wp_iconst (v := 1) hX dX5_bind_64 ic_1 ?_
        refine wp_isub hX dX5_bind_65 ?_
        refine wp_ti (y := (nI (i - 1))) (e1) ?_
        refine wp_iald hX dX5_bind_66 rfl (vp_in_nI (by omega) (by decide)) ?_
        refine wp_iast hX dX5_bind_67 rfl (vp_in_nI (by omega) (by decide)) ?_
        rw [nI_clamp (show i - 1 < 2 ^ 31 by omega), nI_clamp (show i < 2 ^ 31 by omega)]
        refine wp_eqW (σ1 := wM c B W LG q st op pl rc ep bt (u, upd (va_cpy kf kf i (i + 1) (u - i)) i (va_cpy kf kf i (i + 1) (u - i) (i - 1)), upd (va_cpy vf vf i (i + 1) (u - i)) i (va_cpy vf vf i (i + 1) (u - i) (i - 1))) h bf z s) rfl ?_
        rw [shD (by omega) hiu, shD (by omega) hiu]
        refine wp_iinc hX dX5_bind_68 ic_m1 rfl (Nat.le_of_ble_eq_true rfl) rfl ?_
        refine wp_goto (tgt := 30) hX dX5_bind_71 (by decide) ?_
        rw [show nI i + -1 = nI (i - 1) from sb_m1 (by omega)]
        have := ih (i - 1) (by omega) (by omega)
        rw [show i - 1 + 1 = i by omega] at this
        exact this
    refine wp_aload_n hX dX5_bind_24 rfl ?_
    refine wp_get hX dX5_bind_25 flX5_97 rfl rfl ?_
    refine wp_istore hX dX5_bind_28 (Nat.le_of_ble_eq_true rfl) rfl ?_
    have := loop (u - rk m key) u (by omega) (Nat.le_refl _)
    rw [Nat.sub_self, cpy0, cpy0] at this
    exact this
  refine wp_icmp_eq (tgt := 24) hX dX5_bind_11 (by decide) (fun d => ?_) (fun d => ?_)
  · have d1 := (nI_eq (a := rk m key) (b := u) (by omega) (by omega)).mp d
    refine new ?_
    cases e : lk m key with
    | none => rfl
    | some w =>
      have := (List.getElem?_eq_some_iff.mp ((lk_some hs).mp e)).1
      rw [hm.1] at this
      omega
  · have d1 : rk m key < u := by
      have : ¬ rk m key = u := fun y => d (by rw [y])
      omega
    refine wp_aload_n hX dX5_bind_14 rfl ?_
    refine wp_get hX dX5_bind_15 flX5_14 rfl rfl ?_
    refine wp_iload_n hX dX5_bind_18 rfl ?_
    refine wp_iald hX dX5_bind_19 rfl (vp_in_nI (by omega) (by decide)) ?_
    refine wp_ti (y := (kf (rk m key))) (by rw [nI_clamp (by omega)]) ?_
    refine wp_iload_n hX dX5_bind_20 rfl ?_
    refine wp_icmp_eq (tgt := 91) hX dX5_bind_21 (by decide) (fun f => ?_) (fun f => ?_)
    · have hh : (lk m key).isSome = true := by rw [← ka_has hm hs]; exact decide_eq_true ⟨d1, f⟩
      refine wp_aload_n hX dX5_bind_91 rfl ?_
      refine wp_get hX dX5_bind_92 flX5_17 rfl rfl ?_
      refine wp_iload_n hX dX5_bind_95 rfl ?_
      refine wp_iload_n hX dX5_bind_96 rfl ?_
      refine wp_iast hX dX5_bind_97 rfl (vp_in_nI (by omega) (by decide)) ?_
      rw [nI_clamp (by omega)]
      refine wp_vret hX dX5_bind_98 rfl ?_
      exact hp _ _ ⟨(u, kf, upd vf (rk m key) v), rfl, hm.ins_old hs hh, rfl⟩
    · refine new ?_
      have : (lk m key).isSome = false := by rw [← ka_has hm hs]; exact decide_eq_false (fun y => f y.2)
      cases e : lk m key with
      | none => rfl
      | some w => rw [e] at this; cases this
set_option maxHeartbeats 4000000 in
set_option maxRecDepth 100000 in
theorem m_unbind (hK : KAm m K) (hs : Srt m) (hu : K.1 ≤ 12000) : MT mdX5_unbind [.ref 15, .int key] (wM c B W LG q st op pl rc ep bt K h bf z s) (fun r σ1 => ∃ K1, r = none ∧ KAm (del m key) K1 ∧ σ1 = wM c B W LG q st op pl rc ep bt K1 h bf z s) := by
  refine mp_of [some (.ref 15), some (.int key), none, none] rfl (Nat.le_of_ble_eq_true rfl) (by decide) (fun X Post hX hp => ?_)
  obtain ⟨u, kf, vf⟩ := K
  dsimp only at hu
  have hm : KA m u kf vf := hK
  have hr := rk_b hm (key := key)
  refine wp_aload_n hX dX5_unbind_0 rfl ?_
  refine wp_iload_n hX dX5_unbind_1 rfl ?_
  refine wp_cv1 hX dX5_unbind_2 mlX5_100 ⟨Nat.le_of_ble_eq_true rfl, Nat.le_of_ble_eq_true rfl⟩ (m_at hK hs hu) rfl (Nat.le_of_ble_eq_true rfl) ?_
  refine wp_istore_n hX dX5_unbind_5 (Nat.le_of_ble_eq_true rfl) rfl ?_
  refine wp_iload_n hX dX5_unbind_6 rfl ?_
  refine wp_aload_n hX dX5_unbind_7 rfl ?_
  refine wp_get hX dX5_unbind_8 flX5_97 rfl rfl ?_
  refine wp_icmp_eq (tgt := 24) hX dX5_unbind_11 (by decide) (fun d => ?_) (fun d => ?_)
  · have d1 := (nI_eq (a := rk m key) (b := u) (by omega) (by omega)).mp d
    have hn : lk m key = none := by
      cases e : lk m key with
      | none => rfl
      | some w =>
        have := (List.getElem?_eq_some_iff.mp ((lk_some hs).mp e)).1
        rw [hm.1] at this
        omega
    refine wp_vret hX dX5_unbind_24 rfl ?_
    exact hp _ _ ⟨(u, kf, vf), rfl, by rw [del_none hn]; exact hm, rfl⟩
  · have d1 : rk m key < u := by
      have : ¬ rk m key = u := fun y => d (by rw [y])
      omega
    refine wp_aload_n hX dX5_unbind_14 rfl ?_
    refine wp_get hX dX5_unbind_15 flX5_14 rfl rfl ?_
    refine wp_iload_n hX dX5_unbind_18 rfl ?_
    refine wp_iald hX dX5_unbind_19 rfl (vp_in_nI (by omega) (by decide)) ?_
    refine wp_ti (y := (kf (rk m key))) (by rw [nI_clamp (by omega)]) ?_
    refine wp_iload_n hX dX5_unbind_20 rfl ?_
    refine wp_icmp_eq (tgt := 25) hX dX5_unbind_21 (by decide) (fun f => ?_) (fun f => ?_)
    · have hh : (lk m key).isSome = true := by rw [← ka_has hm hs]; exact decide_eq_true ⟨d1, f⟩
      have loop : ∀ (r i : Nat), i + r = u - 1 → rk m key ≤ i → Wp X Post 37 [some (.ref 15), some (.int key), some (.int (nI (rk m key))), some (.int (nI i))] [] (wM c B W LG q st op pl rc ep bt (u - 1, va_cpy kf kf (rk m key + 1) (rk m key) (i - rk m key), va_cpy vf vf (rk m key + 1) (rk m key) (i - rk m key)) h bf z s) := by
        intro r
        induction r with
        | zero =>
          intro i hi hki
          rw [show i = u - 1 by omega]
          refine wp_iload_n hX dX5_unbind_37 rfl ?_
          refine wp_aload_n hX dX5_unbind_38 rfl ?_
          refine wp_get hX dX5_unbind_39 flX5_97 rfl rfl ?_
          refine wp_icmp_ge (tgt := 79) hX dX5_unbind_42 (by decide) (fun _ => ?_) (fun c_ => absurd (nI_le (Nat.le_refl _) (by omega)) c_)
          refine wp_vret hX dX5_unbind_79 rfl ?_
          exact hp _ _ ⟨(u - 1, _, _), rfl, hm.del_ hs hh, rfl⟩
        | succ r ih =>
          intro i hi hki
          refine wp_iload_n hX dX5_unbind_37 rfl ?_
          refine wp_aload_n hX dX5_unbind_38 rfl ?_
          refine wp_get hX dX5_unbind_39 flX5_97 rfl rfl ?_
          refine wp_icmp_ge (tgt := 79) hX dX5_unbind_42 (by decide) (fun c_ => absurd c_ (nI_ge (by omega) (by omega))) (fun _ => ?_)
          refine wp_aload_n hX dX5_unbind_45 rfl ?_
          refine wp_get hX dX5_unbind_46 flX5_14 rfl rfl ?_
          refine wp_iload_n hX dX5_unbind_49 rfl ?_
          refine wp_aload_n hX dX5_unbind_50 rfl ?_
          refine wp_get hX dX5_unbind_51 flX5_14 rfl rfl ?_
          refine wp_iload_n hX dX5_unbind_54 rfl ?_
          refine wp_iconst (v := 1) hX dX5_unbind_55 ic_1 ?_
          refine wp_iadd hX dX5_unbind_56 ?_
          refine wp_ti (y := (nI (i + 1))) (nI_1 _) ?_
          refine wp_iald hX dX5_unbind_57 rfl (vp_in_nI (by omega) (by decide)) ?_
          refine wp_iast hX dX5_unbind_58 rfl (vp_in_nI (by omega) (by decide)) ?_
          rw [nI_clamp (show i + 1 < 2 ^ 31 by omega), nI_clamp (show i < 2 ^ 31 by omega)]
          refine wp_aload_n hX dX5_unbind_59 rfl ?_
          refine wp_get hX dX5_unbind_60 flX5_17 rfl rfl ?_
          refine wp_iload_n hX dX5_unbind_63 rfl ?_
          refine wp_aload_n hX dX5_unbind_64 rfl ?_
          refine wp_get hX dX5_unbind_65 flX5_17 rfl rfl ?_
          refine wp_iload_n hX dX5_unbind_68 rfl ?_
          refine wp_iconst (v := 1) hX dX5_unbind_69 ic_1 ?_
          refine wp_iadd hX dX5_unbind_70 ?_
          refine wp_ti (y := (nI (i + 1))) (nI_1 _) ?_
          refine wp_iald hX dX5_unbind_71 rfl (vp_in_nI (by omega) (by decide)) ?_
          refine wp_iast hX dX5_unbind_72 rfl (vp_in_nI (by omega) (by decide)) ?_
          rw [nI_clamp (show i + 1 < 2 ^ 31 by omega), nI_clamp (show i < 2 ^ 31 by omega)]
          refine wp_eqW (σ1 := wM c B W LG q st op pl rc ep bt (u - 1, upd (va_cpy kf kf (rk m key + 1) (rk m key) (i - rk m key)) i (va_cpy kf kf (rk m key + 1) (rk m key) (i - rk m key) (i + 1)), upd (va_cpy vf vf (rk m key + 1) (rk m key) (i - rk m key)) i (va_cpy vf vf (rk m key + 1) (rk m key) (i - rk m key) (i + 1))) h bf z s) rfl ?_
          rw [shU hki, shU hki]
          refine wp_iinc hX dX5_unbind_73 ic_1 rfl (Nat.le_of_ble_eq_true rfl) rfl ?_
          refine wp_goto (tgt := 37) hX dX5_unbind_76 (by decide) ?_
          rw [nI_1]
          exact ih (i + 1) (by omega) (by omega)
      refine wp_aload_n hX dX5_unbind_25 rfl ?_
      refine wp_dup hX dX5_unbind_26 rfl ?_
      refine wp_get hX dX5_unbind_27 flX5_97 rfl rfl ?_
      refine wp_iconst (v := 1) hX dX5_unbind_30 ic_1 ?_
      refine wp_isub hX dX5_unbind_31 ?_
      refine wp_ti (y := (nI (u - 1))) (w1 (by omega)) ?_
      refine wp_put hX dX5_unbind_32 fwX5_97 rfl (Nat.le_of_ble_eq_true rfl) rfl rfl ?_
      refine wp_iload_n hX dX5_unbind_35 rfl ?_
      refine wp_istore_n hX dX5_unbind_36 (Nat.le_of_ble_eq_true rfl) rfl ?_
      have := loop (u - 1 - rk m key) (rk m key) (by omega) (Nat.le_refl _)
      rw [Nat.sub_self, cpy0, cpy0] at this
      exact this
    · have hn : lk m key = none := by
        have : (lk m key).isSome = false := by rw [← ka_has hm hs]; exact decide_eq_false (fun y => f y.2)
        cases e : lk m key with
        | none => rfl
        | some w => rw [e] at this; cases this
      refine wp_vret hX dX5_unbind_24 rfl ?_
      exact hp _ _ ⟨(u, kf, vf), rfl, by rw [del_none hn]; exact hm, rfl⟩
end MO
end
