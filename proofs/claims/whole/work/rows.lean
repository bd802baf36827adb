section
-- ===== PART A: goes FIRST, ahead of the names: the tables' words, and 'selects' of the private methods out of them =====
/-- a private method of a class that the tables say can be made, by its rows of tables_1 -/
def lw_okq (q : MethodName × Nat) : Prop := (q.1.cls ≠ "java/lang/invoke/MethodHandle" ∧ q.1.cls ≠ "java/lang/invoke/VarHandle") ∧ Cond.instantiable q.1.cls q.2 ∈ tables_1 ∧ Cond.privateMethod q.1 ∈ tables_1 ∧ Cond.instanceMethod q.1 ∈ tables_1
theorem lw_p0 : lw_okq (⟨"DesignPages", "refusalOfWriting", "(Z)I"⟩, 7) := ⟨⟨by decide +kernel, by decide +kernel⟩, List.mem_of_getElem? (i := 10) (by decide +kernel), List.mem_of_getElem? (i := 101) (by decide +kernel), List.mem_of_getElem? (i := 102) (by decide +kernel)⟩
theorem lw_p1 : lw_okq (⟨"DesignPages$Reach", "lookAtAll", "(LDesignPages$Pages;I)V"⟩, 1) := ⟨⟨by decide +kernel, by decide +kernel⟩, List.mem_of_getElem? (i := 38) (by decide +kernel), List.mem_of_getElem? (i := 118) (by decide +kernel), List.mem_of_getElem? (i := 119) (by decide +kernel)⟩
theorem lw_p2 : lw_okq (⟨"DesignPages$Pages", "sumOf", "(I)I"⟩, 2) := ⟨⟨by decide +kernel, by decide +kernel⟩, List.mem_of_getElem? (i := 24) (by decide +kernel), List.mem_of_getElem? (i := 134) (by decide +kernel), List.mem_of_getElem? (i := 135) (by decide +kernel)⟩
theorem lw_p3 : lw_okq (⟨"DesignPages$Pages", "tellsVersions", "(I)Z"⟩, 2) := ⟨⟨by decide +kernel, by decide +kernel⟩, List.mem_of_getElem? (i := 24) (by decide +kernel), List.mem_of_getElem? (i := 139) (by decide +kernel), List.mem_of_getElem? (i := 140) (by decide +kernel)⟩
theorem lw_p4 : lw_okq (⟨"DesignPages$Pages", "tellsRightPages", "(III)Z"⟩, 2) := ⟨⟨by decide +kernel, by decide +kernel⟩, List.mem_of_getElem? (i := 24) (by decide +kernel), List.mem_of_getElem? (i := 145) (by decide +kernel), List.mem_of_getElem? (i := 146) (by decide +kernel)⟩
theorem lw_p5 : lw_okq (⟨"DesignPages$Reach", "markTold", "(LDesignPages$Pages;IIII)V"⟩, 1) := ⟨⟨by decide +kernel, by decide +kernel⟩, List.mem_of_getElem? (i := 38) (by decide +kernel), List.mem_of_getElem? (i := 149) (by decide +kernel), List.mem_of_getElem? (i := 150) (by decide +kernel)⟩
theorem lw_p6 : lw_okq (⟨"DesignPages", "writeThing", "(II)Z"⟩, 7) := ⟨⟨by decide +kernel, by decide +kernel⟩, List.mem_of_getElem? (i := 10) (by decide +kernel), List.mem_of_getElem? (i := 163) (by decide +kernel), List.mem_of_getElem? (i := 164) (by decide +kernel)⟩
theorem lw_p7 : lw_okq (⟨"DesignPages", "finishPage", "(I)Z"⟩, 7) := ⟨⟨by decide +kernel, by decide +kernel⟩, List.mem_of_getElem? (i := 10) (by decide +kernel), List.mem_of_getElem? (i := 182) (by decide +kernel), List.mem_of_getElem? (i := 183) (by decide +kernel)⟩
theorem lw_p8 : lw_okq (⟨"DesignPages", "writeVersion", "(III)I"⟩, 7) := ⟨⟨by decide +kernel, by decide +kernel⟩, List.mem_of_getElem? (i := 10) (by decide +kernel), List.mem_of_getElem? (i := 198) (by decide +kernel), List.mem_of_getElem? (i := 199) (by decide +kernel)⟩
theorem lw_p9 : lw_okq (⟨"DesignPages", "writeNode", "(III)Z"⟩, 7) := ⟨⟨by decide +kernel, by decide +kernel⟩, List.mem_of_getElem? (i := 10) (by decide +kernel), List.mem_of_getElem? (i := 202) (by decide +kernel), List.mem_of_getElem? (i := 203) (by decide +kernel)⟩
theorem lw_p10 : lw_okq (⟨"DesignPages", "writeRoot", "(IIII)Z"⟩, 7) := ⟨⟨by decide +kernel, by decide +kernel⟩, List.mem_of_getElem? (i := 10) (by decide +kernel), List.mem_of_getElem? (i := 215) (by decide +kernel), List.mem_of_getElem? (i := 216) (by decide +kernel)⟩
theorem lw_p11 : lw_okq (⟨"DesignPages", "pageOfThing", "(II)I"⟩, 7) := ⟨⟨by decide +kernel, by decide +kernel⟩, List.mem_of_getElem? (i := 10) (by decide +kernel), List.mem_of_getElem? (i := 224) (by decide +kernel), List.mem_of_getElem? (i := 225) (by decide +kernel)⟩
theorem lw_p12 : lw_okq (⟨"DesignPages", "isKept", "(I)Z"⟩, 7) := ⟨⟨by decide +kernel, by decide +kernel⟩, List.mem_of_getElem? (i := 10) (by decide +kernel), List.mem_of_getElem? (i := 233) (by decide +kernel), List.mem_of_getElem? (i := 234) (by decide +kernel)⟩
theorem lw_p13 : lw_okq (⟨"DesignPages", "lookUp", "(II)I"⟩, 7) := ⟨⟨by decide +kernel, by decide +kernel⟩, List.mem_of_getElem? (i := 10) (by decide +kernel), List.mem_of_getElem? (i := 241) (by decide +kernel), List.mem_of_getElem? (i := 242) (by decide +kernel)⟩
theorem lw_p14 : lw_okq (⟨"DesignPages", "refusalOfReading", "(II)I"⟩, 7) := ⟨⟨by decide +kernel, by decide +kernel⟩, List.mem_of_getElem? (i := 10) (by decide +kernel), List.mem_of_getElem? (i := 245) (by decide +kernel), List.mem_of_getElem? (i := 246) (by decide +kernel)⟩
theorem lw_p15 : lw_okq (⟨"DesignPages", "nextThing", "(II)I"⟩, 7) := ⟨⟨by decide +kernel, by decide +kernel⟩, List.mem_of_getElem? (i := 10) (by decide +kernel), List.mem_of_getElem? (i := 257) (by decide +kernel), List.mem_of_getElem? (i := 258) (by decide +kernel)⟩
def lw_privs_1 : List (MethodName × Nat) := [(⟨"DesignPages", "refusalOfWriting", "(Z)I"⟩, 7), (⟨"DesignPages$Reach", "lookAtAll", "(LDesignPages$Pages;I)V"⟩, 1), (⟨"DesignPages$Pages", "sumOf", "(I)I"⟩, 2), (⟨"DesignPages$Pages", "tellsVersions", "(I)Z"⟩, 2), (⟨"DesignPages$Pages", "tellsRightPages", "(III)Z"⟩, 2), (⟨"DesignPages$Reach", "markTold", "(LDesignPages$Pages;IIII)V"⟩, 1), (⟨"DesignPages", "writeThing", "(II)Z"⟩, 7), (⟨"DesignPages", "finishPage", "(I)Z"⟩, 7), (⟨"DesignPages", "writeVersion", "(III)I"⟩, 7), (⟨"DesignPages", "writeNode", "(III)Z"⟩, 7), (⟨"DesignPages", "writeRoot", "(IIII)Z"⟩, 7), (⟨"DesignPages", "pageOfThing", "(II)I"⟩, 7), (⟨"DesignPages", "isKept", "(I)Z"⟩, 7), (⟨"DesignPages", "lookUp", "(II)I"⟩, 7), (⟨"DesignPages", "refusalOfReading", "(II)I"⟩, 7), (⟨"DesignPages", "nextThing", "(II)I"⟩, 7)]
theorem lw_r1 : ∀ q ∈ lw_privs_1, lw_okq q := List.forall_mem_cons.mpr ⟨lw_p0, List.forall_mem_cons.mpr ⟨lw_p1, List.forall_mem_cons.mpr ⟨lw_p2, List.forall_mem_cons.mpr ⟨lw_p3, List.forall_mem_cons.mpr ⟨lw_p4, List.forall_mem_cons.mpr ⟨lw_p5, List.forall_mem_cons.mpr ⟨lw_p6, List.forall_mem_cons.mpr ⟨lw_p7, List.forall_mem_cons.mpr ⟨lw_p8, List.forall_mem_cons.mpr ⟨lw_p9, List.forall_mem_cons.mpr ⟨lw_p10, List.forall_mem_cons.mpr ⟨lw_p11, List.forall_mem_cons.mpr ⟨lw_p12, List.forall_mem_cons.mpr ⟨lw_p13, List.forall_mem_cons.mpr ⟨lw_p14, List.forall_mem_cons.mpr ⟨lw_p15, fun _ h => absurd h List.not_mem_nil⟩⟩⟩⟩⟩⟩⟩⟩⟩⟩⟩⟩⟩⟩⟩⟩
theorem lw_p16 : lw_okq (⟨"DesignPages", "keysOfNewest", "()I"⟩, 7) := ⟨⟨by decide +kernel, by decide +kernel⟩, List.mem_of_getElem? (i := 10) (by decide +kernel), List.mem_of_getElem? (i := 302) (by decide +kernel), List.mem_of_getElem? (i := 303) (by decide +kernel)⟩
theorem lw_p17 : lw_okq (⟨"DesignPagesModel", "reachAll", "()V"⟩, 12) := ⟨⟨by decide +kernel, by decide +kernel⟩, List.mem_of_getElem? (i := 325) (by decide +kernel), List.mem_of_getElem? (i := 380) (by decide +kernel), List.mem_of_getElem? (i := 381) (by decide +kernel)⟩
theorem lw_p18 : lw_okq (⟨"DesignPagesModel", "reach", "(II)V"⟩, 12) := ⟨⟨by decide +kernel, by decide +kernel⟩, List.mem_of_getElem? (i := 325) (by decide +kernel), List.mem_of_getElem? (i := 384) (by decide +kernel), List.mem_of_getElem? (i := 385) (by decide +kernel)⟩
theorem lw_p19 : lw_okq (⟨"DesignPagesModel", "isRight", "(II)Z"⟩, 12) := ⟨⟨by decide +kernel, by decide +kernel⟩, List.mem_of_getElem? (i := 325) (by decide +kernel), List.mem_of_getElem? (i := 388) (by decide +kernel), List.mem_of_getElem? (i := 389) (by decide +kernel)⟩
theorem lw_p20 : lw_okq (⟨"DesignPagesModel", "isKind", "(II)Z"⟩, 12) := ⟨⟨by decide +kernel, by decide +kernel⟩, List.mem_of_getElem? (i := 325) (by decide +kernel), List.mem_of_getElem? (i := 392) (by decide +kernel), List.mem_of_getElem? (i := 393) (by decide +kernel)⟩
theorem lw_p21 : lw_okq (⟨"DesignPagesModel", "at", "(II)I"⟩, 12) := ⟨⟨by decide +kernel, by decide +kernel⟩, List.mem_of_getElem? (i := 325) (by decide +kernel), List.mem_of_getElem? (i := 396) (by decide +kernel), List.mem_of_getElem? (i := 397) (by decide +kernel)⟩
theorem lw_p22 : lw_okq (⟨"DesignPagesModel", "number", "(II)I"⟩, 12) := ⟨⟨by decide +kernel, by decide +kernel⟩, List.mem_of_getElem? (i := 325) (by decide +kernel), List.mem_of_getElem? (i := 400) (by decide +kernel), List.mem_of_getElem? (i := 401) (by decide +kernel)⟩
theorem lw_p23 : lw_okq (⟨"DesignPagesModel", "sum", "(I)I"⟩, 12) := ⟨⟨by decide +kernel, by decide +kernel⟩, List.mem_of_getElem? (i := 325) (by decide +kernel), List.mem_of_getElem? (i := 404) (by decide +kernel), List.mem_of_getElem? (i := 405) (by decide +kernel)⟩
theorem lw_p24 : lw_okq (⟨"DesignPagesModel", "tellsPages", "(II)Z"⟩, 12) := ⟨⟨by decide +kernel, by decide +kernel⟩, List.mem_of_getElem? (i := 325) (by decide +kernel), List.mem_of_getElem? (i := 409) (by decide +kernel), List.mem_of_getElem? (i := 410) (by decide +kernel)⟩
theorem lw_p25 : lw_okq (⟨"DesignPagesModel", "reachNode", "(I)V"⟩, 12) := ⟨⟨by decide +kernel, by decide +kernel⟩, List.mem_of_getElem? (i := 325) (by decide +kernel), List.mem_of_getElem? (i := 414) (by decide +kernel), List.mem_of_getElem? (i := 415) (by decide +kernel)⟩
theorem lw_p26 : lw_okq (⟨"DesignPagesModel", "free", "(I)I"⟩, 12) := ⟨⟨by decide +kernel, by decide +kernel⟩, List.mem_of_getElem? (i := 325) (by decide +kernel), List.mem_of_getElem? (i := 418) (by decide +kernel), List.mem_of_getElem? (i := 419) (by decide +kernel)⟩
theorem lw_p27 : lw_okq (⟨"DesignPagesModel", "empty", "(II)V"⟩, 12) := ⟨⟨by decide +kernel, by decide +kernel⟩, List.mem_of_getElem? (i := 325) (by decide +kernel), List.mem_of_getElem? (i := 422) (by decide +kernel), List.mem_of_getElem? (i := 423) (by decide +kernel)⟩
theorem lw_p28 : lw_okq (⟨"DesignPagesModel", "lay", "(III)V"⟩, 12) := ⟨⟨by decide +kernel, by decide +kernel⟩, List.mem_of_getElem? (i := 325) (by decide +kernel), List.mem_of_getElem? (i := 426) (by decide +kernel), List.mem_of_getElem? (i := 427) (by decide +kernel)⟩
theorem lw_p29 : lw_okq (⟨"DesignPagesModel", "done", "(I)Z"⟩, 12) := ⟨⟨by decide +kernel, by decide +kernel⟩, List.mem_of_getElem? (i := 325) (by decide +kernel), List.mem_of_getElem? (i := 430) (by decide +kernel), List.mem_of_getElem? (i := 431) (by decide +kernel)⟩
theorem lw_p30 : lw_okq (⟨"DesignPagesModel", "putNumber", "(III)V"⟩, 12) := ⟨⟨by decide +kernel, by decide +kernel⟩, List.mem_of_getElem? (i := 325) (by decide +kernel), List.mem_of_getElem? (i := 434) (by decide +kernel), List.mem_of_getElem? (i := 435) (by decide +kernel)⟩
theorem lw_p31 : lw_okq (⟨"DesignPagesModel", "fail", "()V"⟩, 12) := ⟨⟨by decide +kernel, by decide +kernel⟩, List.mem_of_getElem? (i := 325) (by decide +kernel), List.mem_of_getElem? (i := 438) (by decide +kernel), List.mem_of_getElem? (i := 439) (by decide +kernel)⟩
def lw_privs_2 : List (MethodName × Nat) := [(⟨"DesignPages", "keysOfNewest", "()I"⟩, 7), (⟨"DesignPagesModel", "reachAll", "()V"⟩, 12), (⟨"DesignPagesModel", "reach", "(II)V"⟩, 12), (⟨"DesignPagesModel", "isRight", "(II)Z"⟩, 12), (⟨"DesignPagesModel", "isKind", "(II)Z"⟩, 12), (⟨"DesignPagesModel", "at", "(II)I"⟩, 12), (⟨"DesignPagesModel", "number", "(II)I"⟩, 12), (⟨"DesignPagesModel", "sum", "(I)I"⟩, 12), (⟨"DesignPagesModel", "tellsPages", "(II)Z"⟩, 12), (⟨"DesignPagesModel", "reachNode", "(I)V"⟩, 12), (⟨"DesignPagesModel", "free", "(I)I"⟩, 12), (⟨"DesignPagesModel", "empty", "(II)V"⟩, 12), (⟨"DesignPagesModel", "lay", "(III)V"⟩, 12), (⟨"DesignPagesModel", "done", "(I)Z"⟩, 12), (⟨"DesignPagesModel", "putNumber", "(III)V"⟩, 12), (⟨"DesignPagesModel", "fail", "()V"⟩, 12)]
theorem lw_r2 : ∀ q ∈ lw_privs_2, lw_okq q := List.forall_mem_cons.mpr ⟨lw_p16, List.forall_mem_cons.mpr ⟨lw_p17, List.forall_mem_cons.mpr ⟨lw_p18, List.forall_mem_cons.mpr ⟨lw_p19, List.forall_mem_cons.mpr ⟨lw_p20, List.forall_mem_cons.mpr ⟨lw_p21, List.forall_mem_cons.mpr ⟨lw_p22, List.forall_mem_cons.mpr ⟨lw_p23, List.forall_mem_cons.mpr ⟨lw_p24, List.forall_mem_cons.mpr ⟨lw_p25, List.forall_mem_cons.mpr ⟨lw_p26, List.forall_mem_cons.mpr ⟨lw_p27, List.forall_mem_cons.mpr ⟨lw_p28, List.forall_mem_cons.mpr ⟨lw_p29, List.forall_mem_cons.mpr ⟨lw_p30, List.forall_mem_cons.mpr ⟨lw_p31, fun _ h => absurd h List.not_mem_nil⟩⟩⟩⟩⟩⟩⟩⟩⟩⟩⟩⟩⟩⟩⟩⟩
theorem lw_p32 : lw_okq (⟨"DesignPagesModel", "change", "(III)I"⟩, 12) := ⟨⟨by decide +kernel, by decide +kernel⟩, List.mem_of_getElem? (i := 325) (by decide +kernel), List.mem_of_getElem? (i := 442) (by decide +kernel), List.mem_of_getElem? (i := 443) (by decide +kernel)⟩
theorem lw_p33 : lw_okq (⟨"DesignPagesModel", "hasVersion", "()Z"⟩, 12) := ⟨⟨by decide +kernel, by decide +kernel⟩, List.mem_of_getElem? (i := 325) (by decide +kernel), List.mem_of_getElem? (i := 446) (by decide +kernel), List.mem_of_getElem? (i := 447) (by decide +kernel)⟩
theorem lw_p34 : lw_okq (⟨"DesignPagesModel", "nodeOf", "(II)I"⟩, 12) := ⟨⟨by decide +kernel, by decide +kernel⟩, List.mem_of_getElem? (i := 325) (by decide +kernel), List.mem_of_getElem? (i := 450) (by decide +kernel), List.mem_of_getElem? (i := 451) (by decide +kernel)⟩
theorem lw_p35 : lw_okq (⟨"DesignPagesModel", "copy", "(II)V"⟩, 12) := ⟨⟨by decide +kernel, by decide +kernel⟩, List.mem_of_getElem? (i := 325) (by decide +kernel), List.mem_of_getElem? (i := 454) (by decide +kernel), List.mem_of_getElem? (i := 455) (by decide +kernel)⟩
theorem lw_p36 : lw_okq (⟨"DesignPagesModel", "isKept", "(I)Z"⟩, 12) := ⟨⟨by decide +kernel, by decide +kernel⟩, List.mem_of_getElem? (i := 325) (by decide +kernel), List.mem_of_getElem? (i := 466) (by decide +kernel), List.mem_of_getElem? (i := 467) (by decide +kernel)⟩
theorem lw_p37 : lw_okq (⟨"DesignPagesModel", "thingOf", "(II)I"⟩, 12) := ⟨⟨by decide +kernel, by decide +kernel⟩, List.mem_of_getElem? (i := 325) (by decide +kernel), List.mem_of_getElem? (i := 474) (by decide +kernel), List.mem_of_getElem? (i := 475) (by decide +kernel)⟩
theorem lw_p38 : lw_okq (⟨"DesignPagesModel", "isByte", "(II)Z"⟩, 12) := ⟨⟨by decide +kernel, by decide +kernel⟩, List.mem_of_getElem? (i := 325) (by decide +kernel), List.mem_of_getElem? (i := 498) (by decide +kernel), List.mem_of_getElem? (i := 499) (by decide +kernel)⟩
theorem lw_p39 : lw_okq (⟨"DesignPagesModel", "freePages", "()I"⟩, 12) := ⟨⟨by decide +kernel, by decide +kernel⟩, List.mem_of_getElem? (i := 325) (by decide +kernel), List.mem_of_getElem? (i := 514) (by decide +kernel), List.mem_of_getElem? (i := 515) (by decide +kernel)⟩
theorem lw_p40 : lw_okq (⟨"DesignPagesModel", "keys", "()I"⟩, 12) := ⟨⟨by decide +kernel, by decide +kernel⟩, List.mem_of_getElem? (i := 325) (by decide +kernel), List.mem_of_getElem? (i := 518) (by decide +kernel), List.mem_of_getElem? (i := 519) (by decide +kernel)⟩
def lw_privs_3 : List (MethodName × Nat) := [(⟨"DesignPagesModel", "change", "(III)I"⟩, 12), (⟨"DesignPagesModel", "hasVersion", "()Z"⟩, 12), (⟨"DesignPagesModel", "nodeOf", "(II)I"⟩, 12), (⟨"DesignPagesModel", "copy", "(II)V"⟩, 12), (⟨"DesignPagesModel", "isKept", "(I)Z"⟩, 12), (⟨"DesignPagesModel", "thingOf", "(II)I"⟩, 12), (⟨"DesignPagesModel", "isByte", "(II)Z"⟩, 12), (⟨"DesignPagesModel", "freePages", "()I"⟩, 12), (⟨"DesignPagesModel", "keys", "()I"⟩, 12)]
theorem lw_r3 : ∀ q ∈ lw_privs_3, lw_okq q := List.forall_mem_cons.mpr ⟨lw_p32, List.forall_mem_cons.mpr ⟨lw_p33, List.forall_mem_cons.mpr ⟨lw_p34, List.forall_mem_cons.mpr ⟨lw_p35, List.forall_mem_cons.mpr ⟨lw_p36, List.forall_mem_cons.mpr ⟨lw_p37, List.forall_mem_cons.mpr ⟨lw_p38, List.forall_mem_cons.mpr ⟨lw_p39, List.forall_mem_cons.mpr ⟨lw_p40, fun _ h => absurd h List.not_mem_nil⟩⟩⟩⟩⟩⟩⟩⟩⟩
def lw_privs : List (MethodName × Nat) := lw_privs_1 ++ (lw_privs_2 ++ (lw_privs_3))
def lw_tbl : List Cond := k2_sels lw_privs ++ tables_1
theorem lw_privs_ok : ∀ q ∈ lw_privs, lw_okq q := by
  show ∀ q ∈ lw_privs_1 ++ (lw_privs_2 ++ (lw_privs_3)), lw_okq q
  exact List.forall_mem_append.mpr ⟨lw_r1, List.forall_mem_append.mpr ⟨lw_r2, lw_r3⟩⟩
end
section
/-! ===== BEGIN words of one list among another's, by their places ===== -/
theorem goodIn_r {big : List Cond} (ws : List Cond) (ps : List Nat) (hp : ws = ps.filterMap (fun i => big[i]?)) (h : ws.all goodWord = true) : GoodIn big ws := by
  intro w hw
  have h1 := List.all_eq_true.mp h w hw
  rw [hp] at hw
  obtain ⟨i, -, hi⟩ := List.mem_filterMap.mp hw
  have hm : w ∈ big := by first | exact List.mem_of_getElem? hi | exact List.getElem?_mem hi
  exact ⟨hm, good_of_word h1⟩
theorem goodIn_app {big a b : List Cond} (ha : GoodIn big a) (hb : GoodIn big b) : GoodIn big (a ++ b) := fun w h => (List.mem_append.mp h).elim (ha w) (hb w)
theorem goodIn_ca {big a b : List Cond} {c : Cond} (ha : GoodIn big (c :: a)) (hb : GoodIn big b) : GoodIn big (c :: (a ++ b)) := fun w h => (List.mem_cons.mp h).elim (fun e => ha w (List.mem_cons.mpr (Or.inl e))) (fun h => (List.mem_append.mp h).elim (fun h => ha w (List.mem_cons.mpr (Or.inr h))) (hb w))
theorem goodIn_sub {big ws : List Cond} (hm : ∀ w ∈ ws, w ∈ big) (h : ws.all goodWord = true) : GoodIn big ws := fun w hw => ⟨hm w hw, good_of_word (List.all_eq_true.mp h w hw)⟩
/-! ===== END ===== -/

/-! ===== BEGIN printed: names, fields, word lists, decode rows ===== -/
def RX0 : String := "DesignPages$Pages"
def TX0 : u_T := fun k => match k with
  | 0 => ("DesignPages$Pages", "amount", "I", true)
  | _ => ("DesignPages$Pages", "bytes", "[I", true)
def tyX0 : Nat → FieldType := fun k => match k with
  | 0 => .int
  | _ => .array .int
abbrev wsX00 : List Cond := u_ws RX0 TX0 2
theorem nmX0 : ∀ a, a < 2 → ∀ b, b < 2 → a ≠ b → (TX0 a).2.1 ≠ (TX0 b).2.1 := by decide +kernel
theorem tyX0_ok : ∀ k, k < 2 → parseFieldDescriptor (TX0 k).2.2.1 = some (tyX0 k) := by decide +kernel
abbrev cX0_init : ByteArray := prog_2_method_1_code
def yX0_init : MethodName := ⟨RX0, "<init>", "(I)V"⟩
abbrev cX0_has : ByteArray := prog_2_method_2_code
def yX0_has : MethodName := ⟨RX0, "has", "(II)Z"⟩
abbrev cX0_at : ByteArray := prog_2_method_3_code
def yX0_at : MethodName := ⟨RX0, "at", "(II)I"⟩
abbrev cX0_set : ByteArray := prog_2_method_4_code
def yX0_set : MethodName := ⟨RX0, "set", "(III)V"⟩
abbrev cX0_numberAt : ByteArray := prog_2_method_5_code
def yX0_numberAt : MethodName := ⟨RX0, "numberAt", "(II)I"⟩
abbrev cX0_setNumber : ByteArray := prog_2_method_6_code
def yX0_setNumber : MethodName := ⟨RX0, "setNumber", "(III)V"⟩
abbrev cX0_begin : ByteArray := prog_2_method_7_code
def yX0_begin : MethodName := ⟨RX0, "begin", "(II)V"⟩
abbrev cX0_copy : ByteArray := prog_2_method_8_code
def yX0_copy : MethodName := ⟨RX0, "copy", "(II)V"⟩
abbrev cX0_seal : ByteArray := prog_2_method_9_code
def yX0_seal : MethodName := ⟨RX0, "seal", "(I)V"⟩
abbrev cX0_isRight : ByteArray := prog_2_method_10_code
def yX0_isRight : MethodName := ⟨RX0, "isRight", "(II)Z"⟩
abbrev cX0_pagesTold : ByteArray := prog_2_method_11_code
def yX0_pagesTold : MethodName := ⟨RX0, "pagesTold", "(III)I"⟩
abbrev cX0_sumOf : ByteArray := prog_2_method_12_code
def yX0_sumOf : MethodName := ⟨RX0, "sumOf", "(I)I"⟩
abbrev cX0_tellsVersions : ByteArray := prog_2_method_13_code
def yX0_tellsVersions : MethodName := ⟨RX0, "tellsVersions", "(I)Z"⟩
abbrev cX0_tellsRightPages : ByteArray := prog_2_method_14_code
def yX0_tellsRightPages : MethodName := ⟨RX0, "tellsRightPages", "(III)Z"⟩
def RX1 : String := "DesignPages$Power"
def TX1 : u_T := fun k => match k with
  | 0 => ("DesignPages$Power", "off", "Z", false)
  | 1 => ("DesignPages$Power", "pagesLeft", "I", false)
  | _ => ("DesignPages$Power", "used", "I", false)
def tyX1 : Nat → FieldType := fun k => match k with
  | 0 => .boolean
  | 1 => .int
  | _ => .int
abbrev wsX10 : List Cond := u_ws RX1 TX1 3
theorem nmX1 : ∀ a, a < 3 → ∀ b, b < 3 → a ≠ b → (TX1 a).2.1 ≠ (TX1 b).2.1 := by decide +kernel
theorem tyX1_ok : ∀ k, k < 3 → parseFieldDescriptor (TX1 k).2.2.1 = some (tyX1 k) := by decide +kernel
abbrev cX1_init : ByteArray := prog_3_method_1_code
def yX1_init : MethodName := ⟨RX1, "<init>", "()V"⟩
abbrev cX1_isOff : ByteArray := prog_3_method_2_code
def yX1_isOff : MethodName := ⟨RX1, "isOff", "()Z"⟩
abbrev cX1_pagesWritten : ByteArray := prog_3_method_3_code
def yX1_pagesWritten : MethodName := ⟨RX1, "pagesWritten", "()I"⟩
abbrev cX1_failAfter : ByteArray := prog_3_method_4_code
def yX1_failAfter : MethodName := ⟨RX1, "failAfter", "(I)V"⟩
abbrev cX1_usePage : ByteArray := prog_3_method_5_code
def yX1_usePage : MethodName := ⟨RX1, "usePage", "()V"⟩
abbrev cX1_restore : ByteArray := prog_3_method_6_code
def yX1_restore : MethodName := ⟨RX1, "restore", "()V"⟩
def RX2 : String := "DesignPages$Reach"
def TX2 : u_T := fun k => match k with
  | _ => ("DesignPages$Reach", "marks", "[I", true)
def tyX2 : Nat → FieldType := fun k => match k with
  | _ => .array .int
abbrev wsX20 : List Cond := u_ws RX2 TX2 1
theorem nmX2 : ∀ a, a < 1 → ∀ b, b < 1 → a ≠ b → (TX2 a).2.1 ≠ (TX2 b).2.1 := by decide +kernel
theorem tyX2_ok : ∀ k, k < 1 → parseFieldDescriptor (TX2 k).2.2.1 = some (tyX2 k) := by decide +kernel
abbrev cX2_init : ByteArray := prog_4_method_1_code
def yX2_init : MethodName := ⟨RX2, "<init>", "(I)V"⟩
abbrev cX2_walk : ByteArray := prog_4_method_2_code
def yX2_walk : MethodName := ⟨RX2, "walk", "(LDesignPages$Pages;II)V"⟩
abbrev cX2_leastBad : ByteArray := prog_4_method_3_code
def yX2_leastBad : MethodName := ⟨RX2, "leastBad", "()I"⟩
abbrev cX2_freePages : ByteArray := prog_4_method_4_code
def yX2_freePages : MethodName := ⟨RX2, "freePages", "()I"⟩
abbrev cX2_freeFrom : ByteArray := prog_4_method_5_code
def yX2_freeFrom : MethodName := ⟨RX2, "freeFrom", "(I)I"⟩
abbrev cX2_markOf : ByteArray := prog_4_method_6_code
def yX2_markOf : MethodName := ⟨RX2, "markOf", "(I)I"⟩
abbrev cX2_lookAtAll : ByteArray := prog_4_method_7_code
def yX2_lookAtAll : MethodName := ⟨RX2, "lookAtAll", "(LDesignPages$Pages;I)V"⟩
abbrev cX2_markTold : ByteArray := prog_4_method_8_code
def yX2_markTold : MethodName := ⟨RX2, "markTold", "(LDesignPages$Pages;IIII)V"⟩
def RX3 : String := "DesignPages"
def TX3 : u_T := fun k => match k with
  | 0 => ("DesignPages", "disk", "LDesignPages$Pages;", true)
  | 1 => ("DesignPages", "reach", "LDesignPages$Reach;", true)
  | 2 => ("DesignPages", "power", "LDesignPages$Power;", true)
  | 3 => ("DesignPages", "typed", "[I", true)
  | 4 => ("DesignPages", "typedCount", "I", false)
  | 5 => ("DesignPages", "newest", "I", false)
  | _ => ("DesignPages", "oldest", "I", false)
def tyX3 : Nat → FieldType := fun k => match k with
  | 0 => .object "DesignPages$Pages"
  | 1 => .object "DesignPages$Reach"
  | 2 => .object "DesignPages$Power"
  | 3 => .array .int
  | 4 => .int
  | 5 => .int
  | _ => .int
abbrev wsX30 : List Cond := u_ws RX3 TX3 7
theorem nmX3 : ∀ a, a < 7 → ∀ b, b < 7 → a ≠ b → (TX3 a).2.1 ≠ (TX3 b).2.1 := by decide +kernel
theorem tyX3_ok : ∀ k, k < 7 → parseFieldDescriptor (TX3 k).2.2.1 = some (tyX3 k) := by decide +kernel
abbrev cX3_init : ByteArray := prog_1_method_1_code
def yX3_init : MethodName := ⟨RX3, "<init>", "(I)V"⟩
abbrev cX3_type : ByteArray := prog_1_method_2_code
def yX3_type : MethodName := ⟨RX3, "type", "(I)I"⟩
abbrev cX3_put : ByteArray := prog_1_method_3_code
def yX3_put : MethodName := ⟨RX3, "put", "(I)I"⟩
abbrev cX3_remove : ByteArray := prog_1_method_4_code
def yX3_remove : MethodName := ⟨RX3, "remove", "(I)I"⟩
abbrev cX3_drop : ByteArray := prog_1_method_5_code
def yX3_drop : MethodName := ⟨RX3, "drop", "(I)I"⟩
abbrev cX3_length : ByteArray := prog_1_method_6_code
def yX3_length : MethodName := ⟨RX3, "length", "(II)I"⟩
abbrev cX3_find : ByteArray := prog_1_method_7_code
def yX3_find : MethodName := ⟨RX3, "find", "(III)I"⟩
abbrev cX3_next : ByteArray := prog_1_method_8_code
def yX3_next : MethodName := ⟨RX3, "next", "(II)I"⟩
abbrev cX3_crash : ByteArray := prog_1_method_9_code
def yX3_crash : MethodName := ⟨RX3, "crash", "(I)I"⟩
abbrev cX3_reopen : ByteArray := prog_1_method_10_code
def yX3_reopen : MethodName := ⟨RX3, "reopen", "()I"⟩
abbrev cX3_poke : ByteArray := prog_1_method_11_code
def yX3_poke : MethodName := ⟨RX3, "poke", "(III)I"⟩
abbrev cX3_byteAt : ByteArray := prog_1_method_12_code
def yX3_byteAt : MethodName := ⟨RX3, "byteAt", "(II)I"⟩
abbrev cX3_badAt : ByteArray := prog_1_method_13_code
def yX3_badAt : MethodName := ⟨RX3, "badAt", "()I"⟩
abbrev cX3_count : ByteArray := prog_1_method_14_code
def yX3_count : MethodName := ⟨RX3, "count", "(I)I"⟩
abbrev cX3_written : ByteArray := prog_1_method_15_code
def yX3_written : MethodName := ⟨RX3, "written", "()I"⟩
abbrev cX3_isDown : ByteArray := prog_1_method_16_code
def yX3_isDown : MethodName := ⟨RX3, "isDown", "()Z"⟩
abbrev cX3_isKey : ByteArray := prog_1_method_17_code
def yX3_isKey : MethodName := ⟨RX3, "isKey", "(I)Z"⟩
abbrev cX3_pageOfRoot : ByteArray := prog_1_method_18_code
def yX3_pageOfRoot : MethodName := ⟨RX3, "pageOfRoot", "(I)I"⟩
abbrev cX3_isKept : ByteArray := prog_1_method_19_code
def yX3_isKept : MethodName := ⟨RX3, "isKept", "(I)Z"⟩
abbrev cX3_refusalOfWriting : ByteArray := prog_1_method_20_code
def yX3_refusalOfWriting : MethodName := ⟨RX3, "refusalOfWriting", "(Z)I"⟩
abbrev cX3_refusalOfReading : ByteArray := prog_1_method_21_code
def yX3_refusalOfReading : MethodName := ⟨RX3, "refusalOfReading", "(II)I"⟩
abbrev cX3_lookUp : ByteArray := prog_1_method_22_code
def yX3_lookUp : MethodName := ⟨RX3, "lookUp", "(II)I"⟩
abbrev cX3_pageOfThing : ByteArray := prog_1_method_23_code
def yX3_pageOfThing : MethodName := ⟨RX3, "pageOfThing", "(II)I"⟩
abbrev cX3_nextThing : ByteArray := prog_1_method_24_code
def yX3_nextThing : MethodName := ⟨RX3, "nextThing", "(II)I"⟩
abbrev cX3_keysOfNewest : ByteArray := prog_1_method_25_code
def yX3_keysOfNewest : MethodName := ⟨RX3, "keysOfNewest", "()I"⟩
abbrev cX3_writeThing : ByteArray := prog_1_method_26_code
def yX3_writeThing : MethodName := ⟨RX3, "writeThing", "(II)Z"⟩
abbrev cX3_writeVersion : ByteArray := prog_1_method_27_code
def yX3_writeVersion : MethodName := ⟨RX3, "writeVersion", "(III)I"⟩
abbrev cX3_writeNode : ByteArray := prog_1_method_28_code
def yX3_writeNode : MethodName := ⟨RX3, "writeNode", "(III)Z"⟩
abbrev cX3_writeRoot : ByteArray := prog_1_method_29_code
def yX3_writeRoot : MethodName := ⟨RX3, "writeRoot", "(IIII)Z"⟩
abbrev cX3_finishPage : ByteArray := prog_1_method_30_code
def yX3_finishPage : MethodName := ⟨RX3, "finishPage", "(I)Z"⟩
def RX4 : String := "DesignPagesModel"
def TX4 : u_T := fun k => match k with
  | 0 => ("DesignPagesModel", "code", "I", false)
  | 1 => ("DesignPagesModel", "pages", "I", true)
  | 2 => ("DesignPagesModel", "bytes", "[I", true)
  | 3 => ("DesignPagesModel", "newest", "I", false)
  | 4 => ("DesignPagesModel", "oldest", "I", false)
  | 5 => ("DesignPagesModel", "down", "Z", false)
  | 6 => ("DesignPagesModel", "left", "I", false)
  | 7 => ("DesignPagesModel", "written", "I", false)
  | 8 => ("DesignPagesModel", "typed", "I", false)
  | 9 => ("DesignPagesModel", "types", "[I", true)
  | 10 => ("DesignPagesModel", "reached", "[Z", true)
  | _ => ("DesignPagesModel", "bad", "I", false)
def tyX4 : Nat → FieldType := fun k => match k with
  | 0 => .int
  | 1 => .int
  | 2 => .array .int
  | 3 => .int
  | 4 => .int
  | 5 => .boolean
  | 6 => .int
  | 7 => .int
  | 8 => .int
  | 9 => .array .int
  | 10 => .array .boolean
  | _ => .int
abbrev wsX40 : List Cond := u_ws RX4 TX4 12
theorem nmX4 : ∀ a, a < 12 → ∀ b, b < 12 → a ≠ b → (TX4 a).2.1 ≠ (TX4 b).2.1 := by decide +kernel
theorem tyX4_ok : ∀ k, k < 12 → parseFieldDescriptor (TX4 k).2.2.1 = some (tyX4 k) := by decide +kernel
abbrev cX4_init : ByteArray := prog_6_method_1_code
def yX4_init : MethodName := ⟨RX4, "<init>", "(I)V"⟩
abbrev cX4_at : ByteArray := prog_6_method_3_code
def yX4_at : MethodName := ⟨RX4, "at", "(II)I"⟩
abbrev cX4_number : ByteArray := prog_6_method_4_code
def yX4_number : MethodName := ⟨RX4, "number", "(II)I"⟩
abbrev cX4_lay : ByteArray := prog_6_method_5_code
def yX4_lay : MethodName := ⟨RX4, "lay", "(III)V"⟩
abbrev cX4_putNumber : ByteArray := prog_6_method_6_code
def yX4_putNumber : MethodName := ⟨RX4, "putNumber", "(III)V"⟩
abbrev cX4_sum : ByteArray := prog_6_method_7_code
def yX4_sum : MethodName := ⟨RX4, "sum", "(I)I"⟩
abbrev cX4_isKind : ByteArray := prog_6_method_8_code
def yX4_isKind : MethodName := ⟨RX4, "isKind", "(II)Z"⟩
abbrev cX4_tellsPages : ByteArray := prog_6_method_9_code
def yX4_tellsPages : MethodName := ⟨RX4, "tellsPages", "(II)Z"⟩
abbrev cX4_isRight : ByteArray := prog_6_method_10_code
def yX4_isRight : MethodName := ⟨RX4, "isRight", "(II)Z"⟩
abbrev cX4_reach : ByteArray := prog_6_method_11_code
def yX4_reach : MethodName := ⟨RX4, "reach", "(II)V"⟩
abbrev cX4_reachNode : ByteArray := prog_6_method_12_code
def yX4_reachNode : MethodName := ⟨RX4, "reachNode", "(I)V"⟩
abbrev cX4_reachAll : ByteArray := prog_6_method_13_code
def yX4_reachAll : MethodName := ⟨RX4, "reachAll", "()V"⟩
abbrev cX4_free : ByteArray := prog_6_method_14_code
def yX4_free : MethodName := ⟨RX4, "free", "(I)I"⟩
abbrev cX4_empty : ByteArray := prog_6_method_15_code
def yX4_empty : MethodName := ⟨RX4, "empty", "(II)V"⟩
abbrev cX4_copy : ByteArray := prog_6_method_16_code
def yX4_copy : MethodName := ⟨RX4, "copy", "(II)V"⟩
abbrev cX4_done : ByteArray := prog_6_method_17_code
def yX4_done : MethodName := ⟨RX4, "done", "(I)Z"⟩
abbrev cX4_fail : ByteArray := prog_6_method_18_code
def yX4_fail : MethodName := ⟨RX4, "fail", "()V"⟩
abbrev cX4_hasVersion : ByteArray := prog_6_method_19_code
def yX4_hasVersion : MethodName := ⟨RX4, "hasVersion", "()Z"⟩
abbrev cX4_nodeOf : ByteArray := prog_6_method_20_code
def yX4_nodeOf : MethodName := ⟨RX4, "nodeOf", "(II)I"⟩
abbrev cX4_change : ByteArray := prog_6_method_21_code
def yX4_change : MethodName := ⟨RX4, "change", "(III)I"⟩
abbrev cX4_isKey : ByteArray := prog_6_method_22_code
def yX4_isKey : MethodName := ⟨RX4, "isKey", "(I)Z"⟩
abbrev cX4_type : ByteArray := prog_6_method_23_code
def yX4_type : MethodName := ⟨RX4, "type", "(I)I"⟩
abbrev cX4_put : ByteArray := prog_6_method_24_code
def yX4_put : MethodName := ⟨RX4, "put", "(I)I"⟩
abbrev cX4_remove : ByteArray := prog_6_method_25_code
def yX4_remove : MethodName := ⟨RX4, "remove", "(I)I"⟩
abbrev cX4_isKept : ByteArray := prog_6_method_26_code
def yX4_isKept : MethodName := ⟨RX4, "isKept", "(I)Z"⟩
abbrev cX4_drop : ByteArray := prog_6_method_27_code
def yX4_drop : MethodName := ⟨RX4, "drop", "(I)I"⟩
abbrev cX4_thingOf : ByteArray := prog_6_method_28_code
def yX4_thingOf : MethodName := ⟨RX4, "thingOf", "(II)I"⟩
abbrev cX4_length : ByteArray := prog_6_method_29_code
def yX4_length : MethodName := ⟨RX4, "length", "(II)I"⟩
abbrev cX4_find : ByteArray := prog_6_method_30_code
def yX4_find : MethodName := ⟨RX4, "find", "(III)I"⟩
abbrev cX4_next : ByteArray := prog_6_method_31_code
def yX4_next : MethodName := ⟨RX4, "next", "(II)I"⟩
abbrev cX4_crash : ByteArray := prog_6_method_32_code
def yX4_crash : MethodName := ⟨RX4, "crash", "(I)I"⟩
abbrev cX4_reopen : ByteArray := prog_6_method_33_code
def yX4_reopen : MethodName := ⟨RX4, "reopen", "()I"⟩
abbrev cX4_isByte : ByteArray := prog_6_method_34_code
def yX4_isByte : MethodName := ⟨RX4, "isByte", "(II)Z"⟩
abbrev cX4_poke : ByteArray := prog_6_method_35_code
def yX4_poke : MethodName := ⟨RX4, "poke", "(III)I"⟩
abbrev cX4_byteAt : ByteArray := prog_6_method_36_code
def yX4_byteAt : MethodName := ⟨RX4, "byteAt", "(II)I"⟩
abbrev cX4_badAt : ByteArray := prog_6_method_37_code
def yX4_badAt : MethodName := ⟨RX4, "badAt", "()I"⟩
abbrev cX4_freePages : ByteArray := prog_6_method_38_code
def yX4_freePages : MethodName := ⟨RX4, "freePages", "()I"⟩
abbrev cX4_keys : ByteArray := prog_6_method_39_code
def yX4_keys : MethodName := ⟨RX4, "keys", "()I"⟩
abbrev cX4_count : ByteArray := prog_6_method_40_code
def yX4_count : MethodName := ⟨RX4, "count", "(I)I"⟩
abbrev cX4_written : ByteArray := prog_6_method_41_code
def yX4_written : MethodName := ⟨RX4, "written", "()I"⟩
abbrev cX4_isDown : ByteArray := prog_6_method_42_code
def yX4_isDown : MethodName := ⟨RX4, "isDown", "()Z"⟩
def RJ9 : String := "java/lang/Math"
def TJ9 : u_T := fun k => match k with
  | _ => ("", "", "", false)
def tyJ9 : Nat → FieldType := fun k => match k with
  | _ => .int
abbrev wsJ90 : List Cond := u_ws RJ9 TJ9 0
theorem nmJ9 : ∀ a, a < 0 → ∀ b, b < 0 → a ≠ b → (TJ9 a).2.1 ≠ (TJ9 b).2.1 := by decide +kernel
theorem tyJ9_ok : ∀ k, k < 0 → parseFieldDescriptor (TJ9 k).2.2.1 = some (tyJ9 k) := by decide +kernel
abbrev cJ9_max_7cf53 : ByteArray := prog_7_method_65_code
def yJ9_max_7cf53 : MethodName := ⟨RJ9, "max", "(II)I"⟩
abbrev cJ9_min_7cf53 : ByteArray := prog_7_method_69_code
def yJ9_min_7cf53 : MethodName := ⟨RJ9, "min", "(II)I"⟩
def RJ10 : String := "java/lang/System"
def TJ10 : u_T := fun k => match k with
  | _ => ("", "", "", false)
def tyJ10 : Nat → FieldType := fun k => match k with
  | _ => .int
abbrev wsJ100 : List Cond := u_ws RJ10 TJ10 0
theorem nmJ10 : ∀ a, a < 0 → ∀ b, b < 0 → a ≠ b → (TJ10 a).2.1 ≠ (TJ10 b).2.1 := by decide +kernel
theorem tyJ10_ok : ∀ k, k < 0 → parseFieldDescriptor (TJ10 k).2.2.1 = some (tyJ10 k) := by decide +kernel
def RJ7 : String := "java/util/Arrays"
def TJ7 : u_T := fun k => match k with
  | _ => ("", "", "", false)
def tyJ7 : Nat → FieldType := fun k => match k with
  | _ => .int
abbrev wsJ70 : List Cond := u_ws RJ7 TJ7 0
theorem nmJ7 : ∀ a, a < 0 → ∀ b, b < 0 → a ≠ b → (TJ7 a).2.1 ≠ (TJ7 b).2.1 := by decide +kernel
theorem tyJ7_ok : ∀ k, k < 0 → parseFieldDescriptor (TJ7 k).2.2.1 = some (tyJ7 k) := by decide +kernel
abbrev cJ7_rangeCheck_23922 : ByteArray := prog_9_method_30_code
def yJ7_rangeCheck_23922 : MethodName := ⟨RJ7, "rangeCheck", "(III)V"⟩
abbrev cJ7_fill_53178 : ByteArray := prog_9_method_103_code
def yJ7_fill_53178 : MethodName := ⟨RJ7, "fill", "([II)V"⟩
abbrev cJ7_fill_fda19 : ByteArray := prog_9_method_104_code
def yJ7_fill_fda19 : MethodName := ⟨RJ7, "fill", "([IIII)V"⟩
def RL : String := "DesignPagesLaw"
abbrev cL_cell : ByteArray := method_2_code
def yL_cell : MethodName := ⟨RL, "cell", "([II)I"⟩
abbrev cL_law : ByteArray := code
def yL_law : MethodName := ⟨RL, "law", "([I)Z"⟩
def wsX0_init : List Cond := .code yX0_init cX0_init 2 none :: ([.methodLink RX0 3 objectInit, .instanceMethod objectInit, .code objectInit ⟨#[0xb1]⟩ 1 none, .fieldLink RX0 9 "DesignPages$Pages" "amount" "I", .arrayClass .int, .fieldLink RX0 15 "DesignPages$Pages" "bytes" "[I"] ++ wsX00)
def wsX0_has : List Cond := .code yX0_has cX0_has 3 (some .boolean) :: ([.fieldLink RX0 9 "DesignPages$Pages" "amount" "I"] ++ wsX00)
def wsX0_at : List Cond := .code yX0_at cX0_at 3 (some .int) :: ([.fieldLink RX0 15 "DesignPages$Pages" "bytes" "[I"] ++ wsX00)
def wsX0_set : List Cond := .code yX0_set cX0_set 4 none :: ([.fieldLink RX0 15 "DesignPages$Pages" "bytes" "[I"] ++ wsX00)
def wsX0_numberAt : List Cond := .code yX0_numberAt cX0_numberAt 4 (some .int) :: ([.fieldLink RX0 15 "DesignPages$Pages" "bytes" "[I"] ++ wsX00)
def wsX0_setNumber : List Cond := .code yX0_setNumber cX0_setNumber 5 none :: ([.fieldLink RX0 15 "DesignPages$Pages" "bytes" "[I"] ++ wsX00)
def wsJ7_rangeCheck_23922 : List Cond := .code yJ7_rangeCheck_23922 cJ7_rangeCheck_23922 3 none :: ([])
def wsJ7_fill_fda19 : List Cond := .code yJ7_fill_fda19 cJ7_fill_fda19 5 none :: ([.methodLink RJ7 13 yJ7_rangeCheck_23922, .static yJ7_rangeCheck_23922, .initialized RJ7, .code yJ7_rangeCheck_23922 cJ7_rangeCheck_23922 3 none])
def wsX0_begin : List Cond := .code yX0_begin cX0_begin 4 none :: ([.fieldLink RX0 15 "DesignPages$Pages" "bytes" "[I", .methodLink RX0 19 yJ7_fill_fda19, .static yJ7_fill_fda19, .initialized RJ7, .code yJ7_fill_fda19 cJ7_fill_fda19 5 none, .methodLink RJ7 13 yJ7_rangeCheck_23922, .static yJ7_rangeCheck_23922, .code yJ7_rangeCheck_23922 cJ7_rangeCheck_23922 3 none, .methodLink RX0 25 yX0_set, .instanceMethod yX0_set, .selects RX0 yX0_set yX0_set, .initialized RX0, .code yX0_set cX0_set 4 none] ++ wsX00)
def wsX0_copy : List Cond := .code yX0_copy cX0_copy 3 none :: ([.fieldLink RX0 15 "DesignPages$Pages" "bytes" "[I", .methodLink RX0 29 arraycopyName, .native arraycopyName, .static arraycopyName, .initialized "java/lang/System"] ++ wsX00)
def wsX0_sumOf : List Cond := .code yX0_sumOf cX0_sumOf 5 (some .int) :: ([.constant RX0 57 (668265263), .methodLink RX0 42 yX0_at, .instanceMethod yX0_at, .selects RX0 yX0_at yX0_at, .initialized RX0, .code yX0_at cX0_at 3 (some .int), .fieldLink RX0 15 "DesignPages$Pages" "bytes" "[I"] ++ wsX00)
def wsX0_seal : List Cond := .code yX0_seal cX0_seal 2 none :: ([.methodLink RX0 35 yX0_sumOf, .instanceMethod yX0_sumOf, .selects RX0 yX0_sumOf yX0_sumOf, .initialized RX0, .code yX0_sumOf cX0_sumOf 5 (some .int), .constant RX0 57 (668265263), .methodLink RX0 42 yX0_at, .instanceMethod yX0_at, .selects RX0 yX0_at yX0_at, .code yX0_at cX0_at 3 (some .int), .fieldLink RX0 15 "DesignPages$Pages" "bytes" "[I", .methodLink RX0 39 yX0_setNumber, .instanceMethod yX0_setNumber, .selects RX0 yX0_setNumber yX0_setNumber, .code yX0_setNumber cX0_setNumber 5 none] ++ wsX00)
def wsX3_pageOfRoot : List Cond := .code yX3_pageOfRoot cX3_pageOfRoot 1 (some .int) :: ([])
def wsX0_tellsVersions : List Cond := .code yX0_tellsVersions cX0_tellsVersions 4 (some .boolean) :: ([.constant RX0 58 (1000000), .methodLink RX0 46 yX0_numberAt, .instanceMethod yX0_numberAt, .selects RX0 yX0_numberAt yX0_numberAt, .initialized RX0, .code yX0_numberAt cX0_numberAt 4 (some .int), .fieldLink RX0 15 "DesignPages$Pages" "bytes" "[I", .static yX3_pageOfRoot, .initialized RX3, .code yX3_pageOfRoot cX3_pageOfRoot 1 (some .int)] ++ wsX00)
def wsX0_tellsRightPages : List Cond := .code yX0_tellsRightPages cX0_tellsRightPages 6 (some .boolean) :: ([.fieldLink RX0 9 "DesignPages$Pages" "amount" "I", .methodLink RX0 42 yX0_at, .instanceMethod yX0_at, .selects RX0 yX0_at yX0_at, .initialized RX0, .code yX0_at cX0_at 3 (some .int), .fieldLink RX0 15 "DesignPages$Pages" "bytes" "[I"] ++ wsX00)
def wsX0_isRight_r1 : List Cond := [Cond.methodLink RX0 42 yX0_at, Cond.instanceMethod yX0_at, Cond.selects RX0 yX0_at yX0_at, Cond.initialized RX0, Cond.code yX0_at cX0_at 3 (some .int), Cond.fieldLink RX0 15 "DesignPages$Pages" "bytes" "[I", Cond.methodLink RX0 46 yX0_numberAt, Cond.instanceMethod yX0_numberAt, Cond.selects RX0 yX0_numberAt yX0_numberAt, Cond.code yX0_numberAt cX0_numberAt 4 (some .int), Cond.methodLink RX0 35 yX0_sumOf, Cond.instanceMethod yX0_sumOf, Cond.selects RX0 yX0_sumOf yX0_sumOf, Cond.code yX0_sumOf cX0_sumOf 5 (some .int), Cond.constant RX0 57 (668265263), Cond.methodLink RX0 49 yX0_tellsVersions, Cond.instanceMethod yX0_tellsVersions, Cond.selects RX0 yX0_tellsVersions yX0_tellsVersions, Cond.code yX0_tellsVersions cX0_tellsVersions 4 (some .boolean), Cond.constant RX0 58 (1000000), Cond.static yX3_pageOfRoot, Cond.initialized RX3, Cond.code yX3_pageOfRoot cX3_pageOfRoot 1 (some .int), Cond.methodLink RX0 53 yX0_tellsRightPages]
def wsX0_isRight_r2 : List Cond := [Cond.instanceMethod yX0_tellsRightPages, Cond.selects RX0 yX0_tellsRightPages yX0_tellsRightPages, Cond.code yX0_tellsRightPages cX0_tellsRightPages 6 (some .boolean), Cond.fieldLink RX0 9 "DesignPages$Pages" "amount" "I"]
def wsX0_isRight : List Cond := .code yX0_isRight cX0_isRight 3 (some .boolean) :: ((wsX0_isRight_r1 ++ wsX0_isRight_r2) ++ wsX00)
def wsX0_pagesTold : List Cond := .code yX0_pagesTold cX0_pagesTold 6 (some .int) :: ([.methodLink RX0 42 yX0_at, .instanceMethod yX0_at, .selects RX0 yX0_at yX0_at, .initialized RX0, .code yX0_at cX0_at 3 (some .int), .fieldLink RX0 15 "DesignPages$Pages" "bytes" "[I"] ++ wsX00)
def wsX1_init : List Cond := .code yX1_init cX1_init 1 none :: ([.methodLink RX1 3 objectInit, .instanceMethod objectInit, .code objectInit ⟨#[0xb1]⟩ 1 none, .fieldLink RX1 9 "DesignPages$Power" "off" "Z", .fieldLink RX1 15 "DesignPages$Power" "pagesLeft" "I", .fieldLink RX1 19 "DesignPages$Power" "used" "I"] ++ wsX10)
def wsX1_isOff : List Cond := .code yX1_isOff cX1_isOff 1 (some .boolean) :: ([.fieldLink RX1 9 "DesignPages$Power" "off" "Z"] ++ wsX10)
def wsX1_pagesWritten : List Cond := .code yX1_pagesWritten cX1_pagesWritten 1 (some .int) :: ([.fieldLink RX1 19 "DesignPages$Power" "used" "I"] ++ wsX10)
def wsX1_failAfter : List Cond := .code yX1_failAfter cX1_failAfter 2 none :: ([.fieldLink RX1 15 "DesignPages$Power" "pagesLeft" "I", .fieldLink RX1 9 "DesignPages$Power" "off" "Z"] ++ wsX10)
def wsX1_usePage : List Cond := .code yX1_usePage cX1_usePage 1 none :: ([.fieldLink RX1 19 "DesignPages$Power" "used" "I", .fieldLink RX1 15 "DesignPages$Power" "pagesLeft" "I", .fieldLink RX1 9 "DesignPages$Power" "off" "Z"] ++ wsX10)
def wsX1_restore : List Cond := .code yX1_restore cX1_restore 1 none :: ([.fieldLink RX1 9 "DesignPages$Power" "off" "Z", .fieldLink RX1 15 "DesignPages$Power" "pagesLeft" "I"] ++ wsX10)
def wsX2_init : List Cond := .code yX2_init cX2_init 2 none :: ([.methodLink RX2 3 objectInit, .instanceMethod objectInit, .code objectInit ⟨#[0xb1]⟩ 1 none, .arrayClass .int, .fieldLink RX2 9 "DesignPages$Reach" "marks" "[I"] ++ wsX20)
def wsJ7_fill_53178 : List Cond := .code yJ7_fill_53178 cJ7_fill_53178 4 none :: ([])
def wsX2_markOf : List Cond := .code yX2_markOf cX2_markOf 1 (some .int) :: ([])
def wsX2_markTold : List Cond := .code yX2_markTold cX2_markTold 8 none :: ([.fieldLink RX2 9 "DesignPages$Reach" "marks" "[I", .methodLink RX2 42 yX0_at, .instanceMethod yX0_at, .selects RX0 yX0_at yX0_at, .initialized RX0, .code yX0_at cX0_at 3 (some .int), .fieldLink RX0 15 "DesignPages$Pages" "bytes" "[I", .methodLink RX2 25 yX2_markOf, .static yX2_markOf, .initialized RX2, .code yX2_markOf cX2_markOf 1 (some .int)] ++ wsX20 ++ wsX00)
def wsX2_lookAtAll_r1 : List Cond := [Cond.fieldLink RX2 9 "DesignPages$Reach" "marks" "[I", Cond.methodLink RX2 25 yX2_markOf, Cond.static yX2_markOf, Cond.initialized RX2, Cond.code yX2_markOf cX2_markOf 1 (some .int), Cond.methodLink RX2 32 yX0_isRight, Cond.instanceMethod yX0_isRight, Cond.selects RX0 yX0_isRight yX0_isRight, Cond.initialized RX0, Cond.code yX0_isRight cX0_isRight 3 (some .boolean), Cond.methodLink RX0 42 yX0_at, Cond.instanceMethod yX0_at, Cond.selects RX0 yX0_at yX0_at, Cond.code yX0_at cX0_at 3 (some .int), Cond.fieldLink RX0 15 "DesignPages$Pages" "bytes" "[I", Cond.methodLink RX0 46 yX0_numberAt, Cond.instanceMethod yX0_numberAt, Cond.selects RX0 yX0_numberAt yX0_numberAt, Cond.code yX0_numberAt cX0_numberAt 4 (some .int), Cond.methodLink RX0 35 yX0_sumOf, Cond.instanceMethod yX0_sumOf, Cond.selects RX0 yX0_sumOf yX0_sumOf, Cond.code yX0_sumOf cX0_sumOf 5 (some .int), Cond.constant RX0 57 (668265263)]
def wsX2_lookAtAll_r2 : List Cond := [Cond.methodLink RX0 49 yX0_tellsVersions, Cond.instanceMethod yX0_tellsVersions, Cond.selects RX0 yX0_tellsVersions yX0_tellsVersions, Cond.code yX0_tellsVersions cX0_tellsVersions 4 (some .boolean), Cond.constant RX0 58 (1000000), Cond.static yX3_pageOfRoot, Cond.initialized RX3, Cond.code yX3_pageOfRoot cX3_pageOfRoot 1 (some .int), Cond.methodLink RX0 53 yX0_tellsRightPages, Cond.instanceMethod yX0_tellsRightPages, Cond.selects RX0 yX0_tellsRightPages yX0_tellsRightPages, Cond.code yX0_tellsRightPages cX0_tellsRightPages 6 (some .boolean), Cond.fieldLink RX0 9 "DesignPages$Pages" "amount" "I", Cond.methodLink RX2 38 yX2_markTold, Cond.instanceMethod yX2_markTold, Cond.selects RX2 yX2_markTold yX2_markTold, Cond.code yX2_markTold cX2_markTold 8 none, Cond.methodLink RX2 42 yX0_at]
def wsX2_lookAtAll : List Cond := .code yX2_lookAtAll cX2_lookAtAll 4 none :: ((wsX2_lookAtAll_r1 ++ wsX2_lookAtAll_r2) ++ wsX20 ++ wsX00)
def wsX2_walk_r1 : List Cond := [Cond.fieldLink RX2 9 "DesignPages$Reach" "marks" "[I", Cond.methodLink RX2 15 yJ7_fill_53178, Cond.static yJ7_fill_53178, Cond.initialized RJ7, Cond.code yJ7_fill_53178 cJ7_fill_53178 4 none, Cond.static yX3_pageOfRoot, Cond.initialized RX3, Cond.code yX3_pageOfRoot cX3_pageOfRoot 1 (some .int), Cond.methodLink RX2 25 yX2_markOf, Cond.static yX2_markOf, Cond.initialized RX2, Cond.code yX2_markOf cX2_markOf 1 (some .int), Cond.methodLink RX2 28 yX2_lookAtAll, Cond.instanceMethod yX2_lookAtAll, Cond.selects RX2 yX2_lookAtAll yX2_lookAtAll, Cond.code yX2_lookAtAll cX2_lookAtAll 4 none, Cond.methodLink RX2 32 yX0_isRight, Cond.instanceMethod yX0_isRight, Cond.selects RX0 yX0_isRight yX0_isRight, Cond.initialized RX0, Cond.code yX0_isRight cX0_isRight 3 (some .boolean), Cond.methodLink RX0 42 yX0_at, Cond.instanceMethod yX0_at, Cond.selects RX0 yX0_at yX0_at]
def wsX2_walk_r2 : List Cond := [Cond.code yX0_at cX0_at 3 (some .int), Cond.fieldLink RX0 15 "DesignPages$Pages" "bytes" "[I", Cond.methodLink RX0 46 yX0_numberAt, Cond.instanceMethod yX0_numberAt, Cond.selects RX0 yX0_numberAt yX0_numberAt, Cond.code yX0_numberAt cX0_numberAt 4 (some .int), Cond.methodLink RX0 35 yX0_sumOf, Cond.instanceMethod yX0_sumOf, Cond.selects RX0 yX0_sumOf yX0_sumOf, Cond.code yX0_sumOf cX0_sumOf 5 (some .int), Cond.constant RX0 57 (668265263), Cond.methodLink RX0 49 yX0_tellsVersions, Cond.instanceMethod yX0_tellsVersions, Cond.selects RX0 yX0_tellsVersions yX0_tellsVersions, Cond.code yX0_tellsVersions cX0_tellsVersions 4 (some .boolean), Cond.constant RX0 58 (1000000), Cond.methodLink RX0 53 yX0_tellsRightPages, Cond.instanceMethod yX0_tellsRightPages, Cond.selects RX0 yX0_tellsRightPages yX0_tellsRightPages, Cond.code yX0_tellsRightPages cX0_tellsRightPages 6 (some .boolean), Cond.fieldLink RX0 9 "DesignPages$Pages" "amount" "I", Cond.methodLink RX2 38 yX2_markTold, Cond.instanceMethod yX2_markTold, Cond.selects RX2 yX2_markTold yX2_markTold]
def wsX2_walk_r3 : List Cond := [Cond.code yX2_markTold cX2_markTold 8 none, Cond.methodLink RX2 42 yX0_at]
def wsX2_walk : List Cond := .code yX2_walk cX2_walk 5 none :: ((wsX2_walk_r1 ++ (wsX2_walk_r2 ++ wsX2_walk_r3)) ++ wsX20 ++ wsX00)
def wsX2_leastBad : List Cond := .code yX2_leastBad cX2_leastBad 2 (some .int) :: ([.fieldLink RX2 9 "DesignPages$Reach" "marks" "[I"] ++ wsX20)
def wsX2_freePages : List Cond := .code yX2_freePages cX2_freePages 3 (some .int) :: ([.fieldLink RX2 9 "DesignPages$Reach" "marks" "[I"] ++ wsX20)
def wsX2_freeFrom : List Cond := .code yX2_freeFrom cX2_freeFrom 3 (some .int) :: ([.fieldLink RX2 9 "DesignPages$Reach" "marks" "[I"] ++ wsX20)
def wsX3_init_r1 : List Cond := [Cond.methodLink RX3 3 objectInit, Cond.instanceMethod objectInit, Cond.code objectInit ⟨#[0xb1]⟩ 1 none, Cond.methodLink RX3 9 Lib.Math.min.name, Cond.static Lib.Math.min.name, Cond.initialized "java/lang/Math", Cond.code Lib.Math.min.name Lib.Math.min.code 2 (some .int), Cond.methodLink RX3 15 Lib.Math.max.name, Cond.static Lib.Math.max.name, Cond.code Lib.Math.max.name Lib.Math.max.code 2 (some .int), Cond.classLink RX3 18 RX0, Cond.instantiable RX0 2, Cond.initialized RX0, Cond.fieldLink RX3 23 "DesignPages" "disk" "LDesignPages$Pages;", Cond.classLink RX3 27 RX2, Cond.instantiable RX2 1, Cond.initialized RX2, Cond.fieldLink RX3 30 "DesignPages" "reach" "LDesignPages$Reach;", Cond.classLink RX3 34 RX1, Cond.instantiable RX1 3, Cond.initialized RX1, Cond.fieldLink RX3 37 "DesignPages" "power" "LDesignPages$Power;", Cond.arrayClass .int, Cond.fieldLink RX3 41 "DesignPages" "typed" "[I"]
def wsX3_init_r2 : List Cond := [Cond.fieldLink RX3 45 "DesignPages" "typedCount" "I", Cond.fieldLink RX3 49 "DesignPages" "newest" "I", Cond.fieldLink RX3 52 "DesignPages" "oldest" "I", Cond.methodLink RX3 20 yX0_init, Cond.instanceMethod yX0_init, Cond.code yX0_init cX0_init 2 none, Cond.methodLink RX0 3 objectInit, Cond.fieldLink RX0 9 "DesignPages$Pages" "amount" "I", Cond.fieldLink RX0 15 "DesignPages$Pages" "bytes" "[I", Cond.methodLink RX3 29 yX2_init, Cond.instanceMethod yX2_init, Cond.code yX2_init cX2_init 2 none, Cond.methodLink RX2 3 objectInit, Cond.fieldLink RX2 9 "DesignPages$Reach" "marks" "[I", Cond.methodLink RX3 36 yX1_init, Cond.instanceMethod yX1_init, Cond.code yX1_init cX1_init 1 none, Cond.methodLink RX1 3 objectInit, Cond.fieldLink RX1 9 "DesignPages$Power" "off" "Z", Cond.fieldLink RX1 15 "DesignPages$Power" "pagesLeft" "I", Cond.fieldLink RX1 19 "DesignPages$Power" "used" "I"]
def wsX3_init : List Cond := .code yX3_init cX3_init 3 none :: ((wsX3_init_r1 ++ wsX3_init_r2) ++ wsX00 ++ wsX30 ++ wsX20 ++ wsX10)
def wsX3_type : List Cond := .code yX3_type cX3_type 2 (some .int) :: ([.fieldLink RX3 37 "DesignPages" "power" "LDesignPages$Power;", .fieldLink RX3 45 "DesignPages" "typedCount" "I", .fieldLink RX3 41 "DesignPages" "typed" "[I", .methodLink RX3 55 yX1_isOff, .instanceMethod yX1_isOff, .selects RX1 yX1_isOff yX1_isOff, .initialized RX1, .code yX1_isOff cX1_isOff 1 (some .boolean), .fieldLink RX1 9 "DesignPages$Power" "off" "Z"] ++ wsX30 ++ wsX10)
def wsX3_isKey : List Cond := .code yX3_isKey cX3_isKey 1 (some .boolean) :: ([])
def wsX3_refusalOfWriting_r1 : List Cond := [Cond.fieldLink RX3 37 "DesignPages" "power" "LDesignPages$Power;", Cond.fieldLink RX3 30 "DesignPages" "reach" "LDesignPages$Reach;", Cond.fieldLink RX3 23 "DesignPages" "disk" "LDesignPages$Pages;", Cond.fieldLink RX3 52 "DesignPages" "oldest" "I", Cond.fieldLink RX3 49 "DesignPages" "newest" "I", Cond.methodLink RX3 55 yX1_isOff, Cond.instanceMethod yX1_isOff, Cond.selects RX1 yX1_isOff yX1_isOff, Cond.initialized RX1, Cond.code yX1_isOff cX1_isOff 1 (some .boolean), Cond.fieldLink RX1 9 "DesignPages$Power" "off" "Z", Cond.methodLink RX3 126 yX2_walk, Cond.instanceMethod yX2_walk, Cond.selects RX2 yX2_walk yX2_walk, Cond.initialized RX2, Cond.code yX2_walk cX2_walk 5 none, Cond.fieldLink RX2 9 "DesignPages$Reach" "marks" "[I", Cond.methodLink RX2 15 yJ7_fill_53178, Cond.static yJ7_fill_53178, Cond.initialized RJ7, Cond.code yJ7_fill_53178 cJ7_fill_53178 4 none, Cond.static yX3_pageOfRoot, Cond.initialized RX3, Cond.code yX3_pageOfRoot cX3_pageOfRoot 1 (some .int)]
def wsX3_refusalOfWriting_r2 : List Cond := [Cond.methodLink RX2 25 yX2_markOf, Cond.static yX2_markOf, Cond.code yX2_markOf cX2_markOf 1 (some .int), Cond.methodLink RX2 28 yX2_lookAtAll, Cond.instanceMethod yX2_lookAtAll, Cond.selects RX2 yX2_lookAtAll yX2_lookAtAll, Cond.code yX2_lookAtAll cX2_lookAtAll 4 none, Cond.methodLink RX2 32 yX0_isRight, Cond.instanceMethod yX0_isRight, Cond.selects RX0 yX0_isRight yX0_isRight, Cond.initialized RX0, Cond.code yX0_isRight cX0_isRight 3 (some .boolean), Cond.methodLink RX0 42 yX0_at, Cond.instanceMethod yX0_at, Cond.selects RX0 yX0_at yX0_at, Cond.code yX0_at cX0_at 3 (some .int), Cond.fieldLink RX0 15 "DesignPages$Pages" "bytes" "[I", Cond.methodLink RX0 46 yX0_numberAt, Cond.instanceMethod yX0_numberAt, Cond.selects RX0 yX0_numberAt yX0_numberAt, Cond.code yX0_numberAt cX0_numberAt 4 (some .int), Cond.methodLink RX0 35 yX0_sumOf, Cond.instanceMethod yX0_sumOf, Cond.selects RX0 yX0_sumOf yX0_sumOf]
def wsX3_refusalOfWriting_r3 : List Cond := [Cond.code yX0_sumOf cX0_sumOf 5 (some .int), Cond.constant RX0 57 (668265263), Cond.methodLink RX0 49 yX0_tellsVersions, Cond.instanceMethod yX0_tellsVersions, Cond.selects RX0 yX0_tellsVersions yX0_tellsVersions, Cond.code yX0_tellsVersions cX0_tellsVersions 4 (some .boolean), Cond.constant RX0 58 (1000000), Cond.methodLink RX0 53 yX0_tellsRightPages, Cond.instanceMethod yX0_tellsRightPages, Cond.selects RX0 yX0_tellsRightPages yX0_tellsRightPages, Cond.code yX0_tellsRightPages cX0_tellsRightPages 6 (some .boolean), Cond.fieldLink RX0 9 "DesignPages$Pages" "amount" "I", Cond.methodLink RX2 38 yX2_markTold, Cond.instanceMethod yX2_markTold, Cond.selects RX2 yX2_markTold yX2_markTold, Cond.code yX2_markTold cX2_markTold 8 none, Cond.methodLink RX2 42 yX0_at, Cond.methodLink RX3 130 yX2_leastBad, Cond.instanceMethod yX2_leastBad, Cond.selects RX2 yX2_leastBad yX2_leastBad, Cond.code yX2_leastBad cX2_leastBad 2 (some .int)]
def wsX3_refusalOfWriting : List Cond := .code yX3_refusalOfWriting cX3_refusalOfWriting 2 (some .int) :: ((wsX3_refusalOfWriting_r1 ++ (wsX3_refusalOfWriting_r2 ++ wsX3_refusalOfWriting_r3)) ++ wsX30 ++ wsX10 ++ wsX20 ++ wsX00)
def wsX3_finishPage_r1 : List Cond := [Cond.fieldLink RX3 23 "DesignPages" "disk" "LDesignPages$Pages;", Cond.fieldLink RX3 37 "DesignPages" "power" "LDesignPages$Power;", Cond.methodLink RX3 161 yX0_seal, Cond.instanceMethod yX0_seal, Cond.selects RX0 yX0_seal yX0_seal, Cond.initialized RX0, Cond.code yX0_seal cX0_seal 2 none, Cond.methodLink RX0 35 yX0_sumOf, Cond.instanceMethod yX0_sumOf, Cond.selects RX0 yX0_sumOf yX0_sumOf, Cond.code yX0_sumOf cX0_sumOf 5 (some .int), Cond.constant RX0 57 (668265263), Cond.methodLink RX0 42 yX0_at, Cond.instanceMethod yX0_at, Cond.selects RX0 yX0_at yX0_at, Cond.code yX0_at cX0_at 3 (some .int), Cond.fieldLink RX0 15 "DesignPages$Pages" "bytes" "[I", Cond.methodLink RX0 39 yX0_setNumber, Cond.instanceMethod yX0_setNumber, Cond.selects RX0 yX0_setNumber yX0_setNumber, Cond.code yX0_setNumber cX0_setNumber 5 none, Cond.methodLink RX3 164 yX1_usePage, Cond.instanceMethod yX1_usePage, Cond.selects RX1 yX1_usePage yX1_usePage]
def wsX3_finishPage_r2 : List Cond := [Cond.initialized RX1, Cond.code yX1_usePage cX1_usePage 1 none, Cond.fieldLink RX1 19 "DesignPages$Power" "used" "I", Cond.fieldLink RX1 15 "DesignPages$Power" "pagesLeft" "I", Cond.fieldLink RX1 9 "DesignPages$Power" "off" "Z", Cond.methodLink RX3 55 yX1_isOff, Cond.instanceMethod yX1_isOff, Cond.selects RX1 yX1_isOff yX1_isOff, Cond.code yX1_isOff cX1_isOff 1 (some .boolean)]
def wsX3_finishPage : List Cond := .code yX3_finishPage cX3_finishPage 2 (some .boolean) :: ((wsX3_finishPage_r1 ++ wsX3_finishPage_r2) ++ wsX30 ++ wsX00 ++ wsX10)
def wsX3_writeThing_r1 : List Cond := [Cond.fieldLink RX3 23 "DesignPages" "disk" "LDesignPages$Pages;", Cond.fieldLink RX3 45 "DesignPages" "typedCount" "I", Cond.fieldLink RX3 41 "DesignPages" "typed" "[I", Cond.methodLink RX3 146 yX0_begin, Cond.instanceMethod yX0_begin, Cond.selects RX0 yX0_begin yX0_begin, Cond.initialized RX0, Cond.code yX0_begin cX0_begin 4 none, Cond.fieldLink RX0 15 "DesignPages$Pages" "bytes" "[I", Cond.methodLink RX0 19 yJ7_fill_fda19, Cond.static yJ7_fill_fda19, Cond.initialized RJ7, Cond.code yJ7_fill_fda19 cJ7_fill_fda19 5 none, Cond.methodLink RJ7 13 yJ7_rangeCheck_23922, Cond.static yJ7_rangeCheck_23922, Cond.code yJ7_rangeCheck_23922 cJ7_rangeCheck_23922 3 none, Cond.methodLink RX0 25 yX0_set, Cond.instanceMethod yX0_set, Cond.selects RX0 yX0_set yX0_set, Cond.code yX0_set cX0_set 4 none, Cond.methodLink RX3 123 yX0_set, Cond.methodLink RX3 93 yX3_finishPage, Cond.instanceMethod yX3_finishPage, Cond.selects RX3 yX3_finishPage yX3_finishPage]
def wsX3_writeThing_r2 : List Cond := [Cond.initialized RX3, Cond.code yX3_finishPage cX3_finishPage 2 (some .boolean), Cond.fieldLink RX3 37 "DesignPages" "power" "LDesignPages$Power;", Cond.methodLink RX3 161 yX0_seal, Cond.instanceMethod yX0_seal, Cond.selects RX0 yX0_seal yX0_seal, Cond.code yX0_seal cX0_seal 2 none, Cond.methodLink RX0 35 yX0_sumOf, Cond.instanceMethod yX0_sumOf, Cond.selects RX0 yX0_sumOf yX0_sumOf, Cond.code yX0_sumOf cX0_sumOf 5 (some .int), Cond.constant RX0 57 (668265263), Cond.methodLink RX0 42 yX0_at, Cond.instanceMethod yX0_at, Cond.selects RX0 yX0_at yX0_at, Cond.code yX0_at cX0_at 3 (some .int), Cond.methodLink RX0 39 yX0_setNumber, Cond.instanceMethod yX0_setNumber, Cond.selects RX0 yX0_setNumber yX0_setNumber, Cond.code yX0_setNumber cX0_setNumber 5 none, Cond.methodLink RX3 164 yX1_usePage, Cond.instanceMethod yX1_usePage, Cond.selects RX1 yX1_usePage yX1_usePage, Cond.initialized RX1]
def wsX3_writeThing_r3 : List Cond := [Cond.code yX1_usePage cX1_usePage 1 none, Cond.fieldLink RX1 19 "DesignPages$Power" "used" "I", Cond.fieldLink RX1 15 "DesignPages$Power" "pagesLeft" "I", Cond.fieldLink RX1 9 "DesignPages$Power" "off" "Z", Cond.methodLink RX3 55 yX1_isOff, Cond.instanceMethod yX1_isOff, Cond.selects RX1 yX1_isOff yX1_isOff, Cond.code yX1_isOff cX1_isOff 1 (some .boolean)]
def wsX3_writeThing : List Cond := .code yX3_writeThing cX3_writeThing 4 (some .boolean) :: ((wsX3_writeThing_r1 ++ (wsX3_writeThing_r2 ++ wsX3_writeThing_r3)) ++ wsX30 ++ wsX00 ++ wsX10)
def wsX3_writeNode_r1 : List Cond := [Cond.fieldLink RX3 49 "DesignPages" "newest" "I", Cond.fieldLink RX3 23 "DesignPages" "disk" "LDesignPages$Pages;", Cond.methodLink RX3 86 yX3_pageOfRoot, Cond.static yX3_pageOfRoot, Cond.initialized RX3, Cond.code yX3_pageOfRoot cX3_pageOfRoot 1 (some .int), Cond.methodLink RX3 99 yX0_at, Cond.instanceMethod yX0_at, Cond.selects RX0 yX0_at yX0_at, Cond.initialized RX0, Cond.code yX0_at cX0_at 3 (some .int), Cond.fieldLink RX0 15 "DesignPages$Pages" "bytes" "[I", Cond.methodLink RX3 146 yX0_begin, Cond.instanceMethod yX0_begin, Cond.selects RX0 yX0_begin yX0_begin, Cond.code yX0_begin cX0_begin 4 none, Cond.methodLink RX0 19 yJ7_fill_fda19, Cond.static yJ7_fill_fda19, Cond.initialized RJ7, Cond.code yJ7_fill_fda19 cJ7_fill_fda19 5 none, Cond.methodLink RJ7 13 yJ7_rangeCheck_23922, Cond.static yJ7_rangeCheck_23922, Cond.code yJ7_rangeCheck_23922 cJ7_rangeCheck_23922 3 none, Cond.methodLink RX0 25 yX0_set]
def wsX3_writeNode_r2 : List Cond := [Cond.instanceMethod yX0_set, Cond.selects RX0 yX0_set yX0_set, Cond.code yX0_set cX0_set 4 none, Cond.methodLink RX3 123 yX0_set, Cond.methodLink RX3 158 yX0_copy, Cond.instanceMethod yX0_copy, Cond.selects RX0 yX0_copy yX0_copy, Cond.code yX0_copy cX0_copy 3 none, Cond.methodLink RX0 29 arraycopyName, Cond.native arraycopyName, Cond.static arraycopyName, Cond.initialized "java/lang/System", Cond.methodLink RX3 93 yX3_finishPage, Cond.instanceMethod yX3_finishPage, Cond.selects RX3 yX3_finishPage yX3_finishPage, Cond.code yX3_finishPage cX3_finishPage 2 (some .boolean), Cond.fieldLink RX3 37 "DesignPages" "power" "LDesignPages$Power;", Cond.methodLink RX3 161 yX0_seal, Cond.instanceMethod yX0_seal, Cond.selects RX0 yX0_seal yX0_seal, Cond.code yX0_seal cX0_seal 2 none, Cond.methodLink RX0 35 yX0_sumOf, Cond.instanceMethod yX0_sumOf, Cond.selects RX0 yX0_sumOf yX0_sumOf]
def wsX3_writeNode_r3 : List Cond := [Cond.code yX0_sumOf cX0_sumOf 5 (some .int), Cond.constant RX0 57 (668265263), Cond.methodLink RX0 42 yX0_at, Cond.methodLink RX0 39 yX0_setNumber, Cond.instanceMethod yX0_setNumber, Cond.selects RX0 yX0_setNumber yX0_setNumber, Cond.code yX0_setNumber cX0_setNumber 5 none, Cond.methodLink RX3 164 yX1_usePage, Cond.instanceMethod yX1_usePage, Cond.selects RX1 yX1_usePage yX1_usePage, Cond.initialized RX1, Cond.code yX1_usePage cX1_usePage 1 none, Cond.fieldLink RX1 19 "DesignPages$Power" "used" "I", Cond.fieldLink RX1 15 "DesignPages$Power" "pagesLeft" "I", Cond.fieldLink RX1 9 "DesignPages$Power" "off" "Z", Cond.methodLink RX3 55 yX1_isOff, Cond.instanceMethod yX1_isOff, Cond.selects RX1 yX1_isOff yX1_isOff, Cond.code yX1_isOff cX1_isOff 1 (some .boolean)]
def wsX3_writeNode : List Cond := .code yX3_writeNode cX3_writeNode 6 (some .boolean) :: ((wsX3_writeNode_r1 ++ (wsX3_writeNode_r2 ++ wsX3_writeNode_r3)) ++ wsX30 ++ wsX00 ++ wsX10)
def wsX3_writeRoot_r1 : List Cond := [Cond.fieldLink RX3 49 "DesignPages" "newest" "I", Cond.fieldLink RX3 23 "DesignPages" "disk" "LDesignPages$Pages;", Cond.methodLink RX3 86 yX3_pageOfRoot, Cond.static yX3_pageOfRoot, Cond.initialized RX3, Cond.code yX3_pageOfRoot cX3_pageOfRoot 1 (some .int), Cond.methodLink RX3 146 yX0_begin, Cond.instanceMethod yX0_begin, Cond.selects RX0 yX0_begin yX0_begin, Cond.initialized RX0, Cond.code yX0_begin cX0_begin 4 none, Cond.fieldLink RX0 15 "DesignPages$Pages" "bytes" "[I", Cond.methodLink RX0 19 yJ7_fill_fda19, Cond.static yJ7_fill_fda19, Cond.initialized RJ7, Cond.code yJ7_fill_fda19 cJ7_fill_fda19 5 none, Cond.methodLink RJ7 13 yJ7_rangeCheck_23922, Cond.static yJ7_rangeCheck_23922, Cond.code yJ7_rangeCheck_23922 cJ7_rangeCheck_23922 3 none, Cond.methodLink RX0 25 yX0_set, Cond.instanceMethod yX0_set, Cond.selects RX0 yX0_set yX0_set, Cond.code yX0_set cX0_set 4 none, Cond.methodLink RX3 158 yX0_copy]
def wsX3_writeRoot_r2 : List Cond := [Cond.instanceMethod yX0_copy, Cond.selects RX0 yX0_copy yX0_copy, Cond.code yX0_copy cX0_copy 3 none, Cond.methodLink RX0 29 arraycopyName, Cond.native arraycopyName, Cond.static arraycopyName, Cond.initialized "java/lang/System", Cond.methodLink RX3 89 yX0_setNumber, Cond.instanceMethod yX0_setNumber, Cond.selects RX0 yX0_setNumber yX0_setNumber, Cond.code yX0_setNumber cX0_setNumber 5 none, Cond.methodLink RX3 123 yX0_set, Cond.methodLink RX3 93 yX3_finishPage, Cond.instanceMethod yX3_finishPage, Cond.selects RX3 yX3_finishPage yX3_finishPage, Cond.code yX3_finishPage cX3_finishPage 2 (some .boolean), Cond.fieldLink RX3 37 "DesignPages" "power" "LDesignPages$Power;", Cond.methodLink RX3 161 yX0_seal, Cond.instanceMethod yX0_seal, Cond.selects RX0 yX0_seal yX0_seal, Cond.code yX0_seal cX0_seal 2 none, Cond.methodLink RX0 35 yX0_sumOf, Cond.instanceMethod yX0_sumOf, Cond.selects RX0 yX0_sumOf yX0_sumOf]
def wsX3_writeRoot_r3 : List Cond := [Cond.code yX0_sumOf cX0_sumOf 5 (some .int), Cond.constant RX0 57 (668265263), Cond.methodLink RX0 42 yX0_at, Cond.instanceMethod yX0_at, Cond.selects RX0 yX0_at yX0_at, Cond.code yX0_at cX0_at 3 (some .int), Cond.methodLink RX0 39 yX0_setNumber, Cond.methodLink RX3 164 yX1_usePage, Cond.instanceMethod yX1_usePage, Cond.selects RX1 yX1_usePage yX1_usePage, Cond.initialized RX1, Cond.code yX1_usePage cX1_usePage 1 none, Cond.fieldLink RX1 19 "DesignPages$Power" "used" "I", Cond.fieldLink RX1 15 "DesignPages$Power" "pagesLeft" "I", Cond.fieldLink RX1 9 "DesignPages$Power" "off" "Z", Cond.methodLink RX3 55 yX1_isOff, Cond.instanceMethod yX1_isOff, Cond.selects RX1 yX1_isOff yX1_isOff, Cond.code yX1_isOff cX1_isOff 1 (some .boolean)]
def wsX3_writeRoot : List Cond := .code yX3_writeRoot cX3_writeRoot 6 (some .boolean) :: ((wsX3_writeRoot_r1 ++ (wsX3_writeRoot_r2 ++ wsX3_writeRoot_r3)) ++ wsX30 ++ wsX00 ++ wsX10)
def wsX3_writeVersion_r1 : List Cond := [Cond.fieldLink RX3 49 "DesignPages" "newest" "I", Cond.fieldLink RX3 52 "DesignPages" "oldest" "I", Cond.methodLink RX3 15 Lib.Math.max.name, Cond.static Lib.Math.max.name, Cond.initialized "java/lang/Math", Cond.code Lib.Math.max.name Lib.Math.max.code 2 (some .int), Cond.methodLink RX3 150 yX3_writeNode, Cond.instanceMethod yX3_writeNode, Cond.selects RX3 yX3_writeNode yX3_writeNode, Cond.initialized RX3, Cond.code yX3_writeNode cX3_writeNode 6 (some .boolean), Cond.fieldLink RX3 23 "DesignPages" "disk" "LDesignPages$Pages;", Cond.methodLink RX3 86 yX3_pageOfRoot, Cond.static yX3_pageOfRoot, Cond.code yX3_pageOfRoot cX3_pageOfRoot 1 (some .int), Cond.methodLink RX3 99 yX0_at, Cond.instanceMethod yX0_at, Cond.selects RX0 yX0_at yX0_at, Cond.initialized RX0, Cond.code yX0_at cX0_at 3 (some .int), Cond.fieldLink RX0 15 "DesignPages$Pages" "bytes" "[I", Cond.methodLink RX3 146 yX0_begin, Cond.instanceMethod yX0_begin, Cond.selects RX0 yX0_begin yX0_begin]
def wsX3_writeVersion_r2 : List Cond := [Cond.code yX0_begin cX0_begin 4 none, Cond.methodLink RX0 19 yJ7_fill_fda19, Cond.static yJ7_fill_fda19, Cond.initialized RJ7, Cond.code yJ7_fill_fda19 cJ7_fill_fda19 5 none, Cond.methodLink RJ7 13 yJ7_rangeCheck_23922, Cond.static yJ7_rangeCheck_23922, Cond.code yJ7_rangeCheck_23922 cJ7_rangeCheck_23922 3 none, Cond.methodLink RX0 25 yX0_set, Cond.instanceMethod yX0_set, Cond.selects RX0 yX0_set yX0_set, Cond.code yX0_set cX0_set 4 none, Cond.methodLink RX3 123 yX0_set, Cond.methodLink RX3 158 yX0_copy, Cond.instanceMethod yX0_copy, Cond.selects RX0 yX0_copy yX0_copy, Cond.code yX0_copy cX0_copy 3 none, Cond.methodLink RX0 29 arraycopyName, Cond.native arraycopyName, Cond.static arraycopyName, Cond.initialized "java/lang/System", Cond.methodLink RX3 93 yX3_finishPage, Cond.instanceMethod yX3_finishPage, Cond.selects RX3 yX3_finishPage yX3_finishPage]
def wsX3_writeVersion_r3 : List Cond := [Cond.code yX3_finishPage cX3_finishPage 2 (some .boolean), Cond.fieldLink RX3 37 "DesignPages" "power" "LDesignPages$Power;", Cond.methodLink RX3 161 yX0_seal, Cond.instanceMethod yX0_seal, Cond.selects RX0 yX0_seal yX0_seal, Cond.code yX0_seal cX0_seal 2 none, Cond.methodLink RX0 35 yX0_sumOf, Cond.instanceMethod yX0_sumOf, Cond.selects RX0 yX0_sumOf yX0_sumOf, Cond.code yX0_sumOf cX0_sumOf 5 (some .int), Cond.constant RX0 57 (668265263), Cond.methodLink RX0 42 yX0_at, Cond.methodLink RX0 39 yX0_setNumber, Cond.instanceMethod yX0_setNumber, Cond.selects RX0 yX0_setNumber yX0_setNumber, Cond.code yX0_setNumber cX0_setNumber 5 none, Cond.methodLink RX3 164 yX1_usePage, Cond.instanceMethod yX1_usePage, Cond.selects RX1 yX1_usePage yX1_usePage, Cond.initialized RX1, Cond.code yX1_usePage cX1_usePage 1 none, Cond.fieldLink RX1 19 "DesignPages$Power" "used" "I", Cond.fieldLink RX1 15 "DesignPages$Power" "pagesLeft" "I", Cond.fieldLink RX1 9 "DesignPages$Power" "off" "Z"]
def wsX3_writeVersion_r4 : List Cond := [Cond.methodLink RX3 55 yX1_isOff, Cond.instanceMethod yX1_isOff, Cond.selects RX1 yX1_isOff yX1_isOff, Cond.code yX1_isOff cX1_isOff 1 (some .boolean), Cond.methodLink RX3 154 yX3_writeRoot, Cond.instanceMethod yX3_writeRoot, Cond.selects RX3 yX3_writeRoot yX3_writeRoot, Cond.code yX3_writeRoot cX3_writeRoot 6 (some .boolean), Cond.methodLink RX3 89 yX0_setNumber]
def wsX3_writeVersion : List Cond := .code yX3_writeVersion cX3_writeVersion 6 (some .int) :: ((wsX3_writeVersion_r1 ++ (wsX3_writeVersion_r2 ++ (wsX3_writeVersion_r3 ++ wsX3_writeVersion_r4))) ++ wsX30 ++ wsX00 ++ wsX10)
def wsX3_put_r1 : List Cond := [Cond.fieldLink RX3 30 "DesignPages" "reach" "LDesignPages$Reach;", Cond.fieldLink RX3 49 "DesignPages" "newest" "I", Cond.constant RX3 71 (1000000), Cond.methodLink RX3 59 yX3_isKey, Cond.static yX3_isKey, Cond.initialized RX3, Cond.code yX3_isKey cX3_isKey 1 (some .boolean), Cond.methodLink RX3 63 yX3_refusalOfWriting, Cond.instanceMethod yX3_refusalOfWriting, Cond.selects RX3 yX3_refusalOfWriting yX3_refusalOfWriting, Cond.code yX3_refusalOfWriting cX3_refusalOfWriting 2 (some .int), Cond.fieldLink RX3 37 "DesignPages" "power" "LDesignPages$Power;", Cond.fieldLink RX3 23 "DesignPages" "disk" "LDesignPages$Pages;", Cond.fieldLink RX3 52 "DesignPages" "oldest" "I", Cond.methodLink RX3 55 yX1_isOff, Cond.instanceMethod yX1_isOff, Cond.selects RX1 yX1_isOff yX1_isOff, Cond.initialized RX1, Cond.code yX1_isOff cX1_isOff 1 (some .boolean), Cond.fieldLink RX1 9 "DesignPages$Power" "off" "Z", Cond.methodLink RX3 126 yX2_walk, Cond.instanceMethod yX2_walk, Cond.selects RX2 yX2_walk yX2_walk, Cond.initialized RX2]
def wsX3_put_r2 : List Cond := [Cond.code yX2_walk cX2_walk 5 none, Cond.fieldLink RX2 9 "DesignPages$Reach" "marks" "[I", Cond.methodLink RX2 15 yJ7_fill_53178, Cond.static yJ7_fill_53178, Cond.initialized RJ7, Cond.code yJ7_fill_53178 cJ7_fill_53178 4 none, Cond.static yX3_pageOfRoot, Cond.code yX3_pageOfRoot cX3_pageOfRoot 1 (some .int), Cond.methodLink RX2 25 yX2_markOf, Cond.static yX2_markOf, Cond.code yX2_markOf cX2_markOf 1 (some .int), Cond.methodLink RX2 28 yX2_lookAtAll, Cond.instanceMethod yX2_lookAtAll, Cond.selects RX2 yX2_lookAtAll yX2_lookAtAll, Cond.code yX2_lookAtAll cX2_lookAtAll 4 none, Cond.methodLink RX2 32 yX0_isRight, Cond.instanceMethod yX0_isRight, Cond.selects RX0 yX0_isRight yX0_isRight, Cond.initialized RX0, Cond.code yX0_isRight cX0_isRight 3 (some .boolean), Cond.methodLink RX0 42 yX0_at, Cond.instanceMethod yX0_at, Cond.selects RX0 yX0_at yX0_at, Cond.code yX0_at cX0_at 3 (some .int)]
def wsX3_put_r3 : List Cond := [Cond.fieldLink RX0 15 "DesignPages$Pages" "bytes" "[I", Cond.methodLink RX0 46 yX0_numberAt, Cond.instanceMethod yX0_numberAt, Cond.selects RX0 yX0_numberAt yX0_numberAt, Cond.code yX0_numberAt cX0_numberAt 4 (some .int), Cond.methodLink RX0 35 yX0_sumOf, Cond.instanceMethod yX0_sumOf, Cond.selects RX0 yX0_sumOf yX0_sumOf, Cond.code yX0_sumOf cX0_sumOf 5 (some .int), Cond.constant RX0 57 (668265263), Cond.methodLink RX0 49 yX0_tellsVersions, Cond.instanceMethod yX0_tellsVersions, Cond.selects RX0 yX0_tellsVersions yX0_tellsVersions, Cond.code yX0_tellsVersions cX0_tellsVersions 4 (some .boolean), Cond.constant RX0 58 (1000000), Cond.methodLink RX0 53 yX0_tellsRightPages, Cond.instanceMethod yX0_tellsRightPages, Cond.selects RX0 yX0_tellsRightPages yX0_tellsRightPages, Cond.code yX0_tellsRightPages cX0_tellsRightPages 6 (some .boolean), Cond.fieldLink RX0 9 "DesignPages$Pages" "amount" "I", Cond.methodLink RX2 38 yX2_markTold, Cond.instanceMethod yX2_markTold, Cond.selects RX2 yX2_markTold yX2_markTold, Cond.code yX2_markTold cX2_markTold 8 none]
def wsX3_put_r4 : List Cond := [Cond.methodLink RX2 42 yX0_at, Cond.methodLink RX3 130 yX2_leastBad, Cond.instanceMethod yX2_leastBad, Cond.selects RX2 yX2_leastBad yX2_leastBad, Cond.code yX2_leastBad cX2_leastBad 2 (some .int), Cond.methodLink RX3 67 yX2_freeFrom, Cond.instanceMethod yX2_freeFrom, Cond.selects RX2 yX2_freeFrom yX2_freeFrom, Cond.code yX2_freeFrom cX2_freeFrom 3 (some .int), Cond.methodLink RX3 72 yX3_writeThing, Cond.instanceMethod yX3_writeThing, Cond.selects RX3 yX3_writeThing yX3_writeThing, Cond.code yX3_writeThing cX3_writeThing 4 (some .boolean), Cond.fieldLink RX3 45 "DesignPages" "typedCount" "I", Cond.fieldLink RX3 41 "DesignPages" "typed" "[I", Cond.methodLink RX3 146 yX0_begin, Cond.instanceMethod yX0_begin, Cond.selects RX0 yX0_begin yX0_begin, Cond.code yX0_begin cX0_begin 4 none, Cond.methodLink RX0 19 yJ7_fill_fda19, Cond.static yJ7_fill_fda19, Cond.code yJ7_fill_fda19 cJ7_fill_fda19 5 none, Cond.methodLink RJ7 13 yJ7_rangeCheck_23922, Cond.static yJ7_rangeCheck_23922]
def wsX3_put_r5 : List Cond := [Cond.code yJ7_rangeCheck_23922 cJ7_rangeCheck_23922 3 none, Cond.methodLink RX0 25 yX0_set, Cond.instanceMethod yX0_set, Cond.selects RX0 yX0_set yX0_set, Cond.code yX0_set cX0_set 4 none, Cond.methodLink RX3 123 yX0_set, Cond.methodLink RX3 93 yX3_finishPage, Cond.instanceMethod yX3_finishPage, Cond.selects RX3 yX3_finishPage yX3_finishPage, Cond.code yX3_finishPage cX3_finishPage 2 (some .boolean), Cond.methodLink RX3 161 yX0_seal, Cond.instanceMethod yX0_seal, Cond.selects RX0 yX0_seal yX0_seal, Cond.code yX0_seal cX0_seal 2 none, Cond.methodLink RX0 39 yX0_setNumber, Cond.instanceMethod yX0_setNumber, Cond.selects RX0 yX0_setNumber yX0_setNumber, Cond.code yX0_setNumber cX0_setNumber 5 none, Cond.methodLink RX3 164 yX1_usePage, Cond.instanceMethod yX1_usePage, Cond.selects RX1 yX1_usePage yX1_usePage, Cond.code yX1_usePage cX1_usePage 1 none, Cond.fieldLink RX1 19 "DesignPages$Power" "used" "I", Cond.fieldLink RX1 15 "DesignPages$Power" "pagesLeft" "I"]
def wsX3_put_r6 : List Cond := [Cond.methodLink RX3 76 yX3_writeVersion, Cond.instanceMethod yX3_writeVersion, Cond.selects RX3 yX3_writeVersion yX3_writeVersion, Cond.code yX3_writeVersion cX3_writeVersion 6 (some .int), Cond.methodLink RX3 15 Lib.Math.max.name, Cond.static Lib.Math.max.name, Cond.initialized "java/lang/Math", Cond.code Lib.Math.max.name Lib.Math.max.code 2 (some .int), Cond.methodLink RX3 150 yX3_writeNode, Cond.instanceMethod yX3_writeNode, Cond.selects RX3 yX3_writeNode yX3_writeNode, Cond.code yX3_writeNode cX3_writeNode 6 (some .boolean), Cond.methodLink RX3 86 yX3_pageOfRoot, Cond.methodLink RX3 99 yX0_at, Cond.methodLink RX3 158 yX0_copy, Cond.instanceMethod yX0_copy, Cond.selects RX0 yX0_copy yX0_copy, Cond.code yX0_copy cX0_copy 3 none, Cond.methodLink RX0 29 arraycopyName, Cond.native arraycopyName, Cond.static arraycopyName, Cond.initialized "java/lang/System", Cond.methodLink RX3 154 yX3_writeRoot, Cond.instanceMethod yX3_writeRoot]
def wsX3_put_r7 : List Cond := [Cond.selects RX3 yX3_writeRoot yX3_writeRoot, Cond.code yX3_writeRoot cX3_writeRoot 6 (some .boolean), Cond.methodLink RX3 89 yX0_setNumber]
def wsX3_put : List Cond := .code yX3_put cX3_put 5 (some .int) :: ((wsX3_put_r1 ++ (wsX3_put_r2 ++ (wsX3_put_r3 ++ (wsX3_put_r4 ++ (wsX3_put_r5 ++ (wsX3_put_r6 ++ wsX3_put_r7)))))) ++ wsX30 ++ wsX10 ++ wsX20 ++ wsX00)
def wsX3_pageOfThing_r1 : List Cond := [Cond.fieldLink RX3 23 "DesignPages" "disk" "LDesignPages$Pages;", Cond.methodLink RX3 86 yX3_pageOfRoot, Cond.static yX3_pageOfRoot, Cond.initialized RX3, Cond.code yX3_pageOfRoot cX3_pageOfRoot 1 (some .int), Cond.methodLink RX3 105 yX0_isRight, Cond.instanceMethod yX0_isRight, Cond.selects RX0 yX0_isRight yX0_isRight, Cond.initialized RX0, Cond.code yX0_isRight cX0_isRight 3 (some .boolean), Cond.methodLink RX0 42 yX0_at, Cond.instanceMethod yX0_at, Cond.selects RX0 yX0_at yX0_at, Cond.code yX0_at cX0_at 3 (some .int), Cond.fieldLink RX0 15 "DesignPages$Pages" "bytes" "[I", Cond.methodLink RX0 46 yX0_numberAt, Cond.instanceMethod yX0_numberAt, Cond.selects RX0 yX0_numberAt yX0_numberAt, Cond.code yX0_numberAt cX0_numberAt 4 (some .int), Cond.methodLink RX0 35 yX0_sumOf, Cond.instanceMethod yX0_sumOf, Cond.selects RX0 yX0_sumOf yX0_sumOf, Cond.code yX0_sumOf cX0_sumOf 5 (some .int), Cond.constant RX0 57 (668265263)]
def wsX3_pageOfThing_r2 : List Cond := [Cond.methodLink RX0 49 yX0_tellsVersions, Cond.instanceMethod yX0_tellsVersions, Cond.selects RX0 yX0_tellsVersions yX0_tellsVersions, Cond.code yX0_tellsVersions cX0_tellsVersions 4 (some .boolean), Cond.constant RX0 58 (1000000), Cond.methodLink RX0 53 yX0_tellsRightPages, Cond.instanceMethod yX0_tellsRightPages, Cond.selects RX0 yX0_tellsRightPages yX0_tellsRightPages, Cond.code yX0_tellsRightPages cX0_tellsRightPages 6 (some .boolean), Cond.fieldLink RX0 9 "DesignPages$Pages" "amount" "I", Cond.methodLink RX3 99 yX0_at]
def wsX3_pageOfThing : List Cond := .code yX3_pageOfThing cX3_pageOfThing 6 (some .int) :: ((wsX3_pageOfThing_r1 ++ wsX3_pageOfThing_r2) ++ wsX30 ++ wsX00)
def wsX3_remove_r1 : List Cond := [Cond.fieldLink RX3 49 "DesignPages" "newest" "I", Cond.fieldLink RX3 30 "DesignPages" "reach" "LDesignPages$Reach;", Cond.constant RX3 71 (1000000), Cond.methodLink RX3 59 yX3_isKey, Cond.static yX3_isKey, Cond.initialized RX3, Cond.code yX3_isKey cX3_isKey 1 (some .boolean), Cond.methodLink RX3 63 yX3_refusalOfWriting, Cond.instanceMethod yX3_refusalOfWriting, Cond.selects RX3 yX3_refusalOfWriting yX3_refusalOfWriting, Cond.code yX3_refusalOfWriting cX3_refusalOfWriting 2 (some .int), Cond.fieldLink RX3 37 "DesignPages" "power" "LDesignPages$Power;", Cond.fieldLink RX3 23 "DesignPages" "disk" "LDesignPages$Pages;", Cond.fieldLink RX3 52 "DesignPages" "oldest" "I", Cond.methodLink RX3 55 yX1_isOff, Cond.instanceMethod yX1_isOff, Cond.selects RX1 yX1_isOff yX1_isOff, Cond.initialized RX1, Cond.code yX1_isOff cX1_isOff 1 (some .boolean), Cond.fieldLink RX1 9 "DesignPages$Power" "off" "Z", Cond.methodLink RX3 126 yX2_walk, Cond.instanceMethod yX2_walk, Cond.selects RX2 yX2_walk yX2_walk, Cond.initialized RX2]
def wsX3_remove_r2 : List Cond := [Cond.code yX2_walk cX2_walk 5 none, Cond.fieldLink RX2 9 "DesignPages$Reach" "marks" "[I", Cond.methodLink RX2 15 yJ7_fill_53178, Cond.static yJ7_fill_53178, Cond.initialized RJ7, Cond.code yJ7_fill_53178 cJ7_fill_53178 4 none, Cond.static yX3_pageOfRoot, Cond.code yX3_pageOfRoot cX3_pageOfRoot 1 (some .int), Cond.methodLink RX2 25 yX2_markOf, Cond.static yX2_markOf, Cond.code yX2_markOf cX2_markOf 1 (some .int), Cond.methodLink RX2 28 yX2_lookAtAll, Cond.instanceMethod yX2_lookAtAll, Cond.selects RX2 yX2_lookAtAll yX2_lookAtAll, Cond.code yX2_lookAtAll cX2_lookAtAll 4 none, Cond.methodLink RX2 32 yX0_isRight, Cond.instanceMethod yX0_isRight, Cond.selects RX0 yX0_isRight yX0_isRight, Cond.initialized RX0, Cond.code yX0_isRight cX0_isRight 3 (some .boolean), Cond.methodLink RX0 42 yX0_at, Cond.instanceMethod yX0_at, Cond.selects RX0 yX0_at yX0_at, Cond.code yX0_at cX0_at 3 (some .int)]
def wsX3_remove_r3 : List Cond := [Cond.fieldLink RX0 15 "DesignPages$Pages" "bytes" "[I", Cond.methodLink RX0 46 yX0_numberAt, Cond.instanceMethod yX0_numberAt, Cond.selects RX0 yX0_numberAt yX0_numberAt, Cond.code yX0_numberAt cX0_numberAt 4 (some .int), Cond.methodLink RX0 35 yX0_sumOf, Cond.instanceMethod yX0_sumOf, Cond.selects RX0 yX0_sumOf yX0_sumOf, Cond.code yX0_sumOf cX0_sumOf 5 (some .int), Cond.constant RX0 57 (668265263), Cond.methodLink RX0 49 yX0_tellsVersions, Cond.instanceMethod yX0_tellsVersions, Cond.selects RX0 yX0_tellsVersions yX0_tellsVersions, Cond.code yX0_tellsVersions cX0_tellsVersions 4 (some .boolean), Cond.constant RX0 58 (1000000), Cond.methodLink RX0 53 yX0_tellsRightPages, Cond.instanceMethod yX0_tellsRightPages, Cond.selects RX0 yX0_tellsRightPages yX0_tellsRightPages, Cond.code yX0_tellsRightPages cX0_tellsRightPages 6 (some .boolean), Cond.fieldLink RX0 9 "DesignPages$Pages" "amount" "I", Cond.methodLink RX2 38 yX2_markTold, Cond.instanceMethod yX2_markTold, Cond.selects RX2 yX2_markTold yX2_markTold, Cond.code yX2_markTold cX2_markTold 8 none]
def wsX3_remove_r4 : List Cond := [Cond.methodLink RX2 42 yX0_at, Cond.methodLink RX3 130 yX2_leastBad, Cond.instanceMethod yX2_leastBad, Cond.selects RX2 yX2_leastBad yX2_leastBad, Cond.code yX2_leastBad cX2_leastBad 2 (some .int), Cond.methodLink RX3 80 yX3_pageOfThing, Cond.instanceMethod yX3_pageOfThing, Cond.selects RX3 yX3_pageOfThing yX3_pageOfThing, Cond.code yX3_pageOfThing cX3_pageOfThing 6 (some .int), Cond.methodLink RX3 86 yX3_pageOfRoot, Cond.methodLink RX3 105 yX0_isRight, Cond.methodLink RX3 99 yX0_at, Cond.methodLink RX3 67 yX2_freeFrom, Cond.instanceMethod yX2_freeFrom, Cond.selects RX2 yX2_freeFrom yX2_freeFrom, Cond.code yX2_freeFrom cX2_freeFrom 3 (some .int), Cond.methodLink RX3 76 yX3_writeVersion, Cond.instanceMethod yX3_writeVersion, Cond.selects RX3 yX3_writeVersion yX3_writeVersion, Cond.code yX3_writeVersion cX3_writeVersion 6 (some .int), Cond.methodLink RX3 15 Lib.Math.max.name, Cond.static Lib.Math.max.name, Cond.initialized "java/lang/Math", Cond.code Lib.Math.max.name Lib.Math.max.code 2 (some .int)]
def wsX3_remove_r5 : List Cond := [Cond.methodLink RX3 150 yX3_writeNode, Cond.instanceMethod yX3_writeNode, Cond.selects RX3 yX3_writeNode yX3_writeNode, Cond.code yX3_writeNode cX3_writeNode 6 (some .boolean), Cond.methodLink RX3 146 yX0_begin, Cond.instanceMethod yX0_begin, Cond.selects RX0 yX0_begin yX0_begin, Cond.code yX0_begin cX0_begin 4 none, Cond.methodLink RX0 19 yJ7_fill_fda19, Cond.static yJ7_fill_fda19, Cond.code yJ7_fill_fda19 cJ7_fill_fda19 5 none, Cond.methodLink RJ7 13 yJ7_rangeCheck_23922, Cond.static yJ7_rangeCheck_23922, Cond.code yJ7_rangeCheck_23922 cJ7_rangeCheck_23922 3 none, Cond.methodLink RX0 25 yX0_set, Cond.instanceMethod yX0_set, Cond.selects RX0 yX0_set yX0_set, Cond.code yX0_set cX0_set 4 none, Cond.methodLink RX3 123 yX0_set, Cond.methodLink RX3 158 yX0_copy, Cond.instanceMethod yX0_copy, Cond.selects RX0 yX0_copy yX0_copy, Cond.code yX0_copy cX0_copy 3 none, Cond.methodLink RX0 29 arraycopyName]
def wsX3_remove_r6 : List Cond := [Cond.native arraycopyName, Cond.static arraycopyName, Cond.initialized "java/lang/System", Cond.methodLink RX3 93 yX3_finishPage, Cond.instanceMethod yX3_finishPage, Cond.selects RX3 yX3_finishPage yX3_finishPage, Cond.code yX3_finishPage cX3_finishPage 2 (some .boolean), Cond.methodLink RX3 161 yX0_seal, Cond.instanceMethod yX0_seal, Cond.selects RX0 yX0_seal yX0_seal, Cond.code yX0_seal cX0_seal 2 none, Cond.methodLink RX0 39 yX0_setNumber, Cond.instanceMethod yX0_setNumber, Cond.selects RX0 yX0_setNumber yX0_setNumber, Cond.code yX0_setNumber cX0_setNumber 5 none, Cond.methodLink RX3 164 yX1_usePage, Cond.instanceMethod yX1_usePage, Cond.selects RX1 yX1_usePage yX1_usePage, Cond.code yX1_usePage cX1_usePage 1 none, Cond.fieldLink RX1 19 "DesignPages$Power" "used" "I", Cond.fieldLink RX1 15 "DesignPages$Power" "pagesLeft" "I", Cond.methodLink RX3 154 yX3_writeRoot, Cond.instanceMethod yX3_writeRoot, Cond.selects RX3 yX3_writeRoot yX3_writeRoot]
def wsX3_remove_r7 : List Cond := [Cond.code yX3_writeRoot cX3_writeRoot 6 (some .boolean), Cond.methodLink RX3 89 yX0_setNumber]
def wsX3_remove : List Cond := .code yX3_remove cX3_remove 4 (some .int) :: ((wsX3_remove_r1 ++ (wsX3_remove_r2 ++ (wsX3_remove_r3 ++ (wsX3_remove_r4 ++ (wsX3_remove_r5 ++ (wsX3_remove_r6 ++ wsX3_remove_r7)))))) ++ wsX30 ++ wsX10 ++ wsX20 ++ wsX00)
def wsX3_isKept : List Cond := .code yX3_isKept cX3_isKept 2 (some .boolean) :: ([.fieldLink RX3 52 "DesignPages" "oldest" "I", .fieldLink RX3 49 "DesignPages" "newest" "I"] ++ wsX30)
def wsX3_drop_r1 : List Cond := [Cond.fieldLink RX3 49 "DesignPages" "newest" "I", Cond.fieldLink RX3 23 "DesignPages" "disk" "LDesignPages$Pages;", Cond.fieldLink RX3 52 "DesignPages" "oldest" "I", Cond.methodLink RX3 83 yX3_isKept, Cond.instanceMethod yX3_isKept, Cond.selects RX3 yX3_isKept yX3_isKept, Cond.initialized RX3, Cond.code yX3_isKept cX3_isKept 2 (some .boolean), Cond.methodLink RX3 63 yX3_refusalOfWriting, Cond.instanceMethod yX3_refusalOfWriting, Cond.selects RX3 yX3_refusalOfWriting yX3_refusalOfWriting, Cond.code yX3_refusalOfWriting cX3_refusalOfWriting 2 (some .int), Cond.fieldLink RX3 37 "DesignPages" "power" "LDesignPages$Power;", Cond.fieldLink RX3 30 "DesignPages" "reach" "LDesignPages$Reach;", Cond.methodLink RX3 55 yX1_isOff, Cond.instanceMethod yX1_isOff, Cond.selects RX1 yX1_isOff yX1_isOff, Cond.initialized RX1, Cond.code yX1_isOff cX1_isOff 1 (some .boolean), Cond.fieldLink RX1 9 "DesignPages$Power" "off" "Z", Cond.methodLink RX3 126 yX2_walk, Cond.instanceMethod yX2_walk, Cond.selects RX2 yX2_walk yX2_walk, Cond.initialized RX2]
def wsX3_drop_r2 : List Cond := [Cond.code yX2_walk cX2_walk 5 none, Cond.fieldLink RX2 9 "DesignPages$Reach" "marks" "[I", Cond.methodLink RX2 15 yJ7_fill_53178, Cond.static yJ7_fill_53178, Cond.initialized RJ7, Cond.code yJ7_fill_53178 cJ7_fill_53178 4 none, Cond.static yX3_pageOfRoot, Cond.code yX3_pageOfRoot cX3_pageOfRoot 1 (some .int), Cond.methodLink RX2 25 yX2_markOf, Cond.static yX2_markOf, Cond.code yX2_markOf cX2_markOf 1 (some .int), Cond.methodLink RX2 28 yX2_lookAtAll, Cond.instanceMethod yX2_lookAtAll, Cond.selects RX2 yX2_lookAtAll yX2_lookAtAll, Cond.code yX2_lookAtAll cX2_lookAtAll 4 none, Cond.methodLink RX2 32 yX0_isRight, Cond.instanceMethod yX0_isRight, Cond.selects RX0 yX0_isRight yX0_isRight, Cond.initialized RX0, Cond.code yX0_isRight cX0_isRight 3 (some .boolean), Cond.methodLink RX0 42 yX0_at, Cond.instanceMethod yX0_at, Cond.selects RX0 yX0_at yX0_at, Cond.code yX0_at cX0_at 3 (some .int)]
def wsX3_drop_r3 : List Cond := [Cond.fieldLink RX0 15 "DesignPages$Pages" "bytes" "[I", Cond.methodLink RX0 46 yX0_numberAt, Cond.instanceMethod yX0_numberAt, Cond.selects RX0 yX0_numberAt yX0_numberAt, Cond.code yX0_numberAt cX0_numberAt 4 (some .int), Cond.methodLink RX0 35 yX0_sumOf, Cond.instanceMethod yX0_sumOf, Cond.selects RX0 yX0_sumOf yX0_sumOf, Cond.code yX0_sumOf cX0_sumOf 5 (some .int), Cond.constant RX0 57 (668265263), Cond.methodLink RX0 49 yX0_tellsVersions, Cond.instanceMethod yX0_tellsVersions, Cond.selects RX0 yX0_tellsVersions yX0_tellsVersions, Cond.code yX0_tellsVersions cX0_tellsVersions 4 (some .boolean), Cond.constant RX0 58 (1000000), Cond.methodLink RX0 53 yX0_tellsRightPages, Cond.instanceMethod yX0_tellsRightPages, Cond.selects RX0 yX0_tellsRightPages yX0_tellsRightPages, Cond.code yX0_tellsRightPages cX0_tellsRightPages 6 (some .boolean), Cond.fieldLink RX0 9 "DesignPages$Pages" "amount" "I", Cond.methodLink RX2 38 yX2_markTold, Cond.instanceMethod yX2_markTold, Cond.selects RX2 yX2_markTold yX2_markTold, Cond.code yX2_markTold cX2_markTold 8 none]
def wsX3_drop_r4 : List Cond := [Cond.methodLink RX2 42 yX0_at, Cond.methodLink RX3 130 yX2_leastBad, Cond.instanceMethod yX2_leastBad, Cond.selects RX2 yX2_leastBad yX2_leastBad, Cond.code yX2_leastBad cX2_leastBad 2 (some .int), Cond.methodLink RX3 86 yX3_pageOfRoot, Cond.methodLink RX3 89 yX0_setNumber, Cond.instanceMethod yX0_setNumber, Cond.selects RX0 yX0_setNumber yX0_setNumber, Cond.code yX0_setNumber cX0_setNumber 5 none, Cond.methodLink RX3 93 yX3_finishPage, Cond.instanceMethod yX3_finishPage, Cond.selects RX3 yX3_finishPage yX3_finishPage, Cond.code yX3_finishPage cX3_finishPage 2 (some .boolean), Cond.methodLink RX3 161 yX0_seal, Cond.instanceMethod yX0_seal, Cond.selects RX0 yX0_seal yX0_seal, Cond.code yX0_seal cX0_seal 2 none, Cond.methodLink RX0 39 yX0_setNumber, Cond.methodLink RX3 164 yX1_usePage, Cond.instanceMethod yX1_usePage, Cond.selects RX1 yX1_usePage yX1_usePage, Cond.code yX1_usePage cX1_usePage 1 none, Cond.fieldLink RX1 19 "DesignPages$Power" "used" "I"]
def wsX3_drop_r5 : List Cond := [Cond.fieldLink RX1 15 "DesignPages$Power" "pagesLeft" "I"]
def wsX3_drop : List Cond := .code yX3_drop cX3_drop 4 (some .int) :: ((wsX3_drop_r1 ++ (wsX3_drop_r2 ++ (wsX3_drop_r3 ++ (wsX3_drop_r4 ++ wsX3_drop_r5)))) ++ wsX30 ++ wsX10 ++ wsX20 ++ wsX00)
def wsX3_refusalOfReading : List Cond := .code yX3_refusalOfReading cX3_refusalOfReading 3 (some .int) :: ([.fieldLink RX3 37 "DesignPages" "power" "LDesignPages$Power;", .methodLink RX3 55 yX1_isOff, .instanceMethod yX1_isOff, .selects RX1 yX1_isOff yX1_isOff, .initialized RX1, .code yX1_isOff cX1_isOff 1 (some .boolean), .fieldLink RX1 9 "DesignPages$Power" "off" "Z", .methodLink RX3 83 yX3_isKept, .instanceMethod yX3_isKept, .selects RX3 yX3_isKept yX3_isKept, .initialized RX3, .code yX3_isKept cX3_isKept 2 (some .boolean), .fieldLink RX3 52 "DesignPages" "oldest" "I", .fieldLink RX3 49 "DesignPages" "newest" "I", .methodLink RX3 59 yX3_isKey, .static yX3_isKey, .code yX3_isKey cX3_isKey 1 (some .boolean)] ++ wsX30 ++ wsX10)
def wsX3_lookUp_r1 : List Cond := [Cond.methodLink RX3 102 yX3_refusalOfReading, Cond.instanceMethod yX3_refusalOfReading, Cond.selects RX3 yX3_refusalOfReading yX3_refusalOfReading, Cond.initialized RX3, Cond.code yX3_refusalOfReading cX3_refusalOfReading 3 (some .int), Cond.fieldLink RX3 37 "DesignPages" "power" "LDesignPages$Power;", Cond.methodLink RX3 55 yX1_isOff, Cond.instanceMethod yX1_isOff, Cond.selects RX1 yX1_isOff yX1_isOff, Cond.initialized RX1, Cond.code yX1_isOff cX1_isOff 1 (some .boolean), Cond.fieldLink RX1 9 "DesignPages$Power" "off" "Z", Cond.methodLink RX3 83 yX3_isKept, Cond.instanceMethod yX3_isKept, Cond.selects RX3 yX3_isKept yX3_isKept, Cond.code yX3_isKept cX3_isKept 2 (some .boolean), Cond.fieldLink RX3 52 "DesignPages" "oldest" "I", Cond.fieldLink RX3 49 "DesignPages" "newest" "I", Cond.methodLink RX3 59 yX3_isKey, Cond.static yX3_isKey, Cond.code yX3_isKey cX3_isKey 1 (some .boolean), Cond.methodLink RX3 80 yX3_pageOfThing, Cond.instanceMethod yX3_pageOfThing, Cond.selects RX3 yX3_pageOfThing yX3_pageOfThing]
def wsX3_lookUp_r2 : List Cond := [Cond.code yX3_pageOfThing cX3_pageOfThing 6 (some .int), Cond.fieldLink RX3 23 "DesignPages" "disk" "LDesignPages$Pages;", Cond.methodLink RX3 86 yX3_pageOfRoot, Cond.static yX3_pageOfRoot, Cond.code yX3_pageOfRoot cX3_pageOfRoot 1 (some .int), Cond.methodLink RX3 105 yX0_isRight, Cond.instanceMethod yX0_isRight, Cond.selects RX0 yX0_isRight yX0_isRight, Cond.initialized RX0, Cond.code yX0_isRight cX0_isRight 3 (some .boolean), Cond.methodLink RX0 42 yX0_at, Cond.instanceMethod yX0_at, Cond.selects RX0 yX0_at yX0_at, Cond.code yX0_at cX0_at 3 (some .int), Cond.fieldLink RX0 15 "DesignPages$Pages" "bytes" "[I", Cond.methodLink RX0 46 yX0_numberAt, Cond.instanceMethod yX0_numberAt, Cond.selects RX0 yX0_numberAt yX0_numberAt, Cond.code yX0_numberAt cX0_numberAt 4 (some .int), Cond.methodLink RX0 35 yX0_sumOf, Cond.instanceMethod yX0_sumOf, Cond.selects RX0 yX0_sumOf yX0_sumOf, Cond.code yX0_sumOf cX0_sumOf 5 (some .int), Cond.constant RX0 57 (668265263)]
def wsX3_lookUp_r3 : List Cond := [Cond.methodLink RX0 49 yX0_tellsVersions, Cond.instanceMethod yX0_tellsVersions, Cond.selects RX0 yX0_tellsVersions yX0_tellsVersions, Cond.code yX0_tellsVersions cX0_tellsVersions 4 (some .boolean), Cond.constant RX0 58 (1000000), Cond.methodLink RX0 53 yX0_tellsRightPages, Cond.instanceMethod yX0_tellsRightPages, Cond.selects RX0 yX0_tellsRightPages yX0_tellsRightPages, Cond.code yX0_tellsRightPages cX0_tellsRightPages 6 (some .boolean), Cond.fieldLink RX0 9 "DesignPages$Pages" "amount" "I", Cond.methodLink RX3 99 yX0_at]
def wsX3_lookUp : List Cond := .code yX3_lookUp cX3_lookUp 4 (some .int) :: ((wsX3_lookUp_r1 ++ (wsX3_lookUp_r2 ++ wsX3_lookUp_r3)) ++ wsX30 ++ wsX10 ++ wsX00)
def wsX3_length_r1 : List Cond := [Cond.fieldLink RX3 23 "DesignPages" "disk" "LDesignPages$Pages;", Cond.methodLink RX3 96 yX3_lookUp, Cond.instanceMethod yX3_lookUp, Cond.selects RX3 yX3_lookUp yX3_lookUp, Cond.initialized RX3, Cond.code yX3_lookUp cX3_lookUp 4 (some .int), Cond.methodLink RX3 102 yX3_refusalOfReading, Cond.instanceMethod yX3_refusalOfReading, Cond.selects RX3 yX3_refusalOfReading yX3_refusalOfReading, Cond.code yX3_refusalOfReading cX3_refusalOfReading 3 (some .int), Cond.fieldLink RX3 37 "DesignPages" "power" "LDesignPages$Power;", Cond.methodLink RX3 55 yX1_isOff, Cond.instanceMethod yX1_isOff, Cond.selects RX1 yX1_isOff yX1_isOff, Cond.initialized RX1, Cond.code yX1_isOff cX1_isOff 1 (some .boolean), Cond.fieldLink RX1 9 "DesignPages$Power" "off" "Z", Cond.methodLink RX3 83 yX3_isKept, Cond.instanceMethod yX3_isKept, Cond.selects RX3 yX3_isKept yX3_isKept, Cond.code yX3_isKept cX3_isKept 2 (some .boolean), Cond.fieldLink RX3 52 "DesignPages" "oldest" "I", Cond.fieldLink RX3 49 "DesignPages" "newest" "I", Cond.methodLink RX3 59 yX3_isKey]
def wsX3_length_r2 : List Cond := [Cond.static yX3_isKey, Cond.code yX3_isKey cX3_isKey 1 (some .boolean), Cond.methodLink RX3 80 yX3_pageOfThing, Cond.instanceMethod yX3_pageOfThing, Cond.selects RX3 yX3_pageOfThing yX3_pageOfThing, Cond.code yX3_pageOfThing cX3_pageOfThing 6 (some .int), Cond.methodLink RX3 86 yX3_pageOfRoot, Cond.static yX3_pageOfRoot, Cond.code yX3_pageOfRoot cX3_pageOfRoot 1 (some .int), Cond.methodLink RX3 105 yX0_isRight, Cond.instanceMethod yX0_isRight, Cond.selects RX0 yX0_isRight yX0_isRight, Cond.initialized RX0, Cond.code yX0_isRight cX0_isRight 3 (some .boolean), Cond.methodLink RX0 42 yX0_at, Cond.instanceMethod yX0_at, Cond.selects RX0 yX0_at yX0_at, Cond.code yX0_at cX0_at 3 (some .int), Cond.fieldLink RX0 15 "DesignPages$Pages" "bytes" "[I", Cond.methodLink RX0 46 yX0_numberAt, Cond.instanceMethod yX0_numberAt, Cond.selects RX0 yX0_numberAt yX0_numberAt, Cond.code yX0_numberAt cX0_numberAt 4 (some .int), Cond.methodLink RX0 35 yX0_sumOf]
def wsX3_length_r3 : List Cond := [Cond.instanceMethod yX0_sumOf, Cond.selects RX0 yX0_sumOf yX0_sumOf, Cond.code yX0_sumOf cX0_sumOf 5 (some .int), Cond.constant RX0 57 (668265263), Cond.methodLink RX0 49 yX0_tellsVersions, Cond.instanceMethod yX0_tellsVersions, Cond.selects RX0 yX0_tellsVersions yX0_tellsVersions, Cond.code yX0_tellsVersions cX0_tellsVersions 4 (some .boolean), Cond.constant RX0 58 (1000000), Cond.methodLink RX0 53 yX0_tellsRightPages, Cond.instanceMethod yX0_tellsRightPages, Cond.selects RX0 yX0_tellsRightPages yX0_tellsRightPages, Cond.code yX0_tellsRightPages cX0_tellsRightPages 6 (some .boolean), Cond.fieldLink RX0 9 "DesignPages$Pages" "amount" "I", Cond.methodLink RX3 99 yX0_at]
def wsX3_length : List Cond := .code yX3_length cX3_length 4 (some .int) :: ((wsX3_length_r1 ++ (wsX3_length_r2 ++ wsX3_length_r3)) ++ wsX30 ++ wsX10 ++ wsX00)
def wsX3_find_r1 : List Cond := [Cond.fieldLink RX3 23 "DesignPages" "disk" "LDesignPages$Pages;", Cond.methodLink RX3 96 yX3_lookUp, Cond.instanceMethod yX3_lookUp, Cond.selects RX3 yX3_lookUp yX3_lookUp, Cond.initialized RX3, Cond.code yX3_lookUp cX3_lookUp 4 (some .int), Cond.methodLink RX3 102 yX3_refusalOfReading, Cond.instanceMethod yX3_refusalOfReading, Cond.selects RX3 yX3_refusalOfReading yX3_refusalOfReading, Cond.code yX3_refusalOfReading cX3_refusalOfReading 3 (some .int), Cond.fieldLink RX3 37 "DesignPages" "power" "LDesignPages$Power;", Cond.methodLink RX3 55 yX1_isOff, Cond.instanceMethod yX1_isOff, Cond.selects RX1 yX1_isOff yX1_isOff, Cond.initialized RX1, Cond.code yX1_isOff cX1_isOff 1 (some .boolean), Cond.fieldLink RX1 9 "DesignPages$Power" "off" "Z", Cond.methodLink RX3 83 yX3_isKept, Cond.instanceMethod yX3_isKept, Cond.selects RX3 yX3_isKept yX3_isKept, Cond.code yX3_isKept cX3_isKept 2 (some .boolean), Cond.fieldLink RX3 52 "DesignPages" "oldest" "I", Cond.fieldLink RX3 49 "DesignPages" "newest" "I", Cond.methodLink RX3 59 yX3_isKey]
def wsX3_find_r2 : List Cond := [Cond.static yX3_isKey, Cond.code yX3_isKey cX3_isKey 1 (some .boolean), Cond.methodLink RX3 80 yX3_pageOfThing, Cond.instanceMethod yX3_pageOfThing, Cond.selects RX3 yX3_pageOfThing yX3_pageOfThing, Cond.code yX3_pageOfThing cX3_pageOfThing 6 (some .int), Cond.methodLink RX3 86 yX3_pageOfRoot, Cond.static yX3_pageOfRoot, Cond.code yX3_pageOfRoot cX3_pageOfRoot 1 (some .int), Cond.methodLink RX3 105 yX0_isRight, Cond.instanceMethod yX0_isRight, Cond.selects RX0 yX0_isRight yX0_isRight, Cond.initialized RX0, Cond.code yX0_isRight cX0_isRight 3 (some .boolean), Cond.methodLink RX0 42 yX0_at, Cond.instanceMethod yX0_at, Cond.selects RX0 yX0_at yX0_at, Cond.code yX0_at cX0_at 3 (some .int), Cond.fieldLink RX0 15 "DesignPages$Pages" "bytes" "[I", Cond.methodLink RX0 46 yX0_numberAt, Cond.instanceMethod yX0_numberAt, Cond.selects RX0 yX0_numberAt yX0_numberAt, Cond.code yX0_numberAt cX0_numberAt 4 (some .int), Cond.methodLink RX0 35 yX0_sumOf]
def wsX3_find_r3 : List Cond := [Cond.instanceMethod yX0_sumOf, Cond.selects RX0 yX0_sumOf yX0_sumOf, Cond.code yX0_sumOf cX0_sumOf 5 (some .int), Cond.constant RX0 57 (668265263), Cond.methodLink RX0 49 yX0_tellsVersions, Cond.instanceMethod yX0_tellsVersions, Cond.selects RX0 yX0_tellsVersions yX0_tellsVersions, Cond.code yX0_tellsVersions cX0_tellsVersions 4 (some .boolean), Cond.constant RX0 58 (1000000), Cond.methodLink RX0 53 yX0_tellsRightPages, Cond.instanceMethod yX0_tellsRightPages, Cond.selects RX0 yX0_tellsRightPages yX0_tellsRightPages, Cond.code yX0_tellsRightPages cX0_tellsRightPages 6 (some .boolean), Cond.fieldLink RX0 9 "DesignPages$Pages" "amount" "I", Cond.methodLink RX3 99 yX0_at]
def wsX3_find : List Cond := .code yX3_find cX3_find 5 (some .int) :: ((wsX3_find_r1 ++ (wsX3_find_r2 ++ wsX3_find_r3)) ++ wsX30 ++ wsX10 ++ wsX00)
def wsX3_nextThing_r1 : List Cond := [Cond.fieldLink RX3 23 "DesignPages" "disk" "LDesignPages$Pages;", Cond.methodLink RX3 105 yX0_isRight, Cond.instanceMethod yX0_isRight, Cond.selects RX0 yX0_isRight yX0_isRight, Cond.initialized RX0, Cond.code yX0_isRight cX0_isRight 3 (some .boolean), Cond.methodLink RX0 42 yX0_at, Cond.instanceMethod yX0_at, Cond.selects RX0 yX0_at yX0_at, Cond.code yX0_at cX0_at 3 (some .int), Cond.fieldLink RX0 15 "DesignPages$Pages" "bytes" "[I", Cond.methodLink RX0 46 yX0_numberAt, Cond.instanceMethod yX0_numberAt, Cond.selects RX0 yX0_numberAt yX0_numberAt, Cond.code yX0_numberAt cX0_numberAt 4 (some .int), Cond.methodLink RX0 35 yX0_sumOf, Cond.instanceMethod yX0_sumOf, Cond.selects RX0 yX0_sumOf yX0_sumOf, Cond.code yX0_sumOf cX0_sumOf 5 (some .int), Cond.constant RX0 57 (668265263), Cond.methodLink RX0 49 yX0_tellsVersions, Cond.instanceMethod yX0_tellsVersions, Cond.selects RX0 yX0_tellsVersions yX0_tellsVersions, Cond.code yX0_tellsVersions cX0_tellsVersions 4 (some .boolean)]
def wsX3_nextThing_r2 : List Cond := [Cond.constant RX0 58 (1000000), Cond.static yX3_pageOfRoot, Cond.initialized RX3, Cond.code yX3_pageOfRoot cX3_pageOfRoot 1 (some .int), Cond.methodLink RX0 53 yX0_tellsRightPages, Cond.instanceMethod yX0_tellsRightPages, Cond.selects RX0 yX0_tellsRightPages yX0_tellsRightPages, Cond.code yX0_tellsRightPages cX0_tellsRightPages 6 (some .boolean), Cond.fieldLink RX0 9 "DesignPages$Pages" "amount" "I", Cond.methodLink RX3 99 yX0_at]
def wsX3_nextThing : List Cond := .code yX3_nextThing cX3_nextThing 4 (some .int) :: ((wsX3_nextThing_r1 ++ wsX3_nextThing_r2) ++ wsX30 ++ wsX00)
def wsX3_next_r1 : List Cond := [Cond.fieldLink RX3 23 "DesignPages" "disk" "LDesignPages$Pages;", Cond.methodLink RX3 102 yX3_refusalOfReading, Cond.instanceMethod yX3_refusalOfReading, Cond.selects RX3 yX3_refusalOfReading yX3_refusalOfReading, Cond.initialized RX3, Cond.code yX3_refusalOfReading cX3_refusalOfReading 3 (some .int), Cond.fieldLink RX3 37 "DesignPages" "power" "LDesignPages$Power;", Cond.methodLink RX3 55 yX1_isOff, Cond.instanceMethod yX1_isOff, Cond.selects RX1 yX1_isOff yX1_isOff, Cond.initialized RX1, Cond.code yX1_isOff cX1_isOff 1 (some .boolean), Cond.fieldLink RX1 9 "DesignPages$Power" "off" "Z", Cond.methodLink RX3 83 yX3_isKept, Cond.instanceMethod yX3_isKept, Cond.selects RX3 yX3_isKept yX3_isKept, Cond.code yX3_isKept cX3_isKept 2 (some .boolean), Cond.fieldLink RX3 52 "DesignPages" "oldest" "I", Cond.fieldLink RX3 49 "DesignPages" "newest" "I", Cond.methodLink RX3 59 yX3_isKey, Cond.static yX3_isKey, Cond.code yX3_isKey cX3_isKey 1 (some .boolean), Cond.methodLink RX3 86 yX3_pageOfRoot, Cond.static yX3_pageOfRoot]
def wsX3_next_r2 : List Cond := [Cond.code yX3_pageOfRoot cX3_pageOfRoot 1 (some .int), Cond.methodLink RX3 105 yX0_isRight, Cond.instanceMethod yX0_isRight, Cond.selects RX0 yX0_isRight yX0_isRight, Cond.initialized RX0, Cond.code yX0_isRight cX0_isRight 3 (some .boolean), Cond.methodLink RX0 42 yX0_at, Cond.instanceMethod yX0_at, Cond.selects RX0 yX0_at yX0_at, Cond.code yX0_at cX0_at 3 (some .int), Cond.fieldLink RX0 15 "DesignPages$Pages" "bytes" "[I", Cond.methodLink RX0 46 yX0_numberAt, Cond.instanceMethod yX0_numberAt, Cond.selects RX0 yX0_numberAt yX0_numberAt, Cond.code yX0_numberAt cX0_numberAt 4 (some .int), Cond.methodLink RX0 35 yX0_sumOf, Cond.instanceMethod yX0_sumOf, Cond.selects RX0 yX0_sumOf yX0_sumOf, Cond.code yX0_sumOf cX0_sumOf 5 (some .int), Cond.constant RX0 57 (668265263), Cond.methodLink RX0 49 yX0_tellsVersions, Cond.instanceMethod yX0_tellsVersions, Cond.selects RX0 yX0_tellsVersions yX0_tellsVersions, Cond.code yX0_tellsVersions cX0_tellsVersions 4 (some .boolean)]
def wsX3_next_r3 : List Cond := [Cond.constant RX0 58 (1000000), Cond.methodLink RX0 53 yX0_tellsRightPages, Cond.instanceMethod yX0_tellsRightPages, Cond.selects RX0 yX0_tellsRightPages yX0_tellsRightPages, Cond.code yX0_tellsRightPages cX0_tellsRightPages 6 (some .boolean), Cond.fieldLink RX0 9 "DesignPages$Pages" "amount" "I", Cond.methodLink RX3 99 yX0_at, Cond.methodLink RX3 108 yX3_nextThing, Cond.instanceMethod yX3_nextThing, Cond.selects RX3 yX3_nextThing yX3_nextThing, Cond.code yX3_nextThing cX3_nextThing 4 (some .int)]
def wsX3_next : List Cond := .code yX3_next cX3_next 8 (some .int) :: ((wsX3_next_r1 ++ (wsX3_next_r2 ++ wsX3_next_r3)) ++ wsX30 ++ wsX10 ++ wsX00)
def wsX3_crash : List Cond := .code yX3_crash cX3_crash 2 (some .int) :: ([.fieldLink RX3 37 "DesignPages" "power" "LDesignPages$Power;", .methodLink RX3 55 yX1_isOff, .instanceMethod yX1_isOff, .selects RX1 yX1_isOff yX1_isOff, .initialized RX1, .code yX1_isOff cX1_isOff 1 (some .boolean), .fieldLink RX1 9 "DesignPages$Power" "off" "Z", .methodLink RX3 111 yX1_failAfter, .instanceMethod yX1_failAfter, .selects RX1 yX1_failAfter yX1_failAfter, .code yX1_failAfter cX1_failAfter 2 none, .fieldLink RX1 15 "DesignPages$Power" "pagesLeft" "I"] ++ wsX30 ++ wsX10)
def wsX3_reopen_r1 : List Cond := [Cond.fieldLink RX3 37 "DesignPages" "power" "LDesignPages$Power;", Cond.fieldLink RX3 45 "DesignPages" "typedCount" "I", Cond.fieldLink RX3 49 "DesignPages" "newest" "I", Cond.fieldLink RX3 52 "DesignPages" "oldest" "I", Cond.fieldLink RX3 23 "DesignPages" "disk" "LDesignPages$Pages;", Cond.methodLink RX3 114 yX1_restore, Cond.instanceMethod yX1_restore, Cond.selects RX1 yX1_restore yX1_restore, Cond.initialized RX1, Cond.code yX1_restore cX1_restore 1 none, Cond.fieldLink RX1 9 "DesignPages$Power" "off" "Z", Cond.fieldLink RX1 15 "DesignPages$Power" "pagesLeft" "I", Cond.methodLink RX3 105 yX0_isRight, Cond.instanceMethod yX0_isRight, Cond.selects RX0 yX0_isRight yX0_isRight, Cond.initialized RX0, Cond.code yX0_isRight cX0_isRight 3 (some .boolean), Cond.methodLink RX0 42 yX0_at, Cond.instanceMethod yX0_at, Cond.selects RX0 yX0_at yX0_at, Cond.code yX0_at cX0_at 3 (some .int), Cond.fieldLink RX0 15 "DesignPages$Pages" "bytes" "[I", Cond.methodLink RX0 46 yX0_numberAt, Cond.instanceMethod yX0_numberAt]
def wsX3_reopen_r2 : List Cond := [Cond.selects RX0 yX0_numberAt yX0_numberAt, Cond.code yX0_numberAt cX0_numberAt 4 (some .int), Cond.methodLink RX0 35 yX0_sumOf, Cond.instanceMethod yX0_sumOf, Cond.selects RX0 yX0_sumOf yX0_sumOf, Cond.code yX0_sumOf cX0_sumOf 5 (some .int), Cond.constant RX0 57 (668265263), Cond.methodLink RX0 49 yX0_tellsVersions, Cond.instanceMethod yX0_tellsVersions, Cond.selects RX0 yX0_tellsVersions yX0_tellsVersions, Cond.code yX0_tellsVersions cX0_tellsVersions 4 (some .boolean), Cond.constant RX0 58 (1000000), Cond.static yX3_pageOfRoot, Cond.initialized RX3, Cond.code yX3_pageOfRoot cX3_pageOfRoot 1 (some .int), Cond.methodLink RX0 53 yX0_tellsRightPages, Cond.instanceMethod yX0_tellsRightPages, Cond.selects RX0 yX0_tellsRightPages yX0_tellsRightPages, Cond.code yX0_tellsRightPages cX0_tellsRightPages 6 (some .boolean), Cond.fieldLink RX0 9 "DesignPages$Pages" "amount" "I", Cond.methodLink RX3 117 yX0_numberAt]
def wsX3_reopen : List Cond := .code yX3_reopen cX3_reopen 2 (some .int) :: ((wsX3_reopen_r1 ++ wsX3_reopen_r2) ++ wsX30 ++ wsX10 ++ wsX00)
def wsX3_poke : List Cond := .code yX3_poke cX3_poke 4 (some .int) :: ([.fieldLink RX3 23 "DesignPages" "disk" "LDesignPages$Pages;", .methodLink RX3 120 yX0_has, .instanceMethod yX0_has, .selects RX0 yX0_has yX0_has, .initialized RX0, .code yX0_has cX0_has 3 (some .boolean), .fieldLink RX0 9 "DesignPages$Pages" "amount" "I", .methodLink RX3 99 yX0_at, .instanceMethod yX0_at, .selects RX0 yX0_at yX0_at, .code yX0_at cX0_at 3 (some .int), .fieldLink RX0 15 "DesignPages$Pages" "bytes" "[I", .methodLink RX3 123 yX0_set, .instanceMethod yX0_set, .selects RX0 yX0_set yX0_set, .code yX0_set cX0_set 4 none] ++ wsX30 ++ wsX00)
def wsX3_byteAt : List Cond := .code yX3_byteAt cX3_byteAt 3 (some .int) :: ([.fieldLink RX3 23 "DesignPages" "disk" "LDesignPages$Pages;", .methodLink RX3 120 yX0_has, .instanceMethod yX0_has, .selects RX0 yX0_has yX0_has, .initialized RX0, .code yX0_has cX0_has 3 (some .boolean), .fieldLink RX0 9 "DesignPages$Pages" "amount" "I", .methodLink RX3 99 yX0_at, .instanceMethod yX0_at, .selects RX0 yX0_at yX0_at, .code yX0_at cX0_at 3 (some .int), .fieldLink RX0 15 "DesignPages$Pages" "bytes" "[I"] ++ wsX30 ++ wsX00)
def wsX3_badAt_r1 : List Cond := [Cond.fieldLink RX3 37 "DesignPages" "power" "LDesignPages$Power;", Cond.fieldLink RX3 30 "DesignPages" "reach" "LDesignPages$Reach;", Cond.fieldLink RX3 23 "DesignPages" "disk" "LDesignPages$Pages;", Cond.fieldLink RX3 52 "DesignPages" "oldest" "I", Cond.fieldLink RX3 49 "DesignPages" "newest" "I", Cond.methodLink RX3 55 yX1_isOff, Cond.instanceMethod yX1_isOff, Cond.selects RX1 yX1_isOff yX1_isOff, Cond.initialized RX1, Cond.code yX1_isOff cX1_isOff 1 (some .boolean), Cond.fieldLink RX1 9 "DesignPages$Power" "off" "Z", Cond.methodLink RX3 126 yX2_walk, Cond.instanceMethod yX2_walk, Cond.selects RX2 yX2_walk yX2_walk, Cond.initialized RX2, Cond.code yX2_walk cX2_walk 5 none, Cond.fieldLink RX2 9 "DesignPages$Reach" "marks" "[I", Cond.methodLink RX2 15 yJ7_fill_53178, Cond.static yJ7_fill_53178, Cond.initialized RJ7, Cond.code yJ7_fill_53178 cJ7_fill_53178 4 none, Cond.static yX3_pageOfRoot, Cond.initialized RX3, Cond.code yX3_pageOfRoot cX3_pageOfRoot 1 (some .int)]
def wsX3_badAt_r2 : List Cond := [Cond.methodLink RX2 25 yX2_markOf, Cond.static yX2_markOf, Cond.code yX2_markOf cX2_markOf 1 (some .int), Cond.methodLink RX2 28 yX2_lookAtAll, Cond.instanceMethod yX2_lookAtAll, Cond.selects RX2 yX2_lookAtAll yX2_lookAtAll, Cond.code yX2_lookAtAll cX2_lookAtAll 4 none, Cond.methodLink RX2 32 yX0_isRight, Cond.instanceMethod yX0_isRight, Cond.selects RX0 yX0_isRight yX0_isRight, Cond.initialized RX0, Cond.code yX0_isRight cX0_isRight 3 (some .boolean), Cond.methodLink RX0 42 yX0_at, Cond.instanceMethod yX0_at, Cond.selects RX0 yX0_at yX0_at, Cond.code yX0_at cX0_at 3 (some .int), Cond.fieldLink RX0 15 "DesignPages$Pages" "bytes" "[I", Cond.methodLink RX0 46 yX0_numberAt, Cond.instanceMethod yX0_numberAt, Cond.selects RX0 yX0_numberAt yX0_numberAt, Cond.code yX0_numberAt cX0_numberAt 4 (some .int), Cond.methodLink RX0 35 yX0_sumOf, Cond.instanceMethod yX0_sumOf, Cond.selects RX0 yX0_sumOf yX0_sumOf]
def wsX3_badAt_r3 : List Cond := [Cond.code yX0_sumOf cX0_sumOf 5 (some .int), Cond.constant RX0 57 (668265263), Cond.methodLink RX0 49 yX0_tellsVersions, Cond.instanceMethod yX0_tellsVersions, Cond.selects RX0 yX0_tellsVersions yX0_tellsVersions, Cond.code yX0_tellsVersions cX0_tellsVersions 4 (some .boolean), Cond.constant RX0 58 (1000000), Cond.methodLink RX0 53 yX0_tellsRightPages, Cond.instanceMethod yX0_tellsRightPages, Cond.selects RX0 yX0_tellsRightPages yX0_tellsRightPages, Cond.code yX0_tellsRightPages cX0_tellsRightPages 6 (some .boolean), Cond.fieldLink RX0 9 "DesignPages$Pages" "amount" "I", Cond.methodLink RX2 38 yX2_markTold, Cond.instanceMethod yX2_markTold, Cond.selects RX2 yX2_markTold yX2_markTold, Cond.code yX2_markTold cX2_markTold 8 none, Cond.methodLink RX2 42 yX0_at, Cond.methodLink RX3 130 yX2_leastBad, Cond.instanceMethod yX2_leastBad, Cond.selects RX2 yX2_leastBad yX2_leastBad, Cond.code yX2_leastBad cX2_leastBad 2 (some .int)]
def wsX3_badAt : List Cond := .code yX3_badAt cX3_badAt 1 (some .int) :: ((wsX3_badAt_r1 ++ (wsX3_badAt_r2 ++ wsX3_badAt_r3)) ++ wsX30 ++ wsX10 ++ wsX20 ++ wsX00)
def wsX3_keysOfNewest_r1 : List Cond := [Cond.fieldLink RX3 49 "DesignPages" "newest" "I", Cond.fieldLink RX3 23 "DesignPages" "disk" "LDesignPages$Pages;", Cond.methodLink RX3 86 yX3_pageOfRoot, Cond.static yX3_pageOfRoot, Cond.initialized RX3, Cond.code yX3_pageOfRoot cX3_pageOfRoot 1 (some .int), Cond.methodLink RX3 105 yX0_isRight, Cond.instanceMethod yX0_isRight, Cond.selects RX0 yX0_isRight yX0_isRight, Cond.initialized RX0, Cond.code yX0_isRight cX0_isRight 3 (some .boolean), Cond.methodLink RX0 42 yX0_at, Cond.instanceMethod yX0_at, Cond.selects RX0 yX0_at yX0_at, Cond.code yX0_at cX0_at 3 (some .int), Cond.fieldLink RX0 15 "DesignPages$Pages" "bytes" "[I", Cond.methodLink RX0 46 yX0_numberAt, Cond.instanceMethod yX0_numberAt, Cond.selects RX0 yX0_numberAt yX0_numberAt, Cond.code yX0_numberAt cX0_numberAt 4 (some .int), Cond.methodLink RX0 35 yX0_sumOf, Cond.instanceMethod yX0_sumOf, Cond.selects RX0 yX0_sumOf yX0_sumOf, Cond.code yX0_sumOf cX0_sumOf 5 (some .int)]
def wsX3_keysOfNewest_r2 : List Cond := [Cond.constant RX0 57 (668265263), Cond.methodLink RX0 49 yX0_tellsVersions, Cond.instanceMethod yX0_tellsVersions, Cond.selects RX0 yX0_tellsVersions yX0_tellsVersions, Cond.code yX0_tellsVersions cX0_tellsVersions 4 (some .boolean), Cond.constant RX0 58 (1000000), Cond.methodLink RX0 53 yX0_tellsRightPages, Cond.instanceMethod yX0_tellsRightPages, Cond.selects RX0 yX0_tellsRightPages yX0_tellsRightPages, Cond.code yX0_tellsRightPages cX0_tellsRightPages 6 (some .boolean), Cond.fieldLink RX0 9 "DesignPages$Pages" "amount" "I", Cond.methodLink RX3 99 yX0_at, Cond.methodLink RX3 143 yX0_pagesTold, Cond.instanceMethod yX0_pagesTold, Cond.selects RX0 yX0_pagesTold yX0_pagesTold, Cond.code yX0_pagesTold cX0_pagesTold 6 (some .int)]
def wsX3_keysOfNewest : List Cond := .code yX3_keysOfNewest cX3_keysOfNewest 5 (some .int) :: ((wsX3_keysOfNewest_r1 ++ wsX3_keysOfNewest_r2) ++ wsX30 ++ wsX00)
def wsX3_count_r1 : List Cond := [Cond.fieldLink RX3 37 "DesignPages" "power" "LDesignPages$Power;", Cond.fieldLink RX3 49 "DesignPages" "newest" "I", Cond.fieldLink RX3 52 "DesignPages" "oldest" "I", Cond.fieldLink RX3 30 "DesignPages" "reach" "LDesignPages$Reach;", Cond.fieldLink RX3 23 "DesignPages" "disk" "LDesignPages$Pages;", Cond.fieldLink RX3 45 "DesignPages" "typedCount" "I", Cond.methodLink RX3 55 yX1_isOff, Cond.instanceMethod yX1_isOff, Cond.selects RX1 yX1_isOff yX1_isOff, Cond.initialized RX1, Cond.code yX1_isOff cX1_isOff 1 (some .boolean), Cond.fieldLink RX1 9 "DesignPages$Power" "off" "Z", Cond.methodLink RX3 126 yX2_walk, Cond.instanceMethod yX2_walk, Cond.selects RX2 yX2_walk yX2_walk, Cond.initialized RX2, Cond.code yX2_walk cX2_walk 5 none, Cond.fieldLink RX2 9 "DesignPages$Reach" "marks" "[I", Cond.methodLink RX2 15 yJ7_fill_53178, Cond.static yJ7_fill_53178, Cond.initialized RJ7, Cond.code yJ7_fill_53178 cJ7_fill_53178 4 none, Cond.static yX3_pageOfRoot, Cond.initialized RX3]
def wsX3_count_r2 : List Cond := [Cond.code yX3_pageOfRoot cX3_pageOfRoot 1 (some .int), Cond.methodLink RX2 25 yX2_markOf, Cond.static yX2_markOf, Cond.code yX2_markOf cX2_markOf 1 (some .int), Cond.methodLink RX2 28 yX2_lookAtAll, Cond.instanceMethod yX2_lookAtAll, Cond.selects RX2 yX2_lookAtAll yX2_lookAtAll, Cond.code yX2_lookAtAll cX2_lookAtAll 4 none, Cond.methodLink RX2 32 yX0_isRight, Cond.instanceMethod yX0_isRight, Cond.selects RX0 yX0_isRight yX0_isRight, Cond.initialized RX0, Cond.code yX0_isRight cX0_isRight 3 (some .boolean), Cond.methodLink RX0 42 yX0_at, Cond.instanceMethod yX0_at, Cond.selects RX0 yX0_at yX0_at, Cond.code yX0_at cX0_at 3 (some .int), Cond.fieldLink RX0 15 "DesignPages$Pages" "bytes" "[I", Cond.methodLink RX0 46 yX0_numberAt, Cond.instanceMethod yX0_numberAt, Cond.selects RX0 yX0_numberAt yX0_numberAt, Cond.code yX0_numberAt cX0_numberAt 4 (some .int), Cond.methodLink RX0 35 yX0_sumOf, Cond.instanceMethod yX0_sumOf]
def wsX3_count_r3 : List Cond := [Cond.selects RX0 yX0_sumOf yX0_sumOf, Cond.code yX0_sumOf cX0_sumOf 5 (some .int), Cond.constant RX0 57 (668265263), Cond.methodLink RX0 49 yX0_tellsVersions, Cond.instanceMethod yX0_tellsVersions, Cond.selects RX0 yX0_tellsVersions yX0_tellsVersions, Cond.code yX0_tellsVersions cX0_tellsVersions 4 (some .boolean), Cond.constant RX0 58 (1000000), Cond.methodLink RX0 53 yX0_tellsRightPages, Cond.instanceMethod yX0_tellsRightPages, Cond.selects RX0 yX0_tellsRightPages yX0_tellsRightPages, Cond.code yX0_tellsRightPages cX0_tellsRightPages 6 (some .boolean), Cond.fieldLink RX0 9 "DesignPages$Pages" "amount" "I", Cond.methodLink RX2 38 yX2_markTold, Cond.instanceMethod yX2_markTold, Cond.selects RX2 yX2_markTold yX2_markTold, Cond.code yX2_markTold cX2_markTold 8 none, Cond.methodLink RX2 42 yX0_at, Cond.methodLink RX3 134 yX2_freePages, Cond.instanceMethod yX2_freePages, Cond.selects RX2 yX2_freePages yX2_freePages, Cond.code yX2_freePages cX2_freePages 3 (some .int), Cond.methodLink RX3 137 yX3_keysOfNewest, Cond.instanceMethod yX3_keysOfNewest]
def wsX3_count_r4 : List Cond := [Cond.selects RX3 yX3_keysOfNewest yX3_keysOfNewest, Cond.code yX3_keysOfNewest cX3_keysOfNewest 5 (some .int), Cond.methodLink RX3 86 yX3_pageOfRoot, Cond.methodLink RX3 105 yX0_isRight, Cond.methodLink RX3 99 yX0_at, Cond.methodLink RX3 143 yX0_pagesTold, Cond.instanceMethod yX0_pagesTold, Cond.selects RX0 yX0_pagesTold yX0_pagesTold, Cond.code yX0_pagesTold cX0_pagesTold 6 (some .int)]
def wsX3_count : List Cond := .code yX3_count cX3_count 2 (some .int) :: ((wsX3_count_r1 ++ (wsX3_count_r2 ++ (wsX3_count_r3 ++ wsX3_count_r4))) ++ wsX30 ++ wsX10 ++ wsX20 ++ wsX00)
def wsX3_written : List Cond := .code yX3_written cX3_written 1 (some .int) :: ([.fieldLink RX3 37 "DesignPages" "power" "LDesignPages$Power;", .methodLink RX3 140 yX1_pagesWritten, .instanceMethod yX1_pagesWritten, .selects RX1 yX1_pagesWritten yX1_pagesWritten, .initialized RX1, .code yX1_pagesWritten cX1_pagesWritten 1 (some .int), .fieldLink RX1 19 "DesignPages$Power" "used" "I"] ++ wsX30 ++ wsX10)
def wsX3_isDown : List Cond := .code yX3_isDown cX3_isDown 1 (some .boolean) :: ([.fieldLink RX3 37 "DesignPages" "power" "LDesignPages$Power;", .methodLink RX3 55 yX1_isOff, .instanceMethod yX1_isOff, .selects RX1 yX1_isOff yX1_isOff, .initialized RX1, .code yX1_isOff cX1_isOff 1 (some .boolean), .fieldLink RX1 9 "DesignPages$Power" "off" "Z"] ++ wsX30 ++ wsX10)
def wsX4_init : List Cond := .code yX4_init cX4_init 2 none :: ([.methodLink RX4 1 objectInit, .instanceMethod objectInit, .code objectInit ⟨#[0xb1]⟩ 1 none, .arrayClass .int, .fieldLink RX4 7 "DesignPagesModel" "bytes" "[I", .fieldLink RX4 13 "DesignPagesModel" "oldest" "I", .fieldLink RX4 17 "DesignPagesModel" "left" "I", .fieldLink RX4 20 "DesignPagesModel" "types" "[I", .arrayClass .boolean, .fieldLink RX4 23 "DesignPagesModel" "reached" "[Z", .fieldLink RX4 27 "DesignPagesModel" "pages" "I"] ++ wsX40)
def wsX4_at : List Cond := .code yX4_at cX4_at 3 (some .int) :: ([.fieldLink RX4 7 "DesignPagesModel" "bytes" "[I"] ++ wsX40)
def wsX4_number : List Cond := .code yX4_number cX4_number 3 (some .int) :: ([.methodLink RX4 33 yX4_at, .instanceMethod yX4_at, .selects RX4 yX4_at yX4_at, .initialized RX4, .code yX4_at cX4_at 3 (some .int), .fieldLink RX4 7 "DesignPagesModel" "bytes" "[I"] ++ wsX40)
def wsX4_lay : List Cond := .code yX4_lay cX4_lay 4 none :: ([.fieldLink RX4 7 "DesignPagesModel" "bytes" "[I"] ++ wsX40)
def wsX4_putNumber : List Cond := .code yX4_putNumber cX4_putNumber 5 none :: ([.methodLink RX4 37 yX4_lay, .instanceMethod yX4_lay, .selects RX4 yX4_lay yX4_lay, .initialized RX4, .code yX4_lay cX4_lay 4 none, .fieldLink RX4 7 "DesignPagesModel" "bytes" "[I"] ++ wsX40)
def wsX4_sum : List Cond := .code yX4_sum cX4_sum 5 (some .int) :: ([.constant RX4 41 (668265263), .methodLink RX4 33 yX4_at, .instanceMethod yX4_at, .selects RX4 yX4_at yX4_at, .initialized RX4, .code yX4_at cX4_at 3 (some .int), .fieldLink RX4 7 "DesignPagesModel" "bytes" "[I"] ++ wsX40)
def wsX4_isKind : List Cond := .code yX4_isKind cX4_isKind 3 (some .boolean) :: ([.methodLink RX4 33 yX4_at, .instanceMethod yX4_at, .selects RX4 yX4_at yX4_at, .initialized RX4, .code yX4_at cX4_at 3 (some .int), .fieldLink RX4 7 "DesignPagesModel" "bytes" "[I", .methodLink RX4 42 yX4_number, .instanceMethod yX4_number, .selects RX4 yX4_number yX4_number, .code yX4_number cX4_number 3 (some .int), .methodLink RX4 45 yX4_sum, .instanceMethod yX4_sum, .selects RX4 yX4_sum yX4_sum, .code yX4_sum cX4_sum 5 (some .int), .constant RX4 41 (668265263)] ++ wsX40)
def wsX4_tellsPages : List Cond := .code yX4_tellsPages cX4_tellsPages 6 (some .boolean) :: ([.fieldLink RX4 27 "DesignPagesModel" "pages" "I", .methodLink RX4 33 yX4_at, .instanceMethod yX4_at, .selects RX4 yX4_at yX4_at, .initialized RX4, .code yX4_at cX4_at 3 (some .int), .fieldLink RX4 7 "DesignPagesModel" "bytes" "[I"] ++ wsX40)
def wsX4_isRight_r1 : List Cond := [Cond.constant RX4 56 (1000000), Cond.methodLink RX4 49 yX4_isKind, Cond.instanceMethod yX4_isKind, Cond.selects RX4 yX4_isKind yX4_isKind, Cond.initialized RX4, Cond.code yX4_isKind cX4_isKind 3 (some .boolean), Cond.methodLink RX4 33 yX4_at, Cond.instanceMethod yX4_at, Cond.selects RX4 yX4_at yX4_at, Cond.code yX4_at cX4_at 3 (some .int), Cond.fieldLink RX4 7 "DesignPagesModel" "bytes" "[I", Cond.methodLink RX4 42 yX4_number, Cond.instanceMethod yX4_number, Cond.selects RX4 yX4_number yX4_number, Cond.code yX4_number cX4_number 3 (some .int), Cond.methodLink RX4 45 yX4_sum, Cond.instanceMethod yX4_sum, Cond.selects RX4 yX4_sum yX4_sum, Cond.code yX4_sum cX4_sum 5 (some .int), Cond.constant RX4 41 (668265263), Cond.methodLink RX4 53 yX4_tellsPages, Cond.instanceMethod yX4_tellsPages, Cond.selects RX4 yX4_tellsPages yX4_tellsPages, Cond.code yX4_tellsPages cX4_tellsPages 6 (some .boolean)]
def wsX4_isRight_r2 : List Cond := [Cond.fieldLink RX4 27 "DesignPagesModel" "pages" "I"]
def wsX4_isRight : List Cond := .code yX4_isRight cX4_isRight 5 (some .boolean) :: ((wsX4_isRight_r1 ++ wsX4_isRight_r2) ++ wsX40)
def wsX4_reach_r1 : List Cond := [Cond.fieldLink RX4 23 "DesignPagesModel" "reached" "[Z", Cond.fieldLink RX4 60 "DesignPagesModel" "bad" "I", Cond.methodLink RX4 57 yX4_isRight, Cond.instanceMethod yX4_isRight, Cond.selects RX4 yX4_isRight yX4_isRight, Cond.initialized RX4, Cond.code yX4_isRight cX4_isRight 5 (some .boolean), Cond.constant RX4 56 (1000000), Cond.methodLink RX4 49 yX4_isKind, Cond.instanceMethod yX4_isKind, Cond.selects RX4 yX4_isKind yX4_isKind, Cond.code yX4_isKind cX4_isKind 3 (some .boolean), Cond.methodLink RX4 33 yX4_at, Cond.instanceMethod yX4_at, Cond.selects RX4 yX4_at yX4_at, Cond.code yX4_at cX4_at 3 (some .int), Cond.fieldLink RX4 7 "DesignPagesModel" "bytes" "[I", Cond.methodLink RX4 42 yX4_number, Cond.instanceMethod yX4_number, Cond.selects RX4 yX4_number yX4_number, Cond.code yX4_number cX4_number 3 (some .int), Cond.methodLink RX4 45 yX4_sum, Cond.instanceMethod yX4_sum, Cond.selects RX4 yX4_sum yX4_sum]
def wsX4_reach_r2 : List Cond := [Cond.code yX4_sum cX4_sum 5 (some .int), Cond.constant RX4 41 (668265263), Cond.methodLink RX4 53 yX4_tellsPages, Cond.instanceMethod yX4_tellsPages, Cond.selects RX4 yX4_tellsPages yX4_tellsPages, Cond.code yX4_tellsPages cX4_tellsPages 6 (some .boolean), Cond.fieldLink RX4 27 "DesignPagesModel" "pages" "I"]
def wsX4_reach : List Cond := .code yX4_reach cX4_reach 3 none :: ((wsX4_reach_r1 ++ wsX4_reach_r2) ++ wsX40)
def wsX4_reachNode_r1 : List Cond := [Cond.methodLink RX4 63 yX4_reach, Cond.instanceMethod yX4_reach, Cond.selects RX4 yX4_reach yX4_reach, Cond.initialized RX4, Cond.code yX4_reach cX4_reach 3 none, Cond.fieldLink RX4 23 "DesignPagesModel" "reached" "[Z", Cond.fieldLink RX4 60 "DesignPagesModel" "bad" "I", Cond.methodLink RX4 57 yX4_isRight, Cond.instanceMethod yX4_isRight, Cond.selects RX4 yX4_isRight yX4_isRight, Cond.code yX4_isRight cX4_isRight 5 (some .boolean), Cond.constant RX4 56 (1000000), Cond.methodLink RX4 49 yX4_isKind, Cond.instanceMethod yX4_isKind, Cond.selects RX4 yX4_isKind yX4_isKind, Cond.code yX4_isKind cX4_isKind 3 (some .boolean), Cond.methodLink RX4 33 yX4_at, Cond.instanceMethod yX4_at, Cond.selects RX4 yX4_at yX4_at, Cond.code yX4_at cX4_at 3 (some .int), Cond.fieldLink RX4 7 "DesignPagesModel" "bytes" "[I", Cond.methodLink RX4 42 yX4_number, Cond.instanceMethod yX4_number, Cond.selects RX4 yX4_number yX4_number]
def wsX4_reachNode_r2 : List Cond := [Cond.code yX4_number cX4_number 3 (some .int), Cond.methodLink RX4 45 yX4_sum, Cond.instanceMethod yX4_sum, Cond.selects RX4 yX4_sum yX4_sum, Cond.code yX4_sum cX4_sum 5 (some .int), Cond.constant RX4 41 (668265263), Cond.methodLink RX4 53 yX4_tellsPages, Cond.instanceMethod yX4_tellsPages, Cond.selects RX4 yX4_tellsPages yX4_tellsPages, Cond.code yX4_tellsPages cX4_tellsPages 6 (some .boolean), Cond.fieldLink RX4 27 "DesignPagesModel" "pages" "I"]
def wsX4_reachNode : List Cond := .code yX4_reachNode cX4_reachNode 3 none :: ((wsX4_reachNode_r1 ++ wsX4_reachNode_r2) ++ wsX40)
def wsX4_reachAll_r1 : List Cond := [Cond.fieldLink RX4 60 "DesignPagesModel" "bad" "I", Cond.fieldLink RX4 27 "DesignPagesModel" "pages" "I", Cond.fieldLink RX4 23 "DesignPagesModel" "reached" "[Z", Cond.fieldLink RX4 13 "DesignPagesModel" "oldest" "I", Cond.fieldLink RX4 67 "DesignPagesModel" "newest" "I", Cond.methodLink RX4 63 yX4_reach, Cond.instanceMethod yX4_reach, Cond.selects RX4 yX4_reach yX4_reach, Cond.initialized RX4, Cond.code yX4_reach cX4_reach 3 none, Cond.methodLink RX4 57 yX4_isRight, Cond.instanceMethod yX4_isRight, Cond.selects RX4 yX4_isRight yX4_isRight, Cond.code yX4_isRight cX4_isRight 5 (some .boolean), Cond.constant RX4 56 (1000000), Cond.methodLink RX4 49 yX4_isKind, Cond.instanceMethod yX4_isKind, Cond.selects RX4 yX4_isKind yX4_isKind, Cond.code yX4_isKind cX4_isKind 3 (some .boolean), Cond.methodLink RX4 33 yX4_at, Cond.instanceMethod yX4_at, Cond.selects RX4 yX4_at yX4_at, Cond.code yX4_at cX4_at 3 (some .int), Cond.fieldLink RX4 7 "DesignPagesModel" "bytes" "[I"]
def wsX4_reachAll_r2 : List Cond := [Cond.methodLink RX4 42 yX4_number, Cond.instanceMethod yX4_number, Cond.selects RX4 yX4_number yX4_number, Cond.code yX4_number cX4_number 3 (some .int), Cond.methodLink RX4 45 yX4_sum, Cond.instanceMethod yX4_sum, Cond.selects RX4 yX4_sum yX4_sum, Cond.code yX4_sum cX4_sum 5 (some .int), Cond.constant RX4 41 (668265263), Cond.methodLink RX4 53 yX4_tellsPages, Cond.instanceMethod yX4_tellsPages, Cond.selects RX4 yX4_tellsPages yX4_tellsPages, Cond.code yX4_tellsPages cX4_tellsPages 6 (some .boolean), Cond.methodLink RX4 70 yX4_reachNode, Cond.instanceMethod yX4_reachNode, Cond.selects RX4 yX4_reachNode yX4_reachNode, Cond.code yX4_reachNode cX4_reachNode 3 none]
def wsX4_reachAll : List Cond := .code yX4_reachAll cX4_reachAll 4 none :: ((wsX4_reachAll_r1 ++ wsX4_reachAll_r2) ++ wsX40)
def wsX4_free : List Cond := .code yX4_free cX4_free 3 (some .int) :: ([.fieldLink RX4 27 "DesignPagesModel" "pages" "I", .fieldLink RX4 23 "DesignPagesModel" "reached" "[Z"] ++ wsX40)
def wsX4_empty : List Cond := .code yX4_empty cX4_empty 4 none :: ([.methodLink RX4 37 yX4_lay, .instanceMethod yX4_lay, .selects RX4 yX4_lay yX4_lay, .initialized RX4, .code yX4_lay cX4_lay 4 none, .fieldLink RX4 7 "DesignPagesModel" "bytes" "[I"] ++ wsX40)
def wsX4_copy : List Cond := .code yX4_copy cX4_copy 4 none :: ([.methodLink RX4 33 yX4_at, .instanceMethod yX4_at, .selects RX4 yX4_at yX4_at, .initialized RX4, .code yX4_at cX4_at 3 (some .int), .fieldLink RX4 7 "DesignPagesModel" "bytes" "[I", .methodLink RX4 37 yX4_lay, .instanceMethod yX4_lay, .selects RX4 yX4_lay yX4_lay, .code yX4_lay cX4_lay 4 none] ++ wsX40)
def wsX4_fail : List Cond := .code yX4_fail cX4_fail 1 none :: ([.fieldLink RX4 83 "DesignPagesModel" "down" "Z", .fieldLink RX4 17 "DesignPagesModel" "left" "I", .fieldLink RX4 87 "DesignPagesModel" "typed" "I"] ++ wsX40)
def wsX4_done_r1 : List Cond := [Cond.fieldLink RX4 77 "DesignPagesModel" "written" "I", Cond.fieldLink RX4 17 "DesignPagesModel" "left" "I", Cond.fieldLink RX4 83 "DesignPagesModel" "down" "Z", Cond.methodLink RX4 45 yX4_sum, Cond.instanceMethod yX4_sum, Cond.selects RX4 yX4_sum yX4_sum, Cond.initialized RX4, Cond.code yX4_sum cX4_sum 5 (some .int), Cond.constant RX4 41 (668265263), Cond.methodLink RX4 33 yX4_at, Cond.instanceMethod yX4_at, Cond.selects RX4 yX4_at yX4_at, Cond.code yX4_at cX4_at 3 (some .int), Cond.fieldLink RX4 7 "DesignPagesModel" "bytes" "[I", Cond.methodLink RX4 74 yX4_putNumber, Cond.instanceMethod yX4_putNumber, Cond.selects RX4 yX4_putNumber yX4_putNumber, Cond.code yX4_putNumber cX4_putNumber 5 none, Cond.methodLink RX4 37 yX4_lay, Cond.instanceMethod yX4_lay, Cond.selects RX4 yX4_lay yX4_lay, Cond.code yX4_lay cX4_lay 4 none, Cond.methodLink RX4 80 yX4_fail, Cond.instanceMethod yX4_fail]
def wsX4_done_r2 : List Cond := [Cond.selects RX4 yX4_fail yX4_fail, Cond.code yX4_fail cX4_fail 1 none, Cond.fieldLink RX4 87 "DesignPagesModel" "typed" "I"]
def wsX4_done : List Cond := .code yX4_done cX4_done 2 (some .boolean) :: ((wsX4_done_r1 ++ wsX4_done_r2) ++ wsX40)
def wsX4_hasVersion : List Cond := .code yX4_hasVersion cX4_hasVersion 1 (some .boolean) :: ([.fieldLink RX4 67 "DesignPagesModel" "newest" "I", .fieldLink RX4 13 "DesignPagesModel" "oldest" "I"] ++ wsX40)
def wsX4_nodeOf : List Cond := .code yX4_nodeOf cX4_nodeOf 3 (some .int) :: ([.methodLink RX4 33 yX4_at, .instanceMethod yX4_at, .selects RX4 yX4_at yX4_at, .initialized RX4, .code yX4_at cX4_at 3 (some .int), .fieldLink RX4 7 "DesignPagesModel" "bytes" "[I"] ++ wsX40)
def wsX4_change_r1 : List Cond := [Cond.fieldLink RX4 67 "DesignPagesModel" "newest" "I", Cond.fieldLink RX4 13 "DesignPagesModel" "oldest" "I", Cond.methodLink RX4 90 yX4_hasVersion, Cond.instanceMethod yX4_hasVersion, Cond.selects RX4 yX4_hasVersion yX4_hasVersion, Cond.initialized RX4, Cond.code yX4_hasVersion cX4_hasVersion 1 (some .boolean), Cond.methodLink RX4 94 yX4_nodeOf, Cond.instanceMethod yX4_nodeOf, Cond.selects RX4 yX4_nodeOf yX4_nodeOf, Cond.code yX4_nodeOf cX4_nodeOf 3 (some .int), Cond.methodLink RX4 33 yX4_at, Cond.instanceMethod yX4_at, Cond.selects RX4 yX4_at yX4_at, Cond.code yX4_at cX4_at 3 (some .int), Cond.fieldLink RX4 7 "DesignPagesModel" "bytes" "[I", Cond.methodLink RX4 97 yX4_empty, Cond.instanceMethod yX4_empty, Cond.selects RX4 yX4_empty yX4_empty, Cond.code yX4_empty cX4_empty 4 none, Cond.methodLink RX4 37 yX4_lay, Cond.instanceMethod yX4_lay, Cond.selects RX4 yX4_lay yX4_lay, Cond.code yX4_lay cX4_lay 4 none]
def wsX4_change_r2 : List Cond := [Cond.methodLink RX4 100 yX4_copy, Cond.instanceMethod yX4_copy, Cond.selects RX4 yX4_copy yX4_copy, Cond.code yX4_copy cX4_copy 4 none, Cond.methodLink RX4 103 yX4_done, Cond.instanceMethod yX4_done, Cond.selects RX4 yX4_done yX4_done, Cond.code yX4_done cX4_done 2 (some .boolean), Cond.fieldLink RX4 77 "DesignPagesModel" "written" "I", Cond.fieldLink RX4 17 "DesignPagesModel" "left" "I", Cond.fieldLink RX4 83 "DesignPagesModel" "down" "Z", Cond.methodLink RX4 45 yX4_sum, Cond.instanceMethod yX4_sum, Cond.selects RX4 yX4_sum yX4_sum, Cond.code yX4_sum cX4_sum 5 (some .int), Cond.constant RX4 41 (668265263), Cond.methodLink RX4 74 yX4_putNumber, Cond.instanceMethod yX4_putNumber, Cond.selects RX4 yX4_putNumber yX4_putNumber, Cond.code yX4_putNumber cX4_putNumber 5 none, Cond.methodLink RX4 80 yX4_fail, Cond.instanceMethod yX4_fail, Cond.selects RX4 yX4_fail yX4_fail, Cond.code yX4_fail cX4_fail 1 none]
def wsX4_change_r3 : List Cond := [Cond.fieldLink RX4 87 "DesignPagesModel" "typed" "I"]
def wsX4_change : List Cond := .code yX4_change cX4_change 8 (some .int) :: ((wsX4_change_r1 ++ (wsX4_change_r2 ++ wsX4_change_r3)) ++ wsX40)
def wsX4_isKey : List Cond := .code yX4_isKey cX4_isKey 1 (some .boolean) :: ([])
def wsX4_type : List Cond := .code yX4_type cX4_type 2 (some .int) :: ([.fieldLink RX4 30 "DesignPagesModel" "code" "I", .fieldLink RX4 83 "DesignPagesModel" "down" "Z", .fieldLink RX4 87 "DesignPagesModel" "typed" "I", .fieldLink RX4 20 "DesignPagesModel" "types" "[I"] ++ wsX40)
def wsX4_put_r1 : List Cond := [Cond.fieldLink RX4 30 "DesignPagesModel" "code" "I", Cond.fieldLink RX4 83 "DesignPagesModel" "down" "Z", Cond.fieldLink RX4 60 "DesignPagesModel" "bad" "I", Cond.fieldLink RX4 67 "DesignPagesModel" "newest" "I", Cond.constant RX4 56 (1000000), Cond.fieldLink RX4 87 "DesignPagesModel" "typed" "I", Cond.fieldLink RX4 20 "DesignPagesModel" "types" "[I", Cond.methodLink RX4 107 yX4_isKey, Cond.static yX4_isKey, Cond.initialized RX4, Cond.code yX4_isKey cX4_isKey 1 (some .boolean), Cond.methodLink RX4 110 yX4_reachAll, Cond.instanceMethod yX4_reachAll, Cond.selects RX4 yX4_reachAll yX4_reachAll, Cond.code yX4_reachAll cX4_reachAll 4 none, Cond.fieldLink RX4 27 "DesignPagesModel" "pages" "I", Cond.fieldLink RX4 23 "DesignPagesModel" "reached" "[Z", Cond.fieldLink RX4 13 "DesignPagesModel" "oldest" "I", Cond.methodLink RX4 63 yX4_reach, Cond.instanceMethod yX4_reach, Cond.selects RX4 yX4_reach yX4_reach, Cond.code yX4_reach cX4_reach 3 none, Cond.methodLink RX4 57 yX4_isRight, Cond.instanceMethod yX4_isRight]
def wsX4_put_r2 : List Cond := [Cond.selects RX4 yX4_isRight yX4_isRight, Cond.code yX4_isRight cX4_isRight 5 (some .boolean), Cond.methodLink RX4 49 yX4_isKind, Cond.instanceMethod yX4_isKind, Cond.selects RX4 yX4_isKind yX4_isKind, Cond.code yX4_isKind cX4_isKind 3 (some .boolean), Cond.methodLink RX4 33 yX4_at, Cond.instanceMethod yX4_at, Cond.selects RX4 yX4_at yX4_at, Cond.code yX4_at cX4_at 3 (some .int), Cond.fieldLink RX4 7 "DesignPagesModel" "bytes" "[I", Cond.methodLink RX4 42 yX4_number, Cond.instanceMethod yX4_number, Cond.selects RX4 yX4_number yX4_number, Cond.code yX4_number cX4_number 3 (some .int), Cond.methodLink RX4 45 yX4_sum, Cond.instanceMethod yX4_sum, Cond.selects RX4 yX4_sum yX4_sum, Cond.code yX4_sum cX4_sum 5 (some .int), Cond.constant RX4 41 (668265263), Cond.methodLink RX4 53 yX4_tellsPages, Cond.instanceMethod yX4_tellsPages, Cond.selects RX4 yX4_tellsPages yX4_tellsPages, Cond.code yX4_tellsPages cX4_tellsPages 6 (some .boolean)]
def wsX4_put_r3 : List Cond := [Cond.methodLink RX4 70 yX4_reachNode, Cond.instanceMethod yX4_reachNode, Cond.selects RX4 yX4_reachNode yX4_reachNode, Cond.code yX4_reachNode cX4_reachNode 3 none, Cond.methodLink RX4 113 yX4_free, Cond.instanceMethod yX4_free, Cond.selects RX4 yX4_free yX4_free, Cond.code yX4_free cX4_free 3 (some .int), Cond.methodLink RX4 97 yX4_empty, Cond.instanceMethod yX4_empty, Cond.selects RX4 yX4_empty yX4_empty, Cond.code yX4_empty cX4_empty 4 none, Cond.methodLink RX4 37 yX4_lay, Cond.instanceMethod yX4_lay, Cond.selects RX4 yX4_lay yX4_lay, Cond.code yX4_lay cX4_lay 4 none, Cond.methodLink RX4 103 yX4_done, Cond.instanceMethod yX4_done, Cond.selects RX4 yX4_done yX4_done, Cond.code yX4_done cX4_done 2 (some .boolean), Cond.fieldLink RX4 77 "DesignPagesModel" "written" "I", Cond.fieldLink RX4 17 "DesignPagesModel" "left" "I", Cond.methodLink RX4 74 yX4_putNumber, Cond.instanceMethod yX4_putNumber]
def wsX4_put_r4 : List Cond := [Cond.selects RX4 yX4_putNumber yX4_putNumber, Cond.code yX4_putNumber cX4_putNumber 5 none, Cond.methodLink RX4 80 yX4_fail, Cond.instanceMethod yX4_fail, Cond.selects RX4 yX4_fail yX4_fail, Cond.code yX4_fail cX4_fail 1 none, Cond.methodLink RX4 116 yX4_change, Cond.instanceMethod yX4_change, Cond.selects RX4 yX4_change yX4_change, Cond.code yX4_change cX4_change 8 (some .int), Cond.methodLink RX4 90 yX4_hasVersion, Cond.instanceMethod yX4_hasVersion, Cond.selects RX4 yX4_hasVersion yX4_hasVersion, Cond.code yX4_hasVersion cX4_hasVersion 1 (some .boolean), Cond.methodLink RX4 94 yX4_nodeOf, Cond.instanceMethod yX4_nodeOf, Cond.selects RX4 yX4_nodeOf yX4_nodeOf, Cond.code yX4_nodeOf cX4_nodeOf 3 (some .int), Cond.methodLink RX4 100 yX4_copy, Cond.instanceMethod yX4_copy, Cond.selects RX4 yX4_copy yX4_copy, Cond.code yX4_copy cX4_copy 4 none]
def wsX4_put : List Cond := .code yX4_put cX4_put 5 (some .int) :: ((wsX4_put_r1 ++ (wsX4_put_r2 ++ (wsX4_put_r3 ++ wsX4_put_r4))) ++ wsX40)
def wsX4_remove_r1 : List Cond := [Cond.fieldLink RX4 30 "DesignPagesModel" "code" "I", Cond.fieldLink RX4 83 "DesignPagesModel" "down" "Z", Cond.fieldLink RX4 60 "DesignPagesModel" "bad" "I", Cond.fieldLink RX4 67 "DesignPagesModel" "newest" "I", Cond.constant RX4 56 (1000000), Cond.methodLink RX4 107 yX4_isKey, Cond.static yX4_isKey, Cond.initialized RX4, Cond.code yX4_isKey cX4_isKey 1 (some .boolean), Cond.methodLink RX4 110 yX4_reachAll, Cond.instanceMethod yX4_reachAll, Cond.selects RX4 yX4_reachAll yX4_reachAll, Cond.code yX4_reachAll cX4_reachAll 4 none, Cond.fieldLink RX4 27 "DesignPagesModel" "pages" "I", Cond.fieldLink RX4 23 "DesignPagesModel" "reached" "[Z", Cond.fieldLink RX4 13 "DesignPagesModel" "oldest" "I", Cond.methodLink RX4 63 yX4_reach, Cond.instanceMethod yX4_reach, Cond.selects RX4 yX4_reach yX4_reach, Cond.code yX4_reach cX4_reach 3 none, Cond.methodLink RX4 57 yX4_isRight, Cond.instanceMethod yX4_isRight, Cond.selects RX4 yX4_isRight yX4_isRight, Cond.code yX4_isRight cX4_isRight 5 (some .boolean)]
def wsX4_remove_r2 : List Cond := [Cond.methodLink RX4 49 yX4_isKind, Cond.instanceMethod yX4_isKind, Cond.selects RX4 yX4_isKind yX4_isKind, Cond.code yX4_isKind cX4_isKind 3 (some .boolean), Cond.methodLink RX4 33 yX4_at, Cond.instanceMethod yX4_at, Cond.selects RX4 yX4_at yX4_at, Cond.code yX4_at cX4_at 3 (some .int), Cond.fieldLink RX4 7 "DesignPagesModel" "bytes" "[I", Cond.methodLink RX4 42 yX4_number, Cond.instanceMethod yX4_number, Cond.selects RX4 yX4_number yX4_number, Cond.code yX4_number cX4_number 3 (some .int), Cond.methodLink RX4 45 yX4_sum, Cond.instanceMethod yX4_sum, Cond.selects RX4 yX4_sum yX4_sum, Cond.code yX4_sum cX4_sum 5 (some .int), Cond.constant RX4 41 (668265263), Cond.methodLink RX4 53 yX4_tellsPages, Cond.instanceMethod yX4_tellsPages, Cond.selects RX4 yX4_tellsPages yX4_tellsPages, Cond.code yX4_tellsPages cX4_tellsPages 6 (some .boolean), Cond.methodLink RX4 70 yX4_reachNode, Cond.instanceMethod yX4_reachNode]
def wsX4_remove_r3 : List Cond := [Cond.selects RX4 yX4_reachNode yX4_reachNode, Cond.code yX4_reachNode cX4_reachNode 3 none, Cond.methodLink RX4 90 yX4_hasVersion, Cond.instanceMethod yX4_hasVersion, Cond.selects RX4 yX4_hasVersion yX4_hasVersion, Cond.code yX4_hasVersion cX4_hasVersion 1 (some .boolean), Cond.methodLink RX4 94 yX4_nodeOf, Cond.instanceMethod yX4_nodeOf, Cond.selects RX4 yX4_nodeOf yX4_nodeOf, Cond.code yX4_nodeOf cX4_nodeOf 3 (some .int), Cond.methodLink RX4 113 yX4_free, Cond.instanceMethod yX4_free, Cond.selects RX4 yX4_free yX4_free, Cond.code yX4_free cX4_free 3 (some .int), Cond.methodLink RX4 116 yX4_change, Cond.instanceMethod yX4_change, Cond.selects RX4 yX4_change yX4_change, Cond.code yX4_change cX4_change 8 (some .int), Cond.methodLink RX4 97 yX4_empty, Cond.instanceMethod yX4_empty, Cond.selects RX4 yX4_empty yX4_empty, Cond.code yX4_empty cX4_empty 4 none, Cond.methodLink RX4 37 yX4_lay, Cond.instanceMethod yX4_lay]
def wsX4_remove_r4 : List Cond := [Cond.selects RX4 yX4_lay yX4_lay, Cond.code yX4_lay cX4_lay 4 none, Cond.methodLink RX4 100 yX4_copy, Cond.instanceMethod yX4_copy, Cond.selects RX4 yX4_copy yX4_copy, Cond.code yX4_copy cX4_copy 4 none, Cond.methodLink RX4 103 yX4_done, Cond.instanceMethod yX4_done, Cond.selects RX4 yX4_done yX4_done, Cond.code yX4_done cX4_done 2 (some .boolean), Cond.fieldLink RX4 77 "DesignPagesModel" "written" "I", Cond.fieldLink RX4 17 "DesignPagesModel" "left" "I", Cond.methodLink RX4 74 yX4_putNumber, Cond.instanceMethod yX4_putNumber, Cond.selects RX4 yX4_putNumber yX4_putNumber, Cond.code yX4_putNumber cX4_putNumber 5 none, Cond.methodLink RX4 80 yX4_fail, Cond.instanceMethod yX4_fail, Cond.selects RX4 yX4_fail yX4_fail, Cond.code yX4_fail cX4_fail 1 none, Cond.fieldLink RX4 87 "DesignPagesModel" "typed" "I"]
def wsX4_remove : List Cond := .code yX4_remove cX4_remove 4 (some .int) :: ((wsX4_remove_r1 ++ (wsX4_remove_r2 ++ (wsX4_remove_r3 ++ wsX4_remove_r4))) ++ wsX40)
def wsX4_isKept : List Cond := .code yX4_isKept cX4_isKept 2 (some .boolean) :: ([.fieldLink RX4 13 "DesignPagesModel" "oldest" "I", .fieldLink RX4 67 "DesignPagesModel" "newest" "I"] ++ wsX40)
def wsX4_drop_r1 : List Cond := [Cond.fieldLink RX4 30 "DesignPagesModel" "code" "I", Cond.fieldLink RX4 83 "DesignPagesModel" "down" "Z", Cond.fieldLink RX4 67 "DesignPagesModel" "newest" "I", Cond.fieldLink RX4 60 "DesignPagesModel" "bad" "I", Cond.fieldLink RX4 13 "DesignPagesModel" "oldest" "I", Cond.methodLink RX4 120 yX4_isKept, Cond.instanceMethod yX4_isKept, Cond.selects RX4 yX4_isKept yX4_isKept, Cond.initialized RX4, Cond.code yX4_isKept cX4_isKept 2 (some .boolean), Cond.methodLink RX4 110 yX4_reachAll, Cond.instanceMethod yX4_reachAll, Cond.selects RX4 yX4_reachAll yX4_reachAll, Cond.code yX4_reachAll cX4_reachAll 4 none, Cond.fieldLink RX4 27 "DesignPagesModel" "pages" "I", Cond.fieldLink RX4 23 "DesignPagesModel" "reached" "[Z", Cond.methodLink RX4 63 yX4_reach, Cond.instanceMethod yX4_reach, Cond.selects RX4 yX4_reach yX4_reach, Cond.code yX4_reach cX4_reach 3 none, Cond.methodLink RX4 57 yX4_isRight, Cond.instanceMethod yX4_isRight, Cond.selects RX4 yX4_isRight yX4_isRight, Cond.code yX4_isRight cX4_isRight 5 (some .boolean)]
def wsX4_drop_r2 : List Cond := [Cond.constant RX4 56 (1000000), Cond.methodLink RX4 49 yX4_isKind, Cond.instanceMethod yX4_isKind, Cond.selects RX4 yX4_isKind yX4_isKind, Cond.code yX4_isKind cX4_isKind 3 (some .boolean), Cond.methodLink RX4 33 yX4_at, Cond.instanceMethod yX4_at, Cond.selects RX4 yX4_at yX4_at, Cond.code yX4_at cX4_at 3 (some .int), Cond.fieldLink RX4 7 "DesignPagesModel" "bytes" "[I", Cond.methodLink RX4 42 yX4_number, Cond.instanceMethod yX4_number, Cond.selects RX4 yX4_number yX4_number, Cond.code yX4_number cX4_number 3 (some .int), Cond.methodLink RX4 45 yX4_sum, Cond.instanceMethod yX4_sum, Cond.selects RX4 yX4_sum yX4_sum, Cond.code yX4_sum cX4_sum 5 (some .int), Cond.constant RX4 41 (668265263), Cond.methodLink RX4 53 yX4_tellsPages, Cond.instanceMethod yX4_tellsPages, Cond.selects RX4 yX4_tellsPages yX4_tellsPages, Cond.code yX4_tellsPages cX4_tellsPages 6 (some .boolean), Cond.methodLink RX4 70 yX4_reachNode]
def wsX4_drop_r3 : List Cond := [Cond.instanceMethod yX4_reachNode, Cond.selects RX4 yX4_reachNode yX4_reachNode, Cond.code yX4_reachNode cX4_reachNode 3 none, Cond.methodLink RX4 74 yX4_putNumber, Cond.instanceMethod yX4_putNumber, Cond.selects RX4 yX4_putNumber yX4_putNumber, Cond.code yX4_putNumber cX4_putNumber 5 none, Cond.methodLink RX4 37 yX4_lay, Cond.instanceMethod yX4_lay, Cond.selects RX4 yX4_lay yX4_lay, Cond.code yX4_lay cX4_lay 4 none, Cond.methodLink RX4 103 yX4_done, Cond.instanceMethod yX4_done, Cond.selects RX4 yX4_done yX4_done, Cond.code yX4_done cX4_done 2 (some .boolean), Cond.fieldLink RX4 77 "DesignPagesModel" "written" "I", Cond.fieldLink RX4 17 "DesignPagesModel" "left" "I", Cond.methodLink RX4 80 yX4_fail, Cond.instanceMethod yX4_fail, Cond.selects RX4 yX4_fail yX4_fail, Cond.code yX4_fail cX4_fail 1 none, Cond.fieldLink RX4 87 "DesignPagesModel" "typed" "I"]
def wsX4_drop : List Cond := .code yX4_drop cX4_drop 2 (some .int) :: ((wsX4_drop_r1 ++ (wsX4_drop_r2 ++ wsX4_drop_r3)) ++ wsX40)
def wsX4_thingOf_r1 : List Cond := [Cond.fieldLink RX4 83 "DesignPagesModel" "down" "Z", Cond.methodLink RX4 120 yX4_isKept, Cond.instanceMethod yX4_isKept, Cond.selects RX4 yX4_isKept yX4_isKept, Cond.initialized RX4, Cond.code yX4_isKept cX4_isKept 2 (some .boolean), Cond.fieldLink RX4 13 "DesignPagesModel" "oldest" "I", Cond.fieldLink RX4 67 "DesignPagesModel" "newest" "I", Cond.methodLink RX4 107 yX4_isKey, Cond.static yX4_isKey, Cond.code yX4_isKey cX4_isKey 1 (some .boolean), Cond.methodLink RX4 57 yX4_isRight, Cond.instanceMethod yX4_isRight, Cond.selects RX4 yX4_isRight yX4_isRight, Cond.code yX4_isRight cX4_isRight 5 (some .boolean), Cond.constant RX4 56 (1000000), Cond.methodLink RX4 49 yX4_isKind, Cond.instanceMethod yX4_isKind, Cond.selects RX4 yX4_isKind yX4_isKind, Cond.code yX4_isKind cX4_isKind 3 (some .boolean), Cond.methodLink RX4 33 yX4_at, Cond.instanceMethod yX4_at, Cond.selects RX4 yX4_at yX4_at, Cond.code yX4_at cX4_at 3 (some .int)]
def wsX4_thingOf_r2 : List Cond := [Cond.fieldLink RX4 7 "DesignPagesModel" "bytes" "[I", Cond.methodLink RX4 42 yX4_number, Cond.instanceMethod yX4_number, Cond.selects RX4 yX4_number yX4_number, Cond.code yX4_number cX4_number 3 (some .int), Cond.methodLink RX4 45 yX4_sum, Cond.instanceMethod yX4_sum, Cond.selects RX4 yX4_sum yX4_sum, Cond.code yX4_sum cX4_sum 5 (some .int), Cond.constant RX4 41 (668265263), Cond.methodLink RX4 53 yX4_tellsPages, Cond.instanceMethod yX4_tellsPages, Cond.selects RX4 yX4_tellsPages yX4_tellsPages, Cond.code yX4_tellsPages cX4_tellsPages 6 (some .boolean), Cond.fieldLink RX4 27 "DesignPagesModel" "pages" "I", Cond.methodLink RX4 94 yX4_nodeOf, Cond.instanceMethod yX4_nodeOf, Cond.selects RX4 yX4_nodeOf yX4_nodeOf, Cond.code yX4_nodeOf cX4_nodeOf 3 (some .int)]
def wsX4_thingOf : List Cond := .code yX4_thingOf cX4_thingOf 5 (some .int) :: ((wsX4_thingOf_r1 ++ wsX4_thingOf_r2) ++ wsX40)
def wsX4_length_r1 : List Cond := [Cond.fieldLink RX4 30 "DesignPagesModel" "code" "I", Cond.methodLink RX4 123 yX4_thingOf, Cond.instanceMethod yX4_thingOf, Cond.selects RX4 yX4_thingOf yX4_thingOf, Cond.initialized RX4, Cond.code yX4_thingOf cX4_thingOf 5 (some .int), Cond.fieldLink RX4 83 "DesignPagesModel" "down" "Z", Cond.methodLink RX4 120 yX4_isKept, Cond.instanceMethod yX4_isKept, Cond.selects RX4 yX4_isKept yX4_isKept, Cond.code yX4_isKept cX4_isKept 2 (some .boolean), Cond.fieldLink RX4 13 "DesignPagesModel" "oldest" "I", Cond.fieldLink RX4 67 "DesignPagesModel" "newest" "I", Cond.methodLink RX4 107 yX4_isKey, Cond.static yX4_isKey, Cond.code yX4_isKey cX4_isKey 1 (some .boolean), Cond.methodLink RX4 57 yX4_isRight, Cond.instanceMethod yX4_isRight, Cond.selects RX4 yX4_isRight yX4_isRight, Cond.code yX4_isRight cX4_isRight 5 (some .boolean), Cond.constant RX4 56 (1000000), Cond.methodLink RX4 49 yX4_isKind, Cond.instanceMethod yX4_isKind, Cond.selects RX4 yX4_isKind yX4_isKind]
def wsX4_length_r2 : List Cond := [Cond.code yX4_isKind cX4_isKind 3 (some .boolean), Cond.methodLink RX4 33 yX4_at, Cond.instanceMethod yX4_at, Cond.selects RX4 yX4_at yX4_at, Cond.code yX4_at cX4_at 3 (some .int), Cond.fieldLink RX4 7 "DesignPagesModel" "bytes" "[I", Cond.methodLink RX4 42 yX4_number, Cond.instanceMethod yX4_number, Cond.selects RX4 yX4_number yX4_number, Cond.code yX4_number cX4_number 3 (some .int), Cond.methodLink RX4 45 yX4_sum, Cond.instanceMethod yX4_sum, Cond.selects RX4 yX4_sum yX4_sum, Cond.code yX4_sum cX4_sum 5 (some .int), Cond.constant RX4 41 (668265263), Cond.methodLink RX4 53 yX4_tellsPages, Cond.instanceMethod yX4_tellsPages, Cond.selects RX4 yX4_tellsPages yX4_tellsPages, Cond.code yX4_tellsPages cX4_tellsPages 6 (some .boolean), Cond.fieldLink RX4 27 "DesignPagesModel" "pages" "I", Cond.methodLink RX4 94 yX4_nodeOf, Cond.instanceMethod yX4_nodeOf, Cond.selects RX4 yX4_nodeOf yX4_nodeOf, Cond.code yX4_nodeOf cX4_nodeOf 3 (some .int)]
def wsX4_length : List Cond := .code yX4_length cX4_length 4 (some .int) :: ((wsX4_length_r1 ++ wsX4_length_r2) ++ wsX40)
def wsX4_find_r1 : List Cond := [Cond.fieldLink RX4 30 "DesignPagesModel" "code" "I", Cond.methodLink RX4 123 yX4_thingOf, Cond.instanceMethod yX4_thingOf, Cond.selects RX4 yX4_thingOf yX4_thingOf, Cond.initialized RX4, Cond.code yX4_thingOf cX4_thingOf 5 (some .int), Cond.fieldLink RX4 83 "DesignPagesModel" "down" "Z", Cond.methodLink RX4 120 yX4_isKept, Cond.instanceMethod yX4_isKept, Cond.selects RX4 yX4_isKept yX4_isKept, Cond.code yX4_isKept cX4_isKept 2 (some .boolean), Cond.fieldLink RX4 13 "DesignPagesModel" "oldest" "I", Cond.fieldLink RX4 67 "DesignPagesModel" "newest" "I", Cond.methodLink RX4 107 yX4_isKey, Cond.static yX4_isKey, Cond.code yX4_isKey cX4_isKey 1 (some .boolean), Cond.methodLink RX4 57 yX4_isRight, Cond.instanceMethod yX4_isRight, Cond.selects RX4 yX4_isRight yX4_isRight, Cond.code yX4_isRight cX4_isRight 5 (some .boolean), Cond.constant RX4 56 (1000000), Cond.methodLink RX4 49 yX4_isKind, Cond.instanceMethod yX4_isKind, Cond.selects RX4 yX4_isKind yX4_isKind]
def wsX4_find_r2 : List Cond := [Cond.code yX4_isKind cX4_isKind 3 (some .boolean), Cond.methodLink RX4 33 yX4_at, Cond.instanceMethod yX4_at, Cond.selects RX4 yX4_at yX4_at, Cond.code yX4_at cX4_at 3 (some .int), Cond.fieldLink RX4 7 "DesignPagesModel" "bytes" "[I", Cond.methodLink RX4 42 yX4_number, Cond.instanceMethod yX4_number, Cond.selects RX4 yX4_number yX4_number, Cond.code yX4_number cX4_number 3 (some .int), Cond.methodLink RX4 45 yX4_sum, Cond.instanceMethod yX4_sum, Cond.selects RX4 yX4_sum yX4_sum, Cond.code yX4_sum cX4_sum 5 (some .int), Cond.constant RX4 41 (668265263), Cond.methodLink RX4 53 yX4_tellsPages, Cond.instanceMethod yX4_tellsPages, Cond.selects RX4 yX4_tellsPages yX4_tellsPages, Cond.code yX4_tellsPages cX4_tellsPages 6 (some .boolean), Cond.fieldLink RX4 27 "DesignPagesModel" "pages" "I", Cond.methodLink RX4 94 yX4_nodeOf, Cond.instanceMethod yX4_nodeOf, Cond.selects RX4 yX4_nodeOf yX4_nodeOf, Cond.code yX4_nodeOf cX4_nodeOf 3 (some .int)]
def wsX4_find : List Cond := .code yX4_find cX4_find 5 (some .int) :: ((wsX4_find_r1 ++ wsX4_find_r2) ++ wsX40)
def wsX4_next_r1 : List Cond := [Cond.fieldLink RX4 30 "DesignPagesModel" "code" "I", Cond.fieldLink RX4 83 "DesignPagesModel" "down" "Z", Cond.methodLink RX4 120 yX4_isKept, Cond.instanceMethod yX4_isKept, Cond.selects RX4 yX4_isKept yX4_isKept, Cond.initialized RX4, Cond.code yX4_isKept cX4_isKept 2 (some .boolean), Cond.fieldLink RX4 13 "DesignPagesModel" "oldest" "I", Cond.fieldLink RX4 67 "DesignPagesModel" "newest" "I", Cond.methodLink RX4 107 yX4_isKey, Cond.static yX4_isKey, Cond.code yX4_isKey cX4_isKey 1 (some .boolean), Cond.methodLink RX4 57 yX4_isRight, Cond.instanceMethod yX4_isRight, Cond.selects RX4 yX4_isRight yX4_isRight, Cond.code yX4_isRight cX4_isRight 5 (some .boolean), Cond.constant RX4 56 (1000000), Cond.methodLink RX4 49 yX4_isKind, Cond.instanceMethod yX4_isKind, Cond.selects RX4 yX4_isKind yX4_isKind, Cond.code yX4_isKind cX4_isKind 3 (some .boolean), Cond.methodLink RX4 33 yX4_at, Cond.instanceMethod yX4_at, Cond.selects RX4 yX4_at yX4_at]
def wsX4_next_r2 : List Cond := [Cond.code yX4_at cX4_at 3 (some .int), Cond.fieldLink RX4 7 "DesignPagesModel" "bytes" "[I", Cond.methodLink RX4 42 yX4_number, Cond.instanceMethod yX4_number, Cond.selects RX4 yX4_number yX4_number, Cond.code yX4_number cX4_number 3 (some .int), Cond.methodLink RX4 45 yX4_sum, Cond.instanceMethod yX4_sum, Cond.selects RX4 yX4_sum yX4_sum, Cond.code yX4_sum cX4_sum 5 (some .int), Cond.constant RX4 41 (668265263), Cond.methodLink RX4 53 yX4_tellsPages, Cond.instanceMethod yX4_tellsPages, Cond.selects RX4 yX4_tellsPages yX4_tellsPages, Cond.code yX4_tellsPages cX4_tellsPages 6 (some .boolean), Cond.fieldLink RX4 27 "DesignPagesModel" "pages" "I", Cond.methodLink RX4 94 yX4_nodeOf, Cond.instanceMethod yX4_nodeOf, Cond.selects RX4 yX4_nodeOf yX4_nodeOf, Cond.code yX4_nodeOf cX4_nodeOf 3 (some .int)]
def wsX4_next : List Cond := .code yX4_next cX4_next 5 (some .int) :: ((wsX4_next_r1 ++ wsX4_next_r2) ++ wsX40)
def wsX4_crash : List Cond := .code yX4_crash cX4_crash 2 (some .int) :: ([.fieldLink RX4 30 "DesignPagesModel" "code" "I", .fieldLink RX4 83 "DesignPagesModel" "down" "Z", .fieldLink RX4 17 "DesignPagesModel" "left" "I", .methodLink RX4 80 yX4_fail, .instanceMethod yX4_fail, .selects RX4 yX4_fail yX4_fail, .initialized RX4, .code yX4_fail cX4_fail 1 none, .fieldLink RX4 87 "DesignPagesModel" "typed" "I"] ++ wsX40)
def wsX4_reopen_r1 : List Cond := [Cond.fieldLink RX4 30 "DesignPagesModel" "code" "I", Cond.fieldLink RX4 83 "DesignPagesModel" "down" "Z", Cond.fieldLink RX4 17 "DesignPagesModel" "left" "I", Cond.fieldLink RX4 87 "DesignPagesModel" "typed" "I", Cond.fieldLink RX4 67 "DesignPagesModel" "newest" "I", Cond.fieldLink RX4 13 "DesignPagesModel" "oldest" "I", Cond.methodLink RX4 57 yX4_isRight, Cond.instanceMethod yX4_isRight, Cond.selects RX4 yX4_isRight yX4_isRight, Cond.initialized RX4, Cond.code yX4_isRight cX4_isRight 5 (some .boolean), Cond.constant RX4 56 (1000000), Cond.methodLink RX4 49 yX4_isKind, Cond.instanceMethod yX4_isKind, Cond.selects RX4 yX4_isKind yX4_isKind, Cond.code yX4_isKind cX4_isKind 3 (some .boolean), Cond.methodLink RX4 33 yX4_at, Cond.instanceMethod yX4_at, Cond.selects RX4 yX4_at yX4_at, Cond.code yX4_at cX4_at 3 (some .int), Cond.fieldLink RX4 7 "DesignPagesModel" "bytes" "[I", Cond.methodLink RX4 42 yX4_number, Cond.instanceMethod yX4_number, Cond.selects RX4 yX4_number yX4_number]
def wsX4_reopen_r2 : List Cond := [Cond.code yX4_number cX4_number 3 (some .int), Cond.methodLink RX4 45 yX4_sum, Cond.instanceMethod yX4_sum, Cond.selects RX4 yX4_sum yX4_sum, Cond.code yX4_sum cX4_sum 5 (some .int), Cond.constant RX4 41 (668265263), Cond.methodLink RX4 53 yX4_tellsPages, Cond.instanceMethod yX4_tellsPages, Cond.selects RX4 yX4_tellsPages yX4_tellsPages, Cond.code yX4_tellsPages cX4_tellsPages 6 (some .boolean), Cond.fieldLink RX4 27 "DesignPagesModel" "pages" "I"]
def wsX4_reopen : List Cond := .code yX4_reopen cX4_reopen 2 (some .int) :: ((wsX4_reopen_r1 ++ wsX4_reopen_r2) ++ wsX40)
def wsX4_isByte : List Cond := .code yX4_isByte cX4_isByte 3 (some .boolean) :: ([.fieldLink RX4 27 "DesignPagesModel" "pages" "I"] ++ wsX40)
def wsX4_poke : List Cond := .code yX4_poke cX4_poke 4 (some .int) :: ([.fieldLink RX4 30 "DesignPagesModel" "code" "I", .methodLink RX4 126 yX4_isByte, .instanceMethod yX4_isByte, .selects RX4 yX4_isByte yX4_isByte, .initialized RX4, .code yX4_isByte cX4_isByte 3 (some .boolean), .fieldLink RX4 27 "DesignPagesModel" "pages" "I", .methodLink RX4 33 yX4_at, .instanceMethod yX4_at, .selects RX4 yX4_at yX4_at, .code yX4_at cX4_at 3 (some .int), .fieldLink RX4 7 "DesignPagesModel" "bytes" "[I", .methodLink RX4 37 yX4_lay, .instanceMethod yX4_lay, .selects RX4 yX4_lay yX4_lay, .code yX4_lay cX4_lay 4 none] ++ wsX40)
def wsX4_byteAt : List Cond := .code yX4_byteAt cX4_byteAt 3 (some .int) :: ([.fieldLink RX4 30 "DesignPagesModel" "code" "I", .methodLink RX4 126 yX4_isByte, .instanceMethod yX4_isByte, .selects RX4 yX4_isByte yX4_isByte, .initialized RX4, .code yX4_isByte cX4_isByte 3 (some .boolean), .fieldLink RX4 27 "DesignPagesModel" "pages" "I", .methodLink RX4 33 yX4_at, .instanceMethod yX4_at, .selects RX4 yX4_at yX4_at, .code yX4_at cX4_at 3 (some .int), .fieldLink RX4 7 "DesignPagesModel" "bytes" "[I"] ++ wsX40)
def wsX4_badAt_r1 : List Cond := [Cond.fieldLink RX4 30 "DesignPagesModel" "code" "I", Cond.fieldLink RX4 83 "DesignPagesModel" "down" "Z", Cond.fieldLink RX4 60 "DesignPagesModel" "bad" "I", Cond.methodLink RX4 110 yX4_reachAll, Cond.instanceMethod yX4_reachAll, Cond.selects RX4 yX4_reachAll yX4_reachAll, Cond.initialized RX4, Cond.code yX4_reachAll cX4_reachAll 4 none, Cond.fieldLink RX4 27 "DesignPagesModel" "pages" "I", Cond.fieldLink RX4 23 "DesignPagesModel" "reached" "[Z", Cond.fieldLink RX4 13 "DesignPagesModel" "oldest" "I", Cond.fieldLink RX4 67 "DesignPagesModel" "newest" "I", Cond.methodLink RX4 63 yX4_reach, Cond.instanceMethod yX4_reach, Cond.selects RX4 yX4_reach yX4_reach, Cond.code yX4_reach cX4_reach 3 none, Cond.methodLink RX4 57 yX4_isRight, Cond.instanceMethod yX4_isRight, Cond.selects RX4 yX4_isRight yX4_isRight, Cond.code yX4_isRight cX4_isRight 5 (some .boolean), Cond.constant RX4 56 (1000000), Cond.methodLink RX4 49 yX4_isKind, Cond.instanceMethod yX4_isKind, Cond.selects RX4 yX4_isKind yX4_isKind]
def wsX4_badAt_r2 : List Cond := [Cond.code yX4_isKind cX4_isKind 3 (some .boolean), Cond.methodLink RX4 33 yX4_at, Cond.instanceMethod yX4_at, Cond.selects RX4 yX4_at yX4_at, Cond.code yX4_at cX4_at 3 (some .int), Cond.fieldLink RX4 7 "DesignPagesModel" "bytes" "[I", Cond.methodLink RX4 42 yX4_number, Cond.instanceMethod yX4_number, Cond.selects RX4 yX4_number yX4_number, Cond.code yX4_number cX4_number 3 (some .int), Cond.methodLink RX4 45 yX4_sum, Cond.instanceMethod yX4_sum, Cond.selects RX4 yX4_sum yX4_sum, Cond.code yX4_sum cX4_sum 5 (some .int), Cond.constant RX4 41 (668265263), Cond.methodLink RX4 53 yX4_tellsPages, Cond.instanceMethod yX4_tellsPages, Cond.selects RX4 yX4_tellsPages yX4_tellsPages, Cond.code yX4_tellsPages cX4_tellsPages 6 (some .boolean), Cond.methodLink RX4 70 yX4_reachNode, Cond.instanceMethod yX4_reachNode, Cond.selects RX4 yX4_reachNode yX4_reachNode, Cond.code yX4_reachNode cX4_reachNode 3 none]
def wsX4_badAt : List Cond := .code yX4_badAt cX4_badAt 1 (some .int) :: ((wsX4_badAt_r1 ++ wsX4_badAt_r2) ++ wsX40)
def wsX4_freePages_r1 : List Cond := [Cond.fieldLink RX4 27 "DesignPagesModel" "pages" "I", Cond.fieldLink RX4 23 "DesignPagesModel" "reached" "[Z", Cond.methodLink RX4 110 yX4_reachAll, Cond.instanceMethod yX4_reachAll, Cond.selects RX4 yX4_reachAll yX4_reachAll, Cond.initialized RX4, Cond.code yX4_reachAll cX4_reachAll 4 none, Cond.fieldLink RX4 60 "DesignPagesModel" "bad" "I", Cond.fieldLink RX4 13 "DesignPagesModel" "oldest" "I", Cond.fieldLink RX4 67 "DesignPagesModel" "newest" "I", Cond.methodLink RX4 63 yX4_reach, Cond.instanceMethod yX4_reach, Cond.selects RX4 yX4_reach yX4_reach, Cond.code yX4_reach cX4_reach 3 none, Cond.methodLink RX4 57 yX4_isRight, Cond.instanceMethod yX4_isRight, Cond.selects RX4 yX4_isRight yX4_isRight, Cond.code yX4_isRight cX4_isRight 5 (some .boolean), Cond.constant RX4 56 (1000000), Cond.methodLink RX4 49 yX4_isKind, Cond.instanceMethod yX4_isKind, Cond.selects RX4 yX4_isKind yX4_isKind, Cond.code yX4_isKind cX4_isKind 3 (some .boolean), Cond.methodLink RX4 33 yX4_at]
def wsX4_freePages_r2 : List Cond := [Cond.instanceMethod yX4_at, Cond.selects RX4 yX4_at yX4_at, Cond.code yX4_at cX4_at 3 (some .int), Cond.fieldLink RX4 7 "DesignPagesModel" "bytes" "[I", Cond.methodLink RX4 42 yX4_number, Cond.instanceMethod yX4_number, Cond.selects RX4 yX4_number yX4_number, Cond.code yX4_number cX4_number 3 (some .int), Cond.methodLink RX4 45 yX4_sum, Cond.instanceMethod yX4_sum, Cond.selects RX4 yX4_sum yX4_sum, Cond.code yX4_sum cX4_sum 5 (some .int), Cond.constant RX4 41 (668265263), Cond.methodLink RX4 53 yX4_tellsPages, Cond.instanceMethod yX4_tellsPages, Cond.selects RX4 yX4_tellsPages yX4_tellsPages, Cond.code yX4_tellsPages cX4_tellsPages 6 (some .boolean), Cond.methodLink RX4 70 yX4_reachNode, Cond.instanceMethod yX4_reachNode, Cond.selects RX4 yX4_reachNode yX4_reachNode, Cond.code yX4_reachNode cX4_reachNode 3 none]
def wsX4_freePages : List Cond := .code yX4_freePages cX4_freePages 3 (some .int) :: ((wsX4_freePages_r1 ++ wsX4_freePages_r2) ++ wsX40)
def wsX4_keys_r1 : List Cond := [Cond.fieldLink RX4 67 "DesignPagesModel" "newest" "I", Cond.methodLink RX4 90 yX4_hasVersion, Cond.instanceMethod yX4_hasVersion, Cond.selects RX4 yX4_hasVersion yX4_hasVersion, Cond.initialized RX4, Cond.code yX4_hasVersion cX4_hasVersion 1 (some .boolean), Cond.fieldLink RX4 13 "DesignPagesModel" "oldest" "I", Cond.methodLink RX4 57 yX4_isRight, Cond.instanceMethod yX4_isRight, Cond.selects RX4 yX4_isRight yX4_isRight, Cond.code yX4_isRight cX4_isRight 5 (some .boolean), Cond.constant RX4 56 (1000000), Cond.methodLink RX4 49 yX4_isKind, Cond.instanceMethod yX4_isKind, Cond.selects RX4 yX4_isKind yX4_isKind, Cond.code yX4_isKind cX4_isKind 3 (some .boolean), Cond.methodLink RX4 33 yX4_at, Cond.instanceMethod yX4_at, Cond.selects RX4 yX4_at yX4_at, Cond.code yX4_at cX4_at 3 (some .int), Cond.fieldLink RX4 7 "DesignPagesModel" "bytes" "[I", Cond.methodLink RX4 42 yX4_number, Cond.instanceMethod yX4_number, Cond.selects RX4 yX4_number yX4_number]
def wsX4_keys_r2 : List Cond := [Cond.code yX4_number cX4_number 3 (some .int), Cond.methodLink RX4 45 yX4_sum, Cond.instanceMethod yX4_sum, Cond.selects RX4 yX4_sum yX4_sum, Cond.code yX4_sum cX4_sum 5 (some .int), Cond.constant RX4 41 (668265263), Cond.methodLink RX4 53 yX4_tellsPages, Cond.instanceMethod yX4_tellsPages, Cond.selects RX4 yX4_tellsPages yX4_tellsPages, Cond.code yX4_tellsPages cX4_tellsPages 6 (some .boolean), Cond.fieldLink RX4 27 "DesignPagesModel" "pages" "I", Cond.methodLink RX4 94 yX4_nodeOf, Cond.instanceMethod yX4_nodeOf, Cond.selects RX4 yX4_nodeOf yX4_nodeOf, Cond.code yX4_nodeOf cX4_nodeOf 3 (some .int)]
def wsX4_keys : List Cond := .code yX4_keys cX4_keys 7 (some .int) :: ((wsX4_keys_r1 ++ wsX4_keys_r2) ++ wsX40)
def wsX4_count_r1 : List Cond := [Cond.fieldLink RX4 30 "DesignPagesModel" "code" "I", Cond.fieldLink RX4 83 "DesignPagesModel" "down" "Z", Cond.fieldLink RX4 67 "DesignPagesModel" "newest" "I", Cond.fieldLink RX4 13 "DesignPagesModel" "oldest" "I", Cond.fieldLink RX4 87 "DesignPagesModel" "typed" "I", Cond.methodLink RX4 129 yX4_freePages, Cond.instanceMethod yX4_freePages, Cond.selects RX4 yX4_freePages yX4_freePages, Cond.initialized RX4, Cond.code yX4_freePages cX4_freePages 3 (some .int), Cond.fieldLink RX4 27 "DesignPagesModel" "pages" "I", Cond.fieldLink RX4 23 "DesignPagesModel" "reached" "[Z", Cond.methodLink RX4 110 yX4_reachAll, Cond.instanceMethod yX4_reachAll, Cond.selects RX4 yX4_reachAll yX4_reachAll, Cond.code yX4_reachAll cX4_reachAll 4 none, Cond.fieldLink RX4 60 "DesignPagesModel" "bad" "I", Cond.methodLink RX4 63 yX4_reach, Cond.instanceMethod yX4_reach, Cond.selects RX4 yX4_reach yX4_reach, Cond.code yX4_reach cX4_reach 3 none, Cond.methodLink RX4 57 yX4_isRight, Cond.instanceMethod yX4_isRight, Cond.selects RX4 yX4_isRight yX4_isRight]
def wsX4_count_r2 : List Cond := [Cond.code yX4_isRight cX4_isRight 5 (some .boolean), Cond.constant RX4 56 (1000000), Cond.methodLink RX4 49 yX4_isKind, Cond.instanceMethod yX4_isKind, Cond.selects RX4 yX4_isKind yX4_isKind, Cond.code yX4_isKind cX4_isKind 3 (some .boolean), Cond.methodLink RX4 33 yX4_at, Cond.instanceMethod yX4_at, Cond.selects RX4 yX4_at yX4_at, Cond.code yX4_at cX4_at 3 (some .int), Cond.fieldLink RX4 7 "DesignPagesModel" "bytes" "[I", Cond.methodLink RX4 42 yX4_number, Cond.instanceMethod yX4_number, Cond.selects RX4 yX4_number yX4_number, Cond.code yX4_number cX4_number 3 (some .int), Cond.methodLink RX4 45 yX4_sum, Cond.instanceMethod yX4_sum, Cond.selects RX4 yX4_sum yX4_sum, Cond.code yX4_sum cX4_sum 5 (some .int), Cond.constant RX4 41 (668265263), Cond.methodLink RX4 53 yX4_tellsPages, Cond.instanceMethod yX4_tellsPages, Cond.selects RX4 yX4_tellsPages yX4_tellsPages, Cond.code yX4_tellsPages cX4_tellsPages 6 (some .boolean)]
def wsX4_count_r3 : List Cond := [Cond.methodLink RX4 70 yX4_reachNode, Cond.instanceMethod yX4_reachNode, Cond.selects RX4 yX4_reachNode yX4_reachNode, Cond.code yX4_reachNode cX4_reachNode 3 none, Cond.methodLink RX4 133 yX4_keys, Cond.instanceMethod yX4_keys, Cond.selects RX4 yX4_keys yX4_keys, Cond.code yX4_keys cX4_keys 7 (some .int), Cond.methodLink RX4 90 yX4_hasVersion, Cond.instanceMethod yX4_hasVersion, Cond.selects RX4 yX4_hasVersion yX4_hasVersion, Cond.code yX4_hasVersion cX4_hasVersion 1 (some .boolean), Cond.methodLink RX4 94 yX4_nodeOf, Cond.instanceMethod yX4_nodeOf, Cond.selects RX4 yX4_nodeOf yX4_nodeOf, Cond.code yX4_nodeOf cX4_nodeOf 3 (some .int)]
def wsX4_count : List Cond := .code yX4_count cX4_count 2 (some .int) :: ((wsX4_count_r1 ++ (wsX4_count_r2 ++ wsX4_count_r3)) ++ wsX40)
def wsX4_written : List Cond := .code yX4_written cX4_written 1 (some .int) :: ([.fieldLink RX4 30 "DesignPagesModel" "code" "I", .fieldLink RX4 77 "DesignPagesModel" "written" "I"] ++ wsX40)
def wsX4_isDown : List Cond := .code yX4_isDown cX4_isDown 1 (some .boolean) :: ([.fieldLink RX4 30 "DesignPagesModel" "code" "I", .fieldLink RX4 83 "DesignPagesModel" "down" "Z"] ++ wsX40)
def wsJ9_max_7cf53 : List Cond := .code yJ9_max_7cf53 cJ9_max_7cf53 2 (some .int) :: ([])
def wsJ9_min_7cf53 : List Cond := .code yJ9_min_7cf53 cJ9_min_7cf53 2 (some .int) :: ([])
def wsL_cell : List Cond := .code yL_cell cL_cell 2 (some .int) :: ([])
def wsL_law_r1 : List Cond := [Cond.classLink RL 7 RX3, Cond.instantiable RX3 7, Cond.initialized RX3, Cond.classLink RL 18 RX4, Cond.instantiable RX4 12, Cond.initialized RX4, Cond.methodLink RL 9 yL_cell, Cond.static yL_cell, Cond.initialized RL, Cond.code yL_cell cL_cell 2 (some .int), Cond.methodLink RL 15 yX3_init, Cond.instanceMethod yX3_init, Cond.code yX3_init cX3_init 3 none, Cond.methodLink RX3 3 objectInit, Cond.instanceMethod objectInit, Cond.code objectInit ⟨#[0xb1]⟩ 1 none, Cond.methodLink RX3 9 Lib.Math.min.name, Cond.static Lib.Math.min.name, Cond.initialized "java/lang/Math", Cond.code Lib.Math.min.name Lib.Math.min.code 2 (some .int), Cond.methodLink RX3 15 Lib.Math.max.name, Cond.static Lib.Math.max.name, Cond.code Lib.Math.max.name Lib.Math.max.code 2 (some .int), Cond.classLink RX3 18 RX0]
def wsL_law_r2 : List Cond := [Cond.instantiable RX0 2, Cond.initialized RX0, Cond.fieldLink RX3 23 "DesignPages" "disk" "LDesignPages$Pages;", Cond.classLink RX3 27 RX2, Cond.instantiable RX2 1, Cond.initialized RX2, Cond.fieldLink RX3 30 "DesignPages" "reach" "LDesignPages$Reach;", Cond.classLink RX3 34 RX1, Cond.instantiable RX1 3, Cond.initialized RX1, Cond.fieldLink RX3 37 "DesignPages" "power" "LDesignPages$Power;", Cond.arrayClass .int, Cond.fieldLink RX3 41 "DesignPages" "typed" "[I", Cond.fieldLink RX3 45 "DesignPages" "typedCount" "I", Cond.fieldLink RX3 49 "DesignPages" "newest" "I", Cond.fieldLink RX3 52 "DesignPages" "oldest" "I", Cond.methodLink RX3 20 yX0_init, Cond.instanceMethod yX0_init, Cond.code yX0_init cX0_init 2 none, Cond.methodLink RX0 3 objectInit, Cond.fieldLink RX0 9 "DesignPages$Pages" "amount" "I", Cond.fieldLink RX0 15 "DesignPages$Pages" "bytes" "[I", Cond.methodLink RX3 29 yX2_init, Cond.instanceMethod yX2_init]
def wsL_law_r3 : List Cond := [Cond.code yX2_init cX2_init 2 none, Cond.methodLink RX2 3 objectInit, Cond.fieldLink RX2 9 "DesignPages$Reach" "marks" "[I", Cond.methodLink RX3 36 yX1_init, Cond.instanceMethod yX1_init, Cond.code yX1_init cX1_init 1 none, Cond.methodLink RX1 3 objectInit, Cond.fieldLink RX1 9 "DesignPages$Power" "off" "Z", Cond.fieldLink RX1 15 "DesignPages$Power" "pagesLeft" "I", Cond.fieldLink RX1 19 "DesignPages$Power" "used" "I", Cond.methodLink RL 20 yX4_init, Cond.instanceMethod yX4_init, Cond.code yX4_init cX4_init 2 none, Cond.methodLink RX4 1 objectInit, Cond.fieldLink RX4 7 "DesignPagesModel" "bytes" "[I", Cond.fieldLink RX4 13 "DesignPagesModel" "oldest" "I", Cond.fieldLink RX4 17 "DesignPagesModel" "left" "I", Cond.fieldLink RX4 20 "DesignPagesModel" "types" "[I", Cond.arrayClass .boolean, Cond.fieldLink RX4 23 "DesignPagesModel" "reached" "[Z", Cond.fieldLink RX4 27 "DesignPagesModel" "pages" "I", Cond.methodLink RL 21 yX3_type, Cond.instanceMethod yX3_type, Cond.selects RX3 yX3_type yX3_type]
def wsL_law_r4 : List Cond := [Cond.code yX3_type cX3_type 2 (some .int), Cond.methodLink RX3 55 yX1_isOff, Cond.instanceMethod yX1_isOff, Cond.selects RX1 yX1_isOff yX1_isOff, Cond.code yX1_isOff cX1_isOff 1 (some .boolean), Cond.methodLink RL 25 yX4_type, Cond.instanceMethod yX4_type, Cond.selects RX4 yX4_type yX4_type, Cond.code yX4_type cX4_type 2 (some .int), Cond.fieldLink RX4 30 "DesignPagesModel" "code" "I", Cond.fieldLink RX4 83 "DesignPagesModel" "down" "Z", Cond.fieldLink RX4 87 "DesignPagesModel" "typed" "I", Cond.methodLink RL 26 yX3_put, Cond.instanceMethod yX3_put, Cond.selects RX3 yX3_put yX3_put, Cond.code yX3_put cX3_put 5 (some .int), Cond.constant RX3 71 (1000000), Cond.methodLink RX3 59 yX3_isKey, Cond.static yX3_isKey, Cond.code yX3_isKey cX3_isKey 1 (some .boolean), Cond.methodLink RX3 63 yX3_refusalOfWriting, Cond.instanceMethod yX3_refusalOfWriting, Cond.selects RX3 yX3_refusalOfWriting yX3_refusalOfWriting, Cond.code yX3_refusalOfWriting cX3_refusalOfWriting 2 (some .int)]
def wsL_law_r5 : List Cond := [Cond.methodLink RX3 126 yX2_walk, Cond.instanceMethod yX2_walk, Cond.selects RX2 yX2_walk yX2_walk, Cond.code yX2_walk cX2_walk 5 none, Cond.methodLink RX2 15 yJ7_fill_53178, Cond.static yJ7_fill_53178, Cond.initialized RJ7, Cond.code yJ7_fill_53178 cJ7_fill_53178 4 none, Cond.static yX3_pageOfRoot, Cond.code yX3_pageOfRoot cX3_pageOfRoot 1 (some .int), Cond.methodLink RX2 25 yX2_markOf, Cond.static yX2_markOf, Cond.code yX2_markOf cX2_markOf 1 (some .int), Cond.methodLink RX2 28 yX2_lookAtAll, Cond.instanceMethod yX2_lookAtAll, Cond.selects RX2 yX2_lookAtAll yX2_lookAtAll, Cond.code yX2_lookAtAll cX2_lookAtAll 4 none, Cond.methodLink RX2 32 yX0_isRight, Cond.instanceMethod yX0_isRight, Cond.selects RX0 yX0_isRight yX0_isRight, Cond.code yX0_isRight cX0_isRight 3 (some .boolean), Cond.methodLink RX0 42 yX0_at, Cond.instanceMethod yX0_at, Cond.selects RX0 yX0_at yX0_at]
def wsL_law_r6 : List Cond := [Cond.code yX0_at cX0_at 3 (some .int), Cond.methodLink RX0 46 yX0_numberAt, Cond.instanceMethod yX0_numberAt, Cond.selects RX0 yX0_numberAt yX0_numberAt, Cond.code yX0_numberAt cX0_numberAt 4 (some .int), Cond.methodLink RX0 35 yX0_sumOf, Cond.instanceMethod yX0_sumOf, Cond.selects RX0 yX0_sumOf yX0_sumOf, Cond.code yX0_sumOf cX0_sumOf 5 (some .int), Cond.constant RX0 57 (668265263), Cond.methodLink RX0 49 yX0_tellsVersions, Cond.instanceMethod yX0_tellsVersions, Cond.selects RX0 yX0_tellsVersions yX0_tellsVersions, Cond.code yX0_tellsVersions cX0_tellsVersions 4 (some .boolean), Cond.constant RX0 58 (1000000), Cond.methodLink RX0 53 yX0_tellsRightPages, Cond.instanceMethod yX0_tellsRightPages, Cond.selects RX0 yX0_tellsRightPages yX0_tellsRightPages, Cond.code yX0_tellsRightPages cX0_tellsRightPages 6 (some .boolean), Cond.methodLink RX2 38 yX2_markTold, Cond.instanceMethod yX2_markTold, Cond.selects RX2 yX2_markTold yX2_markTold, Cond.code yX2_markTold cX2_markTold 8 none, Cond.methodLink RX2 42 yX0_at]
def wsL_law_r7 : List Cond := [Cond.methodLink RX3 130 yX2_leastBad, Cond.instanceMethod yX2_leastBad, Cond.selects RX2 yX2_leastBad yX2_leastBad, Cond.code yX2_leastBad cX2_leastBad 2 (some .int), Cond.methodLink RX3 67 yX2_freeFrom, Cond.instanceMethod yX2_freeFrom, Cond.selects RX2 yX2_freeFrom yX2_freeFrom, Cond.code yX2_freeFrom cX2_freeFrom 3 (some .int), Cond.methodLink RX3 72 yX3_writeThing, Cond.instanceMethod yX3_writeThing, Cond.selects RX3 yX3_writeThing yX3_writeThing, Cond.code yX3_writeThing cX3_writeThing 4 (some .boolean), Cond.methodLink RX3 146 yX0_begin, Cond.instanceMethod yX0_begin, Cond.selects RX0 yX0_begin yX0_begin, Cond.code yX0_begin cX0_begin 4 none, Cond.methodLink RX0 19 yJ7_fill_fda19, Cond.static yJ7_fill_fda19, Cond.code yJ7_fill_fda19 cJ7_fill_fda19 5 none, Cond.methodLink RJ7 13 yJ7_rangeCheck_23922, Cond.static yJ7_rangeCheck_23922, Cond.code yJ7_rangeCheck_23922 cJ7_rangeCheck_23922 3 none, Cond.methodLink RX0 25 yX0_set, Cond.instanceMethod yX0_set]
def wsL_law_r8 : List Cond := [Cond.selects RX0 yX0_set yX0_set, Cond.code yX0_set cX0_set 4 none, Cond.methodLink RX3 123 yX0_set, Cond.methodLink RX3 93 yX3_finishPage, Cond.instanceMethod yX3_finishPage, Cond.selects RX3 yX3_finishPage yX3_finishPage, Cond.code yX3_finishPage cX3_finishPage 2 (some .boolean), Cond.methodLink RX3 161 yX0_seal, Cond.instanceMethod yX0_seal, Cond.selects RX0 yX0_seal yX0_seal, Cond.code yX0_seal cX0_seal 2 none, Cond.methodLink RX0 39 yX0_setNumber, Cond.instanceMethod yX0_setNumber, Cond.selects RX0 yX0_setNumber yX0_setNumber, Cond.code yX0_setNumber cX0_setNumber 5 none, Cond.methodLink RX3 164 yX1_usePage, Cond.instanceMethod yX1_usePage, Cond.selects RX1 yX1_usePage yX1_usePage, Cond.code yX1_usePage cX1_usePage 1 none, Cond.methodLink RX3 76 yX3_writeVersion, Cond.instanceMethod yX3_writeVersion, Cond.selects RX3 yX3_writeVersion yX3_writeVersion, Cond.code yX3_writeVersion cX3_writeVersion 6 (some .int), Cond.methodLink RX3 150 yX3_writeNode]
def wsL_law_r9 : List Cond := [Cond.instanceMethod yX3_writeNode, Cond.selects RX3 yX3_writeNode yX3_writeNode, Cond.code yX3_writeNode cX3_writeNode 6 (some .boolean), Cond.methodLink RX3 86 yX3_pageOfRoot, Cond.methodLink RX3 99 yX0_at, Cond.methodLink RX3 158 yX0_copy, Cond.instanceMethod yX0_copy, Cond.selects RX0 yX0_copy yX0_copy, Cond.code yX0_copy cX0_copy 3 none, Cond.methodLink RX0 29 arraycopyName, Cond.native arraycopyName, Cond.static arraycopyName, Cond.initialized "java/lang/System", Cond.methodLink RX3 154 yX3_writeRoot, Cond.instanceMethod yX3_writeRoot, Cond.selects RX3 yX3_writeRoot yX3_writeRoot, Cond.code yX3_writeRoot cX3_writeRoot 6 (some .boolean), Cond.methodLink RX3 89 yX0_setNumber, Cond.methodLink RL 29 yX4_put, Cond.instanceMethod yX4_put, Cond.selects RX4 yX4_put yX4_put, Cond.code yX4_put cX4_put 5 (some .int), Cond.fieldLink RX4 60 "DesignPagesModel" "bad" "I", Cond.fieldLink RX4 67 "DesignPagesModel" "newest" "I"]
def wsL_law_r10 : List Cond := [Cond.constant RX4 56 (1000000), Cond.methodLink RX4 107 yX4_isKey, Cond.static yX4_isKey, Cond.code yX4_isKey cX4_isKey 1 (some .boolean), Cond.methodLink RX4 110 yX4_reachAll, Cond.instanceMethod yX4_reachAll, Cond.selects RX4 yX4_reachAll yX4_reachAll, Cond.code yX4_reachAll cX4_reachAll 4 none, Cond.methodLink RX4 63 yX4_reach, Cond.instanceMethod yX4_reach, Cond.selects RX4 yX4_reach yX4_reach, Cond.code yX4_reach cX4_reach 3 none, Cond.methodLink RX4 57 yX4_isRight, Cond.instanceMethod yX4_isRight, Cond.selects RX4 yX4_isRight yX4_isRight, Cond.code yX4_isRight cX4_isRight 5 (some .boolean), Cond.methodLink RX4 49 yX4_isKind, Cond.instanceMethod yX4_isKind, Cond.selects RX4 yX4_isKind yX4_isKind, Cond.code yX4_isKind cX4_isKind 3 (some .boolean), Cond.methodLink RX4 33 yX4_at, Cond.instanceMethod yX4_at, Cond.selects RX4 yX4_at yX4_at, Cond.code yX4_at cX4_at 3 (some .int)]
def wsL_law_r11 : List Cond := [Cond.methodLink RX4 42 yX4_number, Cond.instanceMethod yX4_number, Cond.selects RX4 yX4_number yX4_number, Cond.code yX4_number cX4_number 3 (some .int), Cond.methodLink RX4 45 yX4_sum, Cond.instanceMethod yX4_sum, Cond.selects RX4 yX4_sum yX4_sum, Cond.code yX4_sum cX4_sum 5 (some .int), Cond.constant RX4 41 (668265263), Cond.methodLink RX4 53 yX4_tellsPages, Cond.instanceMethod yX4_tellsPages, Cond.selects RX4 yX4_tellsPages yX4_tellsPages, Cond.code yX4_tellsPages cX4_tellsPages 6 (some .boolean), Cond.methodLink RX4 70 yX4_reachNode, Cond.instanceMethod yX4_reachNode, Cond.selects RX4 yX4_reachNode yX4_reachNode, Cond.code yX4_reachNode cX4_reachNode 3 none, Cond.methodLink RX4 113 yX4_free, Cond.instanceMethod yX4_free, Cond.selects RX4 yX4_free yX4_free, Cond.code yX4_free cX4_free 3 (some .int), Cond.methodLink RX4 97 yX4_empty, Cond.instanceMethod yX4_empty, Cond.selects RX4 yX4_empty yX4_empty]
def wsL_law_r12 : List Cond := [Cond.code yX4_empty cX4_empty 4 none, Cond.methodLink RX4 37 yX4_lay, Cond.instanceMethod yX4_lay, Cond.selects RX4 yX4_lay yX4_lay, Cond.code yX4_lay cX4_lay 4 none, Cond.methodLink RX4 103 yX4_done, Cond.instanceMethod yX4_done, Cond.selects RX4 yX4_done yX4_done, Cond.code yX4_done cX4_done 2 (some .boolean), Cond.fieldLink RX4 77 "DesignPagesModel" "written" "I", Cond.methodLink RX4 74 yX4_putNumber, Cond.instanceMethod yX4_putNumber, Cond.selects RX4 yX4_putNumber yX4_putNumber, Cond.code yX4_putNumber cX4_putNumber 5 none, Cond.methodLink RX4 80 yX4_fail, Cond.instanceMethod yX4_fail, Cond.selects RX4 yX4_fail yX4_fail, Cond.code yX4_fail cX4_fail 1 none, Cond.methodLink RX4 116 yX4_change, Cond.instanceMethod yX4_change, Cond.selects RX4 yX4_change yX4_change, Cond.code yX4_change cX4_change 8 (some .int), Cond.methodLink RX4 90 yX4_hasVersion, Cond.instanceMethod yX4_hasVersion]
def wsL_law_r13 : List Cond := [Cond.selects RX4 yX4_hasVersion yX4_hasVersion, Cond.code yX4_hasVersion cX4_hasVersion 1 (some .boolean), Cond.methodLink RX4 94 yX4_nodeOf, Cond.instanceMethod yX4_nodeOf, Cond.selects RX4 yX4_nodeOf yX4_nodeOf, Cond.code yX4_nodeOf cX4_nodeOf 3 (some .int), Cond.methodLink RX4 100 yX4_copy, Cond.instanceMethod yX4_copy, Cond.selects RX4 yX4_copy yX4_copy, Cond.code yX4_copy cX4_copy 4 none, Cond.methodLink RL 30 yX3_remove, Cond.instanceMethod yX3_remove, Cond.selects RX3 yX3_remove yX3_remove, Cond.code yX3_remove cX3_remove 4 (some .int), Cond.methodLink RX3 80 yX3_pageOfThing, Cond.instanceMethod yX3_pageOfThing, Cond.selects RX3 yX3_pageOfThing yX3_pageOfThing, Cond.code yX3_pageOfThing cX3_pageOfThing 6 (some .int), Cond.methodLink RX3 105 yX0_isRight, Cond.methodLink RL 33 yX4_remove, Cond.instanceMethod yX4_remove, Cond.selects RX4 yX4_remove yX4_remove, Cond.code yX4_remove cX4_remove 4 (some .int), Cond.methodLink RL 34 yX3_drop]
def wsL_law_r14 : List Cond := [Cond.instanceMethod yX3_drop, Cond.selects RX3 yX3_drop yX3_drop, Cond.code yX3_drop cX3_drop 4 (some .int), Cond.methodLink RX3 83 yX3_isKept, Cond.instanceMethod yX3_isKept, Cond.selects RX3 yX3_isKept yX3_isKept, Cond.code yX3_isKept cX3_isKept 2 (some .boolean), Cond.methodLink RL 37 yX4_drop, Cond.instanceMethod yX4_drop, Cond.selects RX4 yX4_drop yX4_drop, Cond.code yX4_drop cX4_drop 2 (some .int), Cond.methodLink RX4 120 yX4_isKept, Cond.instanceMethod yX4_isKept, Cond.selects RX4 yX4_isKept yX4_isKept, Cond.code yX4_isKept cX4_isKept 2 (some .boolean), Cond.methodLink RL 38 yX3_length, Cond.instanceMethod yX3_length, Cond.selects RX3 yX3_length yX3_length, Cond.code yX3_length cX3_length 4 (some .int), Cond.methodLink RX3 96 yX3_lookUp, Cond.instanceMethod yX3_lookUp, Cond.selects RX3 yX3_lookUp yX3_lookUp, Cond.code yX3_lookUp cX3_lookUp 4 (some .int), Cond.methodLink RX3 102 yX3_refusalOfReading]
def wsL_law_r15 : List Cond := [Cond.instanceMethod yX3_refusalOfReading, Cond.selects RX3 yX3_refusalOfReading yX3_refusalOfReading, Cond.code yX3_refusalOfReading cX3_refusalOfReading 3 (some .int), Cond.methodLink RL 42 yX4_length, Cond.instanceMethod yX4_length, Cond.selects RX4 yX4_length yX4_length, Cond.code yX4_length cX4_length 4 (some .int), Cond.methodLink RX4 123 yX4_thingOf, Cond.instanceMethod yX4_thingOf, Cond.selects RX4 yX4_thingOf yX4_thingOf, Cond.code yX4_thingOf cX4_thingOf 5 (some .int), Cond.methodLink RL 43 yX3_find, Cond.instanceMethod yX3_find, Cond.selects RX3 yX3_find yX3_find, Cond.code yX3_find cX3_find 5 (some .int), Cond.methodLink RL 47 yX4_find, Cond.instanceMethod yX4_find, Cond.selects RX4 yX4_find yX4_find, Cond.code yX4_find cX4_find 5 (some .int), Cond.methodLink RL 48 yX3_next, Cond.instanceMethod yX3_next, Cond.selects RX3 yX3_next yX3_next, Cond.code yX3_next cX3_next 8 (some .int), Cond.methodLink RX3 108 yX3_nextThing]
def wsL_law_r16 : List Cond := [Cond.instanceMethod yX3_nextThing, Cond.selects RX3 yX3_nextThing yX3_nextThing, Cond.code yX3_nextThing cX3_nextThing 4 (some .int), Cond.methodLink RL 51 yX4_next, Cond.instanceMethod yX4_next, Cond.selects RX4 yX4_next yX4_next, Cond.code yX4_next cX4_next 5 (some .int), Cond.methodLink RL 52 yX3_crash, Cond.instanceMethod yX3_crash, Cond.selects RX3 yX3_crash yX3_crash, Cond.code yX3_crash cX3_crash 2 (some .int), Cond.methodLink RX3 111 yX1_failAfter, Cond.instanceMethod yX1_failAfter, Cond.selects RX1 yX1_failAfter yX1_failAfter, Cond.code yX1_failAfter cX1_failAfter 2 none, Cond.methodLink RL 55 yX4_crash, Cond.instanceMethod yX4_crash, Cond.selects RX4 yX4_crash yX4_crash, Cond.code yX4_crash cX4_crash 2 (some .int), Cond.methodLink RL 56 yX3_reopen, Cond.instanceMethod yX3_reopen, Cond.selects RX3 yX3_reopen yX3_reopen, Cond.code yX3_reopen cX3_reopen 2 (some .int), Cond.methodLink RX3 114 yX1_restore]
def wsL_law_r17 : List Cond := [Cond.instanceMethod yX1_restore, Cond.selects RX1 yX1_restore yX1_restore, Cond.code yX1_restore cX1_restore 1 none, Cond.methodLink RX3 117 yX0_numberAt, Cond.methodLink RL 60 yX4_reopen, Cond.instanceMethod yX4_reopen, Cond.selects RX4 yX4_reopen yX4_reopen, Cond.code yX4_reopen cX4_reopen 2 (some .int), Cond.methodLink RL 61 yX3_poke, Cond.instanceMethod yX3_poke, Cond.selects RX3 yX3_poke yX3_poke, Cond.code yX3_poke cX3_poke 4 (some .int), Cond.methodLink RX3 120 yX0_has, Cond.instanceMethod yX0_has, Cond.selects RX0 yX0_has yX0_has, Cond.code yX0_has cX0_has 3 (some .boolean), Cond.methodLink RL 64 yX4_poke, Cond.instanceMethod yX4_poke, Cond.selects RX4 yX4_poke yX4_poke, Cond.code yX4_poke cX4_poke 4 (some .int), Cond.methodLink RX4 126 yX4_isByte, Cond.instanceMethod yX4_isByte, Cond.selects RX4 yX4_isByte yX4_isByte, Cond.code yX4_isByte cX4_isByte 3 (some .boolean)]
def wsL_law_r18 : List Cond := [Cond.methodLink RL 65 yX3_byteAt, Cond.instanceMethod yX3_byteAt, Cond.selects RX3 yX3_byteAt yX3_byteAt, Cond.code yX3_byteAt cX3_byteAt 3 (some .int), Cond.methodLink RL 68 yX4_byteAt, Cond.instanceMethod yX4_byteAt, Cond.selects RX4 yX4_byteAt yX4_byteAt, Cond.code yX4_byteAt cX4_byteAt 3 (some .int), Cond.methodLink RL 69 yX3_badAt, Cond.instanceMethod yX3_badAt, Cond.selects RX3 yX3_badAt yX3_badAt, Cond.code yX3_badAt cX3_badAt 1 (some .int), Cond.methodLink RL 72 yX4_badAt, Cond.instanceMethod yX4_badAt, Cond.selects RX4 yX4_badAt yX4_badAt, Cond.code yX4_badAt cX4_badAt 1 (some .int), Cond.methodLink RL 73 yX3_count, Cond.instanceMethod yX3_count, Cond.selects RX3 yX3_count yX3_count, Cond.code yX3_count cX3_count 2 (some .int), Cond.methodLink RX3 134 yX2_freePages, Cond.instanceMethod yX2_freePages, Cond.selects RX2 yX2_freePages yX2_freePages, Cond.code yX2_freePages cX2_freePages 3 (some .int)]
def wsL_law_r19 : List Cond := [Cond.methodLink RX3 137 yX3_keysOfNewest, Cond.instanceMethod yX3_keysOfNewest, Cond.selects RX3 yX3_keysOfNewest yX3_keysOfNewest, Cond.code yX3_keysOfNewest cX3_keysOfNewest 5 (some .int), Cond.methodLink RX3 143 yX0_pagesTold, Cond.instanceMethod yX0_pagesTold, Cond.selects RX0 yX0_pagesTold yX0_pagesTold, Cond.code yX0_pagesTold cX0_pagesTold 6 (some .int), Cond.methodLink RL 76 yX4_count, Cond.instanceMethod yX4_count, Cond.selects RX4 yX4_count yX4_count, Cond.code yX4_count cX4_count 2 (some .int), Cond.methodLink RX4 129 yX4_freePages, Cond.instanceMethod yX4_freePages, Cond.selects RX4 yX4_freePages yX4_freePages, Cond.code yX4_freePages cX4_freePages 3 (some .int), Cond.methodLink RX4 133 yX4_keys, Cond.instanceMethod yX4_keys, Cond.selects RX4 yX4_keys yX4_keys, Cond.code yX4_keys cX4_keys 7 (some .int), Cond.methodLink RL 77 yX3_written, Cond.instanceMethod yX3_written, Cond.selects RX3 yX3_written yX3_written, Cond.code yX3_written cX3_written 1 (some .int)]
def wsL_law_r20 : List Cond := [Cond.methodLink RX3 140 yX1_pagesWritten, Cond.instanceMethod yX1_pagesWritten, Cond.selects RX1 yX1_pagesWritten yX1_pagesWritten, Cond.code yX1_pagesWritten cX1_pagesWritten 1 (some .int), Cond.methodLink RL 80 yX4_written, Cond.instanceMethod yX4_written, Cond.selects RX4 yX4_written yX4_written, Cond.code yX4_written cX4_written 1 (some .int), Cond.methodLink RL 81 yX3_isDown, Cond.instanceMethod yX3_isDown, Cond.selects RX3 yX3_isDown yX3_isDown, Cond.code yX3_isDown cX3_isDown 1 (some .boolean), Cond.methodLink RL 85 yX4_isDown, Cond.instanceMethod yX4_isDown, Cond.selects RX4 yX4_isDown yX4_isDown, Cond.code yX4_isDown cX4_isDown 1 (some .boolean)]
def wsL_law : List Cond := (wsL_law_r1 ++ (wsL_law_r2 ++ (wsL_law_r3 ++ (wsL_law_r4 ++ (wsL_law_r5 ++ (wsL_law_r6 ++ (wsL_law_r7 ++ (wsL_law_r8 ++ (wsL_law_r9 ++ (wsL_law_r10 ++ (wsL_law_r11 ++ (wsL_law_r12 ++ (wsL_law_r13 ++ (wsL_law_r14 ++ (wsL_law_r15 ++ (wsL_law_r16 ++ (wsL_law_r17 ++ (wsL_law_r18 ++ (wsL_law_r19 ++ wsL_law_r20))))))))))))))))))) ++ wsX30 ++ wsX40 ++ wsX00 ++ wsX20 ++ wsX10 ++ ([] : List Cond)
set_option maxRecDepth 20000 in
abbrev vwCl : List vw_C := [(RX0, TX0, 2), (RX1, TX1, 3), (RX2, TX2, 1), (RX3, TX3, 7), (RX4, TX4, 12)]
theorem dX0_init_0 : decode cX0_init 0 = .ok (.aload_n 0, 1) := by decide +kernel
theorem dX0_init_1 : decode cX0_init 1 = .ok (.invokespecial 3, 3) := by decide +kernel
theorem dX0_init_4 : decode cX0_init 4 = .ok (.aload_n 0, 1) := by decide +kernel
theorem dX0_init_5 : decode cX0_init 5 = .ok (.iload_n 1, 1) := by decide +kernel
theorem dX0_init_6 : decode cX0_init 6 = .ok (.putfield 9, 3) := by decide +kernel
theorem dX0_init_9 : decode cX0_init 9 = .ok (.aload_n 0, 1) := by decide +kernel
theorem dX0_init_10 : decode cX0_init 10 = .ok (.iload_n 1, 1) := by decide +kernel
theorem dX0_init_11 : decode cX0_init 11 = .ok (.bipush 48, 2) := by decide +kernel
theorem dX0_init_13 : decode cX0_init 13 = .ok (.imul, 1) := by decide +kernel
theorem dX0_init_14 : decode cX0_init 14 = .ok (.newarray .int, 2) := by decide +kernel
theorem dX0_init_16 : decode cX0_init 16 = .ok (.putfield 15, 3) := by decide +kernel
theorem dX0_init_19 : decode cX0_init 19 = .ok (.return_, 1) := by decide +kernel
theorem dX0_has_0 : decode cX0_has 0 = .ok (.iload_n 1, 1) := by decide +kernel
theorem dX0_has_1 : decode cX0_has 1 = .ok (.ifCond .lt 25, 3) := by decide +kernel
theorem dX0_has_4 : decode cX0_has 4 = .ok (.iload_n 1, 1) := by decide +kernel
theorem dX0_has_5 : decode cX0_has 5 = .ok (.aload_n 0, 1) := by decide +kernel
theorem dX0_has_6 : decode cX0_has 6 = .ok (.getfield 9, 3) := by decide +kernel
theorem dX0_has_9 : decode cX0_has 9 = .ok (.if_icmp .ge 17, 3) := by decide +kernel
theorem dX0_has_12 : decode cX0_has 12 = .ok (.iload_n 2, 1) := by decide +kernel
theorem dX0_has_13 : decode cX0_has 13 = .ok (.ifCond .lt 13, 3) := by decide +kernel
theorem dX0_has_16 : decode cX0_has 16 = .ok (.iload_n 2, 1) := by decide +kernel
theorem dX0_has_17 : decode cX0_has 17 = .ok (.bipush 48, 2) := by decide +kernel
theorem dX0_has_19 : decode cX0_has 19 = .ok (.if_icmp .ge 7, 3) := by decide +kernel
theorem dX0_has_22 : decode cX0_has 22 = .ok (.iconst 1, 1) := by decide +kernel
theorem dX0_has_23 : decode cX0_has 23 = .ok (.goto 4, 3) := by decide +kernel
end
section
theorem dX0_has_26 : decode cX0_has 26 = .ok (.iconst 0, 1) := by decide +kernel
theorem dX0_has_27 : decode cX0_has 27 = .ok (.ireturn, 1) := by decide +kernel
theorem dX0_at_0 : decode cX0_at 0 = .ok (.aload_n 0, 1) := by decide +kernel
theorem dX0_at_1 : decode cX0_at 1 = .ok (.getfield 15, 3) := by decide +kernel
theorem dX0_at_4 : decode cX0_at 4 = .ok (.iload_n 1, 1) := by decide +kernel
theorem dX0_at_5 : decode cX0_at 5 = .ok (.bipush 48, 2) := by decide +kernel
theorem dX0_at_7 : decode cX0_at 7 = .ok (.imul, 1) := by decide +kernel
theorem dX0_at_8 : decode cX0_at 8 = .ok (.iload_n 2, 1) := by decide +kernel
theorem dX0_at_9 : decode cX0_at 9 = .ok (.iadd, 1) := by decide +kernel
theorem dX0_at_10 : decode cX0_at 10 = .ok (.iaload, 1) := by decide +kernel
theorem dX0_at_11 : decode cX0_at 11 = .ok (.ireturn, 1) := by decide +kernel
theorem dX0_set_0 : decode cX0_set 0 = .ok (.aload_n 0, 1) := by decide +kernel
theorem dX0_set_1 : decode cX0_set 1 = .ok (.getfield 15, 3) := by decide +kernel
theorem dX0_set_4 : decode cX0_set 4 = .ok (.iload_n 1, 1) := by decide +kernel
theorem dX0_set_5 : decode cX0_set 5 = .ok (.bipush 48, 2) := by decide +kernel
theorem dX0_set_7 : decode cX0_set 7 = .ok (.imul, 1) := by decide +kernel
theorem dX0_set_8 : decode cX0_set 8 = .ok (.iload_n 2, 1) := by decide +kernel
theorem dX0_set_9 : decode cX0_set 9 = .ok (.iadd, 1) := by decide +kernel
theorem dX0_set_10 : decode cX0_set 10 = .ok (.iload_n 3, 1) := by decide +kernel
theorem dX0_set_11 : decode cX0_set 11 = .ok (.iastore, 1) := by decide +kernel
theorem dX0_set_12 : decode cX0_set 12 = .ok (.return_, 1) := by decide +kernel
theorem dX0_numberAt_0 : decode cX0_numberAt 0 = .ok (.iload_n 1, 1) := by decide +kernel
theorem dX0_numberAt_1 : decode cX0_numberAt 1 = .ok (.bipush 48, 2) := by decide +kernel
theorem dX0_numberAt_3 : decode cX0_numberAt 3 = .ok (.imul, 1) := by decide +kernel
theorem dX0_numberAt_4 : decode cX0_numberAt 4 = .ok (.iload_n 2, 1) := by decide +kernel
theorem dX0_numberAt_5 : decode cX0_numberAt 5 = .ok (.iadd, 1) := by decide +kernel
theorem dX0_numberAt_6 : decode cX0_numberAt 6 = .ok (.istore_n 3, 1) := by decide +kernel
theorem dX0_numberAt_7 : decode cX0_numberAt 7 = .ok (.aload_n 0, 1) := by decide +kernel
theorem dX0_numberAt_8 : decode cX0_numberAt 8 = .ok (.getfield 15, 3) := by decide +kernel
theorem dX0_numberAt_11 : decode cX0_numberAt 11 = .ok (.iload_n 3, 1) := by decide +kernel
theorem dX0_numberAt_12 : decode cX0_numberAt 12 = .ok (.iaload, 1) := by decide +kernel
theorem dX0_numberAt_13 : decode cX0_numberAt 13 = .ok (.bipush 24, 2) := by decide +kernel
theorem dX0_numberAt_15 : decode cX0_numberAt 15 = .ok (.ishl, 1) := by decide +kernel
theorem dX0_numberAt_16 : decode cX0_numberAt 16 = .ok (.aload_n 0, 1) := by decide +kernel
theorem dX0_numberAt_17 : decode cX0_numberAt 17 = .ok (.getfield 15, 3) := by decide +kernel
theorem dX0_numberAt_20 : decode cX0_numberAt 20 = .ok (.iload_n 3, 1) := by decide +kernel
theorem dX0_numberAt_21 : decode cX0_numberAt 21 = .ok (.iconst 1, 1) := by decide +kernel
theorem dX0_numberAt_22 : decode cX0_numberAt 22 = .ok (.iadd, 1) := by decide +kernel
theorem dX0_numberAt_23 : decode cX0_numberAt 23 = .ok (.iaload, 1) := by decide +kernel
theorem dX0_numberAt_24 : decode cX0_numberAt 24 = .ok (.bipush 16, 2) := by decide +kernel
theorem dX0_numberAt_26 : decode cX0_numberAt 26 = .ok (.ishl, 1) := by decide +kernel
theorem dX0_numberAt_27 : decode cX0_numberAt 27 = .ok (.ior, 1) := by decide +kernel
theorem dX0_numberAt_28 : decode cX0_numberAt 28 = .ok (.aload_n 0, 1) := by decide +kernel
theorem dX0_numberAt_29 : decode cX0_numberAt 29 = .ok (.getfield 15, 3) := by decide +kernel
theorem dX0_numberAt_32 : decode cX0_numberAt 32 = .ok (.iload_n 3, 1) := by decide +kernel
theorem dX0_numberAt_33 : decode cX0_numberAt 33 = .ok (.iconst 2, 1) := by decide +kernel
theorem dX0_numberAt_34 : decode cX0_numberAt 34 = .ok (.iadd, 1) := by decide +kernel
theorem dX0_numberAt_35 : decode cX0_numberAt 35 = .ok (.iaload, 1) := by decide +kernel
theorem dX0_numberAt_36 : decode cX0_numberAt 36 = .ok (.bipush 8, 2) := by decide +kernel
theorem dX0_numberAt_38 : decode cX0_numberAt 38 = .ok (.ishl, 1) := by decide +kernel
theorem dX0_numberAt_39 : decode cX0_numberAt 39 = .ok (.ior, 1) := by decide +kernel
theorem dX0_numberAt_40 : decode cX0_numberAt 40 = .ok (.aload_n 0, 1) := by decide +kernel
theorem dX0_numberAt_41 : decode cX0_numberAt 41 = .ok (.getfield 15, 3) := by decide +kernel
theorem dX0_numberAt_44 : decode cX0_numberAt 44 = .ok (.iload_n 3, 1) := by decide +kernel
theorem dX0_numberAt_45 : decode cX0_numberAt 45 = .ok (.iconst 3, 1) := by decide +kernel
theorem dX0_numberAt_46 : decode cX0_numberAt 46 = .ok (.iadd, 1) := by decide +kernel
theorem dX0_numberAt_47 : decode cX0_numberAt 47 = .ok (.iaload, 1) := by decide +kernel
theorem dX0_numberAt_48 : decode cX0_numberAt 48 = .ok (.ior, 1) := by decide +kernel
theorem dX0_numberAt_49 : decode cX0_numberAt 49 = .ok (.ireturn, 1) := by decide +kernel
theorem dX0_setNumber_0 : decode cX0_setNumber 0 = .ok (.iload_n 1, 1) := by decide +kernel
theorem dX0_setNumber_1 : decode cX0_setNumber 1 = .ok (.bipush 48, 2) := by decide +kernel
theorem dX0_setNumber_3 : decode cX0_setNumber 3 = .ok (.imul, 1) := by decide +kernel
theorem dX0_setNumber_4 : decode cX0_setNumber 4 = .ok (.iload_n 2, 1) := by decide +kernel
theorem dX0_setNumber_5 : decode cX0_setNumber 5 = .ok (.iadd, 1) := by decide +kernel
theorem dX0_setNumber_6 : decode cX0_setNumber 6 = .ok (.istore 4, 2) := by decide +kernel
theorem dX0_setNumber_8 : decode cX0_setNumber 8 = .ok (.aload_n 0, 1) := by decide +kernel
theorem dX0_setNumber_9 : decode cX0_setNumber 9 = .ok (.getfield 15, 3) := by decide +kernel
theorem dX0_setNumber_12 : decode cX0_setNumber 12 = .ok (.iload 4, 2) := by decide +kernel
theorem dX0_setNumber_14 : decode cX0_setNumber 14 = .ok (.iload_n 3, 1) := by decide +kernel
theorem dX0_setNumber_15 : decode cX0_setNumber 15 = .ok (.bipush 24, 2) := by decide +kernel
theorem dX0_setNumber_17 : decode cX0_setNumber 17 = .ok (.iushr, 1) := by decide +kernel
theorem dX0_setNumber_18 : decode cX0_setNumber 18 = .ok (.iastore, 1) := by decide +kernel
theorem dX0_setNumber_19 : decode cX0_setNumber 19 = .ok (.aload_n 0, 1) := by decide +kernel
theorem dX0_setNumber_20 : decode cX0_setNumber 20 = .ok (.getfield 15, 3) := by decide +kernel
theorem dX0_setNumber_23 : decode cX0_setNumber 23 = .ok (.iload 4, 2) := by decide +kernel
theorem dX0_setNumber_25 : decode cX0_setNumber 25 = .ok (.iconst 1, 1) := by decide +kernel
theorem dX0_setNumber_26 : decode cX0_setNumber 26 = .ok (.iadd, 1) := by decide +kernel
theorem dX0_setNumber_27 : decode cX0_setNumber 27 = .ok (.iload_n 3, 1) := by decide +kernel
theorem dX0_setNumber_28 : decode cX0_setNumber 28 = .ok (.bipush 16, 2) := by decide +kernel
theorem dX0_setNumber_30 : decode cX0_setNumber 30 = .ok (.iushr, 1) := by decide +kernel
theorem dX0_setNumber_31 : decode cX0_setNumber 31 = .ok (.sipush 255, 3) := by decide +kernel
theorem dX0_setNumber_34 : decode cX0_setNumber 34 = .ok (.iand, 1) := by decide +kernel
theorem dX0_setNumber_35 : decode cX0_setNumber 35 = .ok (.iastore, 1) := by decide +kernel
theorem dX0_setNumber_36 : decode cX0_setNumber 36 = .ok (.aload_n 0, 1) := by decide +kernel
theorem dX0_setNumber_37 : decode cX0_setNumber 37 = .ok (.getfield 15, 3) := by decide +kernel
theorem dX0_setNumber_40 : decode cX0_setNumber 40 = .ok (.iload 4, 2) := by decide +kernel
theorem dX0_setNumber_42 : decode cX0_setNumber 42 = .ok (.iconst 2, 1) := by decide +kernel
theorem dX0_setNumber_43 : decode cX0_setNumber 43 = .ok (.iadd, 1) := by decide +kernel
theorem dX0_setNumber_44 : decode cX0_setNumber 44 = .ok (.iload_n 3, 1) := by decide +kernel
theorem dX0_setNumber_45 : decode cX0_setNumber 45 = .ok (.bipush 8, 2) := by decide +kernel
theorem dX0_setNumber_47 : decode cX0_setNumber 47 = .ok (.iushr, 1) := by decide +kernel
theorem dX0_setNumber_48 : decode cX0_setNumber 48 = .ok (.sipush 255, 3) := by decide +kernel
theorem dX0_setNumber_51 : decode cX0_setNumber 51 = .ok (.iand, 1) := by decide +kernel
theorem dX0_setNumber_52 : decode cX0_setNumber 52 = .ok (.iastore, 1) := by decide +kernel
theorem dX0_setNumber_53 : decode cX0_setNumber 53 = .ok (.aload_n 0, 1) := by decide +kernel
theorem dX0_setNumber_54 : decode cX0_setNumber 54 = .ok (.getfield 15, 3) := by decide +kernel
theorem dX0_setNumber_57 : decode cX0_setNumber 57 = .ok (.iload 4, 2) := by decide +kernel
theorem dX0_setNumber_59 : decode cX0_setNumber 59 = .ok (.iconst 3, 1) := by decide +kernel
theorem dX0_setNumber_60 : decode cX0_setNumber 60 = .ok (.iadd, 1) := by decide +kernel
theorem dX0_setNumber_61 : decode cX0_setNumber 61 = .ok (.iload_n 3, 1) := by decide +kernel
theorem dX0_setNumber_62 : decode cX0_setNumber 62 = .ok (.sipush 255, 3) := by decide +kernel
theorem dX0_setNumber_65 : decode cX0_setNumber 65 = .ok (.iand, 1) := by decide +kernel
theorem dX0_setNumber_66 : decode cX0_setNumber 66 = .ok (.iastore, 1) := by decide +kernel
theorem dX0_setNumber_67 : decode cX0_setNumber 67 = .ok (.return_, 1) := by decide +kernel
set_option maxRecDepth 20000 in
theorem ggX0_begin_J7_fill_fda19 : GoodIn wsX0_begin wsJ7_fill_fda19 := goodIn_r _ [5, 6, 7, 4, 8] (by decide +kernel) (by decide +kernel)
set_option maxRecDepth 20000 in
theorem gX0_begin_J7_fill_fda19 : GoodIn wsX0_begin (va_wsS RX0 19 yJ7_fill_fda19 wsJ7_fill_fda19) := goodIn_app (goodIn_of _ (by decide +kernel)) ggX0_begin_J7_fill_fda19
set_option maxRecDepth 20000 in
theorem ggX0_begin_X0_set : GoodIn wsX0_begin wsX0_set := goodIn_r _ [13, 1, 14, 15] (by decide +kernel) (by decide +kernel)
set_option maxRecDepth 20000 in
theorem gX0_begin_X0_set : GoodIn wsX0_begin (wsV RX0 25 RX0 yX0_set wsX0_set) := goodIn_app (goodIn_of _ (by decide +kernel)) ggX0_begin_X0_set
theorem dX0_begin_0 : decode cX0_begin 0 = .ok (.iload_n 1, 1) := by decide +kernel
theorem dX0_begin_1 : decode cX0_begin 1 = .ok (.bipush 48, 2) := by decide +kernel
theorem dX0_begin_3 : decode cX0_begin 3 = .ok (.imul, 1) := by decide +kernel
theorem dX0_begin_4 : decode cX0_begin 4 = .ok (.istore_n 3, 1) := by decide +kernel
theorem dX0_begin_5 : decode cX0_begin 5 = .ok (.aload_n 0, 1) := by decide +kernel
theorem dX0_begin_6 : decode cX0_begin 6 = .ok (.getfield 15, 3) := by decide +kernel
theorem dX0_begin_9 : decode cX0_begin 9 = .ok (.iload_n 3, 1) := by decide +kernel
theorem dX0_begin_10 : decode cX0_begin 10 = .ok (.iload_n 3, 1) := by decide +kernel
theorem dX0_begin_11 : decode cX0_begin 11 = .ok (.bipush 48, 2) := by decide +kernel
theorem dX0_begin_13 : decode cX0_begin 13 = .ok (.iadd, 1) := by decide +kernel
theorem dX0_begin_14 : decode cX0_begin 14 = .ok (.iconst 0, 1) := by decide +kernel
theorem dX0_begin_15 : decode cX0_begin 15 = .ok (.invokestatic 19, 3) := by decide +kernel
theorem dX0_begin_18 : decode cX0_begin 18 = .ok (.aload_n 0, 1) := by decide +kernel
theorem dX0_begin_19 : decode cX0_begin 19 = .ok (.iload_n 1, 1) := by decide +kernel
theorem dX0_begin_20 : decode cX0_begin 20 = .ok (.iconst 0, 1) := by decide +kernel
theorem dX0_begin_21 : decode cX0_begin 21 = .ok (.iload_n 2, 1) := by decide +kernel
theorem dX0_begin_22 : decode cX0_begin 22 = .ok (.invokevirtual 25, 3) := by decide +kernel
theorem dX0_begin_25 : decode cX0_begin 25 = .ok (.return_, 1) := by decide +kernel
theorem dX0_copy_0 : decode cX0_copy 0 = .ok (.aload_n 0, 1) := by decide +kernel
theorem dX0_copy_1 : decode cX0_copy 1 = .ok (.getfield 15, 3) := by decide +kernel
theorem dX0_copy_4 : decode cX0_copy 4 = .ok (.iload_n 1, 1) := by decide +kernel
theorem dX0_copy_5 : decode cX0_copy 5 = .ok (.bipush 48, 2) := by decide +kernel
theorem dX0_copy_7 : decode cX0_copy 7 = .ok (.imul, 1) := by decide +kernel
theorem dX0_copy_8 : decode cX0_copy 8 = .ok (.aload_n 0, 1) := by decide +kernel
theorem dX0_copy_9 : decode cX0_copy 9 = .ok (.getfield 15, 3) := by decide +kernel
theorem dX0_copy_12 : decode cX0_copy 12 = .ok (.iload_n 2, 1) := by decide +kernel
theorem dX0_copy_13 : decode cX0_copy 13 = .ok (.bipush 48, 2) := by decide +kernel
theorem dX0_copy_15 : decode cX0_copy 15 = .ok (.imul, 1) := by decide +kernel
theorem dX0_copy_16 : decode cX0_copy 16 = .ok (.bipush 48, 2) := by decide +kernel
theorem dX0_copy_18 : decode cX0_copy 18 = .ok (.invokestatic 29, 3) := by decide +kernel
theorem dX0_copy_21 : decode cX0_copy 21 = .ok (.return_, 1) := by decide +kernel
set_option maxRecDepth 20000 in
theorem ggX0_seal_X0_sumOf : GoodIn wsX0_seal wsX0_sumOf := goodIn_r _ [5, 6, 7, 8, 9, 4, 10, 11, 16, 17] (by decide +kernel) (by decide +kernel)
set_option maxRecDepth 20000 in
theorem gX0_seal_X0_sumOf : GoodIn wsX0_seal (wsV RX0 35 RX0 yX0_sumOf wsX0_sumOf) := goodIn_app (goodIn_of _ (by decide +kernel)) ggX0_seal_X0_sumOf
set_option maxRecDepth 20000 in
theorem ggX0_seal_X0_setNumber : GoodIn wsX0_seal wsX0_setNumber := goodIn_r _ [15, 11, 16, 17] (by decide +kernel) (by decide +kernel)
set_option maxRecDepth 20000 in
theorem gX0_seal_X0_setNumber : GoodIn wsX0_seal (wsV RX0 39 RX0 yX0_setNumber wsX0_setNumber) := goodIn_app (goodIn_of _ (by decide +kernel)) ggX0_seal_X0_setNumber
theorem dX0_seal_0 : decode cX0_seal 0 = .ok (.aload_n 0, 1) := by decide +kernel
theorem dX0_seal_1 : decode cX0_seal 1 = .ok (.iload_n 1, 1) := by decide +kernel
theorem dX0_seal_2 : decode cX0_seal 2 = .ok (.bipush 44, 2) := by decide +kernel
theorem dX0_seal_4 : decode cX0_seal 4 = .ok (.aload_n 0, 1) := by decide +kernel
theorem dX0_seal_5 : decode cX0_seal 5 = .ok (.iload_n 1, 1) := by decide +kernel
theorem dX0_seal_6 : decode cX0_seal 6 = .ok (.invokevirtual 35, 3) := by decide +kernel
theorem dX0_seal_9 : decode cX0_seal 9 = .ok (.invokevirtual 39, 3) := by decide +kernel
theorem dX0_seal_12 : decode cX0_seal 12 = .ok (.return_, 1) := by decide +kernel
set_option maxRecDepth 20000 in
theorem ggX0_isRight_X0_at : GoodIn wsX0_isRight wsX0_at := goodIn_r _ [5, 6, 29, 30] (by decide +kernel) (by decide +kernel)
set_option maxRecDepth 20000 in
theorem gX0_isRight_X0_at : GoodIn wsX0_isRight (wsV RX0 42 RX0 yX0_at wsX0_at) := goodIn_app (goodIn_of _ (by decide +kernel)) ggX0_isRight_X0_at
set_option maxRecDepth 20000 in
theorem ggX0_isRight_X0_numberAt : GoodIn wsX0_isRight wsX0_numberAt := goodIn_r _ [10, 6, 29, 30] (by decide +kernel) (by decide +kernel)
set_option maxRecDepth 20000 in
theorem gX0_isRight_X0_numberAt : GoodIn wsX0_isRight (wsV RX0 46 RX0 yX0_numberAt wsX0_numberAt) := goodIn_app (goodIn_of _ (by decide +kernel)) ggX0_isRight_X0_numberAt
set_option maxRecDepth 20000 in
theorem ggX0_isRight_X0_sumOf : GoodIn wsX0_isRight wsX0_sumOf := goodIn_r _ [14, 15, 1, 2, 3, 4, 5, 6, 29, 30] (by decide +kernel) (by decide +kernel)
set_option maxRecDepth 20000 in
theorem gX0_isRight_X0_sumOf : GoodIn wsX0_isRight (wsV RX0 35 RX0 yX0_sumOf wsX0_sumOf) := goodIn_app (goodIn_of _ (by decide +kernel)) ggX0_isRight_X0_sumOf
set_option maxRecDepth 20000 in
theorem ggX0_isRight_X0_tellsVersions : GoodIn wsX0_isRight wsX0_tellsVersions := goodIn_r _ [19, 20, 7, 8, 9, 4, 10, 6, 21, 22, 23, 29, 30] (by decide +kernel) (by decide +kernel)
set_option maxRecDepth 20000 in
theorem gX0_isRight_X0_tellsVersions : GoodIn wsX0_isRight (wsV RX0 49 RX0 yX0_tellsVersions wsX0_tellsVersions) := goodIn_app (goodIn_of _ (by decide +kernel)) ggX0_isRight_X0_tellsVersions
set_option maxRecDepth 20000 in
theorem ggX0_isRight_X0_tellsRightPages : GoodIn wsX0_isRight wsX0_tellsRightPages := goodIn_r _ [27, 28, 1, 2, 3, 4, 5, 6, 29, 30] (by decide +kernel) (by decide +kernel)
set_option maxRecDepth 20000 in
theorem gX0_isRight_X0_tellsRightPages : GoodIn wsX0_isRight (wsV RX0 53 RX0 yX0_tellsRightPages wsX0_tellsRightPages) := goodIn_app (goodIn_of _ (by decide +kernel)) ggX0_isRight_X0_tellsRightPages
theorem dX0_isRight_0 : decode cX0_isRight 0 = .ok (.aload_n 0, 1) := by decide +kernel
theorem dX0_isRight_1 : decode cX0_isRight 1 = .ok (.iload_n 1, 1) := by decide +kernel
theorem dX0_isRight_2 : decode cX0_isRight 2 = .ok (.iconst 0, 1) := by decide +kernel
theorem dX0_isRight_3 : decode cX0_isRight 3 = .ok (.invokevirtual 42, 3) := by decide +kernel
theorem dX0_isRight_6 : decode cX0_isRight 6 = .ok (.iload_n 2, 1) := by decide +kernel
theorem dX0_isRight_7 : decode cX0_isRight 7 = .ok (.if_icmp .ne 18, 3) := by decide +kernel
theorem dX0_isRight_10 : decode cX0_isRight 10 = .ok (.aload_n 0, 1) := by decide +kernel
theorem dX0_isRight_11 : decode cX0_isRight 11 = .ok (.iload_n 1, 1) := by decide +kernel
theorem dX0_isRight_12 : decode cX0_isRight 12 = .ok (.bipush 44, 2) := by decide +kernel
theorem dX0_isRight_14 : decode cX0_isRight 14 = .ok (.invokevirtual 46, 3) := by decide +kernel
theorem dX0_isRight_17 : decode cX0_isRight 17 = .ok (.aload_n 0, 1) := by decide +kernel
theorem dX0_isRight_18 : decode cX0_isRight 18 = .ok (.iload_n 1, 1) := by decide +kernel
theorem dX0_isRight_19 : decode cX0_isRight 19 = .ok (.invokevirtual 35, 3) := by decide +kernel
theorem dX0_isRight_22 : decode cX0_isRight 22 = .ok (.if_icmp .eq 5, 3) := by decide +kernel
theorem dX0_isRight_25 : decode cX0_isRight 25 = .ok (.iconst 0, 1) := by decide +kernel
theorem dX0_isRight_26 : decode cX0_isRight 26 = .ok (.ireturn, 1) := by decide +kernel
theorem dX0_isRight_27 : decode cX0_isRight 27 = .ok (.iload_n 2, 1) := by decide +kernel
theorem dX0_isRight_28 : decode cX0_isRight 28 = .ok (.iconst 1, 1) := by decide +kernel
theorem dX0_isRight_29 : decode cX0_isRight 29 = .ok (.if_icmp .ne 29, 3) := by decide +kernel
theorem dX0_isRight_32 : decode cX0_isRight 32 = .ok (.aload_n 0, 1) := by decide +kernel
theorem dX0_isRight_33 : decode cX0_isRight 33 = .ok (.iload_n 1, 1) := by decide +kernel
theorem dX0_isRight_34 : decode cX0_isRight 34 = .ok (.invokevirtual 49, 3) := by decide +kernel
theorem dX0_isRight_37 : decode cX0_isRight 37 = .ok (.ifCond .eq 19, 3) := by decide +kernel
theorem dX0_isRight_40 : decode cX0_isRight 40 = .ok (.aload_n 0, 1) := by decide +kernel
theorem dX0_isRight_41 : decode cX0_isRight 41 = .ok (.iload_n 1, 1) := by decide +kernel
theorem dX0_isRight_42 : decode cX0_isRight 42 = .ok (.bipush 9, 2) := by decide +kernel
theorem dX0_isRight_44 : decode cX0_isRight 44 = .ok (.bipush 32, 2) := by decide +kernel
theorem dX0_isRight_46 : decode cX0_isRight 46 = .ok (.invokevirtual 53, 3) := by decide +kernel
theorem dX0_isRight_49 : decode cX0_isRight 49 = .ok (.ifCond .eq 7, 3) := by decide +kernel
theorem dX0_isRight_52 : decode cX0_isRight 52 = .ok (.iconst 1, 1) := by decide +kernel
theorem dX0_isRight_53 : decode cX0_isRight 53 = .ok (.goto 4, 3) := by decide +kernel
theorem dX0_isRight_56 : decode cX0_isRight 56 = .ok (.iconst 0, 1) := by decide +kernel
theorem dX0_isRight_57 : decode cX0_isRight 57 = .ok (.ireturn, 1) := by decide +kernel
theorem dX0_isRight_58 : decode cX0_isRight 58 = .ok (.iload_n 2, 1) := by decide +kernel
theorem dX0_isRight_59 : decode cX0_isRight 59 = .ok (.iconst 2, 1) := by decide +kernel
theorem dX0_isRight_60 : decode cX0_isRight 60 = .ok (.if_icmp .ne 12, 3) := by decide +kernel
theorem dX0_isRight_63 : decode cX0_isRight 63 = .ok (.aload_n 0, 1) := by decide +kernel
theorem dX0_isRight_64 : decode cX0_isRight 64 = .ok (.iload_n 1, 1) := by decide +kernel
theorem dX0_isRight_65 : decode cX0_isRight 65 = .ok (.iconst 2, 1) := by decide +kernel
theorem dX0_isRight_66 : decode cX0_isRight 66 = .ok (.bipush 32, 2) := by decide +kernel
theorem dX0_isRight_68 : decode cX0_isRight 68 = .ok (.invokevirtual 53, 3) := by decide +kernel
theorem dX0_isRight_71 : decode cX0_isRight 71 = .ok (.ireturn, 1) := by decide +kernel
theorem dX0_isRight_72 : decode cX0_isRight 72 = .ok (.aload_n 0, 1) := by decide +kernel
theorem dX0_isRight_73 : decode cX0_isRight 73 = .ok (.iload_n 1, 1) := by decide +kernel
theorem dX0_isRight_74 : decode cX0_isRight 74 = .ok (.iconst 3, 1) := by decide +kernel
theorem dX0_isRight_75 : decode cX0_isRight 75 = .ok (.invokevirtual 42, 3) := by decide +kernel
theorem dX0_isRight_78 : decode cX0_isRight 78 = .ok (.bipush 32, 2) := by decide +kernel
theorem dX0_isRight_80 : decode cX0_isRight 80 = .ok (.if_icmp .gt 7, 3) := by decide +kernel
theorem dX0_isRight_83 : decode cX0_isRight 83 = .ok (.iconst 1, 1) := by decide +kernel
theorem dX0_isRight_84 : decode cX0_isRight 84 = .ok (.goto 4, 3) := by decide +kernel
theorem dX0_isRight_87 : decode cX0_isRight 87 = .ok (.iconst 0, 1) := by decide +kernel
theorem dX0_isRight_88 : decode cX0_isRight 88 = .ok (.ireturn, 1) := by decide +kernel
set_option maxRecDepth 20000 in
theorem ggX0_pagesTold_X0_at : GoodIn wsX0_pagesTold wsX0_at := goodIn_r _ [5, 6, 7, 8] (by decide +kernel) (by decide +kernel)
set_option maxRecDepth 20000 in
theorem gX0_pagesTold_X0_at : GoodIn wsX0_pagesTold (wsV RX0 42 RX0 yX0_at wsX0_at) := goodIn_app (goodIn_of _ (by decide +kernel)) ggX0_pagesTold_X0_at
theorem dX0_pagesTold_0 : decode cX0_pagesTold 0 = .ok (.iconst 0, 1) := by decide +kernel
theorem dX0_pagesTold_1 : decode cX0_pagesTold 1 = .ok (.istore 4, 2) := by decide +kernel
theorem dX0_pagesTold_3 : decode cX0_pagesTold 3 = .ok (.iconst 0, 1) := by decide +kernel
theorem dX0_pagesTold_4 : decode cX0_pagesTold 4 = .ok (.istore 5, 2) := by decide +kernel
theorem dX0_pagesTold_6 : decode cX0_pagesTold 6 = .ok (.iload 5, 2) := by decide +kernel
theorem dX0_pagesTold_8 : decode cX0_pagesTold 8 = .ok (.iload_n 3, 1) := by decide +kernel
theorem dX0_pagesTold_9 : decode cX0_pagesTold 9 = .ok (.if_icmp .ge 24, 3) := by decide +kernel
theorem dX0_pagesTold_12 : decode cX0_pagesTold 12 = .ok (.aload_n 0, 1) := by decide +kernel
theorem dX0_pagesTold_13 : decode cX0_pagesTold 13 = .ok (.iload_n 1, 1) := by decide +kernel
theorem dX0_pagesTold_14 : decode cX0_pagesTold 14 = .ok (.iload_n 2, 1) := by decide +kernel
theorem dX0_pagesTold_15 : decode cX0_pagesTold 15 = .ok (.iload 5, 2) := by decide +kernel
theorem dX0_pagesTold_17 : decode cX0_pagesTold 17 = .ok (.iadd, 1) := by decide +kernel
theorem dX0_pagesTold_18 : decode cX0_pagesTold 18 = .ok (.invokevirtual 42, 3) := by decide +kernel
theorem dX0_pagesTold_21 : decode cX0_pagesTold 21 = .ok (.ifCond .eq 6, 3) := by decide +kernel
theorem dX0_pagesTold_24 : decode cX0_pagesTold 24 = .ok (.iinc 4 1, 3) := by decide +kernel
theorem dX0_pagesTold_27 : decode cX0_pagesTold 27 = .ok (.iinc 5 1, 3) := by decide +kernel
theorem dX0_pagesTold_30 : decode cX0_pagesTold 30 = .ok (.goto (-24), 3) := by decide +kernel
theorem dX0_pagesTold_33 : decode cX0_pagesTold 33 = .ok (.iload 4, 2) := by decide +kernel
theorem dX0_pagesTold_35 : decode cX0_pagesTold 35 = .ok (.ireturn, 1) := by decide +kernel
set_option maxRecDepth 20000 in
theorem ggX0_sumOf_X0_at : GoodIn wsX0_sumOf wsX0_at := goodIn_r _ [6, 7, 8, 9] (by decide +kernel) (by decide +kernel)
set_option maxRecDepth 20000 in
theorem gX0_sumOf_X0_at : GoodIn wsX0_sumOf (wsV RX0 42 RX0 yX0_at wsX0_at) := goodIn_app (goodIn_of _ (by decide +kernel)) ggX0_sumOf_X0_at
theorem dX0_sumOf_0 : decode cX0_sumOf 0 = .ok (.iconst 0, 1) := by decide +kernel
theorem dX0_sumOf_1 : decode cX0_sumOf 1 = .ok (.istore_n 2, 1) := by decide +kernel
theorem dX0_sumOf_2 : decode cX0_sumOf 2 = .ok (.iconst 0, 1) := by decide +kernel
theorem dX0_sumOf_3 : decode cX0_sumOf 3 = .ok (.istore_n 3, 1) := by decide +kernel
theorem dX0_sumOf_4 : decode cX0_sumOf 4 = .ok (.iload_n 3, 1) := by decide +kernel
theorem dX0_sumOf_5 : decode cX0_sumOf 5 = .ok (.bipush 44, 2) := by decide +kernel
theorem dX0_sumOf_7 : decode cX0_sumOf 7 = .ok (.if_icmp .ge 34, 3) := by decide +kernel
theorem dX0_sumOf_10 : decode cX0_sumOf 10 = .ok (.iload_n 2, 1) := by decide +kernel
theorem dX0_sumOf_11 : decode cX0_sumOf 11 = .ok (.aload_n 0, 1) := by decide +kernel
theorem dX0_sumOf_12 : decode cX0_sumOf 12 = .ok (.iload_n 1, 1) := by decide +kernel
theorem dX0_sumOf_13 : decode cX0_sumOf 13 = .ok (.iload_n 3, 1) := by decide +kernel
theorem dX0_sumOf_14 : decode cX0_sumOf 14 = .ok (.invokevirtual 42, 3) := by decide +kernel
theorem dX0_sumOf_17 : decode cX0_sumOf 17 = .ok (.ixor, 1) := by decide +kernel
theorem dX0_sumOf_18 : decode cX0_sumOf 18 = .ok (.istore 4, 2) := by decide +kernel
theorem dX0_sumOf_20 : decode cX0_sumOf 20 = .ok (.iload 4, 2) := by decide +kernel
theorem dX0_sumOf_22 : decode cX0_sumOf 22 = .ok (.bipush 9, 2) := by decide +kernel
theorem dX0_sumOf_24 : decode cX0_sumOf 24 = .ok (.ishl, 1) := by decide +kernel
theorem dX0_sumOf_25 : decode cX0_sumOf 25 = .ok (.iload 4, 2) := by decide +kernel
theorem dX0_sumOf_27 : decode cX0_sumOf 27 = .ok (.bipush 23, 2) := by decide +kernel
theorem dX0_sumOf_29 : decode cX0_sumOf 29 = .ok (.iushr, 1) := by decide +kernel
theorem dX0_sumOf_30 : decode cX0_sumOf 30 = .ok (.ior, 1) := by decide +kernel
theorem dX0_sumOf_31 : decode cX0_sumOf 31 = .ok (.ldc 57, 2) := by decide +kernel
theorem dX0_sumOf_33 : decode cX0_sumOf 33 = .ok (.imul, 1) := by decide +kernel
theorem dX0_sumOf_34 : decode cX0_sumOf 34 = .ok (.istore_n 2, 1) := by decide +kernel
theorem dX0_sumOf_35 : decode cX0_sumOf 35 = .ok (.iinc 3 1, 3) := by decide +kernel
theorem dX0_sumOf_38 : decode cX0_sumOf 38 = .ok (.goto (-34), 3) := by decide +kernel
theorem dX0_sumOf_41 : decode cX0_sumOf 41 = .ok (.iload_n 2, 1) := by decide +kernel
theorem dX0_sumOf_42 : decode cX0_sumOf 42 = .ok (.ireturn, 1) := by decide +kernel
set_option maxRecDepth 20000 in
theorem ggX0_tellsVersions_X0_numberAt : GoodIn wsX0_tellsVersions wsX0_numberAt := goodIn_r _ [6, 7, 11, 12] (by decide +kernel) (by decide +kernel)
set_option maxRecDepth 20000 in
theorem gX0_tellsVersions_X0_numberAt : GoodIn wsX0_tellsVersions (wsV RX0 46 RX0 yX0_numberAt wsX0_numberAt) := goodIn_app (goodIn_of _ (by decide +kernel)) ggX0_tellsVersions_X0_numberAt
set_option maxRecDepth 20000 in
theorem ggX0_tellsVersions_X3_pageOfRoot : GoodIn wsX0_tellsVersions wsX3_pageOfRoot := goodIn_r _ [10] (by decide +kernel) (by decide +kernel)
set_option maxRecDepth 20000 in
theorem gX0_tellsVersions_X3_pageOfRoot_n59 : GoodIn wsX0_tellsVersions (wsX3_pageOfRoot) := ggX0_tellsVersions_X3_pageOfRoot
theorem dX0_tellsVersions_0 : decode cX0_tellsVersions 0 = .ok (.aload_n 0, 1) := by decide +kernel
theorem dX0_tellsVersions_1 : decode cX0_tellsVersions 1 = .ok (.iload_n 1, 1) := by decide +kernel
theorem dX0_tellsVersions_2 : decode cX0_tellsVersions 2 = .ok (.iconst 1, 1) := by decide +kernel
theorem dX0_tellsVersions_3 : decode cX0_tellsVersions 3 = .ok (.invokevirtual 46, 3) := by decide +kernel
theorem dX0_tellsVersions_6 : decode cX0_tellsVersions 6 = .ok (.istore_n 2, 1) := by decide +kernel
theorem dX0_tellsVersions_7 : decode cX0_tellsVersions 7 = .ok (.aload_n 0, 1) := by decide +kernel
theorem dX0_tellsVersions_8 : decode cX0_tellsVersions 8 = .ok (.iload_n 1, 1) := by decide +kernel
theorem dX0_tellsVersions_9 : decode cX0_tellsVersions 9 = .ok (.iconst 5, 1) := by decide +kernel
theorem dX0_tellsVersions_10 : decode cX0_tellsVersions 10 = .ok (.invokevirtual 46, 3) := by decide +kernel
theorem dX0_tellsVersions_13 : decode cX0_tellsVersions 13 = .ok (.istore_n 3, 1) := by decide +kernel
theorem dX0_tellsVersions_14 : decode cX0_tellsVersions 14 = .ok (.iload_n 2, 1) := by decide +kernel
theorem dX0_tellsVersions_15 : decode cX0_tellsVersions 15 = .ok (.iconst 1, 1) := by decide +kernel
theorem dX0_tellsVersions_16 : decode cX0_tellsVersions 16 = .ok (.if_icmp .lt 39, 3) := by decide +kernel
theorem dX0_tellsVersions_19 : decode cX0_tellsVersions 19 = .ok (.iload_n 2, 1) := by decide +kernel
theorem dX0_tellsVersions_20 : decode cX0_tellsVersions 20 = .ok (.ldc 58, 2) := by decide +kernel
theorem dX0_tellsVersions_22 : decode cX0_tellsVersions 22 = .ok (.if_icmp .gt 33, 3) := by decide +kernel
theorem dX0_tellsVersions_25 : decode cX0_tellsVersions 25 = .ok (.iload_n 2, 1) := by decide +kernel
theorem dX0_tellsVersions_26 : decode cX0_tellsVersions 26 = .ok (.invokestatic 59, 3) := by decide +kernel
theorem dX0_tellsVersions_29 : decode cX0_tellsVersions 29 = .ok (.iload_n 1, 1) := by decide +kernel
theorem dX0_tellsVersions_30 : decode cX0_tellsVersions 30 = .ok (.if_icmp .ne 25, 3) := by decide +kernel
theorem dX0_tellsVersions_33 : decode cX0_tellsVersions 33 = .ok (.iload_n 3, 1) := by decide +kernel
theorem dX0_tellsVersions_34 : decode cX0_tellsVersions 34 = .ok (.iconst 1, 1) := by decide +kernel
theorem dX0_tellsVersions_35 : decode cX0_tellsVersions 35 = .ok (.if_icmp .lt 20, 3) := by decide +kernel
theorem dX0_tellsVersions_38 : decode cX0_tellsVersions 38 = .ok (.iload_n 3, 1) := by decide +kernel
theorem dX0_tellsVersions_39 : decode cX0_tellsVersions 39 = .ok (.iload_n 2, 1) := by decide +kernel
theorem dX0_tellsVersions_40 : decode cX0_tellsVersions 40 = .ok (.if_icmp .gt 15, 3) := by decide +kernel
theorem dX0_tellsVersions_43 : decode cX0_tellsVersions 43 = .ok (.iload_n 3, 1) := by decide +kernel
theorem dX0_tellsVersions_44 : decode cX0_tellsVersions 44 = .ok (.iload_n 2, 1) := by decide +kernel
theorem dX0_tellsVersions_45 : decode cX0_tellsVersions 45 = .ok (.bipush 7, 2) := by decide +kernel
theorem dX0_tellsVersions_47 : decode cX0_tellsVersions 47 = .ok (.isub, 1) := by decide +kernel
theorem dX0_tellsVersions_48 : decode cX0_tellsVersions 48 = .ok (.if_icmp .lt 7, 3) := by decide +kernel
theorem dX0_tellsVersions_51 : decode cX0_tellsVersions 51 = .ok (.iconst 1, 1) := by decide +kernel
theorem dX0_tellsVersions_52 : decode cX0_tellsVersions 52 = .ok (.goto 4, 3) := by decide +kernel
theorem dX0_tellsVersions_55 : decode cX0_tellsVersions 55 = .ok (.iconst 0, 1) := by decide +kernel
theorem dX0_tellsVersions_56 : decode cX0_tellsVersions 56 = .ok (.ireturn, 1) := by decide +kernel
set_option maxRecDepth 20000 in
theorem ggX0_tellsRightPages_X0_at : GoodIn wsX0_tellsRightPages wsX0_at := goodIn_r _ [6, 7, 8, 9] (by decide +kernel) (by decide +kernel)
set_option maxRecDepth 20000 in
theorem gX0_tellsRightPages_X0_at : GoodIn wsX0_tellsRightPages (wsV RX0 42 RX0 yX0_at wsX0_at) := goodIn_app (goodIn_of _ (by decide +kernel)) ggX0_tellsRightPages_X0_at
theorem dX0_tellsRightPages_0 : decode cX0_tellsRightPages 0 = .ok (.iconst 0, 1) := by decide +kernel
theorem dX0_tellsRightPages_1 : decode cX0_tellsRightPages 1 = .ok (.istore 4, 2) := by decide +kernel
theorem dX0_tellsRightPages_3 : decode cX0_tellsRightPages 3 = .ok (.iload 4, 2) := by decide +kernel
theorem dX0_tellsRightPages_5 : decode cX0_tellsRightPages 5 = .ok (.iload_n 3, 1) := by decide +kernel
theorem dX0_tellsRightPages_6 : decode cX0_tellsRightPages 6 = .ok (.if_icmp .ge 43, 3) := by decide +kernel
theorem dX0_tellsRightPages_9 : decode cX0_tellsRightPages 9 = .ok (.aload_n 0, 1) := by decide +kernel
theorem dX0_tellsRightPages_10 : decode cX0_tellsRightPages 10 = .ok (.iload_n 1, 1) := by decide +kernel
theorem dX0_tellsRightPages_11 : decode cX0_tellsRightPages 11 = .ok (.iload_n 2, 1) := by decide +kernel
theorem dX0_tellsRightPages_12 : decode cX0_tellsRightPages 12 = .ok (.iload 4, 2) := by decide +kernel
theorem dX0_tellsRightPages_14 : decode cX0_tellsRightPages 14 = .ok (.iadd, 1) := by decide +kernel
theorem dX0_tellsRightPages_15 : decode cX0_tellsRightPages 15 = .ok (.invokevirtual 42, 3) := by decide +kernel
theorem dX0_tellsRightPages_18 : decode cX0_tellsRightPages 18 = .ok (.istore 5, 2) := by decide +kernel
theorem dX0_tellsRightPages_20 : decode cX0_tellsRightPages 20 = .ok (.iload 5, 2) := by decide +kernel
theorem dX0_tellsRightPages_22 : decode cX0_tellsRightPages 22 = .ok (.ifCond .eq 21, 3) := by decide +kernel
theorem dX0_tellsRightPages_25 : decode cX0_tellsRightPages 25 = .ok (.iload 5, 2) := by decide +kernel
theorem dX0_tellsRightPages_27 : decode cX0_tellsRightPages 27 = .ok (.bipush 8, 2) := by decide +kernel
theorem dX0_tellsRightPages_29 : decode cX0_tellsRightPages 29 = .ok (.if_icmp .lt 12, 3) := by decide +kernel
theorem dX0_tellsRightPages_32 : decode cX0_tellsRightPages 32 = .ok (.iload 5, 2) := by decide +kernel
theorem dX0_tellsRightPages_34 : decode cX0_tellsRightPages 34 = .ok (.aload_n 0, 1) := by decide +kernel
theorem dX0_tellsRightPages_35 : decode cX0_tellsRightPages 35 = .ok (.getfield 9, 3) := by decide +kernel
theorem dX0_tellsRightPages_38 : decode cX0_tellsRightPages 38 = .ok (.if_icmp .lt 5, 3) := by decide +kernel
theorem dX0_tellsRightPages_41 : decode cX0_tellsRightPages 41 = .ok (.iconst 0, 1) := by decide +kernel
theorem dX0_tellsRightPages_42 : decode cX0_tellsRightPages 42 = .ok (.ireturn, 1) := by decide +kernel
theorem dX0_tellsRightPages_43 : decode cX0_tellsRightPages 43 = .ok (.iinc 4 1, 3) := by decide +kernel
theorem dX0_tellsRightPages_46 : decode cX0_tellsRightPages 46 = .ok (.goto (-43), 3) := by decide +kernel
theorem dX0_tellsRightPages_49 : decode cX0_tellsRightPages 49 = .ok (.iconst 1, 1) := by decide +kernel
theorem dX0_tellsRightPages_50 : decode cX0_tellsRightPages 50 = .ok (.ireturn, 1) := by decide +kernel
theorem dX1_init_0 : decode cX1_init 0 = .ok (.aload_n 0, 1) := by decide +kernel
theorem dX1_init_1 : decode cX1_init 1 = .ok (.invokespecial 3, 3) := by decide +kernel
theorem dX1_init_4 : decode cX1_init 4 = .ok (.aload_n 0, 1) := by decide +kernel
theorem dX1_init_5 : decode cX1_init 5 = .ok (.iconst 0, 1) := by decide +kernel
theorem dX1_init_6 : decode cX1_init 6 = .ok (.putfield 9, 3) := by decide +kernel
theorem dX1_init_9 : decode cX1_init 9 = .ok (.aload_n 0, 1) := by decide +kernel
theorem dX1_init_10 : decode cX1_init 10 = .ok (.iconst (-1), 1) := by decide +kernel
theorem dX1_init_11 : decode cX1_init 11 = .ok (.putfield 15, 3) := by decide +kernel
theorem dX1_init_14 : decode cX1_init 14 = .ok (.aload_n 0, 1) := by decide +kernel
theorem dX1_init_15 : decode cX1_init 15 = .ok (.iconst 0, 1) := by decide +kernel
theorem dX1_init_16 : decode cX1_init 16 = .ok (.putfield 19, 3) := by decide +kernel
theorem dX1_init_19 : decode cX1_init 19 = .ok (.return_, 1) := by decide +kernel
theorem dX1_isOff_0 : decode cX1_isOff 0 = .ok (.aload_n 0, 1) := by decide +kernel
theorem dX1_isOff_1 : decode cX1_isOff 1 = .ok (.getfield 9, 3) := by decide +kernel
theorem dX1_isOff_4 : decode cX1_isOff 4 = .ok (.ireturn, 1) := by decide +kernel
theorem dX1_pagesWritten_0 : decode cX1_pagesWritten 0 = .ok (.aload_n 0, 1) := by decide +kernel
theorem dX1_pagesWritten_1 : decode cX1_pagesWritten 1 = .ok (.getfield 19, 3) := by decide +kernel
theorem dX1_pagesWritten_4 : decode cX1_pagesWritten 4 = .ok (.ireturn, 1) := by decide +kernel
theorem dX1_failAfter_0 : decode cX1_failAfter 0 = .ok (.aload_n 0, 1) := by decide +kernel
theorem dX1_failAfter_1 : decode cX1_failAfter 1 = .ok (.iload_n 1, 1) := by decide +kernel
theorem dX1_failAfter_2 : decode cX1_failAfter 2 = .ok (.putfield 15, 3) := by decide +kernel
theorem dX1_failAfter_5 : decode cX1_failAfter 5 = .ok (.aload_n 0, 1) := by decide +kernel
theorem dX1_failAfter_6 : decode cX1_failAfter 6 = .ok (.iload_n 1, 1) := by decide +kernel
theorem dX1_failAfter_7 : decode cX1_failAfter 7 = .ok (.ifCond .ne 7, 3) := by decide +kernel
theorem dX1_failAfter_10 : decode cX1_failAfter 10 = .ok (.iconst 1, 1) := by decide +kernel
theorem dX1_failAfter_11 : decode cX1_failAfter 11 = .ok (.goto 4, 3) := by decide +kernel
theorem dX1_failAfter_14 : decode cX1_failAfter 14 = .ok (.iconst 0, 1) := by decide +kernel
theorem dX1_failAfter_15 : decode cX1_failAfter 15 = .ok (.putfield 9, 3) := by decide +kernel
theorem dX1_failAfter_18 : decode cX1_failAfter 18 = .ok (.return_, 1) := by decide +kernel
theorem dX1_usePage_0 : decode cX1_usePage 0 = .ok (.aload_n 0, 1) := by decide +kernel
theorem dX1_usePage_1 : decode cX1_usePage 1 = .ok (.dup, 1) := by decide +kernel
theorem dX1_usePage_2 : decode cX1_usePage 2 = .ok (.getfield 19, 3) := by decide +kernel
theorem dX1_usePage_5 : decode cX1_usePage 5 = .ok (.iconst 1, 1) := by decide +kernel
theorem dX1_usePage_6 : decode cX1_usePage 6 = .ok (.iadd, 1) := by decide +kernel
theorem dX1_usePage_7 : decode cX1_usePage 7 = .ok (.putfield 19, 3) := by decide +kernel
theorem dX1_usePage_10 : decode cX1_usePage 10 = .ok (.aload_n 0, 1) := by decide +kernel
theorem dX1_usePage_11 : decode cX1_usePage 11 = .ok (.getfield 15, 3) := by decide +kernel
theorem dX1_usePage_14 : decode cX1_usePage 14 = .ok (.ifCond .le 29, 3) := by decide +kernel
theorem dX1_usePage_17 : decode cX1_usePage 17 = .ok (.aload_n 0, 1) := by decide +kernel
theorem dX1_usePage_18 : decode cX1_usePage 18 = .ok (.dup, 1) := by decide +kernel
theorem dX1_usePage_19 : decode cX1_usePage 19 = .ok (.getfield 15, 3) := by decide +kernel
theorem dX1_usePage_22 : decode cX1_usePage 22 = .ok (.iconst 1, 1) := by decide +kernel
theorem dX1_usePage_23 : decode cX1_usePage 23 = .ok (.isub, 1) := by decide +kernel
theorem dX1_usePage_24 : decode cX1_usePage 24 = .ok (.putfield 15, 3) := by decide +kernel
theorem dX1_usePage_27 : decode cX1_usePage 27 = .ok (.aload_n 0, 1) := by decide +kernel
theorem dX1_usePage_28 : decode cX1_usePage 28 = .ok (.aload_n 0, 1) := by decide +kernel
theorem dX1_usePage_29 : decode cX1_usePage 29 = .ok (.getfield 15, 3) := by decide +kernel
theorem dX1_usePage_32 : decode cX1_usePage 32 = .ok (.ifCond .ne 7, 3) := by decide +kernel
theorem dX1_usePage_35 : decode cX1_usePage 35 = .ok (.iconst 1, 1) := by decide +kernel
theorem dX1_usePage_36 : decode cX1_usePage 36 = .ok (.goto 4, 3) := by decide +kernel
theorem dX1_usePage_39 : decode cX1_usePage 39 = .ok (.iconst 0, 1) := by decide +kernel
theorem dX1_usePage_40 : decode cX1_usePage 40 = .ok (.putfield 9, 3) := by decide +kernel
theorem dX1_usePage_43 : decode cX1_usePage 43 = .ok (.return_, 1) := by decide +kernel
theorem dX1_restore_0 : decode cX1_restore 0 = .ok (.aload_n 0, 1) := by decide +kernel
theorem dX1_restore_1 : decode cX1_restore 1 = .ok (.iconst 0, 1) := by decide +kernel
theorem dX1_restore_2 : decode cX1_restore 2 = .ok (.putfield 9, 3) := by decide +kernel
theorem dX1_restore_5 : decode cX1_restore 5 = .ok (.aload_n 0, 1) := by decide +kernel
theorem dX1_restore_6 : decode cX1_restore 6 = .ok (.iconst (-1), 1) := by decide +kernel
theorem dX1_restore_7 : decode cX1_restore 7 = .ok (.putfield 15, 3) := by decide +kernel
theorem dX1_restore_10 : decode cX1_restore 10 = .ok (.return_, 1) := by decide +kernel
theorem dX2_init_0 : decode cX2_init 0 = .ok (.aload_n 0, 1) := by decide +kernel
theorem dX2_init_1 : decode cX2_init 1 = .ok (.invokespecial 3, 3) := by decide +kernel
theorem dX2_init_4 : decode cX2_init 4 = .ok (.aload_n 0, 1) := by decide +kernel
theorem dX2_init_5 : decode cX2_init 5 = .ok (.iload_n 1, 1) := by decide +kernel
theorem dX2_init_6 : decode cX2_init 6 = .ok (.newarray .int, 2) := by decide +kernel
theorem dX2_init_8 : decode cX2_init 8 = .ok (.putfield 9, 3) := by decide +kernel
theorem dX2_init_11 : decode cX2_init 11 = .ok (.return_, 1) := by decide +kernel
set_option maxRecDepth 20000 in
theorem ggX2_walk_J7_fill_53178 : GoodIn wsX2_walk wsJ7_fill_53178 := goodIn_r _ [5] (by decide +kernel) (by decide +kernel)
set_option maxRecDepth 20000 in
theorem gX2_walk_J7_fill_53178 : GoodIn wsX2_walk (va_wsS RX2 15 yJ7_fill_53178 wsJ7_fill_53178) := goodIn_app (goodIn_of _ (by decide +kernel)) ggX2_walk_J7_fill_53178
set_option maxRecDepth 20000 in
theorem ggX2_walk_X3_pageOfRoot : GoodIn wsX2_walk wsX3_pageOfRoot := goodIn_r _ [8] (by decide +kernel) (by decide +kernel)
set_option maxRecDepth 20000 in
theorem gX2_walk_X3_pageOfRoot_n21 : GoodIn wsX2_walk (wsX3_pageOfRoot) := ggX2_walk_X3_pageOfRoot
set_option maxRecDepth 20000 in
theorem ggX2_walk_X2_markOf : GoodIn wsX2_walk wsX2_markOf := goodIn_r _ [12] (by decide +kernel) (by decide +kernel)
set_option maxRecDepth 20000 in
theorem gX2_walk_X2_markOf : GoodIn wsX2_walk (va_wsS RX2 25 yX2_markOf wsX2_markOf) := goodIn_app (goodIn_of _ (by decide +kernel)) ggX2_walk_X2_markOf
set_option maxRecDepth 20000 in
theorem ggX2_walk_X2_lookAtAll : GoodIn wsX2_walk wsX2_lookAtAll := goodIn_r _ [16, 1, 9, 10, 11, 12, 17, 18, 19, 20, 21, 22, 23, 24, 25, 26, 27, 28, 29, 30, 31, 32, 33, 34, 35, 36, 37, 38, 39, 40, 6, 7, 8, 41, 42, 43, 44, 45, 46, 47, 48, 49, 50, 51, 52, 53] (by decide +kernel) (by decide +kernel)
set_option maxRecDepth 20000 in
theorem gX2_walk_X2_lookAtAll : GoodIn wsX2_walk (wsV RX2 28 RX2 yX2_lookAtAll wsX2_lookAtAll) := goodIn_app (goodIn_of _ (by decide +kernel)) ggX2_walk_X2_lookAtAll
theorem dX2_walk_0 : decode cX2_walk 0 = .ok (.aload_n 0, 1) := by decide +kernel
theorem dX2_walk_1 : decode cX2_walk 1 = .ok (.getfield 9, 3) := by decide +kernel
theorem dX2_walk_4 : decode cX2_walk 4 = .ok (.iconst 0, 1) := by decide +kernel
theorem dX2_walk_5 : decode cX2_walk 5 = .ok (.invokestatic 15, 3) := by decide +kernel
theorem dX2_walk_8 : decode cX2_walk 8 = .ok (.iload_n 2, 1) := by decide +kernel
theorem dX2_walk_9 : decode cX2_walk 9 = .ok (.istore 4, 2) := by decide +kernel
theorem dX2_walk_11 : decode cX2_walk 11 = .ok (.iload 4, 2) := by decide +kernel
theorem dX2_walk_13 : decode cX2_walk 13 = .ok (.iload_n 3, 1) := by decide +kernel
theorem dX2_walk_14 : decode cX2_walk 14 = .ok (.if_icmp .gt 26, 3) := by decide +kernel
theorem dX2_walk_17 : decode cX2_walk 17 = .ok (.aload_n 0, 1) := by decide +kernel
theorem dX2_walk_18 : decode cX2_walk 18 = .ok (.getfield 9, 3) := by decide +kernel
theorem dX2_walk_21 : decode cX2_walk 21 = .ok (.iload 4, 2) := by decide +kernel
theorem dX2_walk_23 : decode cX2_walk 23 = .ok (.invokestatic 21, 3) := by decide +kernel
theorem dX2_walk_26 : decode cX2_walk 26 = .ok (.dup2, 1) := by decide +kernel
theorem dX2_walk_27 : decode cX2_walk 27 = .ok (.iaload, 1) := by decide +kernel
theorem dX2_walk_28 : decode cX2_walk 28 = .ok (.iconst 1, 1) := by decide +kernel
theorem dX2_walk_29 : decode cX2_walk 29 = .ok (.invokestatic 25, 3) := by decide +kernel
theorem dX2_walk_32 : decode cX2_walk 32 = .ok (.ior, 1) := by decide +kernel
theorem dX2_walk_33 : decode cX2_walk 33 = .ok (.iastore, 1) := by decide +kernel
theorem dX2_walk_34 : decode cX2_walk 34 = .ok (.iinc 4 1, 3) := by decide +kernel
theorem dX2_walk_37 : decode cX2_walk 37 = .ok (.goto (-26), 3) := by decide +kernel
theorem dX2_walk_40 : decode cX2_walk 40 = .ok (.iconst 1, 1) := by decide +kernel
theorem dX2_walk_41 : decode cX2_walk 41 = .ok (.istore 4, 2) := by decide +kernel
theorem dX2_walk_43 : decode cX2_walk 43 = .ok (.iload 4, 2) := by decide +kernel
theorem dX2_walk_45 : decode cX2_walk 45 = .ok (.iconst 3, 1) := by decide +kernel
theorem dX2_walk_46 : decode cX2_walk 46 = .ok (.if_icmp .gt 16, 3) := by decide +kernel
theorem dX2_walk_49 : decode cX2_walk 49 = .ok (.aload_n 0, 1) := by decide +kernel
theorem dX2_walk_50 : decode cX2_walk 50 = .ok (.aload_n 1, 1) := by decide +kernel
theorem dX2_walk_51 : decode cX2_walk 51 = .ok (.iload 4, 2) := by decide +kernel
theorem dX2_walk_53 : decode cX2_walk 53 = .ok (.invokevirtual 28, 3) := by decide +kernel
theorem dX2_walk_56 : decode cX2_walk 56 = .ok (.iinc 4 1, 3) := by decide +kernel
theorem dX2_walk_59 : decode cX2_walk 59 = .ok (.goto (-16), 3) := by decide +kernel
theorem dX2_walk_62 : decode cX2_walk 62 = .ok (.return_, 1) := by decide +kernel
theorem dX2_leastBad_0 : decode cX2_leastBad 0 = .ok (.iconst 0, 1) := by decide +kernel
theorem dX2_leastBad_1 : decode cX2_leastBad 1 = .ok (.istore_n 1, 1) := by decide +kernel
theorem dX2_leastBad_2 : decode cX2_leastBad 2 = .ok (.iload_n 1, 1) := by decide +kernel
theorem dX2_leastBad_3 : decode cX2_leastBad 3 = .ok (.aload_n 0, 1) := by decide +kernel
theorem dX2_leastBad_4 : decode cX2_leastBad 4 = .ok (.getfield 9, 3) := by decide +kernel
theorem dX2_leastBad_7 : decode cX2_leastBad 7 = .ok (.arraylength, 1) := by decide +kernel
theorem dX2_leastBad_8 : decode cX2_leastBad 8 = .ok (.if_icmp .ge 22, 3) := by decide +kernel
theorem dX2_leastBad_11 : decode cX2_leastBad 11 = .ok (.aload_n 0, 1) := by decide +kernel
theorem dX2_leastBad_12 : decode cX2_leastBad 12 = .ok (.getfield 9, 3) := by decide +kernel
theorem dX2_leastBad_15 : decode cX2_leastBad 15 = .ok (.iload_n 1, 1) := by decide +kernel
theorem dX2_leastBad_16 : decode cX2_leastBad 16 = .ok (.iaload, 1) := by decide +kernel
theorem dX2_leastBad_17 : decode cX2_leastBad 17 = .ok (.iconst 1, 1) := by decide +kernel
theorem dX2_leastBad_18 : decode cX2_leastBad 18 = .ok (.iand, 1) := by decide +kernel
theorem dX2_leastBad_19 : decode cX2_leastBad 19 = .ok (.ifCond .eq 5, 3) := by decide +kernel
theorem dX2_leastBad_22 : decode cX2_leastBad 22 = .ok (.iload_n 1, 1) := by decide +kernel
theorem dX2_leastBad_23 : decode cX2_leastBad 23 = .ok (.ireturn, 1) := by decide +kernel
theorem dX2_leastBad_24 : decode cX2_leastBad 24 = .ok (.iinc 1 1, 3) := by decide +kernel
theorem dX2_leastBad_27 : decode cX2_leastBad 27 = .ok (.goto (-25), 3) := by decide +kernel
theorem dX2_leastBad_30 : decode cX2_leastBad 30 = .ok (.iconst (-1), 1) := by decide +kernel
theorem dX2_leastBad_31 : decode cX2_leastBad 31 = .ok (.ireturn, 1) := by decide +kernel
theorem dX2_freePages_0 : decode cX2_freePages 0 = .ok (.iconst 0, 1) := by decide +kernel
theorem dX2_freePages_1 : decode cX2_freePages 1 = .ok (.istore_n 1, 1) := by decide +kernel
theorem dX2_freePages_2 : decode cX2_freePages 2 = .ok (.bipush 8, 2) := by decide +kernel
theorem dX2_freePages_4 : decode cX2_freePages 4 = .ok (.istore_n 2, 1) := by decide +kernel
theorem dX2_freePages_5 : decode cX2_freePages 5 = .ok (.iload_n 2, 1) := by decide +kernel
theorem dX2_freePages_6 : decode cX2_freePages 6 = .ok (.aload_n 0, 1) := by decide +kernel
theorem dX2_freePages_7 : decode cX2_freePages 7 = .ok (.getfield 9, 3) := by decide +kernel
theorem dX2_freePages_10 : decode cX2_freePages 10 = .ok (.arraylength, 1) := by decide +kernel
theorem dX2_freePages_11 : decode cX2_freePages 11 = .ok (.if_icmp .ge 21, 3) := by decide +kernel
theorem dX2_freePages_14 : decode cX2_freePages 14 = .ok (.aload_n 0, 1) := by decide +kernel
theorem dX2_freePages_15 : decode cX2_freePages 15 = .ok (.getfield 9, 3) := by decide +kernel
theorem dX2_freePages_18 : decode cX2_freePages 18 = .ok (.iload_n 2, 1) := by decide +kernel
theorem dX2_freePages_19 : decode cX2_freePages 19 = .ok (.iaload, 1) := by decide +kernel
theorem dX2_freePages_20 : decode cX2_freePages 20 = .ok (.ifCond .ne 6, 3) := by decide +kernel
theorem dX2_freePages_23 : decode cX2_freePages 23 = .ok (.iinc 1 1, 3) := by decide +kernel
theorem dX2_freePages_26 : decode cX2_freePages 26 = .ok (.iinc 2 1, 3) := by decide +kernel
theorem dX2_freePages_29 : decode cX2_freePages 29 = .ok (.goto (-24), 3) := by decide +kernel
theorem dX2_freePages_32 : decode cX2_freePages 32 = .ok (.iload_n 1, 1) := by decide +kernel
theorem dX2_freePages_33 : decode cX2_freePages 33 = .ok (.ireturn, 1) := by decide +kernel
theorem dX2_freeFrom_0 : decode cX2_freeFrom 0 = .ok (.iload_n 1, 1) := by decide +kernel
theorem dX2_freeFrom_1 : decode cX2_freeFrom 1 = .ok (.istore_n 2, 1) := by decide +kernel
theorem dX2_freeFrom_2 : decode cX2_freeFrom 2 = .ok (.iload_n 2, 1) := by decide +kernel
theorem dX2_freeFrom_3 : decode cX2_freeFrom 3 = .ok (.aload_n 0, 1) := by decide +kernel
theorem dX2_freeFrom_4 : decode cX2_freeFrom 4 = .ok (.getfield 9, 3) := by decide +kernel
theorem dX2_freeFrom_7 : decode cX2_freeFrom 7 = .ok (.arraylength, 1) := by decide +kernel
theorem dX2_freeFrom_8 : decode cX2_freeFrom 8 = .ok (.if_icmp .ge 20, 3) := by decide +kernel
theorem dX2_freeFrom_11 : decode cX2_freeFrom 11 = .ok (.aload_n 0, 1) := by decide +kernel
theorem dX2_freeFrom_12 : decode cX2_freeFrom 12 = .ok (.getfield 9, 3) := by decide +kernel
theorem dX2_freeFrom_15 : decode cX2_freeFrom 15 = .ok (.iload_n 2, 1) := by decide +kernel
theorem dX2_freeFrom_16 : decode cX2_freeFrom 16 = .ok (.iaload, 1) := by decide +kernel
theorem dX2_freeFrom_17 : decode cX2_freeFrom 17 = .ok (.ifCond .ne 5, 3) := by decide +kernel
theorem dX2_freeFrom_20 : decode cX2_freeFrom 20 = .ok (.iload_n 2, 1) := by decide +kernel
theorem dX2_freeFrom_21 : decode cX2_freeFrom 21 = .ok (.ireturn, 1) := by decide +kernel
theorem dX2_freeFrom_22 : decode cX2_freeFrom 22 = .ok (.iinc 2 1, 3) := by decide +kernel
theorem dX2_freeFrom_25 : decode cX2_freeFrom 25 = .ok (.goto (-23), 3) := by decide +kernel
theorem dX2_freeFrom_28 : decode cX2_freeFrom 28 = .ok (.iconst (-1), 1) := by decide +kernel
theorem dX2_freeFrom_29 : decode cX2_freeFrom 29 = .ok (.ireturn, 1) := by decide +kernel
theorem dX2_markOf_0 : decode cX2_markOf 0 = .ok (.iconst 1, 1) := by decide +kernel
theorem dX2_markOf_1 : decode cX2_markOf 1 = .ok (.iload_n 0, 1) := by decide +kernel
theorem dX2_markOf_2 : decode cX2_markOf 2 = .ok (.ishl, 1) := by decide +kernel
theorem dX2_markOf_3 : decode cX2_markOf 3 = .ok (.ireturn, 1) := by decide +kernel
set_option maxRecDepth 20000 in
theorem ggX2_lookAtAll_X2_markOf : GoodIn wsX2_lookAtAll wsX2_markOf := goodIn_r _ [5] (by decide +kernel) (by decide +kernel)
set_option maxRecDepth 20000 in
theorem gX2_lookAtAll_X2_markOf : GoodIn wsX2_lookAtAll (va_wsS RX2 25 yX2_markOf wsX2_markOf) := goodIn_app (goodIn_of _ (by decide +kernel)) ggX2_lookAtAll_X2_markOf
set_option maxRecDepth 20000 in
theorem ggX2_lookAtAll_X0_isRight : GoodIn wsX2_lookAtAll wsX0_isRight := goodIn_r _ [10, 11, 12, 13, 9, 14, 15, 16, 17, 18, 19, 20, 21, 22, 23, 24, 25, 26, 27, 28, 29, 30, 31, 32, 33, 34, 35, 36, 37, 44, 45] (by decide +kernel) (by decide +kernel)
set_option maxRecDepth 20000 in
theorem gX2_lookAtAll_X0_isRight : GoodIn wsX2_lookAtAll (wsV RX2 32 RX0 yX0_isRight wsX0_isRight) := goodIn_app (goodIn_of _ (by decide +kernel)) ggX2_lookAtAll_X0_isRight
set_option maxRecDepth 20000 in
theorem ggX2_lookAtAll_X2_markTold : GoodIn wsX2_lookAtAll wsX2_markTold := goodIn_r _ [41, 1, 42, 12, 13, 9, 14, 15, 2, 3, 4, 5, 43, 44, 45] (by decide +kernel) (by decide +kernel)
set_option maxRecDepth 20000 in
theorem gX2_lookAtAll_X2_markTold : GoodIn wsX2_lookAtAll (wsV RX2 38 RX2 yX2_markTold wsX2_markTold) := goodIn_app (goodIn_of _ (by decide +kernel)) ggX2_lookAtAll_X2_markTold
theorem dX2_lookAtAll_0 : decode cX2_lookAtAll 0 = .ok (.iconst 0, 1) := by decide +kernel
theorem dX2_lookAtAll_1 : decode cX2_lookAtAll 1 = .ok (.istore_n 3, 1) := by decide +kernel
theorem dX2_lookAtAll_2 : decode cX2_lookAtAll 2 = .ok (.iload_n 3, 1) := by decide +kernel
theorem dX2_lookAtAll_3 : decode cX2_lookAtAll 3 = .ok (.aload_n 0, 1) := by decide +kernel
theorem dX2_lookAtAll_4 : decode cX2_lookAtAll 4 = .ok (.getfield 9, 3) := by decide +kernel
theorem dX2_lookAtAll_7 : decode cX2_lookAtAll 7 = .ok (.arraylength, 1) := by decide +kernel
theorem dX2_lookAtAll_8 : decode cX2_lookAtAll 8 = .ok (.if_icmp .ge 82, 3) := by decide +kernel
theorem dX2_lookAtAll_11 : decode cX2_lookAtAll 11 = .ok (.aload_n 0, 1) := by decide +kernel
theorem dX2_lookAtAll_12 : decode cX2_lookAtAll 12 = .ok (.getfield 9, 3) := by decide +kernel
theorem dX2_lookAtAll_15 : decode cX2_lookAtAll 15 = .ok (.iload_n 3, 1) := by decide +kernel
theorem dX2_lookAtAll_16 : decode cX2_lookAtAll 16 = .ok (.iaload, 1) := by decide +kernel
theorem dX2_lookAtAll_17 : decode cX2_lookAtAll 17 = .ok (.iload_n 2, 1) := by decide +kernel
theorem dX2_lookAtAll_18 : decode cX2_lookAtAll 18 = .ok (.invokestatic 25, 3) := by decide +kernel
theorem dX2_lookAtAll_21 : decode cX2_lookAtAll 21 = .ok (.iand, 1) := by decide +kernel
theorem dX2_lookAtAll_22 : decode cX2_lookAtAll 22 = .ok (.ifCond .ne 6, 3) := by decide +kernel
theorem dX2_lookAtAll_25 : decode cX2_lookAtAll 25 = .ok (.goto 59, 3) := by decide +kernel
theorem dX2_lookAtAll_28 : decode cX2_lookAtAll 28 = .ok (.aload_n 1, 1) := by decide +kernel
theorem dX2_lookAtAll_29 : decode cX2_lookAtAll 29 = .ok (.iload_n 3, 1) := by decide +kernel
theorem dX2_lookAtAll_30 : decode cX2_lookAtAll 30 = .ok (.iload_n 2, 1) := by decide +kernel
theorem dX2_lookAtAll_31 : decode cX2_lookAtAll 31 = .ok (.invokevirtual 32, 3) := by decide +kernel
theorem dX2_lookAtAll_34 : decode cX2_lookAtAll 34 = .ok (.ifCond .ne 16, 3) := by decide +kernel
theorem dX2_lookAtAll_37 : decode cX2_lookAtAll 37 = .ok (.aload_n 0, 1) := by decide +kernel
theorem dX2_lookAtAll_38 : decode cX2_lookAtAll 38 = .ok (.getfield 9, 3) := by decide +kernel
theorem dX2_lookAtAll_41 : decode cX2_lookAtAll 41 = .ok (.iload_n 3, 1) := by decide +kernel
theorem dX2_lookAtAll_42 : decode cX2_lookAtAll 42 = .ok (.dup2, 1) := by decide +kernel
theorem dX2_lookAtAll_43 : decode cX2_lookAtAll 43 = .ok (.iaload, 1) := by decide +kernel
theorem dX2_lookAtAll_44 : decode cX2_lookAtAll 44 = .ok (.iconst 1, 1) := by decide +kernel
theorem dX2_lookAtAll_45 : decode cX2_lookAtAll 45 = .ok (.ior, 1) := by decide +kernel
theorem dX2_lookAtAll_46 : decode cX2_lookAtAll 46 = .ok (.iastore, 1) := by decide +kernel
theorem dX2_lookAtAll_47 : decode cX2_lookAtAll 47 = .ok (.goto 37, 3) := by decide +kernel
theorem dX2_lookAtAll_50 : decode cX2_lookAtAll 50 = .ok (.iload_n 2, 1) := by decide +kernel
theorem dX2_lookAtAll_51 : decode cX2_lookAtAll 51 = .ok (.iconst 1, 1) := by decide +kernel
theorem dX2_lookAtAll_52 : decode cX2_lookAtAll 52 = .ok (.if_icmp .ne 17, 3) := by decide +kernel
theorem dX2_lookAtAll_55 : decode cX2_lookAtAll 55 = .ok (.aload_n 0, 1) := by decide +kernel
theorem dX2_lookAtAll_56 : decode cX2_lookAtAll 56 = .ok (.aload_n 1, 1) := by decide +kernel
theorem dX2_lookAtAll_57 : decode cX2_lookAtAll 57 = .ok (.iload_n 3, 1) := by decide +kernel
theorem dX2_lookAtAll_58 : decode cX2_lookAtAll 58 = .ok (.bipush 9, 2) := by decide +kernel
theorem dX2_lookAtAll_60 : decode cX2_lookAtAll 60 = .ok (.bipush 32, 2) := by decide +kernel
theorem dX2_lookAtAll_62 : decode cX2_lookAtAll 62 = .ok (.iconst 2, 1) := by decide +kernel
theorem dX2_lookAtAll_63 : decode cX2_lookAtAll 63 = .ok (.invokevirtual 38, 3) := by decide +kernel
theorem dX2_lookAtAll_66 : decode cX2_lookAtAll 66 = .ok (.goto 18, 3) := by decide +kernel
theorem dX2_lookAtAll_69 : decode cX2_lookAtAll 69 = .ok (.iload_n 2, 1) := by decide +kernel
theorem dX2_lookAtAll_70 : decode cX2_lookAtAll 70 = .ok (.iconst 2, 1) := by decide +kernel
theorem dX2_lookAtAll_71 : decode cX2_lookAtAll 71 = .ok (.if_icmp .ne 13, 3) := by decide +kernel
theorem dX2_lookAtAll_74 : decode cX2_lookAtAll 74 = .ok (.aload_n 0, 1) := by decide +kernel
theorem dX2_lookAtAll_75 : decode cX2_lookAtAll 75 = .ok (.aload_n 1, 1) := by decide +kernel
theorem dX2_lookAtAll_76 : decode cX2_lookAtAll 76 = .ok (.iload_n 3, 1) := by decide +kernel
theorem dX2_lookAtAll_77 : decode cX2_lookAtAll 77 = .ok (.iconst 2, 1) := by decide +kernel
theorem dX2_lookAtAll_78 : decode cX2_lookAtAll 78 = .ok (.bipush 32, 2) := by decide +kernel
theorem dX2_lookAtAll_80 : decode cX2_lookAtAll 80 = .ok (.iconst 3, 1) := by decide +kernel
theorem dX2_lookAtAll_81 : decode cX2_lookAtAll 81 = .ok (.invokevirtual 38, 3) := by decide +kernel
theorem dX2_lookAtAll_84 : decode cX2_lookAtAll 84 = .ok (.iinc 3 1, 3) := by decide +kernel
theorem dX2_lookAtAll_87 : decode cX2_lookAtAll 87 = .ok (.goto (-85), 3) := by decide +kernel
theorem dX2_lookAtAll_90 : decode cX2_lookAtAll 90 = .ok (.return_, 1) := by decide +kernel
set_option maxRecDepth 20000 in
theorem ggX2_markTold_X0_at : GoodIn wsX2_markTold wsX0_at := goodIn_r _ [6, 7, 13, 14] (by decide +kernel) (by decide +kernel)
set_option maxRecDepth 20000 in
theorem gX2_markTold_X0_at : GoodIn wsX2_markTold (wsV RX2 42 RX0 yX0_at wsX0_at) := goodIn_app (goodIn_of _ (by decide +kernel)) ggX2_markTold_X0_at
set_option maxRecDepth 20000 in
theorem ggX2_markTold_X2_markOf : GoodIn wsX2_markTold wsX2_markOf := goodIn_r _ [11] (by decide +kernel) (by decide +kernel)
set_option maxRecDepth 20000 in
theorem gX2_markTold_X2_markOf : GoodIn wsX2_markTold (va_wsS RX2 25 yX2_markOf wsX2_markOf) := goodIn_app (goodIn_of _ (by decide +kernel)) ggX2_markTold_X2_markOf
theorem dX2_markTold_0 : decode cX2_markTold 0 = .ok (.iconst 0, 1) := by decide +kernel
theorem dX2_markTold_1 : decode cX2_markTold 1 = .ok (.istore 6, 2) := by decide +kernel
theorem dX2_markTold_3 : decode cX2_markTold 3 = .ok (.iload 6, 2) := by decide +kernel
theorem dX2_markTold_5 : decode cX2_markTold 5 = .ok (.iload 4, 2) := by decide +kernel
theorem dX2_markTold_7 : decode cX2_markTold 7 = .ok (.if_icmp .ge 40, 3) := by decide +kernel
theorem dX2_markTold_10 : decode cX2_markTold 10 = .ok (.aload_n 1, 1) := by decide +kernel
theorem dX2_markTold_11 : decode cX2_markTold 11 = .ok (.iload_n 2, 1) := by decide +kernel
theorem dX2_markTold_12 : decode cX2_markTold 12 = .ok (.iload_n 3, 1) := by decide +kernel
theorem dX2_markTold_13 : decode cX2_markTold 13 = .ok (.iload 6, 2) := by decide +kernel
end
section
theorem dX2_markTold_15 : decode cX2_markTold 15 = .ok (.iadd, 1) := by decide +kernel
theorem dX2_markTold_16 : decode cX2_markTold 16 = .ok (.invokevirtual 42, 3) := by decide +kernel
theorem dX2_markTold_19 : decode cX2_markTold 19 = .ok (.istore 7, 2) := by decide +kernel
theorem dX2_markTold_21 : decode cX2_markTold 21 = .ok (.iload 7, 2) := by decide +kernel
theorem dX2_markTold_23 : decode cX2_markTold 23 = .ok (.ifCond .eq 18, 3) := by decide +kernel
theorem dX2_markTold_26 : decode cX2_markTold 26 = .ok (.aload_n 0, 1) := by decide +kernel
theorem dX2_markTold_27 : decode cX2_markTold 27 = .ok (.getfield 9, 3) := by decide +kernel
theorem dX2_markTold_30 : decode cX2_markTold 30 = .ok (.iload 7, 2) := by decide +kernel
theorem dX2_markTold_32 : decode cX2_markTold 32 = .ok (.dup2, 1) := by decide +kernel
theorem dX2_markTold_33 : decode cX2_markTold 33 = .ok (.iaload, 1) := by decide +kernel
theorem dX2_markTold_34 : decode cX2_markTold 34 = .ok (.iload 5, 2) := by decide +kernel
theorem dX2_markTold_36 : decode cX2_markTold 36 = .ok (.invokestatic 25, 3) := by decide +kernel
theorem dX2_markTold_39 : decode cX2_markTold 39 = .ok (.ior, 1) := by decide +kernel
theorem dX2_markTold_40 : decode cX2_markTold 40 = .ok (.iastore, 1) := by decide +kernel
theorem dX2_markTold_41 : decode cX2_markTold 41 = .ok (.iinc 6 1, 3) := by decide +kernel
theorem dX2_markTold_44 : decode cX2_markTold 44 = .ok (.goto (-41), 3) := by decide +kernel
theorem dX2_markTold_47 : decode cX2_markTold 47 = .ok (.return_, 1) := by decide +kernel
set_option maxRecDepth 20000 in
theorem ggX3_init_X0_init : GoodIn wsX3_init wsX0_init := goodIn_r _ [30, 31, 2, 3, 32, 23, 33, 46, 47] (by decide +kernel) (by decide +kernel)
set_option maxRecDepth 20000 in
theorem gX3_init_X0_init : GoodIn wsX3_init (wsX0_init) := ggX3_init_X0_init
set_option maxRecDepth 20000 in
theorem ggX3_init_X2_init : GoodIn wsX3_init wsX2_init := goodIn_r _ [36, 37, 2, 3, 23, 38, 55] (by decide +kernel) (by decide +kernel)
set_option maxRecDepth 20000 in
theorem gX3_init_X2_init : GoodIn wsX3_init (wsX2_init) := ggX3_init_X2_init
set_option maxRecDepth 20000 in
theorem ggX3_init_X1_init : GoodIn wsX3_init wsX1_init := goodIn_r _ [41, 42, 2, 3, 43, 44, 45, 56, 57, 58] (by decide +kernel) (by decide +kernel)
set_option maxRecDepth 20000 in
theorem gX3_init_X1_init : GoodIn wsX3_init (wsX1_init) := ggX3_init_X1_init
theorem dX3_init_0 : decode cX3_init 0 = .ok (.aload_n 0, 1) := by decide +kernel
theorem dX3_init_1 : decode cX3_init 1 = .ok (.invokespecial 3, 3) := by decide +kernel
theorem dX3_init_4 : decode cX3_init 4 = .ok (.bipush 12, 2) := by decide +kernel
theorem dX3_init_6 : decode cX3_init 6 = .ok (.bipush 120, 2) := by decide +kernel
theorem dX3_init_8 : decode cX3_init 8 = .ok (.iload_n 1, 1) := by decide +kernel
theorem dX3_init_9 : decode cX3_init 9 = .ok (.invokestatic 9, 3) := by decide +kernel
theorem dX3_init_12 : decode cX3_init 12 = .ok (.invokestatic 15, 3) := by decide +kernel
theorem dX3_init_15 : decode cX3_init 15 = .ok (.istore_n 2, 1) := by decide +kernel
theorem dX3_init_16 : decode cX3_init 16 = .ok (.aload_n 0, 1) := by decide +kernel
theorem dX3_init_17 : decode cX3_init 17 = .ok (.new 18, 3) := by decide +kernel
theorem dX3_init_20 : decode cX3_init 20 = .ok (.dup, 1) := by decide +kernel
theorem dX3_init_21 : decode cX3_init 21 = .ok (.iload_n 2, 1) := by decide +kernel
theorem dX3_init_22 : decode cX3_init 22 = .ok (.invokespecial 20, 3) := by decide +kernel
theorem dX3_init_25 : decode cX3_init 25 = .ok (.putfield 23, 3) := by decide +kernel
theorem dX3_init_28 : decode cX3_init 28 = .ok (.aload_n 0, 1) := by decide +kernel
theorem dX3_init_29 : decode cX3_init 29 = .ok (.new 27, 3) := by decide +kernel
theorem dX3_init_32 : decode cX3_init 32 = .ok (.dup, 1) := by decide +kernel
theorem dX3_init_33 : decode cX3_init 33 = .ok (.iload_n 2, 1) := by decide +kernel
theorem dX3_init_34 : decode cX3_init 34 = .ok (.invokespecial 29, 3) := by decide +kernel
theorem dX3_init_37 : decode cX3_init 37 = .ok (.putfield 30, 3) := by decide +kernel
theorem dX3_init_40 : decode cX3_init 40 = .ok (.aload_n 0, 1) := by decide +kernel
theorem dX3_init_41 : decode cX3_init 41 = .ok (.new 34, 3) := by decide +kernel
theorem dX3_init_44 : decode cX3_init 44 = .ok (.dup, 1) := by decide +kernel
theorem dX3_init_45 : decode cX3_init 45 = .ok (.invokespecial 36, 3) := by decide +kernel
theorem dX3_init_48 : decode cX3_init 48 = .ok (.putfield 37, 3) := by decide +kernel
theorem dX3_init_51 : decode cX3_init 51 = .ok (.aload_n 0, 1) := by decide +kernel
theorem dX3_init_52 : decode cX3_init 52 = .ok (.bipush 32, 2) := by decide +kernel
theorem dX3_init_54 : decode cX3_init 54 = .ok (.newarray .int, 2) := by decide +kernel
theorem dX3_init_56 : decode cX3_init 56 = .ok (.putfield 41, 3) := by decide +kernel
theorem dX3_init_59 : decode cX3_init 59 = .ok (.aload_n 0, 1) := by decide +kernel
theorem dX3_init_60 : decode cX3_init 60 = .ok (.iconst 0, 1) := by decide +kernel
theorem dX3_init_61 : decode cX3_init 61 = .ok (.putfield 45, 3) := by decide +kernel
theorem dX3_init_64 : decode cX3_init 64 = .ok (.aload_n 0, 1) := by decide +kernel
theorem dX3_init_65 : decode cX3_init 65 = .ok (.iconst 0, 1) := by decide +kernel
theorem dX3_init_66 : decode cX3_init 66 = .ok (.putfield 49, 3) := by decide +kernel
theorem dX3_init_69 : decode cX3_init 69 = .ok (.aload_n 0, 1) := by decide +kernel
theorem dX3_init_70 : decode cX3_init 70 = .ok (.iconst 1, 1) := by decide +kernel
theorem dX3_init_71 : decode cX3_init 71 = .ok (.putfield 52, 3) := by decide +kernel
theorem dX3_init_74 : decode cX3_init 74 = .ok (.return_, 1) := by decide +kernel
set_option maxRecDepth 20000 in
theorem ggX3_type_X1_isOff : GoodIn wsX3_type wsX1_isOff := goodIn_r _ [8, 9, 17, 18, 19] (by decide +kernel) (by decide +kernel)
set_option maxRecDepth 20000 in
theorem gX3_type_X1_isOff : GoodIn wsX3_type (wsV RX3 55 RX1 yX1_isOff wsX1_isOff) := goodIn_app (goodIn_of _ (by decide +kernel)) ggX3_type_X1_isOff
theorem dX3_type_0 : decode cX3_type 0 = .ok (.aload_n 0, 1) := by decide +kernel
theorem dX3_type_1 : decode cX3_type 1 = .ok (.getfield 37, 3) := by decide +kernel
theorem dX3_type_4 : decode cX3_type 4 = .ok (.invokevirtual 55, 3) := by decide +kernel
theorem dX3_type_7 : decode cX3_type 7 = .ok (.ifCond .eq 6, 3) := by decide +kernel
theorem dX3_type_10 : decode cX3_type 10 = .ok (.bipush (-5), 2) := by decide +kernel
theorem dX3_type_12 : decode cX3_type 12 = .ok (.ireturn, 1) := by decide +kernel
theorem dX3_type_13 : decode cX3_type 13 = .ok (.iload_n 1, 1) := by decide +kernel
theorem dX3_type_14 : decode cX3_type 14 = .ok (.ifCond .lt 10, 3) := by decide +kernel
theorem dX3_type_17 : decode cX3_type 17 = .ok (.iload_n 1, 1) := by decide +kernel
theorem dX3_type_18 : decode cX3_type 18 = .ok (.sipush 255, 3) := by decide +kernel
theorem dX3_type_21 : decode cX3_type 21 = .ok (.if_icmp .le 6, 3) := by decide +kernel
theorem dX3_type_24 : decode cX3_type 24 = .ok (.bipush (-2), 2) := by decide +kernel
theorem dX3_type_26 : decode cX3_type 26 = .ok (.ireturn, 1) := by decide +kernel
theorem dX3_type_27 : decode cX3_type 27 = .ok (.aload_n 0, 1) := by decide +kernel
theorem dX3_type_28 : decode cX3_type 28 = .ok (.getfield 45, 3) := by decide +kernel
theorem dX3_type_31 : decode cX3_type 31 = .ok (.bipush 32, 2) := by decide +kernel
theorem dX3_type_33 : decode cX3_type 33 = .ok (.if_icmp .lt 6, 3) := by decide +kernel
theorem dX3_type_36 : decode cX3_type 36 = .ok (.bipush (-6), 2) := by decide +kernel
theorem dX3_type_38 : decode cX3_type 38 = .ok (.ireturn, 1) := by decide +kernel
theorem dX3_type_39 : decode cX3_type 39 = .ok (.aload_n 0, 1) := by decide +kernel
theorem dX3_type_40 : decode cX3_type 40 = .ok (.getfield 41, 3) := by decide +kernel
theorem dX3_type_43 : decode cX3_type 43 = .ok (.aload_n 0, 1) := by decide +kernel
theorem dX3_type_44 : decode cX3_type 44 = .ok (.getfield 45, 3) := by decide +kernel
theorem dX3_type_47 : decode cX3_type 47 = .ok (.iload_n 1, 1) := by decide +kernel
theorem dX3_type_48 : decode cX3_type 48 = .ok (.iastore, 1) := by decide +kernel
theorem dX3_type_49 : decode cX3_type 49 = .ok (.aload_n 0, 1) := by decide +kernel
theorem dX3_type_50 : decode cX3_type 50 = .ok (.dup, 1) := by decide +kernel
theorem dX3_type_51 : decode cX3_type 51 = .ok (.getfield 45, 3) := by decide +kernel
theorem dX3_type_54 : decode cX3_type 54 = .ok (.iconst 1, 1) := by decide +kernel
theorem dX3_type_55 : decode cX3_type 55 = .ok (.iadd, 1) := by decide +kernel
theorem dX3_type_56 : decode cX3_type 56 = .ok (.putfield 45, 3) := by decide +kernel
theorem dX3_type_59 : decode cX3_type 59 = .ok (.aload_n 0, 1) := by decide +kernel
theorem dX3_type_60 : decode cX3_type 60 = .ok (.getfield 45, 3) := by decide +kernel
theorem dX3_type_63 : decode cX3_type 63 = .ok (.ireturn, 1) := by decide +kernel
set_option maxRecDepth 20000 in
theorem ggX3_put_X3_isKey : GoodIn wsX3_put wsX3_isKey := goodIn_r _ [7] (by decide +kernel) (by decide +kernel)
set_option maxRecDepth 20000 in
theorem gX3_put_X3_isKey : GoodIn wsX3_put (va_wsS RX3 59 yX3_isKey wsX3_isKey) := goodIn_app (goodIn_of _ (by decide +kernel)) ggX3_put_X3_isKey
set_option maxRecDepth 20000 in
theorem ggX3_put_X3_refusalOfWriting : GoodIn wsX3_put wsX3_refusalOfWriting := goodIn_r _ [11, 12, 1, 13, 14, 2, 15, 16, 17, 18, 19, 20, 21, 22, 23, 24, 25, 26, 27, 28, 29, 30, 31, 6, 32, 33, 34, 35, 36, 37, 38, 39, 40, 41, 42, 43, 44, 45, 46, 47, 48, 49, 50, 51, 52, 53, 54, 55, 56, 57, 58, 59, 60, 61, 62, 63, 64, 65, 66, 67, 68, 69, 70, 71, 72, 73, 74, 75, 76, 77, 148, 149, 150, 151, 152, 153, 154, 155, 156, 157, 158, 159, 160] (by decide +kernel) (by decide +kernel)
set_option maxRecDepth 20000 in
theorem gX3_put_X3_refusalOfWriting : GoodIn wsX3_put (wsV RX3 63 RX3 yX3_refusalOfWriting wsX3_refusalOfWriting) := goodIn_app (goodIn_of _ (by decide +kernel)) ggX3_put_X3_refusalOfWriting
set_option maxRecDepth 20000 in
theorem ggX3_put_X2_freeFrom : GoodIn wsX3_put wsX2_freeFrom := goodIn_r _ [81, 26, 158] (by decide +kernel) (by decide +kernel)
set_option maxRecDepth 20000 in
theorem gX3_put_X2_freeFrom : GoodIn wsX3_put (wsV RX3 67 RX2 yX2_freeFrom wsX2_freeFrom) := goodIn_app (goodIn_of _ (by decide +kernel)) ggX3_put_X2_freeFrom
set_option maxRecDepth 20000 in
theorem ggX3_put_X3_writeThing : GoodIn wsX3_put wsX3_writeThing := goodIn_r _ [85, 13, 86, 87, 88, 89, 90, 43, 91, 49, 92, 93, 29, 94, 95, 96, 97, 98, 99, 100, 101, 102, 103, 104, 105, 6, 106, 12, 107, 108, 109, 110, 54, 55, 56, 57, 58, 45, 46, 47, 48, 111, 112, 113, 114, 115, 116, 117, 18, 118, 119, 120, 20, 15, 16, 17, 19, 148, 149, 150, 151, 152, 153, 154, 159, 160, 155, 156, 157] (by decide +kernel) (by decide +kernel)
set_option maxRecDepth 20000 in
theorem gX3_put_X3_writeThing : GoodIn wsX3_put (wsV RX3 72 RX3 yX3_writeThing wsX3_writeThing) := goodIn_app (goodIn_of _ (by decide +kernel)) ggX3_put_X3_writeThing
set_option maxRecDepth 20000 in
theorem ggX3_put_X3_writeVersion : GoodIn wsX3_put wsX3_writeVersion := goodIn_r _ [124, 2, 14, 125, 126, 127, 128, 129, 130, 131, 6, 132, 13, 133, 31, 32, 134, 46, 47, 43, 48, 49, 88, 89, 90, 91, 92, 93, 29, 94, 95, 96, 97, 98, 99, 100, 101, 102, 135, 136, 137, 138, 139, 140, 141, 142, 103, 104, 105, 106, 12, 107, 108, 109, 110, 54, 55, 56, 57, 58, 45, 111, 112, 113, 114, 115, 116, 117, 18, 118, 119, 120, 20, 15, 16, 17, 19, 143, 144, 145, 146, 147, 148, 149, 150, 151, 152, 153, 154, 159, 160, 155, 156, 157] (by decide +kernel) (by decide +kernel)
set_option maxRecDepth 20000 in
theorem gX3_put_X3_writeVersion : GoodIn wsX3_put (wsV RX3 76 RX3 yX3_writeVersion wsX3_writeVersion) := goodIn_app (goodIn_of _ (by decide +kernel)) ggX3_put_X3_writeVersion
theorem dX3_put_0 : decode cX3_put 0 = .ok (.aload_n 0, 1) := by decide +kernel
theorem dX3_put_1 : decode cX3_put 1 = .ok (.iload_n 1, 1) := by decide +kernel
theorem dX3_put_2 : decode cX3_put 2 = .ok (.invokestatic 59, 3) := by decide +kernel
theorem dX3_put_5 : decode cX3_put 5 = .ok (.invokevirtual 63, 3) := by decide +kernel
theorem dX3_put_8 : decode cX3_put 8 = .ok (.istore_n 2, 1) := by decide +kernel
theorem dX3_put_9 : decode cX3_put 9 = .ok (.iload_n 2, 1) := by decide +kernel
theorem dX3_put_10 : decode cX3_put 10 = .ok (.ifCond .eq 5, 3) := by decide +kernel
theorem dX3_put_13 : decode cX3_put 13 = .ok (.iload_n 2, 1) := by decide +kernel
theorem dX3_put_14 : decode cX3_put 14 = .ok (.ireturn, 1) := by decide +kernel
theorem dX3_put_15 : decode cX3_put 15 = .ok (.aload_n 0, 1) := by decide +kernel
theorem dX3_put_16 : decode cX3_put 16 = .ok (.getfield 30, 3) := by decide +kernel
theorem dX3_put_19 : decode cX3_put 19 = .ok (.bipush 8, 2) := by decide +kernel
theorem dX3_put_21 : decode cX3_put 21 = .ok (.invokevirtual 67, 3) := by decide +kernel
theorem dX3_put_24 : decode cX3_put 24 = .ok (.istore_n 3, 1) := by decide +kernel
theorem dX3_put_25 : decode cX3_put 25 = .ok (.iload_n 3, 1) := by decide +kernel
theorem dX3_put_26 : decode cX3_put 26 = .ok (.iconst (-1), 1) := by decide +kernel
theorem dX3_put_27 : decode cX3_put 27 = .ok (.if_icmp .ne 7, 3) := by decide +kernel
theorem dX3_put_30 : decode cX3_put 30 = .ok (.iconst (-1), 1) := by decide +kernel
theorem dX3_put_31 : decode cX3_put 31 = .ok (.goto 13, 3) := by decide +kernel
theorem dX3_put_34 : decode cX3_put 34 = .ok (.aload_n 0, 1) := by decide +kernel
theorem dX3_put_35 : decode cX3_put 35 = .ok (.getfield 30, 3) := by decide +kernel
theorem dX3_put_38 : decode cX3_put 38 = .ok (.iload_n 3, 1) := by decide +kernel
theorem dX3_put_39 : decode cX3_put 39 = .ok (.iconst 1, 1) := by decide +kernel
theorem dX3_put_40 : decode cX3_put 40 = .ok (.iadd, 1) := by decide +kernel
theorem dX3_put_41 : decode cX3_put 41 = .ok (.invokevirtual 67, 3) := by decide +kernel
theorem dX3_put_44 : decode cX3_put 44 = .ok (.istore 4, 2) := by decide +kernel
theorem dX3_put_46 : decode cX3_put 46 = .ok (.iload 4, 2) := by decide +kernel
theorem dX3_put_48 : decode cX3_put 48 = .ok (.iconst (-1), 1) := by decide +kernel
theorem dX3_put_49 : decode cX3_put 49 = .ok (.if_icmp .eq 12, 3) := by decide +kernel
theorem dX3_put_52 : decode cX3_put 52 = .ok (.aload_n 0, 1) := by decide +kernel
theorem dX3_put_53 : decode cX3_put 53 = .ok (.getfield 49, 3) := by decide +kernel
theorem dX3_put_56 : decode cX3_put 56 = .ok (.ldc 71, 2) := by decide +kernel
theorem dX3_put_58 : decode cX3_put 58 = .ok (.if_icmp .lt 6, 3) := by decide +kernel
theorem dX3_put_61 : decode cX3_put 61 = .ok (.bipush (-6), 2) := by decide +kernel
theorem dX3_put_63 : decode cX3_put 63 = .ok (.ireturn, 1) := by decide +kernel
theorem dX3_put_64 : decode cX3_put 64 = .ok (.aload_n 0, 1) := by decide +kernel
theorem dX3_put_65 : decode cX3_put 65 = .ok (.iload_n 3, 1) := by decide +kernel
theorem dX3_put_66 : decode cX3_put 66 = .ok (.iload_n 1, 1) := by decide +kernel
theorem dX3_put_67 : decode cX3_put 67 = .ok (.invokevirtual 72, 3) := by decide +kernel
theorem dX3_put_70 : decode cX3_put 70 = .ok (.ifCond .ne 6, 3) := by decide +kernel
theorem dX3_put_73 : decode cX3_put 73 = .ok (.bipush (-3), 2) := by decide +kernel
theorem dX3_put_75 : decode cX3_put 75 = .ok (.ireturn, 1) := by decide +kernel
theorem dX3_put_76 : decode cX3_put 76 = .ok (.aload_n 0, 1) := by decide +kernel
theorem dX3_put_77 : decode cX3_put 77 = .ok (.iload 4, 2) := by decide +kernel
theorem dX3_put_79 : decode cX3_put 79 = .ok (.iload_n 1, 1) := by decide +kernel
theorem dX3_put_80 : decode cX3_put 80 = .ok (.iload_n 3, 1) := by decide +kernel
theorem dX3_put_81 : decode cX3_put 81 = .ok (.invokevirtual 76, 3) := by decide +kernel
theorem dX3_put_84 : decode cX3_put 84 = .ok (.ireturn, 1) := by decide +kernel
set_option maxRecDepth 20000 in
theorem ggX3_remove_X3_isKey : GoodIn wsX3_remove wsX3_isKey := goodIn_r _ [7] (by decide +kernel) (by decide +kernel)
set_option maxRecDepth 20000 in
theorem gX3_remove_X3_isKey : GoodIn wsX3_remove (va_wsS RX3 59 yX3_isKey wsX3_isKey) := goodIn_app (goodIn_of _ (by decide +kernel)) ggX3_remove_X3_isKey
set_option maxRecDepth 20000 in
theorem ggX3_remove_X3_refusalOfWriting : GoodIn wsX3_remove wsX3_refusalOfWriting := goodIn_r _ [11, 12, 2, 13, 14, 1, 15, 16, 17, 18, 19, 20, 21, 22, 23, 24, 25, 26, 27, 28, 29, 30, 31, 6, 32, 33, 34, 35, 36, 37, 38, 39, 40, 41, 42, 43, 44, 45, 46, 47, 48, 49, 50, 51, 52, 53, 54, 55, 56, 57, 58, 59, 60, 61, 62, 63, 64, 65, 66, 67, 68, 69, 70, 71, 72, 73, 74, 75, 76, 77, 147, 148, 149, 150, 151, 152, 153, 154, 155, 156, 157, 158, 159] (by decide +kernel) (by decide +kernel)
set_option maxRecDepth 20000 in
theorem gX3_remove_X3_refusalOfWriting : GoodIn wsX3_remove (wsV RX3 63 RX3 yX3_refusalOfWriting wsX3_refusalOfWriting) := goodIn_app (goodIn_of _ (by decide +kernel)) ggX3_remove_X3_refusalOfWriting
set_option maxRecDepth 20000 in
theorem ggX3_remove_X3_pageOfThing : GoodIn wsX3_remove wsX3_pageOfThing := goodIn_r _ [81, 13, 82, 31, 6, 32, 83, 41, 42, 43, 44, 45, 46, 47, 48, 49, 50, 51, 52, 53, 54, 55, 56, 57, 58, 59, 60, 61, 62, 63, 64, 65, 66, 67, 68, 84, 147, 148, 149, 150, 151, 152, 153, 158, 159] (by decide +kernel) (by decide +kernel)
set_option maxRecDepth 20000 in
theorem gX3_remove_X3_pageOfThing : GoodIn wsX3_remove (wsV RX3 80 RX3 yX3_pageOfThing wsX3_pageOfThing) := goodIn_app (goodIn_of _ (by decide +kernel)) ggX3_remove_X3_pageOfThing
set_option maxRecDepth 20000 in
theorem ggX3_remove_X2_freeFrom : GoodIn wsX3_remove wsX2_freeFrom := goodIn_r _ [88, 26, 157] (by decide +kernel) (by decide +kernel)
set_option maxRecDepth 20000 in
theorem gX3_remove_X2_freeFrom : GoodIn wsX3_remove (wsV RX3 67 RX2 yX2_freeFrom wsX2_freeFrom) := goodIn_app (goodIn_of _ (by decide +kernel)) ggX3_remove_X2_freeFrom
set_option maxRecDepth 20000 in
theorem ggX3_remove_X3_writeVersion : GoodIn wsX3_remove wsX3_writeVersion := goodIn_r _ [92, 1, 14, 93, 94, 95, 96, 97, 98, 99, 6, 100, 13, 82, 31, 32, 84, 46, 47, 43, 48, 49, 101, 102, 103, 104, 105, 106, 29, 107, 108, 109, 110, 111, 112, 113, 114, 115, 116, 117, 118, 119, 120, 121, 122, 123, 124, 125, 126, 127, 12, 128, 129, 130, 131, 54, 55, 56, 57, 58, 45, 132, 133, 134, 135, 136, 137, 138, 18, 139, 140, 141, 20, 15, 16, 17, 19, 142, 143, 144, 145, 146, 147, 148, 149, 150, 151, 152, 153, 158, 159, 154, 155, 156] (by decide +kernel) (by decide +kernel)
set_option maxRecDepth 20000 in
theorem gX3_remove_X3_writeVersion : GoodIn wsX3_remove (wsV RX3 76 RX3 yX3_writeVersion wsX3_writeVersion) := goodIn_app (goodIn_of _ (by decide +kernel)) ggX3_remove_X3_writeVersion
theorem dX3_remove_0 : decode cX3_remove 0 = .ok (.aload_n 0, 1) := by decide +kernel
theorem dX3_remove_1 : decode cX3_remove 1 = .ok (.iload_n 1, 1) := by decide +kernel
theorem dX3_remove_2 : decode cX3_remove 2 = .ok (.invokestatic 59, 3) := by decide +kernel
theorem dX3_remove_5 : decode cX3_remove 5 = .ok (.invokevirtual 63, 3) := by decide +kernel
theorem dX3_remove_8 : decode cX3_remove 8 = .ok (.istore_n 2, 1) := by decide +kernel
theorem dX3_remove_9 : decode cX3_remove 9 = .ok (.iload_n 2, 1) := by decide +kernel
theorem dX3_remove_10 : decode cX3_remove 10 = .ok (.ifCond .eq 5, 3) := by decide +kernel
theorem dX3_remove_13 : decode cX3_remove 13 = .ok (.iload_n 2, 1) := by decide +kernel
theorem dX3_remove_14 : decode cX3_remove 14 = .ok (.ireturn, 1) := by decide +kernel
theorem dX3_remove_15 : decode cX3_remove 15 = .ok (.aload_n 0, 1) := by decide +kernel
theorem dX3_remove_16 : decode cX3_remove 16 = .ok (.getfield 49, 3) := by decide +kernel
theorem dX3_remove_19 : decode cX3_remove 19 = .ok (.ifCond .eq 16, 3) := by decide +kernel
theorem dX3_remove_22 : decode cX3_remove 22 = .ok (.aload_n 0, 1) := by decide +kernel
theorem dX3_remove_23 : decode cX3_remove 23 = .ok (.aload_n 0, 1) := by decide +kernel
theorem dX3_remove_24 : decode cX3_remove 24 = .ok (.getfield 49, 3) := by decide +kernel
theorem dX3_remove_27 : decode cX3_remove 27 = .ok (.iload_n 1, 1) := by decide +kernel
theorem dX3_remove_28 : decode cX3_remove 28 = .ok (.invokevirtual 80, 3) := by decide +kernel
theorem dX3_remove_31 : decode cX3_remove 31 = .ok (.iconst (-1), 1) := by decide +kernel
theorem dX3_remove_32 : decode cX3_remove 32 = .ok (.if_icmp .ne 5, 3) := by decide +kernel
theorem dX3_remove_35 : decode cX3_remove 35 = .ok (.iconst 0, 1) := by decide +kernel
theorem dX3_remove_36 : decode cX3_remove 36 = .ok (.ireturn, 1) := by decide +kernel
theorem dX3_remove_37 : decode cX3_remove 37 = .ok (.aload_n 0, 1) := by decide +kernel
theorem dX3_remove_38 : decode cX3_remove 38 = .ok (.getfield 30, 3) := by decide +kernel
theorem dX3_remove_41 : decode cX3_remove 41 = .ok (.bipush 8, 2) := by decide +kernel
theorem dX3_remove_43 : decode cX3_remove 43 = .ok (.invokevirtual 67, 3) := by decide +kernel
theorem dX3_remove_46 : decode cX3_remove 46 = .ok (.istore_n 3, 1) := by decide +kernel
theorem dX3_remove_47 : decode cX3_remove 47 = .ok (.iload_n 3, 1) := by decide +kernel
theorem dX3_remove_48 : decode cX3_remove 48 = .ok (.iconst (-1), 1) := by decide +kernel
theorem dX3_remove_49 : decode cX3_remove 49 = .ok (.if_icmp .eq 12, 3) := by decide +kernel
theorem dX3_remove_52 : decode cX3_remove 52 = .ok (.aload_n 0, 1) := by decide +kernel
theorem dX3_remove_53 : decode cX3_remove 53 = .ok (.getfield 49, 3) := by decide +kernel
theorem dX3_remove_56 : decode cX3_remove 56 = .ok (.ldc 71, 2) := by decide +kernel
theorem dX3_remove_58 : decode cX3_remove 58 = .ok (.if_icmp .lt 6, 3) := by decide +kernel
theorem dX3_remove_61 : decode cX3_remove 61 = .ok (.bipush (-6), 2) := by decide +kernel
theorem dX3_remove_63 : decode cX3_remove 63 = .ok (.ireturn, 1) := by decide +kernel
theorem dX3_remove_64 : decode cX3_remove 64 = .ok (.aload_n 0, 1) := by decide +kernel
theorem dX3_remove_65 : decode cX3_remove 65 = .ok (.iload_n 3, 1) := by decide +kernel
theorem dX3_remove_66 : decode cX3_remove 66 = .ok (.iload_n 1, 1) := by decide +kernel
theorem dX3_remove_67 : decode cX3_remove 67 = .ok (.iconst 0, 1) := by decide +kernel
theorem dX3_remove_68 : decode cX3_remove 68 = .ok (.invokevirtual 76, 3) := by decide +kernel
theorem dX3_remove_71 : decode cX3_remove 71 = .ok (.ireturn, 1) := by decide +kernel
set_option maxRecDepth 20000 in
theorem ggX3_drop_X3_isKept : GoodIn wsX3_drop wsX3_isKept := goodIn_r _ [8, 3, 1, 98, 99, 100, 101, 102, 103, 104] (by decide +kernel) (by decide +kernel)
set_option maxRecDepth 20000 in
theorem gX3_drop_X3_isKept : GoodIn wsX3_drop (wsV RX3 83 RX3 yX3_isKept wsX3_isKept) := goodIn_app (goodIn_of _ (by decide +kernel)) ggX3_drop_X3_isKept
set_option maxRecDepth 20000 in
theorem ggX3_drop_X3_refusalOfWriting : GoodIn wsX3_drop wsX3_refusalOfWriting := goodIn_r _ [12, 13, 14, 2, 3, 1, 15, 16, 17, 18, 19, 20, 21, 22, 23, 24, 25, 26, 27, 28, 29, 30, 31, 7, 32, 33, 34, 35, 36, 37, 38, 39, 40, 41, 42, 43, 44, 45, 46, 47, 48, 49, 50, 51, 52, 53, 54, 55, 56, 57, 58, 59, 60, 61, 62, 63, 64, 65, 66, 67, 68, 69, 70, 71, 72, 73, 74, 75, 76, 77, 98, 99, 100, 101, 102, 103, 104, 105, 106, 107, 108, 109, 110] (by decide +kernel) (by decide +kernel)
set_option maxRecDepth 20000 in
theorem gX3_drop_X3_refusalOfWriting : GoodIn wsX3_drop (wsV RX3 63 RX3 yX3_refusalOfWriting wsX3_refusalOfWriting) := goodIn_app (goodIn_of _ (by decide +kernel)) ggX3_drop_X3_refusalOfWriting
set_option maxRecDepth 20000 in
theorem ggX3_drop_X3_pageOfRoot : GoodIn wsX3_drop wsX3_pageOfRoot := goodIn_r _ [32] (by decide +kernel) (by decide +kernel)
set_option maxRecDepth 20000 in
theorem gX3_drop_X3_pageOfRoot : GoodIn wsX3_drop (va_wsS RX3 86 yX3_pageOfRoot wsX3_pageOfRoot) := goodIn_app (goodIn_of _ (by decide +kernel)) ggX3_drop_X3_pageOfRoot
set_option maxRecDepth 20000 in
theorem ggX3_drop_X0_setNumber : GoodIn wsX3_drop wsX0_setNumber := goodIn_r _ [82, 49, 109, 110] (by decide +kernel) (by decide +kernel)
set_option maxRecDepth 20000 in
theorem gX3_drop_X0_setNumber : GoodIn wsX3_drop (wsV RX3 89 RX0 yX0_setNumber wsX0_setNumber) := goodIn_app (goodIn_of _ (by decide +kernel)) ggX3_drop_X0_setNumber
set_option maxRecDepth 20000 in
theorem ggX3_drop_X3_finishPage : GoodIn wsX3_drop wsX3_finishPage := goodIn_r _ [86, 2, 13, 87, 88, 89, 43, 90, 54, 55, 56, 57, 58, 45, 46, 47, 48, 49, 91, 80, 81, 82, 92, 93, 94, 18, 95, 96, 97, 20, 15, 16, 17, 19, 98, 99, 100, 101, 102, 103, 104, 109, 110, 105, 106, 107] (by decide +kernel) (by decide +kernel)
set_option maxRecDepth 20000 in
theorem gX3_drop_X3_finishPage : GoodIn wsX3_drop (wsV RX3 93 RX3 yX3_finishPage wsX3_finishPage) := goodIn_app (goodIn_of _ (by decide +kernel)) ggX3_drop_X3_finishPage
theorem dX3_drop_0 : decode cX3_drop 0 = .ok (.aload_n 0, 1) := by decide +kernel
theorem dX3_drop_1 : decode cX3_drop 1 = .ok (.aload_n 0, 1) := by decide +kernel
theorem dX3_drop_2 : decode cX3_drop 2 = .ok (.iload_n 1, 1) := by decide +kernel
theorem dX3_drop_3 : decode cX3_drop 3 = .ok (.invokevirtual 83, 3) := by decide +kernel
theorem dX3_drop_6 : decode cX3_drop 6 = .ok (.ifCond .eq 15, 3) := by decide +kernel
theorem dX3_drop_9 : decode cX3_drop 9 = .ok (.iload_n 1, 1) := by decide +kernel
theorem dX3_drop_10 : decode cX3_drop 10 = .ok (.aload_n 0, 1) := by decide +kernel
theorem dX3_drop_11 : decode cX3_drop 11 = .ok (.getfield 49, 3) := by decide +kernel
theorem dX3_drop_14 : decode cX3_drop 14 = .ok (.if_icmp .eq 7, 3) := by decide +kernel
theorem dX3_drop_17 : decode cX3_drop 17 = .ok (.iconst 1, 1) := by decide +kernel
theorem dX3_drop_18 : decode cX3_drop 18 = .ok (.goto 4, 3) := by decide +kernel
theorem dX3_drop_21 : decode cX3_drop 21 = .ok (.iconst 0, 1) := by decide +kernel
theorem dX3_drop_22 : decode cX3_drop 22 = .ok (.invokevirtual 63, 3) := by decide +kernel
theorem dX3_drop_25 : decode cX3_drop 25 = .ok (.istore_n 2, 1) := by decide +kernel
theorem dX3_drop_26 : decode cX3_drop 26 = .ok (.iload_n 2, 1) := by decide +kernel
theorem dX3_drop_27 : decode cX3_drop 27 = .ok (.ifCond .eq 5, 3) := by decide +kernel
theorem dX3_drop_30 : decode cX3_drop 30 = .ok (.iload_n 2, 1) := by decide +kernel
theorem dX3_drop_31 : decode cX3_drop 31 = .ok (.ireturn, 1) := by decide +kernel
theorem dX3_drop_32 : decode cX3_drop 32 = .ok (.aload_n 0, 1) := by decide +kernel
theorem dX3_drop_33 : decode cX3_drop 33 = .ok (.getfield 49, 3) := by decide +kernel
theorem dX3_drop_36 : decode cX3_drop 36 = .ok (.invokestatic 86, 3) := by decide +kernel
theorem dX3_drop_39 : decode cX3_drop 39 = .ok (.istore_n 3, 1) := by decide +kernel
theorem dX3_drop_40 : decode cX3_drop 40 = .ok (.aload_n 0, 1) := by decide +kernel
theorem dX3_drop_41 : decode cX3_drop 41 = .ok (.getfield 23, 3) := by decide +kernel
theorem dX3_drop_44 : decode cX3_drop 44 = .ok (.iload_n 3, 1) := by decide +kernel
theorem dX3_drop_45 : decode cX3_drop 45 = .ok (.iconst 5, 1) := by decide +kernel
theorem dX3_drop_46 : decode cX3_drop 46 = .ok (.iload_n 1, 1) := by decide +kernel
theorem dX3_drop_47 : decode cX3_drop 47 = .ok (.iconst 1, 1) := by decide +kernel
theorem dX3_drop_48 : decode cX3_drop 48 = .ok (.iadd, 1) := by decide +kernel
theorem dX3_drop_49 : decode cX3_drop 49 = .ok (.invokevirtual 89, 3) := by decide +kernel
theorem dX3_drop_52 : decode cX3_drop 52 = .ok (.aload_n 0, 1) := by decide +kernel
theorem dX3_drop_53 : decode cX3_drop 53 = .ok (.iload_n 3, 1) := by decide +kernel
theorem dX3_drop_54 : decode cX3_drop 54 = .ok (.invokevirtual 93, 3) := by decide +kernel
theorem dX3_drop_57 : decode cX3_drop 57 = .ok (.ifCond .ne 6, 3) := by decide +kernel
theorem dX3_drop_60 : decode cX3_drop 60 = .ok (.bipush (-3), 2) := by decide +kernel
theorem dX3_drop_62 : decode cX3_drop 62 = .ok (.ireturn, 1) := by decide +kernel
theorem dX3_drop_63 : decode cX3_drop 63 = .ok (.aload_n 0, 1) := by decide +kernel
theorem dX3_drop_64 : decode cX3_drop 64 = .ok (.iload_n 1, 1) := by decide +kernel
theorem dX3_drop_65 : decode cX3_drop 65 = .ok (.iconst 1, 1) := by decide +kernel
theorem dX3_drop_66 : decode cX3_drop 66 = .ok (.iadd, 1) := by decide +kernel
theorem dX3_drop_67 : decode cX3_drop 67 = .ok (.putfield 52, 3) := by decide +kernel
theorem dX3_drop_70 : decode cX3_drop 70 = .ok (.aload_n 0, 1) := by decide +kernel
theorem dX3_drop_71 : decode cX3_drop 71 = .ok (.getfield 49, 3) := by decide +kernel
theorem dX3_drop_74 : decode cX3_drop 74 = .ok (.iload_n 1, 1) := by decide +kernel
theorem dX3_drop_75 : decode cX3_drop 75 = .ok (.isub, 1) := by decide +kernel
theorem dX3_drop_76 : decode cX3_drop 76 = .ok (.ireturn, 1) := by decide +kernel
set_option maxRecDepth 20000 in
theorem ggX3_length_X3_lookUp : GoodIn wsX3_length wsX3_lookUp := goodIn_r _ [6, 7, 8, 9, 5, 10, 11, 12, 13, 14, 15, 16, 17, 18, 19, 20, 21, 22, 23, 24, 25, 26, 27, 28, 29, 30, 1, 31, 32, 33, 34, 35, 36, 37, 38, 39, 40, 41, 42, 43, 44, 45, 46, 47, 48, 49, 50, 51, 52, 53, 54, 55, 56, 57, 58, 59, 60, 61, 62, 63, 64, 65, 66, 67, 68, 69, 70, 71, 72, 73, 74, 75] (by decide +kernel) (by decide +kernel)
set_option maxRecDepth 20000 in
theorem gX3_length_X3_lookUp : GoodIn wsX3_length (wsV RX3 96 RX3 yX3_lookUp wsX3_lookUp) := goodIn_app (goodIn_of _ (by decide +kernel)) ggX3_length_X3_lookUp
set_option maxRecDepth 20000 in
theorem ggX3_length_X0_at : GoodIn wsX3_length wsX0_at := goodIn_r _ [42, 43, 74, 75] (by decide +kernel) (by decide +kernel)
set_option maxRecDepth 20000 in
theorem gX3_length_X0_at : GoodIn wsX3_length (wsV RX3 99 RX0 yX0_at wsX0_at) := goodIn_app (goodIn_of _ (by decide +kernel)) ggX3_length_X0_at
theorem dX3_length_0 : decode cX3_length 0 = .ok (.aload_n 0, 1) := by decide +kernel
theorem dX3_length_1 : decode cX3_length 1 = .ok (.iload_n 1, 1) := by decide +kernel
theorem dX3_length_2 : decode cX3_length 2 = .ok (.iload_n 2, 1) := by decide +kernel
theorem dX3_length_3 : decode cX3_length 3 = .ok (.invokevirtual 96, 3) := by decide +kernel
theorem dX3_length_6 : decode cX3_length 6 = .ok (.istore_n 3, 1) := by decide +kernel
theorem dX3_length_7 : decode cX3_length 7 = .ok (.iload_n 3, 1) := by decide +kernel
theorem dX3_length_8 : decode cX3_length 8 = .ok (.ifCond .ge 7, 3) := by decide +kernel
theorem dX3_length_11 : decode cX3_length 11 = .ok (.iload_n 3, 1) := by decide +kernel
theorem dX3_length_12 : decode cX3_length 12 = .ok (.goto 12, 3) := by decide +kernel
theorem dX3_length_15 : decode cX3_length 15 = .ok (.aload_n 0, 1) := by decide +kernel
theorem dX3_length_16 : decode cX3_length 16 = .ok (.getfield 23, 3) := by decide +kernel
theorem dX3_length_19 : decode cX3_length 19 = .ok (.iload_n 3, 1) := by decide +kernel
theorem dX3_length_20 : decode cX3_length 20 = .ok (.iconst 3, 1) := by decide +kernel
theorem dX3_length_21 : decode cX3_length 21 = .ok (.invokevirtual 99, 3) := by decide +kernel
theorem dX3_length_24 : decode cX3_length 24 = .ok (.ireturn, 1) := by decide +kernel
set_option maxRecDepth 20000 in
theorem ggX3_find_X3_lookUp : GoodIn wsX3_find wsX3_lookUp := goodIn_r _ [6, 7, 8, 9, 5, 10, 11, 12, 13, 14, 15, 16, 17, 18, 19, 20, 21, 22, 23, 24, 25, 26, 27, 28, 29, 30, 1, 31, 32, 33, 34, 35, 36, 37, 38, 39, 40, 41, 42, 43, 44, 45, 46, 47, 48, 49, 50, 51, 52, 53, 54, 55, 56, 57, 58, 59, 60, 61, 62, 63, 64, 65, 66, 67, 68, 69, 70, 71, 72, 73, 74, 75] (by decide +kernel) (by decide +kernel)
set_option maxRecDepth 20000 in
theorem gX3_find_X3_lookUp : GoodIn wsX3_find (wsV RX3 96 RX3 yX3_lookUp wsX3_lookUp) := goodIn_app (goodIn_of _ (by decide +kernel)) ggX3_find_X3_lookUp
set_option maxRecDepth 20000 in
theorem ggX3_find_X0_at : GoodIn wsX3_find wsX0_at := goodIn_r _ [42, 43, 74, 75] (by decide +kernel) (by decide +kernel)
set_option maxRecDepth 20000 in
theorem gX3_find_X0_at : GoodIn wsX3_find (wsV RX3 99 RX0 yX0_at wsX0_at) := goodIn_app (goodIn_of _ (by decide +kernel)) ggX3_find_X0_at
theorem dX3_find_0 : decode cX3_find 0 = .ok (.aload_n 0, 1) := by decide +kernel
theorem dX3_find_1 : decode cX3_find 1 = .ok (.iload_n 1, 1) := by decide +kernel
theorem dX3_find_2 : decode cX3_find 2 = .ok (.iload_n 2, 1) := by decide +kernel
theorem dX3_find_3 : decode cX3_find 3 = .ok (.invokevirtual 96, 3) := by decide +kernel
theorem dX3_find_6 : decode cX3_find 6 = .ok (.istore 4, 2) := by decide +kernel
theorem dX3_find_8 : decode cX3_find 8 = .ok (.iload 4, 2) := by decide +kernel
theorem dX3_find_10 : decode cX3_find 10 = .ok (.ifCond .ge 6, 3) := by decide +kernel
theorem dX3_find_13 : decode cX3_find 13 = .ok (.iload 4, 2) := by decide +kernel
theorem dX3_find_15 : decode cX3_find 15 = .ok (.ireturn, 1) := by decide +kernel
theorem dX3_find_16 : decode cX3_find 16 = .ok (.iload_n 3, 1) := by decide +kernel
theorem dX3_find_17 : decode cX3_find 17 = .ok (.ifCond .lt 17, 3) := by decide +kernel
theorem dX3_find_20 : decode cX3_find 20 = .ok (.iload_n 3, 1) := by decide +kernel
theorem dX3_find_21 : decode cX3_find 21 = .ok (.aload_n 0, 1) := by decide +kernel
theorem dX3_find_22 : decode cX3_find 22 = .ok (.getfield 23, 3) := by decide +kernel
theorem dX3_find_25 : decode cX3_find 25 = .ok (.iload 4, 2) := by decide +kernel
theorem dX3_find_27 : decode cX3_find 27 = .ok (.iconst 3, 1) := by decide +kernel
theorem dX3_find_28 : decode cX3_find 28 = .ok (.invokevirtual 99, 3) := by decide +kernel
theorem dX3_find_31 : decode cX3_find 31 = .ok (.if_icmp .lt 5, 3) := by decide +kernel
theorem dX3_find_34 : decode cX3_find 34 = .ok (.iconst (-1), 1) := by decide +kernel
theorem dX3_find_35 : decode cX3_find 35 = .ok (.ireturn, 1) := by decide +kernel
theorem dX3_find_36 : decode cX3_find 36 = .ok (.aload_n 0, 1) := by decide +kernel
theorem dX3_find_37 : decode cX3_find 37 = .ok (.getfield 23, 3) := by decide +kernel
theorem dX3_find_40 : decode cX3_find 40 = .ok (.iload 4, 2) := by decide +kernel
theorem dX3_find_42 : decode cX3_find 42 = .ok (.iconst 4, 1) := by decide +kernel
theorem dX3_find_43 : decode cX3_find 43 = .ok (.iload_n 3, 1) := by decide +kernel
theorem dX3_find_44 : decode cX3_find 44 = .ok (.iadd, 1) := by decide +kernel
theorem dX3_find_45 : decode cX3_find 45 = .ok (.invokevirtual 99, 3) := by decide +kernel
theorem dX3_find_48 : decode cX3_find 48 = .ok (.ireturn, 1) := by decide +kernel
set_option maxRecDepth 20000 in
theorem ggX3_next_X3_refusalOfReading : GoodIn wsX3_next wsX3_refusalOfReading := goodIn_r _ [6, 7, 8, 9, 10, 11, 12, 13, 14, 15, 16, 5, 17, 18, 19, 20, 21, 22, 60, 61, 62, 63, 64, 65, 66, 67, 68, 69] (by decide +kernel) (by decide +kernel)
set_option maxRecDepth 20000 in
theorem gX3_next_X3_refusalOfReading : GoodIn wsX3_next (wsV RX3 102 RX3 yX3_refusalOfReading wsX3_refusalOfReading) := goodIn_app (goodIn_of _ (by decide +kernel)) ggX3_next_X3_refusalOfReading
set_option maxRecDepth 20000 in
theorem ggX3_next_X3_pageOfRoot : GoodIn wsX3_next wsX3_pageOfRoot := goodIn_r _ [25] (by decide +kernel) (by decide +kernel)
set_option maxRecDepth 20000 in
theorem gX3_next_X3_pageOfRoot : GoodIn wsX3_next (va_wsS RX3 86 yX3_pageOfRoot wsX3_pageOfRoot) := goodIn_app (goodIn_of _ (by decide +kernel)) ggX3_next_X3_pageOfRoot
set_option maxRecDepth 20000 in
theorem ggX3_next_X0_isRight : GoodIn wsX3_next wsX0_isRight := goodIn_r _ [30, 31, 32, 33, 29, 34, 35, 36, 37, 38, 39, 40, 41, 42, 43, 44, 45, 46, 47, 48, 49, 24, 5, 25, 50, 51, 52, 53, 54, 70, 71] (by decide +kernel) (by decide +kernel)
set_option maxRecDepth 20000 in
theorem gX3_next_X0_isRight : GoodIn wsX3_next (wsV RX3 105 RX0 yX0_isRight wsX0_isRight) := goodIn_app (goodIn_of _ (by decide +kernel)) ggX3_next_X0_isRight
set_option maxRecDepth 20000 in
theorem ggX3_next_X0_at : GoodIn wsX3_next wsX0_at := goodIn_r _ [34, 35, 70, 71] (by decide +kernel) (by decide +kernel)
set_option maxRecDepth 20000 in
theorem gX3_next_X0_at : GoodIn wsX3_next (wsV RX3 99 RX0 yX0_at wsX0_at) := goodIn_app (goodIn_of _ (by decide +kernel)) ggX3_next_X0_at
set_option maxRecDepth 20000 in
theorem ggX3_next_X3_nextThing : GoodIn wsX3_next wsX3_nextThing := goodIn_r _ [59, 1, 26, 27, 28, 29, 30, 31, 32, 33, 34, 35, 36, 37, 38, 39, 40, 41, 42, 43, 44, 45, 46, 47, 48, 49, 24, 5, 25, 50, 51, 52, 53, 54, 55, 60, 61, 62, 63, 64, 65, 66, 70, 71] (by decide +kernel) (by decide +kernel)
set_option maxRecDepth 20000 in
theorem gX3_next_X3_nextThing : GoodIn wsX3_next (wsV RX3 108 RX3 yX3_nextThing wsX3_nextThing) := goodIn_app (goodIn_of _ (by decide +kernel)) ggX3_next_X3_nextThing
theorem dX3_next_0 : decode cX3_next 0 = .ok (.aload_n 0, 1) := by decide +kernel
theorem dX3_next_1 : decode cX3_next 1 = .ok (.iload_n 1, 1) := by decide +kernel
theorem dX3_next_2 : decode cX3_next 2 = .ok (.iload_n 2, 1) := by decide +kernel
theorem dX3_next_3 : decode cX3_next 3 = .ok (.invokevirtual 102, 3) := by decide +kernel
theorem dX3_next_6 : decode cX3_next 6 = .ok (.istore_n 3, 1) := by decide +kernel
theorem dX3_next_7 : decode cX3_next 7 = .ok (.iload_n 3, 1) := by decide +kernel
theorem dX3_next_8 : decode cX3_next 8 = .ok (.ifCond .eq 5, 3) := by decide +kernel
theorem dX3_next_11 : decode cX3_next 11 = .ok (.iload_n 3, 1) := by decide +kernel
theorem dX3_next_12 : decode cX3_next 12 = .ok (.ireturn, 1) := by decide +kernel
theorem dX3_next_13 : decode cX3_next 13 = .ok (.iload_n 1, 1) := by decide +kernel
theorem dX3_next_14 : decode cX3_next 14 = .ok (.invokestatic 86, 3) := by decide +kernel
theorem dX3_next_17 : decode cX3_next 17 = .ok (.istore 4, 2) := by decide +kernel
theorem dX3_next_19 : decode cX3_next 19 = .ok (.aload_n 0, 1) := by decide +kernel
theorem dX3_next_20 : decode cX3_next 20 = .ok (.getfield 23, 3) := by decide +kernel
theorem dX3_next_23 : decode cX3_next 23 = .ok (.iload 4, 2) := by decide +kernel
theorem dX3_next_25 : decode cX3_next 25 = .ok (.iconst 1, 1) := by decide +kernel
theorem dX3_next_26 : decode cX3_next 26 = .ok (.invokevirtual 105, 3) := by decide +kernel
theorem dX3_next_29 : decode cX3_next 29 = .ok (.ifCond .ne 6, 3) := by decide +kernel
theorem dX3_next_32 : decode cX3_next 32 = .ok (.bipush (-4), 2) := by decide +kernel
theorem dX3_next_34 : decode cX3_next 34 = .ok (.ireturn, 1) := by decide +kernel
theorem dX3_next_35 : decode cX3_next 35 = .ok (.iload_n 2, 1) := by decide +kernel
theorem dX3_next_36 : decode cX3_next 36 = .ok (.bipush 32, 2) := by decide +kernel
theorem dX3_next_38 : decode cX3_next 38 = .ok (.irem, 1) := by decide +kernel
theorem dX3_next_39 : decode cX3_next 39 = .ok (.istore 5, 2) := by decide +kernel
theorem dX3_next_41 : decode cX3_next 41 = .ok (.iload_n 2, 1) := by decide +kernel
theorem dX3_next_42 : decode cX3_next 42 = .ok (.bipush 32, 2) := by decide +kernel
theorem dX3_next_44 : decode cX3_next 44 = .ok (.idiv, 1) := by decide +kernel
theorem dX3_next_45 : decode cX3_next 45 = .ok (.istore 6, 2) := by decide +kernel
theorem dX3_next_47 : decode cX3_next 47 = .ok (.iload 6, 2) := by decide +kernel
theorem dX3_next_49 : decode cX3_next 49 = .ok (.bipush 32, 2) := by decide +kernel
theorem dX3_next_51 : decode cX3_next 51 = .ok (.if_icmp .ge 61, 3) := by decide +kernel
theorem dX3_next_54 : decode cX3_next 54 = .ok (.aload_n 0, 1) := by decide +kernel
theorem dX3_next_55 : decode cX3_next 55 = .ok (.aload_n 0, 1) := by decide +kernel
theorem dX3_next_56 : decode cX3_next 56 = .ok (.getfield 23, 3) := by decide +kernel
theorem dX3_next_59 : decode cX3_next 59 = .ok (.iload 4, 2) := by decide +kernel
theorem dX3_next_61 : decode cX3_next 61 = .ok (.bipush 9, 2) := by decide +kernel
theorem dX3_next_63 : decode cX3_next 63 = .ok (.iload 6, 2) := by decide +kernel
theorem dX3_next_65 : decode cX3_next 65 = .ok (.iadd, 1) := by decide +kernel
theorem dX3_next_66 : decode cX3_next 66 = .ok (.invokevirtual 99, 3) := by decide +kernel
theorem dX3_next_69 : decode cX3_next 69 = .ok (.iload 5, 2) := by decide +kernel
theorem dX3_next_71 : decode cX3_next 71 = .ok (.invokevirtual 108, 3) := by decide +kernel
theorem dX3_next_74 : decode cX3_next 74 = .ok (.istore 7, 2) := by decide +kernel
theorem dX3_next_76 : decode cX3_next 76 = .ok (.iload 7, 2) := by decide +kernel
theorem dX3_next_78 : decode cX3_next 78 = .ok (.iconst (-1), 1) := by decide +kernel
theorem dX3_next_79 : decode cX3_next 79 = .ok (.if_icmp .eq 24, 3) := by decide +kernel
theorem dX3_next_82 : decode cX3_next 82 = .ok (.iload 7, 2) := by decide +kernel
theorem dX3_next_84 : decode cX3_next 84 = .ok (.bipush (-4), 2) := by decide +kernel
theorem dX3_next_86 : decode cX3_next 86 = .ok (.if_icmp .ne 8, 3) := by decide +kernel
theorem dX3_next_89 : decode cX3_next 89 = .ok (.bipush (-4), 2) := by decide +kernel
theorem dX3_next_91 : decode cX3_next 91 = .ok (.goto 11, 3) := by decide +kernel
theorem dX3_next_94 : decode cX3_next 94 = .ok (.iload 6, 2) := by decide +kernel
theorem dX3_next_96 : decode cX3_next 96 = .ok (.bipush 32, 2) := by decide +kernel
theorem dX3_next_98 : decode cX3_next 98 = .ok (.imul, 1) := by decide +kernel
theorem dX3_next_99 : decode cX3_next 99 = .ok (.iload 7, 2) := by decide +kernel
theorem dX3_next_101 : decode cX3_next 101 = .ok (.iadd, 1) := by decide +kernel
theorem dX3_next_102 : decode cX3_next 102 = .ok (.ireturn, 1) := by decide +kernel
theorem dX3_next_103 : decode cX3_next 103 = .ok (.iconst 0, 1) := by decide +kernel
theorem dX3_next_104 : decode cX3_next 104 = .ok (.istore 5, 2) := by decide +kernel
theorem dX3_next_106 : decode cX3_next 106 = .ok (.iinc 6 1, 3) := by decide +kernel
theorem dX3_next_109 : decode cX3_next 109 = .ok (.goto (-62), 3) := by decide +kernel
theorem dX3_next_112 : decode cX3_next 112 = .ok (.iconst (-1), 1) := by decide +kernel
theorem dX3_next_113 : decode cX3_next 113 = .ok (.ireturn, 1) := by decide +kernel
set_option maxRecDepth 20000 in
theorem ggX3_crash_X1_isOff : GoodIn wsX3_crash wsX1_isOff := goodIn_r _ [6, 7, 20, 21, 22] (by decide +kernel) (by decide +kernel)
set_option maxRecDepth 20000 in
theorem gX3_crash_X1_isOff : GoodIn wsX3_crash (wsV RX3 55 RX1 yX1_isOff wsX1_isOff) := goodIn_app (goodIn_of _ (by decide +kernel)) ggX3_crash_X1_isOff
set_option maxRecDepth 20000 in
theorem ggX3_crash_X1_failAfter : GoodIn wsX3_crash wsX1_failAfter := goodIn_r _ [11, 12, 7, 20, 21, 22] (by decide +kernel) (by decide +kernel)
set_option maxRecDepth 20000 in
theorem gX3_crash_X1_failAfter : GoodIn wsX3_crash (wsV RX3 111 RX1 yX1_failAfter wsX1_failAfter) := goodIn_app (goodIn_of _ (by decide +kernel)) ggX3_crash_X1_failAfter
theorem dX3_crash_0 : decode cX3_crash 0 = .ok (.aload_n 0, 1) := by decide +kernel
theorem dX3_crash_1 : decode cX3_crash 1 = .ok (.getfield 37, 3) := by decide +kernel
theorem dX3_crash_4 : decode cX3_crash 4 = .ok (.invokevirtual 55, 3) := by decide +kernel
theorem dX3_crash_7 : decode cX3_crash 7 = .ok (.ifCond .eq 6, 3) := by decide +kernel
theorem dX3_crash_10 : decode cX3_crash 10 = .ok (.bipush (-5), 2) := by decide +kernel
theorem dX3_crash_12 : decode cX3_crash 12 = .ok (.ireturn, 1) := by decide +kernel
theorem dX3_crash_13 : decode cX3_crash 13 = .ok (.iload_n 1, 1) := by decide +kernel
theorem dX3_crash_14 : decode cX3_crash 14 = .ok (.iconst (-1), 1) := by decide +kernel
theorem dX3_crash_15 : decode cX3_crash 15 = .ok (.if_icmp .lt 10, 3) := by decide +kernel
theorem dX3_crash_18 : decode cX3_crash 18 = .ok (.iload_n 1, 1) := by decide +kernel
theorem dX3_crash_19 : decode cX3_crash 19 = .ok (.sipush 1000, 3) := by decide +kernel
theorem dX3_crash_22 : decode cX3_crash 22 = .ok (.if_icmp .le 6, 3) := by decide +kernel
theorem dX3_crash_25 : decode cX3_crash 25 = .ok (.bipush (-2), 2) := by decide +kernel
theorem dX3_crash_27 : decode cX3_crash 27 = .ok (.ireturn, 1) := by decide +kernel
theorem dX3_crash_28 : decode cX3_crash 28 = .ok (.aload_n 0, 1) := by decide +kernel
theorem dX3_crash_29 : decode cX3_crash 29 = .ok (.getfield 37, 3) := by decide +kernel
theorem dX3_crash_32 : decode cX3_crash 32 = .ok (.iload_n 1, 1) := by decide +kernel
theorem dX3_crash_33 : decode cX3_crash 33 = .ok (.invokevirtual 111, 3) := by decide +kernel
theorem dX3_crash_36 : decode cX3_crash 36 = .ok (.iconst 1, 1) := by decide +kernel
theorem dX3_crash_37 : decode cX3_crash 37 = .ok (.ireturn, 1) := by decide +kernel
set_option maxRecDepth 20000 in
theorem ggX3_reopen_X1_restore : GoodIn wsX3_reopen wsX1_restore := goodIn_r _ [10, 11, 12, 53, 54, 55] (by decide +kernel) (by decide +kernel)
set_option maxRecDepth 20000 in
theorem gX3_reopen_X1_restore : GoodIn wsX3_reopen (wsV RX3 114 RX1 yX1_restore wsX1_restore) := goodIn_app (goodIn_of _ (by decide +kernel)) ggX3_reopen_X1_restore
set_option maxRecDepth 20000 in
theorem ggX3_reopen_X0_isRight : GoodIn wsX3_reopen wsX0_isRight := goodIn_r _ [17, 18, 19, 20, 16, 21, 22, 23, 24, 25, 26, 27, 28, 29, 30, 31, 32, 33, 34, 35, 36, 37, 38, 39, 40, 41, 42, 43, 44, 56, 57] (by decide +kernel) (by decide +kernel)
set_option maxRecDepth 20000 in
theorem gX3_reopen_X0_isRight : GoodIn wsX3_reopen (wsV RX3 105 RX0 yX0_isRight wsX0_isRight) := goodIn_app (goodIn_of _ (by decide +kernel)) ggX3_reopen_X0_isRight
set_option maxRecDepth 20000 in
theorem ggX3_reopen_X0_numberAt : GoodIn wsX3_reopen wsX0_numberAt := goodIn_r _ [26, 22, 56, 57] (by decide +kernel) (by decide +kernel)
set_option maxRecDepth 20000 in
theorem gX3_reopen_X0_numberAt : GoodIn wsX3_reopen (wsV RX3 117 RX0 yX0_numberAt wsX0_numberAt) := goodIn_app (goodIn_of _ (by decide +kernel)) ggX3_reopen_X0_numberAt
theorem dX3_reopen_0 : decode cX3_reopen 0 = .ok (.aload_n 0, 1) := by decide +kernel
theorem dX3_reopen_1 : decode cX3_reopen 1 = .ok (.getfield 37, 3) := by decide +kernel
theorem dX3_reopen_4 : decode cX3_reopen 4 = .ok (.invokevirtual 114, 3) := by decide +kernel
theorem dX3_reopen_7 : decode cX3_reopen 7 = .ok (.aload_n 0, 1) := by decide +kernel
theorem dX3_reopen_8 : decode cX3_reopen 8 = .ok (.iconst 0, 1) := by decide +kernel
theorem dX3_reopen_9 : decode cX3_reopen 9 = .ok (.putfield 45, 3) := by decide +kernel
theorem dX3_reopen_12 : decode cX3_reopen 12 = .ok (.aload_n 0, 1) := by decide +kernel
theorem dX3_reopen_13 : decode cX3_reopen 13 = .ok (.iconst 0, 1) := by decide +kernel
theorem dX3_reopen_14 : decode cX3_reopen 14 = .ok (.putfield 49, 3) := by decide +kernel
theorem dX3_reopen_17 : decode cX3_reopen 17 = .ok (.aload_n 0, 1) := by decide +kernel
theorem dX3_reopen_18 : decode cX3_reopen 18 = .ok (.iconst 1, 1) := by decide +kernel
theorem dX3_reopen_19 : decode cX3_reopen 19 = .ok (.putfield 52, 3) := by decide +kernel
theorem dX3_reopen_22 : decode cX3_reopen 22 = .ok (.iconst 0, 1) := by decide +kernel
theorem dX3_reopen_23 : decode cX3_reopen 23 = .ok (.istore_n 1, 1) := by decide +kernel
theorem dX3_reopen_24 : decode cX3_reopen 24 = .ok (.iload_n 1, 1) := by decide +kernel
theorem dX3_reopen_25 : decode cX3_reopen 25 = .ok (.bipush 8, 2) := by decide +kernel
theorem dX3_reopen_27 : decode cX3_reopen 27 = .ok (.if_icmp .ge 63, 3) := by decide +kernel
theorem dX3_reopen_30 : decode cX3_reopen 30 = .ok (.aload_n 0, 1) := by decide +kernel
theorem dX3_reopen_31 : decode cX3_reopen 31 = .ok (.getfield 23, 3) := by decide +kernel
theorem dX3_reopen_34 : decode cX3_reopen 34 = .ok (.iload_n 1, 1) := by decide +kernel
theorem dX3_reopen_35 : decode cX3_reopen 35 = .ok (.iconst 1, 1) := by decide +kernel
theorem dX3_reopen_36 : decode cX3_reopen 36 = .ok (.invokevirtual 105, 3) := by decide +kernel
theorem dX3_reopen_39 : decode cX3_reopen 39 = .ok (.ifCond .eq 45, 3) := by decide +kernel
theorem dX3_reopen_42 : decode cX3_reopen 42 = .ok (.aload_n 0, 1) := by decide +kernel
theorem dX3_reopen_43 : decode cX3_reopen 43 = .ok (.getfield 23, 3) := by decide +kernel
theorem dX3_reopen_46 : decode cX3_reopen 46 = .ok (.iload_n 1, 1) := by decide +kernel
theorem dX3_reopen_47 : decode cX3_reopen 47 = .ok (.iconst 1, 1) := by decide +kernel
theorem dX3_reopen_48 : decode cX3_reopen 48 = .ok (.invokevirtual 117, 3) := by decide +kernel
theorem dX3_reopen_51 : decode cX3_reopen 51 = .ok (.aload_n 0, 1) := by decide +kernel
theorem dX3_reopen_52 : decode cX3_reopen 52 = .ok (.getfield 49, 3) := by decide +kernel
theorem dX3_reopen_55 : decode cX3_reopen 55 = .ok (.if_icmp .le 29, 3) := by decide +kernel
theorem dX3_reopen_58 : decode cX3_reopen 58 = .ok (.aload_n 0, 1) := by decide +kernel
theorem dX3_reopen_59 : decode cX3_reopen 59 = .ok (.aload_n 0, 1) := by decide +kernel
theorem dX3_reopen_60 : decode cX3_reopen 60 = .ok (.getfield 23, 3) := by decide +kernel
theorem dX3_reopen_63 : decode cX3_reopen 63 = .ok (.iload_n 1, 1) := by decide +kernel
theorem dX3_reopen_64 : decode cX3_reopen 64 = .ok (.iconst 1, 1) := by decide +kernel
theorem dX3_reopen_65 : decode cX3_reopen 65 = .ok (.invokevirtual 117, 3) := by decide +kernel
theorem dX3_reopen_68 : decode cX3_reopen 68 = .ok (.putfield 49, 3) := by decide +kernel
theorem dX3_reopen_71 : decode cX3_reopen 71 = .ok (.aload_n 0, 1) := by decide +kernel
theorem dX3_reopen_72 : decode cX3_reopen 72 = .ok (.aload_n 0, 1) := by decide +kernel
theorem dX3_reopen_73 : decode cX3_reopen 73 = .ok (.getfield 23, 3) := by decide +kernel
theorem dX3_reopen_76 : decode cX3_reopen 76 = .ok (.iload_n 1, 1) := by decide +kernel
theorem dX3_reopen_77 : decode cX3_reopen 77 = .ok (.iconst 5, 1) := by decide +kernel
theorem dX3_reopen_78 : decode cX3_reopen 78 = .ok (.invokevirtual 117, 3) := by decide +kernel
theorem dX3_reopen_81 : decode cX3_reopen 81 = .ok (.putfield 52, 3) := by decide +kernel
theorem dX3_reopen_84 : decode cX3_reopen 84 = .ok (.iinc 1 1, 3) := by decide +kernel
theorem dX3_reopen_87 : decode cX3_reopen 87 = .ok (.goto (-63), 3) := by decide +kernel
theorem dX3_reopen_90 : decode cX3_reopen 90 = .ok (.aload_n 0, 1) := by decide +kernel
theorem dX3_reopen_91 : decode cX3_reopen 91 = .ok (.getfield 49, 3) := by decide +kernel
theorem dX3_reopen_94 : decode cX3_reopen 94 = .ok (.ireturn, 1) := by decide +kernel
set_option maxRecDepth 20000 in
theorem ggX3_poke_X0_has : GoodIn wsX3_poke wsX0_has := goodIn_r _ [6, 7, 24, 25] (by decide +kernel) (by decide +kernel)
set_option maxRecDepth 20000 in
theorem gX3_poke_X0_has : GoodIn wsX3_poke (wsV RX3 120 RX0 yX0_has wsX0_has) := goodIn_app (goodIn_of _ (by decide +kernel)) ggX3_poke_X0_has
set_option maxRecDepth 20000 in
theorem ggX3_poke_X0_at : GoodIn wsX3_poke wsX0_at := goodIn_r _ [11, 12, 24, 25] (by decide +kernel) (by decide +kernel)
set_option maxRecDepth 20000 in
theorem gX3_poke_X0_at : GoodIn wsX3_poke (wsV RX3 99 RX0 yX0_at wsX0_at) := goodIn_app (goodIn_of _ (by decide +kernel)) ggX3_poke_X0_at
set_option maxRecDepth 20000 in
theorem ggX3_poke_X0_set : GoodIn wsX3_poke wsX0_set := goodIn_r _ [16, 12, 24, 25] (by decide +kernel) (by decide +kernel)
set_option maxRecDepth 20000 in
theorem gX3_poke_X0_set : GoodIn wsX3_poke (wsV RX3 123 RX0 yX0_set wsX0_set) := goodIn_app (goodIn_of _ (by decide +kernel)) ggX3_poke_X0_set
theorem dX3_poke_0 : decode cX3_poke 0 = .ok (.aload_n 0, 1) := by decide +kernel
theorem dX3_poke_1 : decode cX3_poke 1 = .ok (.getfield 23, 3) := by decide +kernel
theorem dX3_poke_4 : decode cX3_poke 4 = .ok (.iload_n 1, 1) := by decide +kernel
theorem dX3_poke_5 : decode cX3_poke 5 = .ok (.iload_n 2, 1) := by decide +kernel
theorem dX3_poke_6 : decode cX3_poke 6 = .ok (.invokevirtual 120, 3) := by decide +kernel
theorem dX3_poke_9 : decode cX3_poke 9 = .ok (.ifCond .eq 15, 3) := by decide +kernel
theorem dX3_poke_12 : decode cX3_poke 12 = .ok (.iload_n 3, 1) := by decide +kernel
theorem dX3_poke_13 : decode cX3_poke 13 = .ok (.iconst 1, 1) := by decide +kernel
theorem dX3_poke_14 : decode cX3_poke 14 = .ok (.if_icmp .lt 10, 3) := by decide +kernel
theorem dX3_poke_17 : decode cX3_poke 17 = .ok (.iload_n 3, 1) := by decide +kernel
theorem dX3_poke_18 : decode cX3_poke 18 = .ok (.sipush 255, 3) := by decide +kernel
theorem dX3_poke_21 : decode cX3_poke 21 = .ok (.if_icmp .le 6, 3) := by decide +kernel
theorem dX3_poke_24 : decode cX3_poke 24 = .ok (.bipush (-2), 2) := by decide +kernel
theorem dX3_poke_26 : decode cX3_poke 26 = .ok (.ireturn, 1) := by decide +kernel
theorem dX3_poke_27 : decode cX3_poke 27 = .ok (.aload_n 0, 1) := by decide +kernel
theorem dX3_poke_28 : decode cX3_poke 28 = .ok (.getfield 23, 3) := by decide +kernel
theorem dX3_poke_31 : decode cX3_poke 31 = .ok (.iload_n 1, 1) := by decide +kernel
theorem dX3_poke_32 : decode cX3_poke 32 = .ok (.iload_n 2, 1) := by decide +kernel
theorem dX3_poke_33 : decode cX3_poke 33 = .ok (.aload_n 0, 1) := by decide +kernel
theorem dX3_poke_34 : decode cX3_poke 34 = .ok (.getfield 23, 3) := by decide +kernel
theorem dX3_poke_37 : decode cX3_poke 37 = .ok (.iload_n 1, 1) := by decide +kernel
theorem dX3_poke_38 : decode cX3_poke 38 = .ok (.iload_n 2, 1) := by decide +kernel
theorem dX3_poke_39 : decode cX3_poke 39 = .ok (.invokevirtual 99, 3) := by decide +kernel
theorem dX3_poke_42 : decode cX3_poke 42 = .ok (.iload_n 3, 1) := by decide +kernel
theorem dX3_poke_43 : decode cX3_poke 43 = .ok (.ixor, 1) := by decide +kernel
theorem dX3_poke_44 : decode cX3_poke 44 = .ok (.invokevirtual 123, 3) := by decide +kernel
theorem dX3_poke_47 : decode cX3_poke 47 = .ok (.aload_n 0, 1) := by decide +kernel
theorem dX3_poke_48 : decode cX3_poke 48 = .ok (.getfield 23, 3) := by decide +kernel
theorem dX3_poke_51 : decode cX3_poke 51 = .ok (.iload_n 1, 1) := by decide +kernel
theorem dX3_poke_52 : decode cX3_poke 52 = .ok (.iload_n 2, 1) := by decide +kernel
theorem dX3_poke_53 : decode cX3_poke 53 = .ok (.invokevirtual 99, 3) := by decide +kernel
theorem dX3_poke_56 : decode cX3_poke 56 = .ok (.ireturn, 1) := by decide +kernel
set_option maxRecDepth 20000 in
theorem ggX3_byteAt_X0_has : GoodIn wsX3_byteAt wsX0_has := goodIn_r _ [6, 7, 20, 21] (by decide +kernel) (by decide +kernel)
set_option maxRecDepth 20000 in
theorem gX3_byteAt_X0_has : GoodIn wsX3_byteAt (wsV RX3 120 RX0 yX0_has wsX0_has) := goodIn_app (goodIn_of _ (by decide +kernel)) ggX3_byteAt_X0_has
set_option maxRecDepth 20000 in
theorem ggX3_byteAt_X0_at : GoodIn wsX3_byteAt wsX0_at := goodIn_r _ [11, 12, 20, 21] (by decide +kernel) (by decide +kernel)
set_option maxRecDepth 20000 in
theorem gX3_byteAt_X0_at : GoodIn wsX3_byteAt (wsV RX3 99 RX0 yX0_at wsX0_at) := goodIn_app (goodIn_of _ (by decide +kernel)) ggX3_byteAt_X0_at
theorem dX3_byteAt_0 : decode cX3_byteAt 0 = .ok (.aload_n 0, 1) := by decide +kernel
theorem dX3_byteAt_1 : decode cX3_byteAt 1 = .ok (.getfield 23, 3) := by decide +kernel
theorem dX3_byteAt_4 : decode cX3_byteAt 4 = .ok (.iload_n 1, 1) := by decide +kernel
theorem dX3_byteAt_5 : decode cX3_byteAt 5 = .ok (.iload_n 2, 1) := by decide +kernel
theorem dX3_byteAt_6 : decode cX3_byteAt 6 = .ok (.invokevirtual 120, 3) := by decide +kernel
theorem dX3_byteAt_9 : decode cX3_byteAt 9 = .ok (.ifCond .eq 15, 3) := by decide +kernel
theorem dX3_byteAt_12 : decode cX3_byteAt 12 = .ok (.aload_n 0, 1) := by decide +kernel
theorem dX3_byteAt_13 : decode cX3_byteAt 13 = .ok (.getfield 23, 3) := by decide +kernel
theorem dX3_byteAt_16 : decode cX3_byteAt 16 = .ok (.iload_n 1, 1) := by decide +kernel
theorem dX3_byteAt_17 : decode cX3_byteAt 17 = .ok (.iload_n 2, 1) := by decide +kernel
theorem dX3_byteAt_18 : decode cX3_byteAt 18 = .ok (.invokevirtual 99, 3) := by decide +kernel
theorem dX3_byteAt_21 : decode cX3_byteAt 21 = .ok (.goto 5, 3) := by decide +kernel
theorem dX3_byteAt_24 : decode cX3_byteAt 24 = .ok (.bipush (-2), 2) := by decide +kernel
theorem dX3_byteAt_26 : decode cX3_byteAt 26 = .ok (.ireturn, 1) := by decide +kernel
set_option maxRecDepth 20000 in
theorem ggX3_badAt_X1_isOff : GoodIn wsX3_badAt wsX1_isOff := goodIn_r _ [10, 11, 77, 78, 79] (by decide +kernel) (by decide +kernel)
set_option maxRecDepth 20000 in
theorem gX3_badAt_X1_isOff : GoodIn wsX3_badAt (wsV RX3 55 RX1 yX1_isOff wsX1_isOff) := goodIn_app (goodIn_of _ (by decide +kernel)) ggX3_badAt_X1_isOff
set_option maxRecDepth 20000 in
theorem ggX3_badAt_X2_walk : GoodIn wsX3_badAt wsX2_walk := goodIn_r _ [16, 17, 18, 19, 20, 21, 22, 23, 24, 25, 26, 15, 27, 28, 29, 30, 31, 32, 33, 34, 35, 36, 37, 38, 39, 40, 41, 42, 43, 44, 45, 46, 47, 48, 49, 50, 51, 52, 53, 54, 55, 56, 57, 58, 59, 60, 61, 62, 63, 64, 65, 80, 81, 82] (by decide +kernel) (by decide +kernel)
set_option maxRecDepth 20000 in
theorem gX3_badAt_X2_walk : GoodIn wsX3_badAt (wsV RX3 126 RX2 yX2_walk wsX2_walk) := goodIn_app (goodIn_of _ (by decide +kernel)) ggX3_badAt_X2_walk
set_option maxRecDepth 20000 in
theorem ggX3_badAt_X2_leastBad : GoodIn wsX3_badAt wsX2_leastBad := goodIn_r _ [69, 17, 80] (by decide +kernel) (by decide +kernel)
set_option maxRecDepth 20000 in
theorem gX3_badAt_X2_leastBad : GoodIn wsX3_badAt (wsV RX3 130 RX2 yX2_leastBad wsX2_leastBad) := goodIn_app (goodIn_of _ (by decide +kernel)) ggX3_badAt_X2_leastBad
theorem dX3_badAt_0 : decode cX3_badAt 0 = .ok (.aload_n 0, 1) := by decide +kernel
theorem dX3_badAt_1 : decode cX3_badAt 1 = .ok (.getfield 37, 3) := by decide +kernel
theorem dX3_badAt_4 : decode cX3_badAt 4 = .ok (.invokevirtual 55, 3) := by decide +kernel
theorem dX3_badAt_7 : decode cX3_badAt 7 = .ok (.ifCond .eq 6, 3) := by decide +kernel
theorem dX3_badAt_10 : decode cX3_badAt 10 = .ok (.bipush (-5), 2) := by decide +kernel
theorem dX3_badAt_12 : decode cX3_badAt 12 = .ok (.ireturn, 1) := by decide +kernel
theorem dX3_badAt_13 : decode cX3_badAt 13 = .ok (.aload_n 0, 1) := by decide +kernel
theorem dX3_badAt_14 : decode cX3_badAt 14 = .ok (.getfield 30, 3) := by decide +kernel
theorem dX3_badAt_17 : decode cX3_badAt 17 = .ok (.aload_n 0, 1) := by decide +kernel
theorem dX3_badAt_18 : decode cX3_badAt 18 = .ok (.getfield 23, 3) := by decide +kernel
end
section
theorem dX3_badAt_21 : decode cX3_badAt 21 = .ok (.aload_n 0, 1) := by decide +kernel
theorem dX3_badAt_22 : decode cX3_badAt 22 = .ok (.getfield 52, 3) := by decide +kernel
theorem dX3_badAt_25 : decode cX3_badAt 25 = .ok (.aload_n 0, 1) := by decide +kernel
theorem dX3_badAt_26 : decode cX3_badAt 26 = .ok (.getfield 49, 3) := by decide +kernel
theorem dX3_badAt_29 : decode cX3_badAt 29 = .ok (.invokevirtual 126, 3) := by decide +kernel
theorem dX3_badAt_32 : decode cX3_badAt 32 = .ok (.aload_n 0, 1) := by decide +kernel
theorem dX3_badAt_33 : decode cX3_badAt 33 = .ok (.getfield 30, 3) := by decide +kernel
theorem dX3_badAt_36 : decode cX3_badAt 36 = .ok (.invokevirtual 130, 3) := by decide +kernel
theorem dX3_badAt_39 : decode cX3_badAt 39 = .ok (.ireturn, 1) := by decide +kernel
set_option maxRecDepth 20000 in
theorem ggX3_count_X1_isOff : GoodIn wsX3_count wsX1_isOff := goodIn_r _ [11, 12, 89, 90, 91] (by decide +kernel) (by decide +kernel)
set_option maxRecDepth 20000 in
theorem gX3_count_X1_isOff : GoodIn wsX3_count (wsV RX3 55 RX1 yX1_isOff wsX1_isOff) := goodIn_app (goodIn_of _ (by decide +kernel)) ggX3_count_X1_isOff
set_option maxRecDepth 20000 in
theorem ggX3_count_X2_walk : GoodIn wsX3_count wsX2_walk := goodIn_r _ [17, 18, 19, 20, 21, 22, 23, 24, 25, 26, 27, 16, 28, 29, 30, 31, 32, 33, 34, 35, 36, 37, 38, 39, 40, 41, 42, 43, 44, 45, 46, 47, 48, 49, 50, 51, 52, 53, 54, 55, 56, 57, 58, 59, 60, 61, 62, 63, 64, 65, 66, 92, 93, 94] (by decide +kernel) (by decide +kernel)
set_option maxRecDepth 20000 in
theorem gX3_count_X2_walk : GoodIn wsX3_count (wsV RX3 126 RX2 yX2_walk wsX2_walk) := goodIn_app (goodIn_of _ (by decide +kernel)) ggX3_count_X2_walk
set_option maxRecDepth 20000 in
theorem ggX3_count_X2_freePages : GoodIn wsX3_count wsX2_freePages := goodIn_r _ [70, 18, 92] (by decide +kernel) (by decide +kernel)
set_option maxRecDepth 20000 in
theorem gX3_count_X2_freePages : GoodIn wsX3_count (wsV RX3 134 RX2 yX2_freePages wsX2_freePages) := goodIn_app (goodIn_of _ (by decide +kernel)) ggX3_count_X2_freePages
set_option maxRecDepth 20000 in
theorem ggX3_count_X3_keysOfNewest : GoodIn wsX3_count wsX3_keysOfNewest := goodIn_r _ [74, 2, 5, 75, 23, 24, 25, 76, 34, 35, 36, 37, 38, 39, 40, 41, 42, 43, 44, 45, 46, 47, 48, 49, 50, 51, 52, 53, 54, 55, 56, 57, 58, 59, 60, 61, 77, 78, 79, 80, 81, 82, 83, 84, 85, 86, 87, 88, 93, 94] (by decide +kernel) (by decide +kernel)
set_option maxRecDepth 20000 in
theorem gX3_count_X3_keysOfNewest : GoodIn wsX3_count (wsV RX3 137 RX3 yX3_keysOfNewest wsX3_keysOfNewest) := goodIn_app (goodIn_of _ (by decide +kernel)) ggX3_count_X3_keysOfNewest
theorem dX3_count_0 : decode cX3_count 0 = .ok (.aload_n 0, 1) := by decide +kernel
theorem dX3_count_1 : decode cX3_count 1 = .ok (.getfield 37, 3) := by decide +kernel
theorem dX3_count_4 : decode cX3_count 4 = .ok (.invokevirtual 55, 3) := by decide +kernel
theorem dX3_count_7 : decode cX3_count 7 = .ok (.ifCond .eq 6, 3) := by decide +kernel
theorem dX3_count_10 : decode cX3_count 10 = .ok (.bipush (-5), 2) := by decide +kernel
theorem dX3_count_12 : decode cX3_count 12 = .ok (.ireturn, 1) := by decide +kernel
theorem dX3_count_13 : decode cX3_count 13 = .ok (.iload_n 1, 1) := by decide +kernel
theorem dX3_count_14 : decode cX3_count 14 = .ok (.tableswitch 81 0 4 #[34, 39, 44, 71, 76], 34) := by decide +kernel
theorem dX3_count_48 : decode cX3_count 48 = .ok (.aload_n 0, 1) := by decide +kernel
theorem dX3_count_49 : decode cX3_count 49 = .ok (.getfield 49, 3) := by decide +kernel
theorem dX3_count_52 : decode cX3_count 52 = .ok (.ireturn, 1) := by decide +kernel
theorem dX3_count_53 : decode cX3_count 53 = .ok (.aload_n 0, 1) := by decide +kernel
theorem dX3_count_54 : decode cX3_count 54 = .ok (.getfield 52, 3) := by decide +kernel
theorem dX3_count_57 : decode cX3_count 57 = .ok (.ireturn, 1) := by decide +kernel
theorem dX3_count_58 : decode cX3_count 58 = .ok (.aload_n 0, 1) := by decide +kernel
theorem dX3_count_59 : decode cX3_count 59 = .ok (.getfield 30, 3) := by decide +kernel
theorem dX3_count_62 : decode cX3_count 62 = .ok (.aload_n 0, 1) := by decide +kernel
theorem dX3_count_63 : decode cX3_count 63 = .ok (.getfield 23, 3) := by decide +kernel
theorem dX3_count_66 : decode cX3_count 66 = .ok (.aload_n 0, 1) := by decide +kernel
theorem dX3_count_67 : decode cX3_count 67 = .ok (.getfield 52, 3) := by decide +kernel
theorem dX3_count_70 : decode cX3_count 70 = .ok (.aload_n 0, 1) := by decide +kernel
theorem dX3_count_71 : decode cX3_count 71 = .ok (.getfield 49, 3) := by decide +kernel
theorem dX3_count_74 : decode cX3_count 74 = .ok (.invokevirtual 126, 3) := by decide +kernel
theorem dX3_count_77 : decode cX3_count 77 = .ok (.aload_n 0, 1) := by decide +kernel
theorem dX3_count_78 : decode cX3_count 78 = .ok (.getfield 30, 3) := by decide +kernel
theorem dX3_count_81 : decode cX3_count 81 = .ok (.invokevirtual 134, 3) := by decide +kernel
theorem dX3_count_84 : decode cX3_count 84 = .ok (.ireturn, 1) := by decide +kernel
theorem dX3_count_85 : decode cX3_count 85 = .ok (.aload_n 0, 1) := by decide +kernel
theorem dX3_count_86 : decode cX3_count 86 = .ok (.invokevirtual 137, 3) := by decide +kernel
theorem dX3_count_89 : decode cX3_count 89 = .ok (.ireturn, 1) := by decide +kernel
theorem dX3_count_90 : decode cX3_count 90 = .ok (.aload_n 0, 1) := by decide +kernel
theorem dX3_count_91 : decode cX3_count 91 = .ok (.getfield 45, 3) := by decide +kernel
theorem dX3_count_94 : decode cX3_count 94 = .ok (.ireturn, 1) := by decide +kernel
theorem dX3_count_95 : decode cX3_count 95 = .ok (.bipush (-2), 2) := by decide +kernel
theorem dX3_count_97 : decode cX3_count 97 = .ok (.ireturn, 1) := by decide +kernel
set_option maxRecDepth 20000 in
theorem ggX3_written_X1_pagesWritten : GoodIn wsX3_written wsX1_pagesWritten := goodIn_r _ [6, 7, 15, 16, 17] (by decide +kernel) (by decide +kernel)
set_option maxRecDepth 20000 in
theorem gX3_written_X1_pagesWritten : GoodIn wsX3_written (wsV RX3 140 RX1 yX1_pagesWritten wsX1_pagesWritten) := goodIn_app (goodIn_of _ (by decide +kernel)) ggX3_written_X1_pagesWritten
theorem dX3_written_0 : decode cX3_written 0 = .ok (.aload_n 0, 1) := by decide +kernel
theorem dX3_written_1 : decode cX3_written 1 = .ok (.getfield 37, 3) := by decide +kernel
theorem dX3_written_4 : decode cX3_written 4 = .ok (.invokevirtual 140, 3) := by decide +kernel
theorem dX3_written_7 : decode cX3_written 7 = .ok (.ireturn, 1) := by decide +kernel
set_option maxRecDepth 20000 in
theorem ggX3_isDown_X1_isOff : GoodIn wsX3_isDown wsX1_isOff := goodIn_r _ [6, 7, 15, 16, 17] (by decide +kernel) (by decide +kernel)
set_option maxRecDepth 20000 in
theorem gX3_isDown_X1_isOff : GoodIn wsX3_isDown (wsV RX3 55 RX1 yX1_isOff wsX1_isOff) := goodIn_app (goodIn_of _ (by decide +kernel)) ggX3_isDown_X1_isOff
theorem dX3_isDown_0 : decode cX3_isDown 0 = .ok (.aload_n 0, 1) := by decide +kernel
theorem dX3_isDown_1 : decode cX3_isDown 1 = .ok (.getfield 37, 3) := by decide +kernel
theorem dX3_isDown_4 : decode cX3_isDown 4 = .ok (.invokevirtual 55, 3) := by decide +kernel
theorem dX3_isDown_7 : decode cX3_isDown 7 = .ok (.ireturn, 1) := by decide +kernel
theorem dX3_isKey_0 : decode cX3_isKey 0 = .ok (.iload_n 0, 1) := by decide +kernel
theorem dX3_isKey_1 : decode cX3_isKey 1 = .ok (.ifCond .lt 14, 3) := by decide +kernel
theorem dX3_isKey_4 : decode cX3_isKey 4 = .ok (.iload_n 0, 1) := by decide +kernel
theorem dX3_isKey_5 : decode cX3_isKey 5 = .ok (.sipush 1024, 3) := by decide +kernel
theorem dX3_isKey_8 : decode cX3_isKey 8 = .ok (.if_icmp .ge 7, 3) := by decide +kernel
theorem dX3_isKey_11 : decode cX3_isKey 11 = .ok (.iconst 1, 1) := by decide +kernel
theorem dX3_isKey_12 : decode cX3_isKey 12 = .ok (.goto 4, 3) := by decide +kernel
theorem dX3_isKey_15 : decode cX3_isKey 15 = .ok (.iconst 0, 1) := by decide +kernel
theorem dX3_isKey_16 : decode cX3_isKey 16 = .ok (.ireturn, 1) := by decide +kernel
theorem dX3_pageOfRoot_0 : decode cX3_pageOfRoot 0 = .ok (.iload_n 0, 1) := by decide +kernel
theorem dX3_pageOfRoot_1 : decode cX3_pageOfRoot 1 = .ok (.bipush 8, 2) := by decide +kernel
theorem dX3_pageOfRoot_3 : decode cX3_pageOfRoot 3 = .ok (.irem, 1) := by decide +kernel
theorem dX3_pageOfRoot_4 : decode cX3_pageOfRoot 4 = .ok (.ireturn, 1) := by decide +kernel
theorem dX3_isKept_0 : decode cX3_isKept 0 = .ok (.iload_n 1, 1) := by decide +kernel
theorem dX3_isKept_1 : decode cX3_isKept 1 = .ok (.aload_n 0, 1) := by decide +kernel
theorem dX3_isKept_2 : decode cX3_isKept 2 = .ok (.getfield 52, 3) := by decide +kernel
theorem dX3_isKept_5 : decode cX3_isKept 5 = .ok (.if_icmp .lt 15, 3) := by decide +kernel
theorem dX3_isKept_8 : decode cX3_isKept 8 = .ok (.iload_n 1, 1) := by decide +kernel
theorem dX3_isKept_9 : decode cX3_isKept 9 = .ok (.aload_n 0, 1) := by decide +kernel
theorem dX3_isKept_10 : decode cX3_isKept 10 = .ok (.getfield 49, 3) := by decide +kernel
theorem dX3_isKept_13 : decode cX3_isKept 13 = .ok (.if_icmp .gt 7, 3) := by decide +kernel
theorem dX3_isKept_16 : decode cX3_isKept 16 = .ok (.iconst 1, 1) := by decide +kernel
theorem dX3_isKept_17 : decode cX3_isKept 17 = .ok (.goto 4, 3) := by decide +kernel
theorem dX3_isKept_20 : decode cX3_isKept 20 = .ok (.iconst 0, 1) := by decide +kernel
theorem dX3_isKept_21 : decode cX3_isKept 21 = .ok (.ireturn, 1) := by decide +kernel
set_option maxRecDepth 20000 in
theorem ggX3_refusalOfWriting_X1_isOff : GoodIn wsX3_refusalOfWriting wsX1_isOff := goodIn_r _ [10, 11, 77, 78, 79] (by decide +kernel) (by decide +kernel)
set_option maxRecDepth 20000 in
theorem gX3_refusalOfWriting_X1_isOff : GoodIn wsX3_refusalOfWriting (wsV RX3 55 RX1 yX1_isOff wsX1_isOff) := goodIn_app (goodIn_of _ (by decide +kernel)) ggX3_refusalOfWriting_X1_isOff
set_option maxRecDepth 20000 in
theorem ggX3_refusalOfWriting_X2_walk : GoodIn wsX3_refusalOfWriting wsX2_walk := goodIn_r _ [16, 17, 18, 19, 20, 21, 22, 23, 24, 25, 26, 15, 27, 28, 29, 30, 31, 32, 33, 34, 35, 36, 37, 38, 39, 40, 41, 42, 43, 44, 45, 46, 47, 48, 49, 50, 51, 52, 53, 54, 55, 56, 57, 58, 59, 60, 61, 62, 63, 64, 65, 80, 81, 82] (by decide +kernel) (by decide +kernel)
set_option maxRecDepth 20000 in
theorem gX3_refusalOfWriting_X2_walk : GoodIn wsX3_refusalOfWriting (wsV RX3 126 RX2 yX2_walk wsX2_walk) := goodIn_app (goodIn_of _ (by decide +kernel)) ggX3_refusalOfWriting_X2_walk
set_option maxRecDepth 20000 in
theorem ggX3_refusalOfWriting_X2_leastBad : GoodIn wsX3_refusalOfWriting wsX2_leastBad := goodIn_r _ [69, 17, 80] (by decide +kernel) (by decide +kernel)
set_option maxRecDepth 20000 in
theorem gX3_refusalOfWriting_X2_leastBad : GoodIn wsX3_refusalOfWriting (wsV RX3 130 RX2 yX2_leastBad wsX2_leastBad) := goodIn_app (goodIn_of _ (by decide +kernel)) ggX3_refusalOfWriting_X2_leastBad
theorem dX3_refusalOfWriting_0 : decode cX3_refusalOfWriting 0 = .ok (.aload_n 0, 1) := by decide +kernel
theorem dX3_refusalOfWriting_1 : decode cX3_refusalOfWriting 1 = .ok (.getfield 37, 3) := by decide +kernel
theorem dX3_refusalOfWriting_4 : decode cX3_refusalOfWriting 4 = .ok (.invokevirtual 55, 3) := by decide +kernel
theorem dX3_refusalOfWriting_7 : decode cX3_refusalOfWriting 7 = .ok (.ifCond .eq 6, 3) := by decide +kernel
theorem dX3_refusalOfWriting_10 : decode cX3_refusalOfWriting 10 = .ok (.bipush (-5), 2) := by decide +kernel
theorem dX3_refusalOfWriting_12 : decode cX3_refusalOfWriting 12 = .ok (.ireturn, 1) := by decide +kernel
theorem dX3_refusalOfWriting_13 : decode cX3_refusalOfWriting 13 = .ok (.iload_n 1, 1) := by decide +kernel
theorem dX3_refusalOfWriting_14 : decode cX3_refusalOfWriting 14 = .ok (.ifCond .ne 6, 3) := by decide +kernel
theorem dX3_refusalOfWriting_17 : decode cX3_refusalOfWriting 17 = .ok (.bipush (-2), 2) := by decide +kernel
theorem dX3_refusalOfWriting_19 : decode cX3_refusalOfWriting 19 = .ok (.ireturn, 1) := by decide +kernel
theorem dX3_refusalOfWriting_20 : decode cX3_refusalOfWriting 20 = .ok (.aload_n 0, 1) := by decide +kernel
theorem dX3_refusalOfWriting_21 : decode cX3_refusalOfWriting 21 = .ok (.getfield 30, 3) := by decide +kernel
theorem dX3_refusalOfWriting_24 : decode cX3_refusalOfWriting 24 = .ok (.aload_n 0, 1) := by decide +kernel
theorem dX3_refusalOfWriting_25 : decode cX3_refusalOfWriting 25 = .ok (.getfield 23, 3) := by decide +kernel
theorem dX3_refusalOfWriting_28 : decode cX3_refusalOfWriting 28 = .ok (.aload_n 0, 1) := by decide +kernel
theorem dX3_refusalOfWriting_29 : decode cX3_refusalOfWriting 29 = .ok (.getfield 52, 3) := by decide +kernel
theorem dX3_refusalOfWriting_32 : decode cX3_refusalOfWriting 32 = .ok (.aload_n 0, 1) := by decide +kernel
theorem dX3_refusalOfWriting_33 : decode cX3_refusalOfWriting 33 = .ok (.getfield 49, 3) := by decide +kernel
theorem dX3_refusalOfWriting_36 : decode cX3_refusalOfWriting 36 = .ok (.invokevirtual 126, 3) := by decide +kernel
theorem dX3_refusalOfWriting_39 : decode cX3_refusalOfWriting 39 = .ok (.aload_n 0, 1) := by decide +kernel
theorem dX3_refusalOfWriting_40 : decode cX3_refusalOfWriting 40 = .ok (.getfield 30, 3) := by decide +kernel
theorem dX3_refusalOfWriting_43 : decode cX3_refusalOfWriting 43 = .ok (.invokevirtual 130, 3) := by decide +kernel
theorem dX3_refusalOfWriting_46 : decode cX3_refusalOfWriting 46 = .ok (.iconst (-1), 1) := by decide +kernel
theorem dX3_refusalOfWriting_47 : decode cX3_refusalOfWriting 47 = .ok (.if_icmp .ne 7, 3) := by decide +kernel
theorem dX3_refusalOfWriting_50 : decode cX3_refusalOfWriting 50 = .ok (.iconst 0, 1) := by decide +kernel
theorem dX3_refusalOfWriting_51 : decode cX3_refusalOfWriting 51 = .ok (.goto 5, 3) := by decide +kernel
theorem dX3_refusalOfWriting_54 : decode cX3_refusalOfWriting 54 = .ok (.bipush (-4), 2) := by decide +kernel
theorem dX3_refusalOfWriting_56 : decode cX3_refusalOfWriting 56 = .ok (.ireturn, 1) := by decide +kernel
set_option maxRecDepth 20000 in
theorem ggX3_refusalOfReading_X1_isOff : GoodIn wsX3_refusalOfReading wsX1_isOff := goodIn_r _ [6, 7, 25, 26, 27] (by decide +kernel) (by decide +kernel)
set_option maxRecDepth 20000 in
theorem gX3_refusalOfReading_X1_isOff : GoodIn wsX3_refusalOfReading (wsV RX3 55 RX1 yX1_isOff wsX1_isOff) := goodIn_app (goodIn_of _ (by decide +kernel)) ggX3_refusalOfReading_X1_isOff
set_option maxRecDepth 20000 in
theorem ggX3_refusalOfReading_X3_isKept : GoodIn wsX3_refusalOfReading wsX3_isKept := goodIn_r _ [12, 13, 14, 18, 19, 20, 21, 22, 23, 24] (by decide +kernel) (by decide +kernel)
set_option maxRecDepth 20000 in
theorem gX3_refusalOfReading_X3_isKept : GoodIn wsX3_refusalOfReading (wsV RX3 83 RX3 yX3_isKept wsX3_isKept) := goodIn_app (goodIn_of _ (by decide +kernel)) ggX3_refusalOfReading_X3_isKept
set_option maxRecDepth 20000 in
theorem ggX3_refusalOfReading_X3_isKey : GoodIn wsX3_refusalOfReading wsX3_isKey := goodIn_r _ [17] (by decide +kernel) (by decide +kernel)
set_option maxRecDepth 20000 in
theorem gX3_refusalOfReading_X3_isKey : GoodIn wsX3_refusalOfReading (va_wsS RX3 59 yX3_isKey wsX3_isKey) := goodIn_app (goodIn_of _ (by decide +kernel)) ggX3_refusalOfReading_X3_isKey
theorem dX3_refusalOfReading_0 : decode cX3_refusalOfReading 0 = .ok (.aload_n 0, 1) := by decide +kernel
theorem dX3_refusalOfReading_1 : decode cX3_refusalOfReading 1 = .ok (.getfield 37, 3) := by decide +kernel
theorem dX3_refusalOfReading_4 : decode cX3_refusalOfReading 4 = .ok (.invokevirtual 55, 3) := by decide +kernel
theorem dX3_refusalOfReading_7 : decode cX3_refusalOfReading 7 = .ok (.ifCond .eq 6, 3) := by decide +kernel
theorem dX3_refusalOfReading_10 : decode cX3_refusalOfReading 10 = .ok (.bipush (-5), 2) := by decide +kernel
theorem dX3_refusalOfReading_12 : decode cX3_refusalOfReading 12 = .ok (.ireturn, 1) := by decide +kernel
theorem dX3_refusalOfReading_13 : decode cX3_refusalOfReading 13 = .ok (.aload_n 0, 1) := by decide +kernel
theorem dX3_refusalOfReading_14 : decode cX3_refusalOfReading 14 = .ok (.iload_n 1, 1) := by decide +kernel
theorem dX3_refusalOfReading_15 : decode cX3_refusalOfReading 15 = .ok (.invokevirtual 83, 3) := by decide +kernel
theorem dX3_refusalOfReading_18 : decode cX3_refusalOfReading 18 = .ok (.ifCond .eq 14, 3) := by decide +kernel
theorem dX3_refusalOfReading_21 : decode cX3_refusalOfReading 21 = .ok (.iload_n 2, 1) := by decide +kernel
theorem dX3_refusalOfReading_22 : decode cX3_refusalOfReading 22 = .ok (.invokestatic 59, 3) := by decide +kernel
theorem dX3_refusalOfReading_25 : decode cX3_refusalOfReading 25 = .ok (.ifCond .eq 7, 3) := by decide +kernel
theorem dX3_refusalOfReading_28 : decode cX3_refusalOfReading 28 = .ok (.iconst 0, 1) := by decide +kernel
theorem dX3_refusalOfReading_29 : decode cX3_refusalOfReading 29 = .ok (.goto 5, 3) := by decide +kernel
theorem dX3_refusalOfReading_32 : decode cX3_refusalOfReading 32 = .ok (.bipush (-2), 2) := by decide +kernel
theorem dX3_refusalOfReading_34 : decode cX3_refusalOfReading 34 = .ok (.ireturn, 1) := by decide +kernel
set_option maxRecDepth 20000 in
theorem ggX3_lookUp_X3_refusalOfReading : GoodIn wsX3_lookUp wsX3_refusalOfReading := goodIn_r _ [5, 6, 7, 8, 9, 10, 11, 12, 13, 14, 15, 4, 16, 17, 18, 19, 20, 21, 60, 61, 62, 63, 64, 65, 66, 67, 68, 69] (by decide +kernel) (by decide +kernel)
set_option maxRecDepth 20000 in
theorem gX3_lookUp_X3_refusalOfReading : GoodIn wsX3_lookUp (wsV RX3 102 RX3 yX3_refusalOfReading wsX3_refusalOfReading) := goodIn_app (goodIn_of _ (by decide +kernel)) ggX3_lookUp_X3_refusalOfReading
set_option maxRecDepth 20000 in
theorem ggX3_lookUp_X3_pageOfThing : GoodIn wsX3_lookUp wsX3_pageOfThing := goodIn_r _ [25, 26, 27, 28, 4, 29, 30, 31, 32, 33, 34, 35, 36, 37, 38, 39, 40, 41, 42, 43, 44, 45, 46, 47, 48, 49, 50, 51, 52, 53, 54, 55, 56, 57, 58, 59, 60, 61, 62, 63, 64, 65, 66, 70, 71] (by decide +kernel) (by decide +kernel)
set_option maxRecDepth 20000 in
theorem gX3_lookUp_X3_pageOfThing : GoodIn wsX3_lookUp (wsV RX3 80 RX3 yX3_pageOfThing wsX3_pageOfThing) := goodIn_app (goodIn_of _ (by decide +kernel)) ggX3_lookUp_X3_pageOfThing
theorem dX3_lookUp_0 : decode cX3_lookUp 0 = .ok (.aload_n 0, 1) := by decide +kernel
theorem dX3_lookUp_1 : decode cX3_lookUp 1 = .ok (.iload_n 1, 1) := by decide +kernel
theorem dX3_lookUp_2 : decode cX3_lookUp 2 = .ok (.iload_n 2, 1) := by decide +kernel
theorem dX3_lookUp_3 : decode cX3_lookUp 3 = .ok (.invokevirtual 102, 3) := by decide +kernel
theorem dX3_lookUp_6 : decode cX3_lookUp 6 = .ok (.istore_n 3, 1) := by decide +kernel
theorem dX3_lookUp_7 : decode cX3_lookUp 7 = .ok (.iload_n 3, 1) := by decide +kernel
theorem dX3_lookUp_8 : decode cX3_lookUp 8 = .ok (.ifCond .eq 7, 3) := by decide +kernel
theorem dX3_lookUp_11 : decode cX3_lookUp 11 = .ok (.iload_n 3, 1) := by decide +kernel
theorem dX3_lookUp_12 : decode cX3_lookUp 12 = .ok (.goto 9, 3) := by decide +kernel
theorem dX3_lookUp_15 : decode cX3_lookUp 15 = .ok (.aload_n 0, 1) := by decide +kernel
theorem dX3_lookUp_16 : decode cX3_lookUp 16 = .ok (.iload_n 1, 1) := by decide +kernel
theorem dX3_lookUp_17 : decode cX3_lookUp 17 = .ok (.iload_n 2, 1) := by decide +kernel
theorem dX3_lookUp_18 : decode cX3_lookUp 18 = .ok (.invokevirtual 80, 3) := by decide +kernel
theorem dX3_lookUp_21 : decode cX3_lookUp 21 = .ok (.ireturn, 1) := by decide +kernel
set_option maxRecDepth 20000 in
theorem ggX3_pageOfThing_X3_pageOfRoot : GoodIn wsX3_pageOfThing wsX3_pageOfRoot := goodIn_r _ [5] (by decide +kernel) (by decide +kernel)
set_option maxRecDepth 20000 in
theorem gX3_pageOfThing_X3_pageOfRoot : GoodIn wsX3_pageOfThing (va_wsS RX3 86 yX3_pageOfRoot wsX3_pageOfRoot) := goodIn_app (goodIn_of _ (by decide +kernel)) ggX3_pageOfThing_X3_pageOfRoot
set_option maxRecDepth 20000 in
theorem ggX3_pageOfThing_X0_isRight : GoodIn wsX3_pageOfThing wsX0_isRight := goodIn_r _ [10, 11, 12, 13, 9, 14, 15, 16, 17, 18, 19, 20, 21, 22, 23, 24, 25, 26, 27, 28, 29, 3, 4, 5, 30, 31, 32, 33, 34, 43, 44] (by decide +kernel) (by decide +kernel)
set_option maxRecDepth 20000 in
theorem gX3_pageOfThing_X0_isRight : GoodIn wsX3_pageOfThing (wsV RX3 105 RX0 yX0_isRight wsX0_isRight) := goodIn_app (goodIn_of _ (by decide +kernel)) ggX3_pageOfThing_X0_isRight
set_option maxRecDepth 20000 in
theorem ggX3_pageOfThing_X0_at : GoodIn wsX3_pageOfThing wsX0_at := goodIn_r _ [14, 15, 43, 44] (by decide +kernel) (by decide +kernel)
set_option maxRecDepth 20000 in
theorem gX3_pageOfThing_X0_at : GoodIn wsX3_pageOfThing (wsV RX3 99 RX0 yX0_at wsX0_at) := goodIn_app (goodIn_of _ (by decide +kernel)) ggX3_pageOfThing_X0_at
theorem dX3_pageOfThing_0 : decode cX3_pageOfThing 0 = .ok (.iload_n 1, 1) := by decide +kernel
theorem dX3_pageOfThing_1 : decode cX3_pageOfThing 1 = .ok (.invokestatic 86, 3) := by decide +kernel
theorem dX3_pageOfThing_4 : decode cX3_pageOfThing 4 = .ok (.istore_n 3, 1) := by decide +kernel
theorem dX3_pageOfThing_5 : decode cX3_pageOfThing 5 = .ok (.aload_n 0, 1) := by decide +kernel
theorem dX3_pageOfThing_6 : decode cX3_pageOfThing 6 = .ok (.getfield 23, 3) := by decide +kernel
theorem dX3_pageOfThing_9 : decode cX3_pageOfThing 9 = .ok (.iload_n 3, 1) := by decide +kernel
theorem dX3_pageOfThing_10 : decode cX3_pageOfThing 10 = .ok (.iconst 1, 1) := by decide +kernel
theorem dX3_pageOfThing_11 : decode cX3_pageOfThing 11 = .ok (.invokevirtual 105, 3) := by decide +kernel
theorem dX3_pageOfThing_14 : decode cX3_pageOfThing 14 = .ok (.ifCond .ne 6, 3) := by decide +kernel
theorem dX3_pageOfThing_17 : decode cX3_pageOfThing 17 = .ok (.bipush (-4), 2) := by decide +kernel
theorem dX3_pageOfThing_19 : decode cX3_pageOfThing 19 = .ok (.ireturn, 1) := by decide +kernel
theorem dX3_pageOfThing_20 : decode cX3_pageOfThing 20 = .ok (.aload_n 0, 1) := by decide +kernel
theorem dX3_pageOfThing_21 : decode cX3_pageOfThing 21 = .ok (.getfield 23, 3) := by decide +kernel
theorem dX3_pageOfThing_24 : decode cX3_pageOfThing 24 = .ok (.iload_n 3, 1) := by decide +kernel
theorem dX3_pageOfThing_25 : decode cX3_pageOfThing 25 = .ok (.bipush 9, 2) := by decide +kernel
theorem dX3_pageOfThing_27 : decode cX3_pageOfThing 27 = .ok (.iload_n 2, 1) := by decide +kernel
theorem dX3_pageOfThing_28 : decode cX3_pageOfThing 28 = .ok (.bipush 32, 2) := by decide +kernel
theorem dX3_pageOfThing_30 : decode cX3_pageOfThing 30 = .ok (.idiv, 1) := by decide +kernel
theorem dX3_pageOfThing_31 : decode cX3_pageOfThing 31 = .ok (.iadd, 1) := by decide +kernel
theorem dX3_pageOfThing_32 : decode cX3_pageOfThing 32 = .ok (.invokevirtual 99, 3) := by decide +kernel
theorem dX3_pageOfThing_35 : decode cX3_pageOfThing 35 = .ok (.istore 4, 2) := by decide +kernel
theorem dX3_pageOfThing_37 : decode cX3_pageOfThing 37 = .ok (.iload 4, 2) := by decide +kernel
theorem dX3_pageOfThing_39 : decode cX3_pageOfThing 39 = .ok (.ifCond .ne 5, 3) := by decide +kernel
theorem dX3_pageOfThing_42 : decode cX3_pageOfThing 42 = .ok (.iconst (-1), 1) := by decide +kernel
theorem dX3_pageOfThing_43 : decode cX3_pageOfThing 43 = .ok (.ireturn, 1) := by decide +kernel
theorem dX3_pageOfThing_44 : decode cX3_pageOfThing 44 = .ok (.aload_n 0, 1) := by decide +kernel
theorem dX3_pageOfThing_45 : decode cX3_pageOfThing 45 = .ok (.getfield 23, 3) := by decide +kernel
theorem dX3_pageOfThing_48 : decode cX3_pageOfThing 48 = .ok (.iload 4, 2) := by decide +kernel
theorem dX3_pageOfThing_50 : decode cX3_pageOfThing 50 = .ok (.iconst 2, 1) := by decide +kernel
theorem dX3_pageOfThing_51 : decode cX3_pageOfThing 51 = .ok (.invokevirtual 105, 3) := by decide +kernel
theorem dX3_pageOfThing_54 : decode cX3_pageOfThing 54 = .ok (.ifCond .ne 6, 3) := by decide +kernel
theorem dX3_pageOfThing_57 : decode cX3_pageOfThing 57 = .ok (.bipush (-4), 2) := by decide +kernel
theorem dX3_pageOfThing_59 : decode cX3_pageOfThing 59 = .ok (.ireturn, 1) := by decide +kernel
theorem dX3_pageOfThing_60 : decode cX3_pageOfThing 60 = .ok (.aload_n 0, 1) := by decide +kernel
theorem dX3_pageOfThing_61 : decode cX3_pageOfThing 61 = .ok (.getfield 23, 3) := by decide +kernel
theorem dX3_pageOfThing_64 : decode cX3_pageOfThing 64 = .ok (.iload 4, 2) := by decide +kernel
theorem dX3_pageOfThing_66 : decode cX3_pageOfThing 66 = .ok (.iconst 2, 1) := by decide +kernel
theorem dX3_pageOfThing_67 : decode cX3_pageOfThing 67 = .ok (.iload_n 2, 1) := by decide +kernel
theorem dX3_pageOfThing_68 : decode cX3_pageOfThing 68 = .ok (.bipush 32, 2) := by decide +kernel
theorem dX3_pageOfThing_70 : decode cX3_pageOfThing 70 = .ok (.irem, 1) := by decide +kernel
theorem dX3_pageOfThing_71 : decode cX3_pageOfThing 71 = .ok (.iadd, 1) := by decide +kernel
theorem dX3_pageOfThing_72 : decode cX3_pageOfThing 72 = .ok (.invokevirtual 99, 3) := by decide +kernel
theorem dX3_pageOfThing_75 : decode cX3_pageOfThing 75 = .ok (.istore 5, 2) := by decide +kernel
theorem dX3_pageOfThing_77 : decode cX3_pageOfThing 77 = .ok (.iload 5, 2) := by decide +kernel
theorem dX3_pageOfThing_79 : decode cX3_pageOfThing 79 = .ok (.ifCond .ne 5, 3) := by decide +kernel
theorem dX3_pageOfThing_82 : decode cX3_pageOfThing 82 = .ok (.iconst (-1), 1) := by decide +kernel
theorem dX3_pageOfThing_83 : decode cX3_pageOfThing 83 = .ok (.ireturn, 1) := by decide +kernel
theorem dX3_pageOfThing_84 : decode cX3_pageOfThing 84 = .ok (.aload_n 0, 1) := by decide +kernel
theorem dX3_pageOfThing_85 : decode cX3_pageOfThing 85 = .ok (.getfield 23, 3) := by decide +kernel
theorem dX3_pageOfThing_88 : decode cX3_pageOfThing 88 = .ok (.iload 5, 2) := by decide +kernel
theorem dX3_pageOfThing_90 : decode cX3_pageOfThing 90 = .ok (.iconst 3, 1) := by decide +kernel
theorem dX3_pageOfThing_91 : decode cX3_pageOfThing 91 = .ok (.invokevirtual 105, 3) := by decide +kernel
theorem dX3_pageOfThing_94 : decode cX3_pageOfThing 94 = .ok (.ifCond .eq 8, 3) := by decide +kernel
theorem dX3_pageOfThing_97 : decode cX3_pageOfThing 97 = .ok (.iload 5, 2) := by decide +kernel
theorem dX3_pageOfThing_99 : decode cX3_pageOfThing 99 = .ok (.goto 5, 3) := by decide +kernel
theorem dX3_pageOfThing_102 : decode cX3_pageOfThing 102 = .ok (.bipush (-4), 2) := by decide +kernel
theorem dX3_pageOfThing_104 : decode cX3_pageOfThing 104 = .ok (.ireturn, 1) := by decide +kernel
set_option maxRecDepth 20000 in
theorem ggX3_nextThing_X0_isRight : GoodIn wsX3_nextThing wsX0_isRight := goodIn_r _ [6, 7, 8, 9, 5, 10, 11, 12, 13, 14, 15, 16, 17, 18, 19, 20, 21, 22, 23, 24, 25, 26, 27, 28, 29, 30, 31, 32, 33, 42, 43] (by decide +kernel) (by decide +kernel)
set_option maxRecDepth 20000 in
theorem gX3_nextThing_X0_isRight : GoodIn wsX3_nextThing (wsV RX3 105 RX0 yX0_isRight wsX0_isRight) := goodIn_app (goodIn_of _ (by decide +kernel)) ggX3_nextThing_X0_isRight
set_option maxRecDepth 20000 in
theorem ggX3_nextThing_X0_at : GoodIn wsX3_nextThing wsX0_at := goodIn_r _ [10, 11, 42, 43] (by decide +kernel) (by decide +kernel)
set_option maxRecDepth 20000 in
theorem gX3_nextThing_X0_at : GoodIn wsX3_nextThing (wsV RX3 99 RX0 yX0_at wsX0_at) := goodIn_app (goodIn_of _ (by decide +kernel)) ggX3_nextThing_X0_at
theorem dX3_nextThing_0 : decode cX3_nextThing 0 = .ok (.iload_n 1, 1) := by decide +kernel
theorem dX3_nextThing_1 : decode cX3_nextThing 1 = .ok (.ifCond .ne 5, 3) := by decide +kernel
theorem dX3_nextThing_4 : decode cX3_nextThing 4 = .ok (.iconst (-1), 1) := by decide +kernel
theorem dX3_nextThing_5 : decode cX3_nextThing 5 = .ok (.ireturn, 1) := by decide +kernel
theorem dX3_nextThing_6 : decode cX3_nextThing 6 = .ok (.aload_n 0, 1) := by decide +kernel
theorem dX3_nextThing_7 : decode cX3_nextThing 7 = .ok (.getfield 23, 3) := by decide +kernel
theorem dX3_nextThing_10 : decode cX3_nextThing 10 = .ok (.iload_n 1, 1) := by decide +kernel
theorem dX3_nextThing_11 : decode cX3_nextThing 11 = .ok (.iconst 2, 1) := by decide +kernel
theorem dX3_nextThing_12 : decode cX3_nextThing 12 = .ok (.invokevirtual 105, 3) := by decide +kernel
theorem dX3_nextThing_15 : decode cX3_nextThing 15 = .ok (.ifCond .ne 6, 3) := by decide +kernel
theorem dX3_nextThing_18 : decode cX3_nextThing 18 = .ok (.bipush (-4), 2) := by decide +kernel
theorem dX3_nextThing_20 : decode cX3_nextThing 20 = .ok (.ireturn, 1) := by decide +kernel
theorem dX3_nextThing_21 : decode cX3_nextThing 21 = .ok (.iload_n 2, 1) := by decide +kernel
theorem dX3_nextThing_22 : decode cX3_nextThing 22 = .ok (.istore_n 3, 1) := by decide +kernel
theorem dX3_nextThing_23 : decode cX3_nextThing 23 = .ok (.iload_n 3, 1) := by decide +kernel
theorem dX3_nextThing_24 : decode cX3_nextThing 24 = .ok (.bipush 32, 2) := by decide +kernel
theorem dX3_nextThing_26 : decode cX3_nextThing 26 = .ok (.if_icmp .ge 25, 3) := by decide +kernel
theorem dX3_nextThing_29 : decode cX3_nextThing 29 = .ok (.aload_n 0, 1) := by decide +kernel
theorem dX3_nextThing_30 : decode cX3_nextThing 30 = .ok (.getfield 23, 3) := by decide +kernel
theorem dX3_nextThing_33 : decode cX3_nextThing 33 = .ok (.iload_n 1, 1) := by decide +kernel
theorem dX3_nextThing_34 : decode cX3_nextThing 34 = .ok (.iconst 2, 1) := by decide +kernel
theorem dX3_nextThing_35 : decode cX3_nextThing 35 = .ok (.iload_n 3, 1) := by decide +kernel
theorem dX3_nextThing_36 : decode cX3_nextThing 36 = .ok (.iadd, 1) := by decide +kernel
theorem dX3_nextThing_37 : decode cX3_nextThing 37 = .ok (.invokevirtual 99, 3) := by decide +kernel
theorem dX3_nextThing_40 : decode cX3_nextThing 40 = .ok (.ifCond .eq 5, 3) := by decide +kernel
theorem dX3_nextThing_43 : decode cX3_nextThing 43 = .ok (.iload_n 3, 1) := by decide +kernel
theorem dX3_nextThing_44 : decode cX3_nextThing 44 = .ok (.ireturn, 1) := by decide +kernel
theorem dX3_nextThing_45 : decode cX3_nextThing 45 = .ok (.iinc 3 1, 3) := by decide +kernel
theorem dX3_nextThing_48 : decode cX3_nextThing 48 = .ok (.goto (-25), 3) := by decide +kernel
theorem dX3_nextThing_51 : decode cX3_nextThing 51 = .ok (.iconst (-1), 1) := by decide +kernel
theorem dX3_nextThing_52 : decode cX3_nextThing 52 = .ok (.ireturn, 1) := by decide +kernel
set_option maxRecDepth 20000 in
theorem ggX3_keysOfNewest_X3_pageOfRoot : GoodIn wsX3_keysOfNewest wsX3_pageOfRoot := goodIn_r _ [6] (by decide +kernel) (by decide +kernel)
set_option maxRecDepth 20000 in
theorem gX3_keysOfNewest_X3_pageOfRoot : GoodIn wsX3_keysOfNewest (va_wsS RX3 86 yX3_pageOfRoot wsX3_pageOfRoot) := goodIn_app (goodIn_of _ (by decide +kernel)) ggX3_keysOfNewest_X3_pageOfRoot
set_option maxRecDepth 20000 in
theorem ggX3_keysOfNewest_X0_isRight : GoodIn wsX3_keysOfNewest wsX0_isRight := goodIn_r _ [11, 12, 13, 14, 10, 15, 16, 17, 18, 19, 20, 21, 22, 23, 24, 25, 26, 27, 28, 29, 30, 4, 5, 6, 31, 32, 33, 34, 35, 48, 49] (by decide +kernel) (by decide +kernel)
set_option maxRecDepth 20000 in
theorem gX3_keysOfNewest_X0_isRight : GoodIn wsX3_keysOfNewest (wsV RX3 105 RX0 yX0_isRight wsX0_isRight) := goodIn_app (goodIn_of _ (by decide +kernel)) ggX3_keysOfNewest_X0_isRight
set_option maxRecDepth 20000 in
theorem ggX3_keysOfNewest_X0_at : GoodIn wsX3_keysOfNewest wsX0_at := goodIn_r _ [15, 16, 48, 49] (by decide +kernel) (by decide +kernel)
set_option maxRecDepth 20000 in
theorem gX3_keysOfNewest_X0_at : GoodIn wsX3_keysOfNewest (wsV RX3 99 RX0 yX0_at wsX0_at) := goodIn_app (goodIn_of _ (by decide +kernel)) ggX3_keysOfNewest_X0_at
set_option maxRecDepth 20000 in
theorem ggX3_keysOfNewest_X0_pagesTold : GoodIn wsX3_keysOfNewest wsX0_pagesTold := goodIn_r _ [40, 12, 13, 14, 10, 15, 16, 48, 49] (by decide +kernel) (by decide +kernel)
set_option maxRecDepth 20000 in
theorem gX3_keysOfNewest_X0_pagesTold : GoodIn wsX3_keysOfNewest (wsV RX3 143 RX0 yX0_pagesTold wsX0_pagesTold) := goodIn_app (goodIn_of _ (by decide +kernel)) ggX3_keysOfNewest_X0_pagesTold
theorem dX3_keysOfNewest_0 : decode cX3_keysOfNewest 0 = .ok (.aload_n 0, 1) := by decide +kernel
theorem dX3_keysOfNewest_1 : decode cX3_keysOfNewest 1 = .ok (.getfield 49, 3) := by decide +kernel
theorem dX3_keysOfNewest_4 : decode cX3_keysOfNewest 4 = .ok (.invokestatic 86, 3) := by decide +kernel
theorem dX3_keysOfNewest_7 : decode cX3_keysOfNewest 7 = .ok (.istore_n 1, 1) := by decide +kernel
theorem dX3_keysOfNewest_8 : decode cX3_keysOfNewest 8 = .ok (.aload_n 0, 1) := by decide +kernel
theorem dX3_keysOfNewest_9 : decode cX3_keysOfNewest 9 = .ok (.getfield 49, 3) := by decide +kernel
theorem dX3_keysOfNewest_12 : decode cX3_keysOfNewest 12 = .ok (.ifCond .eq 15, 3) := by decide +kernel
theorem dX3_keysOfNewest_15 : decode cX3_keysOfNewest 15 = .ok (.aload_n 0, 1) := by decide +kernel
theorem dX3_keysOfNewest_16 : decode cX3_keysOfNewest 16 = .ok (.getfield 23, 3) := by decide +kernel
theorem dX3_keysOfNewest_19 : decode cX3_keysOfNewest 19 = .ok (.iload_n 1, 1) := by decide +kernel
theorem dX3_keysOfNewest_20 : decode cX3_keysOfNewest 20 = .ok (.iconst 1, 1) := by decide +kernel
theorem dX3_keysOfNewest_21 : decode cX3_keysOfNewest 21 = .ok (.invokevirtual 105, 3) := by decide +kernel
theorem dX3_keysOfNewest_24 : decode cX3_keysOfNewest 24 = .ok (.ifCond .ne 5, 3) := by decide +kernel
theorem dX3_keysOfNewest_27 : decode cX3_keysOfNewest 27 = .ok (.iconst 0, 1) := by decide +kernel
theorem dX3_keysOfNewest_28 : decode cX3_keysOfNewest 28 = .ok (.ireturn, 1) := by decide +kernel
theorem dX3_keysOfNewest_29 : decode cX3_keysOfNewest 29 = .ok (.iconst 0, 1) := by decide +kernel
theorem dX3_keysOfNewest_30 : decode cX3_keysOfNewest 30 = .ok (.istore_n 2, 1) := by decide +kernel
theorem dX3_keysOfNewest_31 : decode cX3_keysOfNewest 31 = .ok (.iconst 0, 1) := by decide +kernel
theorem dX3_keysOfNewest_32 : decode cX3_keysOfNewest 32 = .ok (.istore_n 3, 1) := by decide +kernel
theorem dX3_keysOfNewest_33 : decode cX3_keysOfNewest 33 = .ok (.iload_n 3, 1) := by decide +kernel
theorem dX3_keysOfNewest_34 : decode cX3_keysOfNewest 34 = .ok (.bipush 32, 2) := by decide +kernel
theorem dX3_keysOfNewest_36 : decode cX3_keysOfNewest 36 = .ok (.if_icmp .ge 56, 3) := by decide +kernel
theorem dX3_keysOfNewest_39 : decode cX3_keysOfNewest 39 = .ok (.aload_n 0, 1) := by decide +kernel
theorem dX3_keysOfNewest_40 : decode cX3_keysOfNewest 40 = .ok (.getfield 23, 3) := by decide +kernel
theorem dX3_keysOfNewest_43 : decode cX3_keysOfNewest 43 = .ok (.iload_n 1, 1) := by decide +kernel
theorem dX3_keysOfNewest_44 : decode cX3_keysOfNewest 44 = .ok (.bipush 9, 2) := by decide +kernel
theorem dX3_keysOfNewest_46 : decode cX3_keysOfNewest 46 = .ok (.iload_n 3, 1) := by decide +kernel
theorem dX3_keysOfNewest_47 : decode cX3_keysOfNewest 47 = .ok (.iadd, 1) := by decide +kernel
theorem dX3_keysOfNewest_48 : decode cX3_keysOfNewest 48 = .ok (.invokevirtual 99, 3) := by decide +kernel
theorem dX3_keysOfNewest_51 : decode cX3_keysOfNewest 51 = .ok (.istore 4, 2) := by decide +kernel
theorem dX3_keysOfNewest_53 : decode cX3_keysOfNewest 53 = .ok (.iload 4, 2) := by decide +kernel
theorem dX3_keysOfNewest_55 : decode cX3_keysOfNewest 55 = .ok (.ifCond .eq 31, 3) := by decide +kernel
theorem dX3_keysOfNewest_58 : decode cX3_keysOfNewest 58 = .ok (.aload_n 0, 1) := by decide +kernel
theorem dX3_keysOfNewest_59 : decode cX3_keysOfNewest 59 = .ok (.getfield 23, 3) := by decide +kernel
theorem dX3_keysOfNewest_62 : decode cX3_keysOfNewest 62 = .ok (.iload 4, 2) := by decide +kernel
theorem dX3_keysOfNewest_64 : decode cX3_keysOfNewest 64 = .ok (.iconst 2, 1) := by decide +kernel
theorem dX3_keysOfNewest_65 : decode cX3_keysOfNewest 65 = .ok (.invokevirtual 105, 3) := by decide +kernel
theorem dX3_keysOfNewest_68 : decode cX3_keysOfNewest 68 = .ok (.ifCond .eq 18, 3) := by decide +kernel
theorem dX3_keysOfNewest_71 : decode cX3_keysOfNewest 71 = .ok (.iload_n 2, 1) := by decide +kernel
theorem dX3_keysOfNewest_72 : decode cX3_keysOfNewest 72 = .ok (.aload_n 0, 1) := by decide +kernel
theorem dX3_keysOfNewest_73 : decode cX3_keysOfNewest 73 = .ok (.getfield 23, 3) := by decide +kernel
theorem dX3_keysOfNewest_76 : decode cX3_keysOfNewest 76 = .ok (.iload 4, 2) := by decide +kernel
theorem dX3_keysOfNewest_78 : decode cX3_keysOfNewest 78 = .ok (.iconst 2, 1) := by decide +kernel
theorem dX3_keysOfNewest_79 : decode cX3_keysOfNewest 79 = .ok (.bipush 32, 2) := by decide +kernel
theorem dX3_keysOfNewest_81 : decode cX3_keysOfNewest 81 = .ok (.invokevirtual 143, 3) := by decide +kernel
theorem dX3_keysOfNewest_84 : decode cX3_keysOfNewest 84 = .ok (.iadd, 1) := by decide +kernel
theorem dX3_keysOfNewest_85 : decode cX3_keysOfNewest 85 = .ok (.istore_n 2, 1) := by decide +kernel
theorem dX3_keysOfNewest_86 : decode cX3_keysOfNewest 86 = .ok (.iinc 3 1, 3) := by decide +kernel
theorem dX3_keysOfNewest_89 : decode cX3_keysOfNewest 89 = .ok (.goto (-56), 3) := by decide +kernel
theorem dX3_keysOfNewest_92 : decode cX3_keysOfNewest 92 = .ok (.iload_n 2, 1) := by decide +kernel
theorem dX3_keysOfNewest_93 : decode cX3_keysOfNewest 93 = .ok (.ireturn, 1) := by decide +kernel
set_option maxRecDepth 20000 in
theorem ggX3_writeThing_X0_begin : GoodIn wsX3_writeThing wsX0_begin := goodIn_r _ [8, 9, 10, 11, 12, 13, 14, 15, 16, 17, 18, 19, 7, 20, 64, 65] (by decide +kernel) (by decide +kernel)
set_option maxRecDepth 20000 in
theorem gX3_writeThing_X0_begin : GoodIn wsX3_writeThing (wsV RX3 146 RX0 yX0_begin wsX0_begin) := goodIn_app (goodIn_of _ (by decide +kernel)) ggX3_writeThing_X0_begin
set_option maxRecDepth 20000 in
theorem ggX3_writeThing_X0_set : GoodIn wsX3_writeThing wsX0_set := goodIn_r _ [20, 9, 64, 65] (by decide +kernel) (by decide +kernel)
set_option maxRecDepth 20000 in
theorem gX3_writeThing_X0_set : GoodIn wsX3_writeThing (wsV RX3 123 RX0 yX0_set wsX0_set) := goodIn_app (goodIn_of _ (by decide +kernel)) ggX3_writeThing_X0_set
set_option maxRecDepth 20000 in
theorem ggX3_writeThing_X3_finishPage : GoodIn wsX3_writeThing wsX3_finishPage := goodIn_r _ [26, 1, 27, 28, 29, 30, 7, 31, 32, 33, 34, 35, 36, 37, 38, 39, 40, 9, 41, 42, 43, 44, 45, 46, 47, 48, 49, 50, 51, 52, 53, 54, 55, 56, 57, 58, 59, 60, 61, 62, 63, 64, 65, 66, 67, 68] (by decide +kernel) (by decide +kernel)
set_option maxRecDepth 20000 in
theorem gX3_writeThing_X3_finishPage : GoodIn wsX3_writeThing (wsV RX3 93 RX3 yX3_finishPage wsX3_finishPage) := goodIn_app (goodIn_of _ (by decide +kernel)) ggX3_writeThing_X3_finishPage
theorem dX3_writeThing_0 : decode cX3_writeThing 0 = .ok (.aload_n 0, 1) := by decide +kernel
theorem dX3_writeThing_1 : decode cX3_writeThing 1 = .ok (.getfield 23, 3) := by decide +kernel
theorem dX3_writeThing_4 : decode cX3_writeThing 4 = .ok (.iload_n 1, 1) := by decide +kernel
theorem dX3_writeThing_5 : decode cX3_writeThing 5 = .ok (.iconst 3, 1) := by decide +kernel
theorem dX3_writeThing_6 : decode cX3_writeThing 6 = .ok (.invokevirtual 146, 3) := by decide +kernel
theorem dX3_writeThing_9 : decode cX3_writeThing 9 = .ok (.aload_n 0, 1) := by decide +kernel
theorem dX3_writeThing_10 : decode cX3_writeThing 10 = .ok (.getfield 23, 3) := by decide +kernel
theorem dX3_writeThing_13 : decode cX3_writeThing 13 = .ok (.iload_n 1, 1) := by decide +kernel
theorem dX3_writeThing_14 : decode cX3_writeThing 14 = .ok (.iconst 1, 1) := by decide +kernel
theorem dX3_writeThing_15 : decode cX3_writeThing 15 = .ok (.iload_n 2, 1) := by decide +kernel
theorem dX3_writeThing_16 : decode cX3_writeThing 16 = .ok (.sipush 256, 3) := by decide +kernel
theorem dX3_writeThing_19 : decode cX3_writeThing 19 = .ok (.idiv, 1) := by decide +kernel
theorem dX3_writeThing_20 : decode cX3_writeThing 20 = .ok (.invokevirtual 123, 3) := by decide +kernel
theorem dX3_writeThing_23 : decode cX3_writeThing 23 = .ok (.aload_n 0, 1) := by decide +kernel
theorem dX3_writeThing_24 : decode cX3_writeThing 24 = .ok (.getfield 23, 3) := by decide +kernel
theorem dX3_writeThing_27 : decode cX3_writeThing 27 = .ok (.iload_n 1, 1) := by decide +kernel
theorem dX3_writeThing_28 : decode cX3_writeThing 28 = .ok (.iconst 2, 1) := by decide +kernel
theorem dX3_writeThing_29 : decode cX3_writeThing 29 = .ok (.iload_n 2, 1) := by decide +kernel
theorem dX3_writeThing_30 : decode cX3_writeThing 30 = .ok (.sipush 256, 3) := by decide +kernel
theorem dX3_writeThing_33 : decode cX3_writeThing 33 = .ok (.irem, 1) := by decide +kernel
theorem dX3_writeThing_34 : decode cX3_writeThing 34 = .ok (.invokevirtual 123, 3) := by decide +kernel
theorem dX3_writeThing_37 : decode cX3_writeThing 37 = .ok (.aload_n 0, 1) := by decide +kernel
theorem dX3_writeThing_38 : decode cX3_writeThing 38 = .ok (.getfield 23, 3) := by decide +kernel
theorem dX3_writeThing_41 : decode cX3_writeThing 41 = .ok (.iload_n 1, 1) := by decide +kernel
theorem dX3_writeThing_42 : decode cX3_writeThing 42 = .ok (.iconst 3, 1) := by decide +kernel
theorem dX3_writeThing_43 : decode cX3_writeThing 43 = .ok (.aload_n 0, 1) := by decide +kernel
theorem dX3_writeThing_44 : decode cX3_writeThing 44 = .ok (.getfield 45, 3) := by decide +kernel
theorem dX3_writeThing_47 : decode cX3_writeThing 47 = .ok (.invokevirtual 123, 3) := by decide +kernel
theorem dX3_writeThing_50 : decode cX3_writeThing 50 = .ok (.iconst 0, 1) := by decide +kernel
theorem dX3_writeThing_51 : decode cX3_writeThing 51 = .ok (.istore_n 3, 1) := by decide +kernel
theorem dX3_writeThing_52 : decode cX3_writeThing 52 = .ok (.iload_n 3, 1) := by decide +kernel
theorem dX3_writeThing_53 : decode cX3_writeThing 53 = .ok (.aload_n 0, 1) := by decide +kernel
theorem dX3_writeThing_54 : decode cX3_writeThing 54 = .ok (.getfield 45, 3) := by decide +kernel
theorem dX3_writeThing_57 : decode cX3_writeThing 57 = .ok (.if_icmp .ge 26, 3) := by decide +kernel
theorem dX3_writeThing_60 : decode cX3_writeThing 60 = .ok (.aload_n 0, 1) := by decide +kernel
theorem dX3_writeThing_61 : decode cX3_writeThing 61 = .ok (.getfield 23, 3) := by decide +kernel
theorem dX3_writeThing_64 : decode cX3_writeThing 64 = .ok (.iload_n 1, 1) := by decide +kernel
theorem dX3_writeThing_65 : decode cX3_writeThing 65 = .ok (.iconst 4, 1) := by decide +kernel
theorem dX3_writeThing_66 : decode cX3_writeThing 66 = .ok (.iload_n 3, 1) := by decide +kernel
theorem dX3_writeThing_67 : decode cX3_writeThing 67 = .ok (.iadd, 1) := by decide +kernel
theorem dX3_writeThing_68 : decode cX3_writeThing 68 = .ok (.aload_n 0, 1) := by decide +kernel
theorem dX3_writeThing_69 : decode cX3_writeThing 69 = .ok (.getfield 41, 3) := by decide +kernel
theorem dX3_writeThing_72 : decode cX3_writeThing 72 = .ok (.iload_n 3, 1) := by decide +kernel
theorem dX3_writeThing_73 : decode cX3_writeThing 73 = .ok (.iaload, 1) := by decide +kernel
theorem dX3_writeThing_74 : decode cX3_writeThing 74 = .ok (.invokevirtual 123, 3) := by decide +kernel
theorem dX3_writeThing_77 : decode cX3_writeThing 77 = .ok (.iinc 3 1, 3) := by decide +kernel
theorem dX3_writeThing_80 : decode cX3_writeThing 80 = .ok (.goto (-28), 3) := by decide +kernel
theorem dX3_writeThing_83 : decode cX3_writeThing 83 = .ok (.aload_n 0, 1) := by decide +kernel
theorem dX3_writeThing_84 : decode cX3_writeThing 84 = .ok (.iconst 0, 1) := by decide +kernel
theorem dX3_writeThing_85 : decode cX3_writeThing 85 = .ok (.putfield 45, 3) := by decide +kernel
theorem dX3_writeThing_88 : decode cX3_writeThing 88 = .ok (.aload_n 0, 1) := by decide +kernel
theorem dX3_writeThing_89 : decode cX3_writeThing 89 = .ok (.iload_n 1, 1) := by decide +kernel
theorem dX3_writeThing_90 : decode cX3_writeThing 90 = .ok (.invokevirtual 93, 3) := by decide +kernel
theorem dX3_writeThing_93 : decode cX3_writeThing 93 = .ok (.ireturn, 1) := by decide +kernel
set_option maxRecDepth 20000 in
theorem ggX3_writeVersion_X3_writeNode : GoodIn wsX3_writeVersion wsX3_writeNode := goodIn_r _ [11, 1, 12, 13, 14, 10, 15, 16, 17, 18, 19, 20, 21, 22, 23, 24, 25, 26, 27, 28, 29, 30, 31, 32, 33, 34, 35, 36, 37, 38, 39, 40, 41, 42, 43, 44, 45, 46, 47, 48, 49, 50, 51, 52, 53, 54, 55, 56, 57, 58, 59, 60, 61, 62, 63, 64, 65, 66, 67, 68, 69, 70, 71, 72, 73, 74, 75, 76, 82, 83, 84, 85, 86, 87, 88, 89, 90, 91, 92, 93] (by decide +kernel) (by decide +kernel)
set_option maxRecDepth 20000 in
theorem gX3_writeVersion_X3_writeNode : GoodIn wsX3_writeVersion (wsV RX3 150 RX3 yX3_writeNode wsX3_writeNode) := goodIn_app (goodIn_of _ (by decide +kernel)) ggX3_writeVersion_X3_writeNode
set_option maxRecDepth 20000 in
theorem ggX3_writeVersion_X3_writeRoot : GoodIn wsX3_writeVersion wsX3_writeRoot := goodIn_r _ [80, 1, 12, 13, 14, 10, 15, 22, 23, 24, 19, 25, 21, 26, 27, 28, 29, 30, 31, 32, 33, 34, 35, 36, 38, 39, 40, 41, 42, 43, 44, 45, 81, 62, 63, 64, 37, 46, 47, 48, 49, 50, 51, 52, 53, 54, 55, 56, 57, 58, 59, 60, 17, 18, 20, 61, 65, 66, 67, 68, 69, 70, 71, 72, 73, 74, 75, 76, 82, 83, 84, 85, 86, 87, 88, 89, 90, 91, 92, 93] (by decide +kernel) (by decide +kernel)
set_option maxRecDepth 20000 in
theorem gX3_writeVersion_X3_writeRoot : GoodIn wsX3_writeVersion (wsV RX3 154 RX3 yX3_writeRoot wsX3_writeRoot) := goodIn_app (goodIn_of _ (by decide +kernel)) ggX3_writeVersion_X3_writeRoot
theorem dX3_writeVersion_0 : decode cX3_writeVersion 0 = .ok (.aload_n 0, 1) := by decide +kernel
theorem dX3_writeVersion_1 : decode cX3_writeVersion 1 = .ok (.iload_n 1, 1) := by decide +kernel
theorem dX3_writeVersion_2 : decode cX3_writeVersion 2 = .ok (.iload_n 2, 1) := by decide +kernel
theorem dX3_writeVersion_3 : decode cX3_writeVersion 3 = .ok (.iload_n 3, 1) := by decide +kernel
theorem dX3_writeVersion_4 : decode cX3_writeVersion 4 = .ok (.invokevirtual 150, 3) := by decide +kernel
theorem dX3_writeVersion_7 : decode cX3_writeVersion 7 = .ok (.ifCond .ne 6, 3) := by decide +kernel
theorem dX3_writeVersion_10 : decode cX3_writeVersion 10 = .ok (.bipush (-3), 2) := by decide +kernel
theorem dX3_writeVersion_12 : decode cX3_writeVersion 12 = .ok (.ireturn, 1) := by decide +kernel
theorem dX3_writeVersion_13 : decode cX3_writeVersion 13 = .ok (.aload_n 0, 1) := by decide +kernel
theorem dX3_writeVersion_14 : decode cX3_writeVersion 14 = .ok (.getfield 49, 3) := by decide +kernel
theorem dX3_writeVersion_17 : decode cX3_writeVersion 17 = .ok (.iconst 1, 1) := by decide +kernel
theorem dX3_writeVersion_18 : decode cX3_writeVersion 18 = .ok (.iadd, 1) := by decide +kernel
theorem dX3_writeVersion_19 : decode cX3_writeVersion 19 = .ok (.istore 4, 2) := by decide +kernel
theorem dX3_writeVersion_21 : decode cX3_writeVersion 21 = .ok (.aload_n 0, 1) := by decide +kernel
theorem dX3_writeVersion_22 : decode cX3_writeVersion 22 = .ok (.getfield 52, 3) := by decide +kernel
theorem dX3_writeVersion_25 : decode cX3_writeVersion 25 = .ok (.iload 4, 2) := by decide +kernel
theorem dX3_writeVersion_27 : decode cX3_writeVersion 27 = .ok (.bipush 7, 2) := by decide +kernel
theorem dX3_writeVersion_29 : decode cX3_writeVersion 29 = .ok (.isub, 1) := by decide +kernel
theorem dX3_writeVersion_30 : decode cX3_writeVersion 30 = .ok (.invokestatic 15, 3) := by decide +kernel
theorem dX3_writeVersion_33 : decode cX3_writeVersion 33 = .ok (.istore 5, 2) := by decide +kernel
theorem dX3_writeVersion_35 : decode cX3_writeVersion 35 = .ok (.aload_n 0, 1) := by decide +kernel
theorem dX3_writeVersion_36 : decode cX3_writeVersion 36 = .ok (.iload 4, 2) := by decide +kernel
theorem dX3_writeVersion_38 : decode cX3_writeVersion 38 = .ok (.iload 5, 2) := by decide +kernel
theorem dX3_writeVersion_40 : decode cX3_writeVersion 40 = .ok (.iload_n 2, 1) := by decide +kernel
theorem dX3_writeVersion_41 : decode cX3_writeVersion 41 = .ok (.bipush 32, 2) := by decide +kernel
theorem dX3_writeVersion_43 : decode cX3_writeVersion 43 = .ok (.idiv, 1) := by decide +kernel
theorem dX3_writeVersion_44 : decode cX3_writeVersion 44 = .ok (.iload_n 1, 1) := by decide +kernel
theorem dX3_writeVersion_45 : decode cX3_writeVersion 45 = .ok (.invokevirtual 154, 3) := by decide +kernel
theorem dX3_writeVersion_48 : decode cX3_writeVersion 48 = .ok (.ifCond .ne 6, 3) := by decide +kernel
theorem dX3_writeVersion_51 : decode cX3_writeVersion 51 = .ok (.bipush (-3), 2) := by decide +kernel
theorem dX3_writeVersion_53 : decode cX3_writeVersion 53 = .ok (.ireturn, 1) := by decide +kernel
theorem dX3_writeVersion_54 : decode cX3_writeVersion 54 = .ok (.aload_n 0, 1) := by decide +kernel
theorem dX3_writeVersion_55 : decode cX3_writeVersion 55 = .ok (.iload 4, 2) := by decide +kernel
theorem dX3_writeVersion_57 : decode cX3_writeVersion 57 = .ok (.putfield 49, 3) := by decide +kernel
theorem dX3_writeVersion_60 : decode cX3_writeVersion 60 = .ok (.aload_n 0, 1) := by decide +kernel
theorem dX3_writeVersion_61 : decode cX3_writeVersion 61 = .ok (.iload 5, 2) := by decide +kernel
theorem dX3_writeVersion_63 : decode cX3_writeVersion 63 = .ok (.putfield 52, 3) := by decide +kernel
theorem dX3_writeVersion_66 : decode cX3_writeVersion 66 = .ok (.iload 4, 2) := by decide +kernel
theorem dX3_writeVersion_68 : decode cX3_writeVersion 68 = .ok (.ireturn, 1) := by decide +kernel
set_option maxRecDepth 20000 in
theorem ggX3_writeNode_X3_pageOfRoot : GoodIn wsX3_writeNode wsX3_pageOfRoot := goodIn_r _ [6] (by decide +kernel) (by decide +kernel)
set_option maxRecDepth 20000 in
theorem gX3_writeNode_X3_pageOfRoot : GoodIn wsX3_writeNode (va_wsS RX3 86 yX3_pageOfRoot wsX3_pageOfRoot) := goodIn_app (goodIn_of _ (by decide +kernel)) ggX3_writeNode_X3_pageOfRoot
set_option maxRecDepth 20000 in
theorem ggX3_writeNode_X0_at : GoodIn wsX3_writeNode wsX0_at := goodIn_r _ [11, 12, 75, 76] (by decide +kernel) (by decide +kernel)
set_option maxRecDepth 20000 in
theorem gX3_writeNode_X0_at : GoodIn wsX3_writeNode (wsV RX3 99 RX0 yX0_at wsX0_at) := goodIn_app (goodIn_of _ (by decide +kernel)) ggX3_writeNode_X0_at
set_option maxRecDepth 20000 in
theorem ggX3_writeNode_X0_begin : GoodIn wsX3_writeNode wsX0_begin := goodIn_r _ [16, 12, 17, 18, 19, 20, 21, 22, 23, 24, 25, 26, 10, 27, 75, 76] (by decide +kernel) (by decide +kernel)
set_option maxRecDepth 20000 in
theorem gX3_writeNode_X0_begin : GoodIn wsX3_writeNode (wsV RX3 146 RX0 yX0_begin wsX0_begin) := goodIn_app (goodIn_of _ (by decide +kernel)) ggX3_writeNode_X0_begin
set_option maxRecDepth 20000 in
theorem ggX3_writeNode_X0_set : GoodIn wsX3_writeNode wsX0_set := goodIn_r _ [27, 12, 75, 76] (by decide +kernel) (by decide +kernel)
set_option maxRecDepth 20000 in
theorem gX3_writeNode_X0_set : GoodIn wsX3_writeNode (wsV RX3 123 RX0 yX0_set wsX0_set) := goodIn_app (goodIn_of _ (by decide +kernel)) ggX3_writeNode_X0_set
set_option maxRecDepth 20000 in
theorem ggX3_writeNode_X0_copy : GoodIn wsX3_writeNode wsX0_copy := goodIn_r _ [32, 12, 33, 34, 35, 36, 75, 76] (by decide +kernel) (by decide +kernel)
set_option maxRecDepth 20000 in
theorem gX3_writeNode_X0_copy : GoodIn wsX3_writeNode (wsV RX3 158 RX0 yX0_copy wsX0_copy) := goodIn_app (goodIn_of _ (by decide +kernel)) ggX3_writeNode_X0_copy
set_option maxRecDepth 20000 in
theorem ggX3_writeNode_X3_finishPage : GoodIn wsX3_writeNode wsX3_finishPage := goodIn_r _ [40, 2, 41, 42, 43, 44, 10, 45, 46, 47, 48, 49, 50, 51, 8, 9, 11, 12, 52, 53, 54, 55, 56, 57, 58, 59, 60, 61, 62, 63, 64, 65, 66, 67, 68, 69, 70, 71, 72, 73, 74, 75, 76, 77, 78, 79] (by decide +kernel) (by decide +kernel)
set_option maxRecDepth 20000 in
theorem gX3_writeNode_X3_finishPage : GoodIn wsX3_writeNode (wsV RX3 93 RX3 yX3_finishPage wsX3_finishPage) := goodIn_app (goodIn_of _ (by decide +kernel)) ggX3_writeNode_X3_finishPage
theorem dX3_writeNode_0 : decode cX3_writeNode 0 = .ok (.iload_n 2, 1) := by decide +kernel
theorem dX3_writeNode_1 : decode cX3_writeNode 1 = .ok (.bipush 32, 2) := by decide +kernel
theorem dX3_writeNode_3 : decode cX3_writeNode 3 = .ok (.idiv, 1) := by decide +kernel
theorem dX3_writeNode_4 : decode cX3_writeNode 4 = .ok (.istore 4, 2) := by decide +kernel
theorem dX3_writeNode_6 : decode cX3_writeNode 6 = .ok (.aload_n 0, 1) := by decide +kernel
theorem dX3_writeNode_7 : decode cX3_writeNode 7 = .ok (.getfield 49, 3) := by decide +kernel
theorem dX3_writeNode_10 : decode cX3_writeNode 10 = .ok (.ifCond .ne 7, 3) := by decide +kernel
theorem dX3_writeNode_13 : decode cX3_writeNode 13 = .ok (.iconst 0, 1) := by decide +kernel
theorem dX3_writeNode_14 : decode cX3_writeNode 14 = .ok (.goto 22, 3) := by decide +kernel
theorem dX3_writeNode_17 : decode cX3_writeNode 17 = .ok (.aload_n 0, 1) := by decide +kernel
theorem dX3_writeNode_18 : decode cX3_writeNode 18 = .ok (.getfield 23, 3) := by decide +kernel
theorem dX3_writeNode_21 : decode cX3_writeNode 21 = .ok (.aload_n 0, 1) := by decide +kernel
theorem dX3_writeNode_22 : decode cX3_writeNode 22 = .ok (.getfield 49, 3) := by decide +kernel
theorem dX3_writeNode_25 : decode cX3_writeNode 25 = .ok (.invokestatic 86, 3) := by decide +kernel
theorem dX3_writeNode_28 : decode cX3_writeNode 28 = .ok (.bipush 9, 2) := by decide +kernel
theorem dX3_writeNode_30 : decode cX3_writeNode 30 = .ok (.iload 4, 2) := by decide +kernel
theorem dX3_writeNode_32 : decode cX3_writeNode 32 = .ok (.iadd, 1) := by decide +kernel
theorem dX3_writeNode_33 : decode cX3_writeNode 33 = .ok (.invokevirtual 99, 3) := by decide +kernel
theorem dX3_writeNode_36 : decode cX3_writeNode 36 = .ok (.istore 5, 2) := by decide +kernel
theorem dX3_writeNode_38 : decode cX3_writeNode 38 = .ok (.iload 5, 2) := by decide +kernel
theorem dX3_writeNode_40 : decode cX3_writeNode 40 = .ok (.ifCond .ne 26, 3) := by decide +kernel
theorem dX3_writeNode_43 : decode cX3_writeNode 43 = .ok (.aload_n 0, 1) := by decide +kernel
theorem dX3_writeNode_44 : decode cX3_writeNode 44 = .ok (.getfield 23, 3) := by decide +kernel
theorem dX3_writeNode_47 : decode cX3_writeNode 47 = .ok (.iload_n 1, 1) := by decide +kernel
theorem dX3_writeNode_48 : decode cX3_writeNode 48 = .ok (.iconst 2, 1) := by decide +kernel
theorem dX3_writeNode_49 : decode cX3_writeNode 49 = .ok (.invokevirtual 146, 3) := by decide +kernel
theorem dX3_writeNode_52 : decode cX3_writeNode 52 = .ok (.aload_n 0, 1) := by decide +kernel
theorem dX3_writeNode_53 : decode cX3_writeNode 53 = .ok (.getfield 23, 3) := by decide +kernel
theorem dX3_writeNode_56 : decode cX3_writeNode 56 = .ok (.iload_n 1, 1) := by decide +kernel
theorem dX3_writeNode_57 : decode cX3_writeNode 57 = .ok (.iconst 1, 1) := by decide +kernel
theorem dX3_writeNode_58 : decode cX3_writeNode 58 = .ok (.iload 4, 2) := by decide +kernel
theorem dX3_writeNode_60 : decode cX3_writeNode 60 = .ok (.invokevirtual 123, 3) := by decide +kernel
theorem dX3_writeNode_63 : decode cX3_writeNode 63 = .ok (.goto 13, 3) := by decide +kernel
theorem dX3_writeNode_66 : decode cX3_writeNode 66 = .ok (.aload_n 0, 1) := by decide +kernel
theorem dX3_writeNode_67 : decode cX3_writeNode 67 = .ok (.getfield 23, 3) := by decide +kernel
theorem dX3_writeNode_70 : decode cX3_writeNode 70 = .ok (.iload 5, 2) := by decide +kernel
theorem dX3_writeNode_72 : decode cX3_writeNode 72 = .ok (.iload_n 1, 1) := by decide +kernel
theorem dX3_writeNode_73 : decode cX3_writeNode 73 = .ok (.invokevirtual 158, 3) := by decide +kernel
theorem dX3_writeNode_76 : decode cX3_writeNode 76 = .ok (.aload_n 0, 1) := by decide +kernel
theorem dX3_writeNode_77 : decode cX3_writeNode 77 = .ok (.getfield 23, 3) := by decide +kernel
theorem dX3_writeNode_80 : decode cX3_writeNode 80 = .ok (.iload_n 1, 1) := by decide +kernel
theorem dX3_writeNode_81 : decode cX3_writeNode 81 = .ok (.iconst 2, 1) := by decide +kernel
theorem dX3_writeNode_82 : decode cX3_writeNode 82 = .ok (.iload_n 2, 1) := by decide +kernel
theorem dX3_writeNode_83 : decode cX3_writeNode 83 = .ok (.bipush 32, 2) := by decide +kernel
theorem dX3_writeNode_85 : decode cX3_writeNode 85 = .ok (.irem, 1) := by decide +kernel
theorem dX3_writeNode_86 : decode cX3_writeNode 86 = .ok (.iadd, 1) := by decide +kernel
theorem dX3_writeNode_87 : decode cX3_writeNode 87 = .ok (.iload_n 3, 1) := by decide +kernel
theorem dX3_writeNode_88 : decode cX3_writeNode 88 = .ok (.invokevirtual 123, 3) := by decide +kernel
theorem dX3_writeNode_91 : decode cX3_writeNode 91 = .ok (.aload_n 0, 1) := by decide +kernel
theorem dX3_writeNode_92 : decode cX3_writeNode 92 = .ok (.iload_n 1, 1) := by decide +kernel
theorem dX3_writeNode_93 : decode cX3_writeNode 93 = .ok (.invokevirtual 93, 3) := by decide +kernel
theorem dX3_writeNode_96 : decode cX3_writeNode 96 = .ok (.ireturn, 1) := by decide +kernel
set_option maxRecDepth 20000 in
theorem ggX3_writeRoot_X3_pageOfRoot : GoodIn wsX3_writeRoot wsX3_pageOfRoot := goodIn_r _ [6] (by decide +kernel) (by decide +kernel)
set_option maxRecDepth 20000 in
theorem gX3_writeRoot_X3_pageOfRoot : GoodIn wsX3_writeRoot (va_wsS RX3 86 yX3_pageOfRoot wsX3_pageOfRoot) := goodIn_app (goodIn_of _ (by decide +kernel)) ggX3_writeRoot_X3_pageOfRoot
set_option maxRecDepth 20000 in
theorem ggX3_writeRoot_X0_begin : GoodIn wsX3_writeRoot wsX0_begin := goodIn_r _ [11, 12, 13, 14, 15, 16, 17, 18, 19, 20, 21, 22, 10, 23, 75, 76] (by decide +kernel) (by decide +kernel)
set_option maxRecDepth 20000 in
theorem gX3_writeRoot_X0_begin : GoodIn wsX3_writeRoot (wsV RX3 146 RX0 yX0_begin wsX0_begin) := goodIn_app (goodIn_of _ (by decide +kernel)) ggX3_writeRoot_X0_begin
set_option maxRecDepth 20000 in
theorem ggX3_writeRoot_X0_copy : GoodIn wsX3_writeRoot wsX0_copy := goodIn_r _ [27, 12, 28, 29, 30, 31, 75, 76] (by decide +kernel) (by decide +kernel)
set_option maxRecDepth 20000 in
theorem gX3_writeRoot_X0_copy : GoodIn wsX3_writeRoot (wsV RX3 158 RX0 yX0_copy wsX0_copy) := goodIn_app (goodIn_of _ (by decide +kernel)) ggX3_writeRoot_X0_copy
set_option maxRecDepth 20000 in
theorem ggX3_writeRoot_X0_setNumber : GoodIn wsX3_writeRoot wsX0_setNumber := goodIn_r _ [35, 12, 75, 76] (by decide +kernel) (by decide +kernel)
set_option maxRecDepth 20000 in
theorem gX3_writeRoot_X0_setNumber : GoodIn wsX3_writeRoot (wsV RX3 89 RX0 yX0_setNumber wsX0_setNumber) := goodIn_app (goodIn_of _ (by decide +kernel)) ggX3_writeRoot_X0_setNumber
set_option maxRecDepth 20000 in
theorem ggX3_writeRoot_X0_set : GoodIn wsX3_writeRoot wsX0_set := goodIn_r _ [23, 12, 75, 76] (by decide +kernel) (by decide +kernel)
set_option maxRecDepth 20000 in
theorem gX3_writeRoot_X0_set : GoodIn wsX3_writeRoot (wsV RX3 123 RX0 yX0_set wsX0_set) := goodIn_app (goodIn_of _ (by decide +kernel)) ggX3_writeRoot_X0_set
set_option maxRecDepth 20000 in
theorem ggX3_writeRoot_X3_finishPage : GoodIn wsX3_writeRoot wsX3_finishPage := goodIn_r _ [40, 2, 41, 42, 43, 44, 10, 45, 46, 47, 48, 49, 50, 51, 52, 53, 54, 12, 55, 33, 34, 35, 56, 57, 58, 59, 60, 61, 62, 63, 64, 65, 66, 67, 68, 69, 70, 71, 72, 73, 74, 75, 76, 77, 78, 79] (by decide +kernel) (by decide +kernel)
set_option maxRecDepth 20000 in
theorem gX3_writeRoot_X3_finishPage : GoodIn wsX3_writeRoot (wsV RX3 93 RX3 yX3_finishPage wsX3_finishPage) := goodIn_app (goodIn_of _ (by decide +kernel)) ggX3_writeRoot_X3_finishPage
theorem dX3_writeRoot_0 : decode cX3_writeRoot 0 = .ok (.iload_n 1, 1) := by decide +kernel
theorem dX3_writeRoot_1 : decode cX3_writeRoot 1 = .ok (.invokestatic 86, 3) := by decide +kernel
theorem dX3_writeRoot_4 : decode cX3_writeRoot 4 = .ok (.istore 5, 2) := by decide +kernel
theorem dX3_writeRoot_6 : decode cX3_writeRoot 6 = .ok (.aload_n 0, 1) := by decide +kernel
theorem dX3_writeRoot_7 : decode cX3_writeRoot 7 = .ok (.getfield 49, 3) := by decide +kernel
theorem dX3_writeRoot_10 : decode cX3_writeRoot 10 = .ok (.ifCond .ne 16, 3) := by decide +kernel
theorem dX3_writeRoot_13 : decode cX3_writeRoot 13 = .ok (.aload_n 0, 1) := by decide +kernel
theorem dX3_writeRoot_14 : decode cX3_writeRoot 14 = .ok (.getfield 23, 3) := by decide +kernel
theorem dX3_writeRoot_17 : decode cX3_writeRoot 17 = .ok (.iload 5, 2) := by decide +kernel
theorem dX3_writeRoot_19 : decode cX3_writeRoot 19 = .ok (.iconst 1, 1) := by decide +kernel
theorem dX3_writeRoot_20 : decode cX3_writeRoot 20 = .ok (.invokevirtual 146, 3) := by decide +kernel
theorem dX3_writeRoot_23 : decode cX3_writeRoot 23 = .ok (.goto 19, 3) := by decide +kernel
theorem dX3_writeRoot_26 : decode cX3_writeRoot 26 = .ok (.aload_n 0, 1) := by decide +kernel
theorem dX3_writeRoot_27 : decode cX3_writeRoot 27 = .ok (.getfield 23, 3) := by decide +kernel
theorem dX3_writeRoot_30 : decode cX3_writeRoot 30 = .ok (.aload_n 0, 1) := by decide +kernel
theorem dX3_writeRoot_31 : decode cX3_writeRoot 31 = .ok (.getfield 49, 3) := by decide +kernel
theorem dX3_writeRoot_34 : decode cX3_writeRoot 34 = .ok (.invokestatic 86, 3) := by decide +kernel
theorem dX3_writeRoot_37 : decode cX3_writeRoot 37 = .ok (.iload 5, 2) := by decide +kernel
theorem dX3_writeRoot_39 : decode cX3_writeRoot 39 = .ok (.invokevirtual 158, 3) := by decide +kernel
theorem dX3_writeRoot_42 : decode cX3_writeRoot 42 = .ok (.aload_n 0, 1) := by decide +kernel
theorem dX3_writeRoot_43 : decode cX3_writeRoot 43 = .ok (.getfield 23, 3) := by decide +kernel
theorem dX3_writeRoot_46 : decode cX3_writeRoot 46 = .ok (.iload 5, 2) := by decide +kernel
theorem dX3_writeRoot_48 : decode cX3_writeRoot 48 = .ok (.iconst 1, 1) := by decide +kernel
theorem dX3_writeRoot_49 : decode cX3_writeRoot 49 = .ok (.iload_n 1, 1) := by decide +kernel
theorem dX3_writeRoot_50 : decode cX3_writeRoot 50 = .ok (.invokevirtual 89, 3) := by decide +kernel
theorem dX3_writeRoot_53 : decode cX3_writeRoot 53 = .ok (.aload_n 0, 1) := by decide +kernel
theorem dX3_writeRoot_54 : decode cX3_writeRoot 54 = .ok (.getfield 23, 3) := by decide +kernel
theorem dX3_writeRoot_57 : decode cX3_writeRoot 57 = .ok (.iload 5, 2) := by decide +kernel
theorem dX3_writeRoot_59 : decode cX3_writeRoot 59 = .ok (.iconst 5, 1) := by decide +kernel
theorem dX3_writeRoot_60 : decode cX3_writeRoot 60 = .ok (.iload_n 2, 1) := by decide +kernel
theorem dX3_writeRoot_61 : decode cX3_writeRoot 61 = .ok (.invokevirtual 89, 3) := by decide +kernel
theorem dX3_writeRoot_64 : decode cX3_writeRoot 64 = .ok (.aload_n 0, 1) := by decide +kernel
theorem dX3_writeRoot_65 : decode cX3_writeRoot 65 = .ok (.getfield 23, 3) := by decide +kernel
theorem dX3_writeRoot_68 : decode cX3_writeRoot 68 = .ok (.iload 5, 2) := by decide +kernel
theorem dX3_writeRoot_70 : decode cX3_writeRoot 70 = .ok (.bipush 9, 2) := by decide +kernel
theorem dX3_writeRoot_72 : decode cX3_writeRoot 72 = .ok (.iload_n 3, 1) := by decide +kernel
theorem dX3_writeRoot_73 : decode cX3_writeRoot 73 = .ok (.iadd, 1) := by decide +kernel
theorem dX3_writeRoot_74 : decode cX3_writeRoot 74 = .ok (.iload 4, 2) := by decide +kernel
theorem dX3_writeRoot_76 : decode cX3_writeRoot 76 = .ok (.invokevirtual 123, 3) := by decide +kernel
theorem dX3_writeRoot_79 : decode cX3_writeRoot 79 = .ok (.aload_n 0, 1) := by decide +kernel
end
section
theorem dX3_writeRoot_80 : decode cX3_writeRoot 80 = .ok (.iload 5, 2) := by decide +kernel
theorem dX3_writeRoot_82 : decode cX3_writeRoot 82 = .ok (.invokevirtual 93, 3) := by decide +kernel
theorem dX3_writeRoot_85 : decode cX3_writeRoot 85 = .ok (.ireturn, 1) := by decide +kernel
set_option maxRecDepth 20000 in
theorem ggX3_finishPage_X0_seal : GoodIn wsX3_finishPage wsX0_seal := goodIn_r _ [7, 8, 9, 10, 6, 11, 12, 13, 14, 15, 16, 17, 18, 19, 20, 21, 41, 42] (by decide +kernel) (by decide +kernel)
set_option maxRecDepth 20000 in
theorem gX3_finishPage_X0_seal : GoodIn wsX3_finishPage (wsV RX3 161 RX0 yX0_seal wsX0_seal) := goodIn_app (goodIn_of _ (by decide +kernel)) ggX3_finishPage_X0_seal
set_option maxRecDepth 20000 in
theorem ggX3_finishPage_X1_usePage : GoodIn wsX3_finishPage wsX1_usePage := goodIn_r _ [26, 27, 28, 29, 43, 44, 45] (by decide +kernel) (by decide +kernel)
set_option maxRecDepth 20000 in
theorem gX3_finishPage_X1_usePage : GoodIn wsX3_finishPage (wsV RX3 164 RX1 yX1_usePage wsX1_usePage) := goodIn_app (goodIn_of _ (by decide +kernel)) ggX3_finishPage_X1_usePage
set_option maxRecDepth 20000 in
theorem ggX3_finishPage_X1_isOff : GoodIn wsX3_finishPage wsX1_isOff := goodIn_r _ [33, 29, 43, 44, 45] (by decide +kernel) (by decide +kernel)
set_option maxRecDepth 20000 in
theorem gX3_finishPage_X1_isOff : GoodIn wsX3_finishPage (wsV RX3 55 RX1 yX1_isOff wsX1_isOff) := goodIn_app (goodIn_of _ (by decide +kernel)) ggX3_finishPage_X1_isOff
theorem dX3_finishPage_0 : decode cX3_finishPage 0 = .ok (.aload_n 0, 1) := by decide +kernel
theorem dX3_finishPage_1 : decode cX3_finishPage 1 = .ok (.getfield 23, 3) := by decide +kernel
theorem dX3_finishPage_4 : decode cX3_finishPage 4 = .ok (.iload_n 1, 1) := by decide +kernel
theorem dX3_finishPage_5 : decode cX3_finishPage 5 = .ok (.invokevirtual 161, 3) := by decide +kernel
theorem dX3_finishPage_8 : decode cX3_finishPage 8 = .ok (.aload_n 0, 1) := by decide +kernel
theorem dX3_finishPage_9 : decode cX3_finishPage 9 = .ok (.getfield 37, 3) := by decide +kernel
theorem dX3_finishPage_12 : decode cX3_finishPage 12 = .ok (.invokevirtual 164, 3) := by decide +kernel
theorem dX3_finishPage_15 : decode cX3_finishPage 15 = .ok (.aload_n 0, 1) := by decide +kernel
theorem dX3_finishPage_16 : decode cX3_finishPage 16 = .ok (.getfield 37, 3) := by decide +kernel
theorem dX3_finishPage_19 : decode cX3_finishPage 19 = .ok (.invokevirtual 55, 3) := by decide +kernel
theorem dX3_finishPage_22 : decode cX3_finishPage 22 = .ok (.ifCond .ne 7, 3) := by decide +kernel
theorem dX3_finishPage_25 : decode cX3_finishPage 25 = .ok (.iconst 1, 1) := by decide +kernel
theorem dX3_finishPage_26 : decode cX3_finishPage 26 = .ok (.goto 4, 3) := by decide +kernel
theorem dX3_finishPage_29 : decode cX3_finishPage 29 = .ok (.iconst 0, 1) := by decide +kernel
theorem dX3_finishPage_30 : decode cX3_finishPage 30 = .ok (.ireturn, 1) := by decide +kernel
theorem dX4_init_0 : decode cX4_init 0 = .ok (.aload_n 0, 1) := by decide +kernel
theorem dX4_init_1 : decode cX4_init 1 = .ok (.invokespecial 1, 3) := by decide +kernel
theorem dX4_init_4 : decode cX4_init 4 = .ok (.aload_n 0, 1) := by decide +kernel
theorem dX4_init_5 : decode cX4_init 5 = .ok (.sipush 5760, 3) := by decide +kernel
theorem dX4_init_8 : decode cX4_init 8 = .ok (.newarray .int, 2) := by decide +kernel
theorem dX4_init_10 : decode cX4_init 10 = .ok (.putfield 7, 3) := by decide +kernel
theorem dX4_init_13 : decode cX4_init 13 = .ok (.aload_n 0, 1) := by decide +kernel
theorem dX4_init_14 : decode cX4_init 14 = .ok (.iconst 1, 1) := by decide +kernel
theorem dX4_init_15 : decode cX4_init 15 = .ok (.putfield 13, 3) := by decide +kernel
theorem dX4_init_18 : decode cX4_init 18 = .ok (.aload_n 0, 1) := by decide +kernel
theorem dX4_init_19 : decode cX4_init 19 = .ok (.iconst (-1), 1) := by decide +kernel
theorem dX4_init_20 : decode cX4_init 20 = .ok (.putfield 17, 3) := by decide +kernel
theorem dX4_init_23 : decode cX4_init 23 = .ok (.aload_n 0, 1) := by decide +kernel
theorem dX4_init_24 : decode cX4_init 24 = .ok (.bipush 32, 2) := by decide +kernel
theorem dX4_init_26 : decode cX4_init 26 = .ok (.newarray .int, 2) := by decide +kernel
theorem dX4_init_28 : decode cX4_init 28 = .ok (.putfield 20, 3) := by decide +kernel
theorem dX4_init_31 : decode cX4_init 31 = .ok (.aload_n 0, 1) := by decide +kernel
theorem dX4_init_32 : decode cX4_init 32 = .ok (.bipush 120, 2) := by decide +kernel
theorem dX4_init_34 : decode cX4_init 34 = .ok (.newarray .boolean, 2) := by decide +kernel
theorem dX4_init_36 : decode cX4_init 36 = .ok (.putfield 23, 3) := by decide +kernel
theorem dX4_init_39 : decode cX4_init 39 = .ok (.aload_n 0, 1) := by decide +kernel
theorem dX4_init_40 : decode cX4_init 40 = .ok (.iload_n 1, 1) := by decide +kernel
theorem dX4_init_41 : decode cX4_init 41 = .ok (.bipush 12, 2) := by decide +kernel
theorem dX4_init_43 : decode cX4_init 43 = .ok (.if_icmp .ge 8, 3) := by decide +kernel
theorem dX4_init_46 : decode cX4_init 46 = .ok (.bipush 12, 2) := by decide +kernel
theorem dX4_init_48 : decode cX4_init 48 = .ok (.goto 15, 3) := by decide +kernel
theorem dX4_init_51 : decode cX4_init 51 = .ok (.iload_n 1, 1) := by decide +kernel
theorem dX4_init_52 : decode cX4_init 52 = .ok (.bipush 120, 2) := by decide +kernel
theorem dX4_init_54 : decode cX4_init 54 = .ok (.if_icmp .le 8, 3) := by decide +kernel
theorem dX4_init_57 : decode cX4_init 57 = .ok (.bipush 120, 2) := by decide +kernel
theorem dX4_init_59 : decode cX4_init 59 = .ok (.goto 4, 3) := by decide +kernel
theorem dX4_init_62 : decode cX4_init 62 = .ok (.iload_n 1, 1) := by decide +kernel
theorem dX4_init_63 : decode cX4_init 63 = .ok (.putfield 27, 3) := by decide +kernel
theorem dX4_init_66 : decode cX4_init 66 = .ok (.return_, 1) := by decide +kernel
theorem dX4_at_0 : decode cX4_at 0 = .ok (.aload_n 0, 1) := by decide +kernel
theorem dX4_at_1 : decode cX4_at 1 = .ok (.getfield 7, 3) := by decide +kernel
theorem dX4_at_4 : decode cX4_at 4 = .ok (.bipush 48, 2) := by decide +kernel
theorem dX4_at_6 : decode cX4_at 6 = .ok (.iload_n 1, 1) := by decide +kernel
theorem dX4_at_7 : decode cX4_at 7 = .ok (.imul, 1) := by decide +kernel
theorem dX4_at_8 : decode cX4_at 8 = .ok (.iload_n 2, 1) := by decide +kernel
theorem dX4_at_9 : decode cX4_at 9 = .ok (.iadd, 1) := by decide +kernel
theorem dX4_at_10 : decode cX4_at 10 = .ok (.iaload, 1) := by decide +kernel
theorem dX4_at_11 : decode cX4_at 11 = .ok (.ireturn, 1) := by decide +kernel
set_option maxRecDepth 20000 in
theorem ggX4_number_X4_at : GoodIn wsX4_number wsX4_at := goodIn_r _ [5, 6, 7, 8, 9, 10, 11, 12, 13, 14, 15, 16, 17, 18] (by decide +kernel) (by decide +kernel)
set_option maxRecDepth 20000 in
theorem gX4_number_X4_at : GoodIn wsX4_number (wsV RX4 33 RX4 yX4_at wsX4_at) := goodIn_app (goodIn_of _ (by decide +kernel)) ggX4_number_X4_at
theorem dX4_number_0 : decode cX4_number 0 = .ok (.aload_n 0, 1) := by decide +kernel
theorem dX4_number_1 : decode cX4_number 1 = .ok (.iload_n 1, 1) := by decide +kernel
theorem dX4_number_2 : decode cX4_number 2 = .ok (.iload_n 2, 1) := by decide +kernel
theorem dX4_number_3 : decode cX4_number 3 = .ok (.invokevirtual 33, 3) := by decide +kernel
theorem dX4_number_6 : decode cX4_number 6 = .ok (.bipush 24, 2) := by decide +kernel
theorem dX4_number_8 : decode cX4_number 8 = .ok (.ishl, 1) := by decide +kernel
theorem dX4_number_9 : decode cX4_number 9 = .ok (.aload_n 0, 1) := by decide +kernel
theorem dX4_number_10 : decode cX4_number 10 = .ok (.iload_n 1, 1) := by decide +kernel
theorem dX4_number_11 : decode cX4_number 11 = .ok (.iload_n 2, 1) := by decide +kernel
theorem dX4_number_12 : decode cX4_number 12 = .ok (.iconst 1, 1) := by decide +kernel
theorem dX4_number_13 : decode cX4_number 13 = .ok (.iadd, 1) := by decide +kernel
theorem dX4_number_14 : decode cX4_number 14 = .ok (.invokevirtual 33, 3) := by decide +kernel
theorem dX4_number_17 : decode cX4_number 17 = .ok (.bipush 16, 2) := by decide +kernel
theorem dX4_number_19 : decode cX4_number 19 = .ok (.ishl, 1) := by decide +kernel
theorem dX4_number_20 : decode cX4_number 20 = .ok (.ior, 1) := by decide +kernel
theorem dX4_number_21 : decode cX4_number 21 = .ok (.aload_n 0, 1) := by decide +kernel
theorem dX4_number_22 : decode cX4_number 22 = .ok (.iload_n 1, 1) := by decide +kernel
theorem dX4_number_23 : decode cX4_number 23 = .ok (.iload_n 2, 1) := by decide +kernel
theorem dX4_number_24 : decode cX4_number 24 = .ok (.iconst 2, 1) := by decide +kernel
theorem dX4_number_25 : decode cX4_number 25 = .ok (.iadd, 1) := by decide +kernel
theorem dX4_number_26 : decode cX4_number 26 = .ok (.invokevirtual 33, 3) := by decide +kernel
theorem dX4_number_29 : decode cX4_number 29 = .ok (.bipush 8, 2) := by decide +kernel
theorem dX4_number_31 : decode cX4_number 31 = .ok (.ishl, 1) := by decide +kernel
theorem dX4_number_32 : decode cX4_number 32 = .ok (.ior, 1) := by decide +kernel
theorem dX4_number_33 : decode cX4_number 33 = .ok (.aload_n 0, 1) := by decide +kernel
theorem dX4_number_34 : decode cX4_number 34 = .ok (.iload_n 1, 1) := by decide +kernel
theorem dX4_number_35 : decode cX4_number 35 = .ok (.iload_n 2, 1) := by decide +kernel
theorem dX4_number_36 : decode cX4_number 36 = .ok (.iconst 3, 1) := by decide +kernel
theorem dX4_number_37 : decode cX4_number 37 = .ok (.iadd, 1) := by decide +kernel
theorem dX4_number_38 : decode cX4_number 38 = .ok (.invokevirtual 33, 3) := by decide +kernel
theorem dX4_number_41 : decode cX4_number 41 = .ok (.ior, 1) := by decide +kernel
theorem dX4_number_42 : decode cX4_number 42 = .ok (.ireturn, 1) := by decide +kernel
theorem dX4_lay_0 : decode cX4_lay 0 = .ok (.aload_n 0, 1) := by decide +kernel
theorem dX4_lay_1 : decode cX4_lay 1 = .ok (.getfield 7, 3) := by decide +kernel
theorem dX4_lay_4 : decode cX4_lay 4 = .ok (.bipush 48, 2) := by decide +kernel
theorem dX4_lay_6 : decode cX4_lay 6 = .ok (.iload_n 1, 1) := by decide +kernel
theorem dX4_lay_7 : decode cX4_lay 7 = .ok (.imul, 1) := by decide +kernel
theorem dX4_lay_8 : decode cX4_lay 8 = .ok (.iload_n 2, 1) := by decide +kernel
theorem dX4_lay_9 : decode cX4_lay 9 = .ok (.iadd, 1) := by decide +kernel
theorem dX4_lay_10 : decode cX4_lay 10 = .ok (.iload_n 3, 1) := by decide +kernel
theorem dX4_lay_11 : decode cX4_lay 11 = .ok (.sipush 255, 3) := by decide +kernel
theorem dX4_lay_14 : decode cX4_lay 14 = .ok (.iand, 1) := by decide +kernel
theorem dX4_lay_15 : decode cX4_lay 15 = .ok (.iastore, 1) := by decide +kernel
theorem dX4_lay_16 : decode cX4_lay 16 = .ok (.return_, 1) := by decide +kernel
set_option maxRecDepth 20000 in
theorem ggX4_putNumber_X4_lay : GoodIn wsX4_putNumber wsX4_lay := goodIn_r _ [5, 6, 7, 8, 9, 10, 11, 12, 13, 14, 15, 16, 17, 18] (by decide +kernel) (by decide +kernel)
set_option maxRecDepth 20000 in
theorem gX4_putNumber_X4_lay : GoodIn wsX4_putNumber (wsV RX4 37 RX4 yX4_lay wsX4_lay) := goodIn_app (goodIn_of _ (by decide +kernel)) ggX4_putNumber_X4_lay
theorem dX4_putNumber_0 : decode cX4_putNumber 0 = .ok (.iconst 0, 1) := by decide +kernel
theorem dX4_putNumber_1 : decode cX4_putNumber 1 = .ok (.istore 4, 2) := by decide +kernel
theorem dX4_putNumber_3 : decode cX4_putNumber 3 = .ok (.iload 4, 2) := by decide +kernel
theorem dX4_putNumber_5 : decode cX4_putNumber 5 = .ok (.iconst 4, 1) := by decide +kernel
theorem dX4_putNumber_6 : decode cX4_putNumber 6 = .ok (.if_icmp .ge 28, 3) := by decide +kernel
theorem dX4_putNumber_9 : decode cX4_putNumber 9 = .ok (.aload_n 0, 1) := by decide +kernel
theorem dX4_putNumber_10 : decode cX4_putNumber 10 = .ok (.iload_n 1, 1) := by decide +kernel
theorem dX4_putNumber_11 : decode cX4_putNumber 11 = .ok (.iload_n 2, 1) := by decide +kernel
theorem dX4_putNumber_12 : decode cX4_putNumber 12 = .ok (.iload 4, 2) := by decide +kernel
theorem dX4_putNumber_14 : decode cX4_putNumber 14 = .ok (.iadd, 1) := by decide +kernel
theorem dX4_putNumber_15 : decode cX4_putNumber 15 = .ok (.iload_n 3, 1) := by decide +kernel
theorem dX4_putNumber_16 : decode cX4_putNumber 16 = .ok (.bipush 24, 2) := by decide +kernel
theorem dX4_putNumber_18 : decode cX4_putNumber 18 = .ok (.bipush 8, 2) := by decide +kernel
theorem dX4_putNumber_20 : decode cX4_putNumber 20 = .ok (.iload 4, 2) := by decide +kernel
theorem dX4_putNumber_22 : decode cX4_putNumber 22 = .ok (.imul, 1) := by decide +kernel
theorem dX4_putNumber_23 : decode cX4_putNumber 23 = .ok (.isub, 1) := by decide +kernel
theorem dX4_putNumber_24 : decode cX4_putNumber 24 = .ok (.ishr, 1) := by decide +kernel
theorem dX4_putNumber_25 : decode cX4_putNumber 25 = .ok (.invokevirtual 37, 3) := by decide +kernel
theorem dX4_putNumber_28 : decode cX4_putNumber 28 = .ok (.iinc 4 1, 3) := by decide +kernel
theorem dX4_putNumber_31 : decode cX4_putNumber 31 = .ok (.goto (-28), 3) := by decide +kernel
theorem dX4_putNumber_34 : decode cX4_putNumber 34 = .ok (.return_, 1) := by decide +kernel
set_option maxRecDepth 20000 in
theorem ggX4_sum_X4_at : GoodIn wsX4_sum wsX4_at := goodIn_r _ [6, 7, 8, 9, 10, 11, 12, 13, 14, 15, 16, 17, 18, 19] (by decide +kernel) (by decide +kernel)
set_option maxRecDepth 20000 in
theorem gX4_sum_X4_at : GoodIn wsX4_sum (wsV RX4 33 RX4 yX4_at wsX4_at) := goodIn_app (goodIn_of _ (by decide +kernel)) ggX4_sum_X4_at
theorem dX4_sum_0 : decode cX4_sum 0 = .ok (.iconst 0, 1) := by decide +kernel
theorem dX4_sum_1 : decode cX4_sum 1 = .ok (.istore_n 2, 1) := by decide +kernel
theorem dX4_sum_2 : decode cX4_sum 2 = .ok (.iconst 0, 1) := by decide +kernel
theorem dX4_sum_3 : decode cX4_sum 3 = .ok (.istore_n 3, 1) := by decide +kernel
theorem dX4_sum_4 : decode cX4_sum 4 = .ok (.iload_n 3, 1) := by decide +kernel
theorem dX4_sum_5 : decode cX4_sum 5 = .ok (.bipush 44, 2) := by decide +kernel
theorem dX4_sum_7 : decode cX4_sum 7 = .ok (.if_icmp .ge 34, 3) := by decide +kernel
theorem dX4_sum_10 : decode cX4_sum 10 = .ok (.iload_n 2, 1) := by decide +kernel
theorem dX4_sum_11 : decode cX4_sum 11 = .ok (.aload_n 0, 1) := by decide +kernel
theorem dX4_sum_12 : decode cX4_sum 12 = .ok (.iload_n 1, 1) := by decide +kernel
theorem dX4_sum_13 : decode cX4_sum 13 = .ok (.iload_n 3, 1) := by decide +kernel
theorem dX4_sum_14 : decode cX4_sum 14 = .ok (.invokevirtual 33, 3) := by decide +kernel
theorem dX4_sum_17 : decode cX4_sum 17 = .ok (.ixor, 1) := by decide +kernel
theorem dX4_sum_18 : decode cX4_sum 18 = .ok (.istore 4, 2) := by decide +kernel
theorem dX4_sum_20 : decode cX4_sum 20 = .ok (.iload 4, 2) := by decide +kernel
theorem dX4_sum_22 : decode cX4_sum 22 = .ok (.bipush 9, 2) := by decide +kernel
theorem dX4_sum_24 : decode cX4_sum 24 = .ok (.ishl, 1) := by decide +kernel
theorem dX4_sum_25 : decode cX4_sum 25 = .ok (.iload 4, 2) := by decide +kernel
theorem dX4_sum_27 : decode cX4_sum 27 = .ok (.bipush 23, 2) := by decide +kernel
theorem dX4_sum_29 : decode cX4_sum 29 = .ok (.iushr, 1) := by decide +kernel
theorem dX4_sum_30 : decode cX4_sum 30 = .ok (.ior, 1) := by decide +kernel
theorem dX4_sum_31 : decode cX4_sum 31 = .ok (.ldc 41, 2) := by decide +kernel
theorem dX4_sum_33 : decode cX4_sum 33 = .ok (.imul, 1) := by decide +kernel
theorem dX4_sum_34 : decode cX4_sum 34 = .ok (.istore_n 2, 1) := by decide +kernel
theorem dX4_sum_35 : decode cX4_sum 35 = .ok (.iinc 3 1, 3) := by decide +kernel
theorem dX4_sum_38 : decode cX4_sum 38 = .ok (.goto (-34), 3) := by decide +kernel
theorem dX4_sum_41 : decode cX4_sum 41 = .ok (.iload_n 2, 1) := by decide +kernel
theorem dX4_sum_42 : decode cX4_sum 42 = .ok (.ireturn, 1) := by decide +kernel
set_option maxRecDepth 20000 in
theorem ggX4_isKind_X4_at : GoodIn wsX4_isKind wsX4_at := goodIn_r _ [5, 6, 16, 17, 18, 19, 20, 21, 22, 23, 24, 25, 26, 27] (by decide +kernel) (by decide +kernel)
set_option maxRecDepth 20000 in
theorem gX4_isKind_X4_at : GoodIn wsX4_isKind (wsV RX4 33 RX4 yX4_at wsX4_at) := goodIn_app (goodIn_of _ (by decide +kernel)) ggX4_isKind_X4_at
set_option maxRecDepth 20000 in
theorem ggX4_isKind_X4_number : GoodIn wsX4_isKind wsX4_number := goodIn_r _ [10, 1, 2, 3, 4, 5, 6, 16, 17, 18, 19, 20, 21, 22, 23, 24, 25, 26, 27] (by decide +kernel) (by decide +kernel)
set_option maxRecDepth 20000 in
theorem gX4_isKind_X4_number : GoodIn wsX4_isKind (wsV RX4 42 RX4 yX4_number wsX4_number) := goodIn_app (goodIn_of _ (by decide +kernel)) ggX4_isKind_X4_number
set_option maxRecDepth 20000 in
theorem ggX4_isKind_X4_sum : GoodIn wsX4_isKind wsX4_sum := goodIn_r _ [14, 15, 1, 2, 3, 4, 5, 6, 16, 17, 18, 19, 20, 21, 22, 23, 24, 25, 26, 27] (by decide +kernel) (by decide +kernel)
set_option maxRecDepth 20000 in
theorem gX4_isKind_X4_sum : GoodIn wsX4_isKind (wsV RX4 45 RX4 yX4_sum wsX4_sum) := goodIn_app (goodIn_of _ (by decide +kernel)) ggX4_isKind_X4_sum
theorem dX4_isKind_0 : decode cX4_isKind 0 = .ok (.aload_n 0, 1) := by decide +kernel
theorem dX4_isKind_1 : decode cX4_isKind 1 = .ok (.iload_n 1, 1) := by decide +kernel
theorem dX4_isKind_2 : decode cX4_isKind 2 = .ok (.iconst 0, 1) := by decide +kernel
theorem dX4_isKind_3 : decode cX4_isKind 3 = .ok (.invokevirtual 33, 3) := by decide +kernel
theorem dX4_isKind_6 : decode cX4_isKind 6 = .ok (.iload_n 2, 1) := by decide +kernel
theorem dX4_isKind_7 : decode cX4_isKind 7 = .ok (.if_icmp .ne 22, 3) := by decide +kernel
theorem dX4_isKind_10 : decode cX4_isKind 10 = .ok (.aload_n 0, 1) := by decide +kernel
theorem dX4_isKind_11 : decode cX4_isKind 11 = .ok (.iload_n 1, 1) := by decide +kernel
theorem dX4_isKind_12 : decode cX4_isKind 12 = .ok (.bipush 44, 2) := by decide +kernel
theorem dX4_isKind_14 : decode cX4_isKind 14 = .ok (.invokevirtual 42, 3) := by decide +kernel
theorem dX4_isKind_17 : decode cX4_isKind 17 = .ok (.aload_n 0, 1) := by decide +kernel
theorem dX4_isKind_18 : decode cX4_isKind 18 = .ok (.iload_n 1, 1) := by decide +kernel
theorem dX4_isKind_19 : decode cX4_isKind 19 = .ok (.invokevirtual 45, 3) := by decide +kernel
theorem dX4_isKind_22 : decode cX4_isKind 22 = .ok (.if_icmp .ne 7, 3) := by decide +kernel
theorem dX4_isKind_25 : decode cX4_isKind 25 = .ok (.iconst 1, 1) := by decide +kernel
theorem dX4_isKind_26 : decode cX4_isKind 26 = .ok (.goto 4, 3) := by decide +kernel
theorem dX4_isKind_29 : decode cX4_isKind 29 = .ok (.iconst 0, 1) := by decide +kernel
theorem dX4_isKind_30 : decode cX4_isKind 30 = .ok (.ireturn, 1) := by decide +kernel
set_option maxRecDepth 20000 in
theorem ggX4_tellsPages_X4_at : GoodIn wsX4_tellsPages wsX4_at := goodIn_r _ [6, 7, 8, 9, 10, 11, 12, 13, 14, 15, 16, 17, 18, 19] (by decide +kernel) (by decide +kernel)
set_option maxRecDepth 20000 in
theorem gX4_tellsPages_X4_at : GoodIn wsX4_tellsPages (wsV RX4 33 RX4 yX4_at wsX4_at) := goodIn_app (goodIn_of _ (by decide +kernel)) ggX4_tellsPages_X4_at
theorem dX4_tellsPages_0 : decode cX4_tellsPages 0 = .ok (.iconst 1, 1) := by decide +kernel
theorem dX4_tellsPages_1 : decode cX4_tellsPages 1 = .ok (.istore_n 3, 1) := by decide +kernel
theorem dX4_tellsPages_2 : decode cX4_tellsPages 2 = .ok (.iconst 0, 1) := by decide +kernel
theorem dX4_tellsPages_3 : decode cX4_tellsPages 3 = .ok (.istore 4, 2) := by decide +kernel
theorem dX4_tellsPages_5 : decode cX4_tellsPages 5 = .ok (.iload 4, 2) := by decide +kernel
theorem dX4_tellsPages_7 : decode cX4_tellsPages 7 = .ok (.bipush 32, 2) := by decide +kernel
theorem dX4_tellsPages_9 : decode cX4_tellsPages 9 = .ok (.if_icmp .ge 51, 3) := by decide +kernel
theorem dX4_tellsPages_12 : decode cX4_tellsPages 12 = .ok (.aload_n 0, 1) := by decide +kernel
theorem dX4_tellsPages_13 : decode cX4_tellsPages 13 = .ok (.iload_n 1, 1) := by decide +kernel
theorem dX4_tellsPages_14 : decode cX4_tellsPages 14 = .ok (.iload_n 2, 1) := by decide +kernel
theorem dX4_tellsPages_15 : decode cX4_tellsPages 15 = .ok (.iload 4, 2) := by decide +kernel
theorem dX4_tellsPages_17 : decode cX4_tellsPages 17 = .ok (.iadd, 1) := by decide +kernel
theorem dX4_tellsPages_18 : decode cX4_tellsPages 18 = .ok (.invokevirtual 33, 3) := by decide +kernel
theorem dX4_tellsPages_21 : decode cX4_tellsPages 21 = .ok (.istore 5, 2) := by decide +kernel
theorem dX4_tellsPages_23 : decode cX4_tellsPages 23 = .ok (.iload_n 3, 1) := by decide +kernel
theorem dX4_tellsPages_24 : decode cX4_tellsPages 24 = .ok (.ifCond .eq 28, 3) := by decide +kernel
theorem dX4_tellsPages_27 : decode cX4_tellsPages 27 = .ok (.iload 5, 2) := by decide +kernel
theorem dX4_tellsPages_29 : decode cX4_tellsPages 29 = .ok (.ifCond .eq 19, 3) := by decide +kernel
theorem dX4_tellsPages_32 : decode cX4_tellsPages 32 = .ok (.iload 5, 2) := by decide +kernel
theorem dX4_tellsPages_34 : decode cX4_tellsPages 34 = .ok (.bipush 8, 2) := by decide +kernel
theorem dX4_tellsPages_36 : decode cX4_tellsPages 36 = .ok (.if_icmp .lt 16, 3) := by decide +kernel
theorem dX4_tellsPages_39 : decode cX4_tellsPages 39 = .ok (.iload 5, 2) := by decide +kernel
theorem dX4_tellsPages_41 : decode cX4_tellsPages 41 = .ok (.aload_n 0, 1) := by decide +kernel
theorem dX4_tellsPages_42 : decode cX4_tellsPages 42 = .ok (.getfield 27, 3) := by decide +kernel
theorem dX4_tellsPages_45 : decode cX4_tellsPages 45 = .ok (.if_icmp .ge 7, 3) := by decide +kernel
theorem dX4_tellsPages_48 : decode cX4_tellsPages 48 = .ok (.iconst 1, 1) := by decide +kernel
theorem dX4_tellsPages_49 : decode cX4_tellsPages 49 = .ok (.goto 4, 3) := by decide +kernel
theorem dX4_tellsPages_52 : decode cX4_tellsPages 52 = .ok (.iconst 0, 1) := by decide +kernel
theorem dX4_tellsPages_53 : decode cX4_tellsPages 53 = .ok (.istore_n 3, 1) := by decide +kernel
theorem dX4_tellsPages_54 : decode cX4_tellsPages 54 = .ok (.iinc 4 1, 3) := by decide +kernel
theorem dX4_tellsPages_57 : decode cX4_tellsPages 57 = .ok (.goto (-52), 3) := by decide +kernel
theorem dX4_tellsPages_60 : decode cX4_tellsPages 60 = .ok (.iload_n 3, 1) := by decide +kernel
theorem dX4_tellsPages_61 : decode cX4_tellsPages 61 = .ok (.ireturn, 1) := by decide +kernel
set_option maxRecDepth 20000 in
theorem ggX4_isRight_X4_isKind : GoodIn wsX4_isRight wsX4_isKind := goodIn_r _ [6, 7, 8, 9, 5, 10, 11, 12, 13, 14, 15, 16, 17, 18, 19, 20, 26, 27, 28, 29, 30, 31, 32, 33, 34, 35, 36, 37] (by decide +kernel) (by decide +kernel)
set_option maxRecDepth 20000 in
theorem gX4_isRight_X4_isKind : GoodIn wsX4_isRight (wsV RX4 49 RX4 yX4_isKind wsX4_isKind) := goodIn_app (goodIn_of _ (by decide +kernel)) ggX4_isRight_X4_isKind
set_option maxRecDepth 20000 in
theorem ggX4_isRight_X4_at : GoodIn wsX4_isRight wsX4_at := goodIn_r _ [10, 11, 26, 27, 28, 29, 30, 31, 32, 33, 34, 35, 36, 37] (by decide +kernel) (by decide +kernel)
set_option maxRecDepth 20000 in
theorem gX4_isRight_X4_at : GoodIn wsX4_isRight (wsV RX4 33 RX4 yX4_at wsX4_at) := goodIn_app (goodIn_of _ (by decide +kernel)) ggX4_isRight_X4_at
set_option maxRecDepth 20000 in
theorem ggX4_isRight_X4_tellsPages : GoodIn wsX4_isRight wsX4_tellsPages := goodIn_r _ [24, 25, 7, 8, 9, 5, 10, 11, 26, 27, 28, 29, 30, 31, 32, 33, 34, 35, 36, 37] (by decide +kernel) (by decide +kernel)
set_option maxRecDepth 20000 in
theorem gX4_isRight_X4_tellsPages : GoodIn wsX4_isRight (wsV RX4 53 RX4 yX4_tellsPages wsX4_tellsPages) := goodIn_app (goodIn_of _ (by decide +kernel)) ggX4_isRight_X4_tellsPages
set_option maxRecDepth 20000 in
theorem ggX4_isRight_X4_number : GoodIn wsX4_isRight wsX4_number := goodIn_r _ [15, 7, 8, 9, 5, 10, 11, 26, 27, 28, 29, 30, 31, 32, 33, 34, 35, 36, 37] (by decide +kernel) (by decide +kernel)
set_option maxRecDepth 20000 in
theorem gX4_isRight_X4_number : GoodIn wsX4_isRight (wsV RX4 42 RX4 yX4_number wsX4_number) := goodIn_app (goodIn_of _ (by decide +kernel)) ggX4_isRight_X4_number
theorem dX4_isRight_0 : decode cX4_isRight 0 = .ok (.aload_n 0, 1) := by decide +kernel
theorem dX4_isRight_1 : decode cX4_isRight 1 = .ok (.iload_n 1, 1) := by decide +kernel
theorem dX4_isRight_2 : decode cX4_isRight 2 = .ok (.iload_n 2, 1) := by decide +kernel
theorem dX4_isRight_3 : decode cX4_isRight 3 = .ok (.invokevirtual 49, 3) := by decide +kernel
theorem dX4_isRight_6 : decode cX4_isRight 6 = .ok (.ifCond .ne 5, 3) := by decide +kernel
theorem dX4_isRight_9 : decode cX4_isRight 9 = .ok (.iconst 0, 1) := by decide +kernel
theorem dX4_isRight_10 : decode cX4_isRight 10 = .ok (.ireturn, 1) := by decide +kernel
theorem dX4_isRight_11 : decode cX4_isRight 11 = .ok (.iload_n 2, 1) := by decide +kernel
theorem dX4_isRight_12 : decode cX4_isRight 12 = .ok (.iconst 3, 1) := by decide +kernel
theorem dX4_isRight_13 : decode cX4_isRight 13 = .ok (.if_icmp .ne 20, 3) := by decide +kernel
theorem dX4_isRight_16 : decode cX4_isRight 16 = .ok (.aload_n 0, 1) := by decide +kernel
theorem dX4_isRight_17 : decode cX4_isRight 17 = .ok (.iload_n 1, 1) := by decide +kernel
theorem dX4_isRight_18 : decode cX4_isRight 18 = .ok (.iconst 3, 1) := by decide +kernel
theorem dX4_isRight_19 : decode cX4_isRight 19 = .ok (.invokevirtual 33, 3) := by decide +kernel
theorem dX4_isRight_22 : decode cX4_isRight 22 = .ok (.bipush 32, 2) := by decide +kernel
theorem dX4_isRight_24 : decode cX4_isRight 24 = .ok (.if_icmp .gt 7, 3) := by decide +kernel
theorem dX4_isRight_27 : decode cX4_isRight 27 = .ok (.iconst 1, 1) := by decide +kernel
theorem dX4_isRight_28 : decode cX4_isRight 28 = .ok (.goto 4, 3) := by decide +kernel
theorem dX4_isRight_31 : decode cX4_isRight 31 = .ok (.iconst 0, 1) := by decide +kernel
theorem dX4_isRight_32 : decode cX4_isRight 32 = .ok (.ireturn, 1) := by decide +kernel
theorem dX4_isRight_33 : decode cX4_isRight 33 = .ok (.iload_n 2, 1) := by decide +kernel
theorem dX4_isRight_34 : decode cX4_isRight 34 = .ok (.iconst 2, 1) := by decide +kernel
theorem dX4_isRight_35 : decode cX4_isRight 35 = .ok (.if_icmp .ne 10, 3) := by decide +kernel
theorem dX4_isRight_38 : decode cX4_isRight 38 = .ok (.aload_n 0, 1) := by decide +kernel
theorem dX4_isRight_39 : decode cX4_isRight 39 = .ok (.iload_n 1, 1) := by decide +kernel
theorem dX4_isRight_40 : decode cX4_isRight 40 = .ok (.iconst 2, 1) := by decide +kernel
theorem dX4_isRight_41 : decode cX4_isRight 41 = .ok (.invokevirtual 53, 3) := by decide +kernel
theorem dX4_isRight_44 : decode cX4_isRight 44 = .ok (.ireturn, 1) := by decide +kernel
theorem dX4_isRight_45 : decode cX4_isRight 45 = .ok (.aload_n 0, 1) := by decide +kernel
theorem dX4_isRight_46 : decode cX4_isRight 46 = .ok (.iload_n 1, 1) := by decide +kernel
theorem dX4_isRight_47 : decode cX4_isRight 47 = .ok (.iconst 1, 1) := by decide +kernel
theorem dX4_isRight_48 : decode cX4_isRight 48 = .ok (.invokevirtual 42, 3) := by decide +kernel
theorem dX4_isRight_51 : decode cX4_isRight 51 = .ok (.istore_n 3, 1) := by decide +kernel
theorem dX4_isRight_52 : decode cX4_isRight 52 = .ok (.aload_n 0, 1) := by decide +kernel
theorem dX4_isRight_53 : decode cX4_isRight 53 = .ok (.iload_n 1, 1) := by decide +kernel
theorem dX4_isRight_54 : decode cX4_isRight 54 = .ok (.iconst 5, 1) := by decide +kernel
theorem dX4_isRight_55 : decode cX4_isRight 55 = .ok (.invokevirtual 42, 3) := by decide +kernel
theorem dX4_isRight_58 : decode cX4_isRight 58 = .ok (.istore 4, 2) := by decide +kernel
theorem dX4_isRight_60 : decode cX4_isRight 60 = .ok (.iload_n 3, 1) := by decide +kernel
theorem dX4_isRight_61 : decode cX4_isRight 61 = .ok (.iconst 1, 1) := by decide +kernel
theorem dX4_isRight_62 : decode cX4_isRight 62 = .ok (.if_icmp .lt 52, 3) := by decide +kernel
theorem dX4_isRight_65 : decode cX4_isRight 65 = .ok (.iload_n 3, 1) := by decide +kernel
theorem dX4_isRight_66 : decode cX4_isRight 66 = .ok (.ldc 56, 2) := by decide +kernel
theorem dX4_isRight_68 : decode cX4_isRight 68 = .ok (.if_icmp .gt 46, 3) := by decide +kernel
theorem dX4_isRight_71 : decode cX4_isRight 71 = .ok (.iload_n 3, 1) := by decide +kernel
theorem dX4_isRight_72 : decode cX4_isRight 72 = .ok (.bipush 8, 2) := by decide +kernel
theorem dX4_isRight_74 : decode cX4_isRight 74 = .ok (.irem, 1) := by decide +kernel
theorem dX4_isRight_75 : decode cX4_isRight 75 = .ok (.iload_n 1, 1) := by decide +kernel
theorem dX4_isRight_76 : decode cX4_isRight 76 = .ok (.if_icmp .ne 38, 3) := by decide +kernel
theorem dX4_isRight_79 : decode cX4_isRight 79 = .ok (.iload 4, 2) := by decide +kernel
theorem dX4_isRight_81 : decode cX4_isRight 81 = .ok (.iload_n 3, 1) := by decide +kernel
theorem dX4_isRight_82 : decode cX4_isRight 82 = .ok (.if_icmp .gt 32, 3) := by decide +kernel
theorem dX4_isRight_85 : decode cX4_isRight 85 = .ok (.iload 4, 2) := by decide +kernel
theorem dX4_isRight_87 : decode cX4_isRight 87 = .ok (.iload_n 3, 1) := by decide +kernel
theorem dX4_isRight_88 : decode cX4_isRight 88 = .ok (.bipush 7, 2) := by decide +kernel
theorem dX4_isRight_90 : decode cX4_isRight 90 = .ok (.isub, 1) := by decide +kernel
theorem dX4_isRight_91 : decode cX4_isRight 91 = .ok (.if_icmp .lt 23, 3) := by decide +kernel
theorem dX4_isRight_94 : decode cX4_isRight 94 = .ok (.iload 4, 2) := by decide +kernel
theorem dX4_isRight_96 : decode cX4_isRight 96 = .ok (.iconst 1, 1) := by decide +kernel
theorem dX4_isRight_97 : decode cX4_isRight 97 = .ok (.if_icmp .lt 17, 3) := by decide +kernel
theorem dX4_isRight_100 : decode cX4_isRight 100 = .ok (.aload_n 0, 1) := by decide +kernel
theorem dX4_isRight_101 : decode cX4_isRight 101 = .ok (.iload_n 1, 1) := by decide +kernel
theorem dX4_isRight_102 : decode cX4_isRight 102 = .ok (.bipush 9, 2) := by decide +kernel
theorem dX4_isRight_104 : decode cX4_isRight 104 = .ok (.invokevirtual 53, 3) := by decide +kernel
theorem dX4_isRight_107 : decode cX4_isRight 107 = .ok (.ifCond .eq 7, 3) := by decide +kernel
theorem dX4_isRight_110 : decode cX4_isRight 110 = .ok (.iconst 1, 1) := by decide +kernel
theorem dX4_isRight_111 : decode cX4_isRight 111 = .ok (.goto 4, 3) := by decide +kernel
theorem dX4_isRight_114 : decode cX4_isRight 114 = .ok (.iconst 0, 1) := by decide +kernel
theorem dX4_isRight_115 : decode cX4_isRight 115 = .ok (.ireturn, 1) := by decide +kernel
set_option maxRecDepth 20000 in
theorem ggX4_reach_X4_isRight : GoodIn wsX4_reach wsX4_isRight := goodIn_r _ [7, 8, 9, 10, 11, 6, 12, 13, 14, 15, 16, 17, 18, 19, 20, 21, 22, 23, 24, 25, 26, 27, 28, 29, 30, 31, 32, 33, 34, 35, 36, 37, 38, 39, 40, 41, 42, 43] (by decide +kernel) (by decide +kernel)
set_option maxRecDepth 20000 in
theorem gX4_reach_X4_isRight : GoodIn wsX4_reach (wsV RX4 57 RX4 yX4_isRight wsX4_isRight) := goodIn_app (goodIn_of _ (by decide +kernel)) ggX4_reach_X4_isRight
theorem dX4_reach_0 : decode cX4_reach 0 = .ok (.aload_n 0, 1) := by decide +kernel
theorem dX4_reach_1 : decode cX4_reach 1 = .ok (.getfield 23, 3) := by decide +kernel
theorem dX4_reach_4 : decode cX4_reach 4 = .ok (.iload_n 1, 1) := by decide +kernel
theorem dX4_reach_5 : decode cX4_reach 5 = .ok (.iconst 1, 1) := by decide +kernel
theorem dX4_reach_6 : decode cX4_reach 6 = .ok (.bastore, 1) := by decide +kernel
theorem dX4_reach_7 : decode cX4_reach 7 = .ok (.aload_n 0, 1) := by decide +kernel
theorem dX4_reach_8 : decode cX4_reach 8 = .ok (.aload_n 0, 1) := by decide +kernel
theorem dX4_reach_9 : decode cX4_reach 9 = .ok (.iload_n 1, 1) := by decide +kernel
theorem dX4_reach_10 : decode cX4_reach 10 = .ok (.iload_n 2, 1) := by decide +kernel
theorem dX4_reach_11 : decode cX4_reach 11 = .ok (.invokevirtual 57, 3) := by decide +kernel
theorem dX4_reach_14 : decode cX4_reach 14 = .ok (.ifCond .ne 23, 3) := by decide +kernel
theorem dX4_reach_17 : decode cX4_reach 17 = .ok (.aload_n 0, 1) := by decide +kernel
theorem dX4_reach_18 : decode cX4_reach 18 = .ok (.getfield 60, 3) := by decide +kernel
theorem dX4_reach_21 : decode cX4_reach 21 = .ok (.iconst (-1), 1) := by decide +kernel
theorem dX4_reach_22 : decode cX4_reach 22 = .ok (.if_icmp .eq 11, 3) := by decide +kernel
theorem dX4_reach_25 : decode cX4_reach 25 = .ok (.iload_n 1, 1) := by decide +kernel
theorem dX4_reach_26 : decode cX4_reach 26 = .ok (.aload_n 0, 1) := by decide +kernel
theorem dX4_reach_27 : decode cX4_reach 27 = .ok (.getfield 60, 3) := by decide +kernel
theorem dX4_reach_30 : decode cX4_reach 30 = .ok (.if_icmp .ge 7, 3) := by decide +kernel
theorem dX4_reach_33 : decode cX4_reach 33 = .ok (.iload_n 1, 1) := by decide +kernel
theorem dX4_reach_34 : decode cX4_reach 34 = .ok (.goto 7, 3) := by decide +kernel
theorem dX4_reach_37 : decode cX4_reach 37 = .ok (.aload_n 0, 1) := by decide +kernel
theorem dX4_reach_38 : decode cX4_reach 38 = .ok (.getfield 60, 3) := by decide +kernel
theorem dX4_reach_41 : decode cX4_reach 41 = .ok (.putfield 60, 3) := by decide +kernel
theorem dX4_reach_44 : decode cX4_reach 44 = .ok (.return_, 1) := by decide +kernel
set_option maxRecDepth 20000 in
theorem ggX4_reachNode_X4_reach : GoodIn wsX4_reachNode wsX4_reach := goodIn_r _ [5, 6, 7, 8, 9, 10, 4, 11, 12, 13, 14, 15, 16, 17, 18, 19, 20, 21, 22, 23, 24, 25, 26, 27, 28, 29, 30, 31, 32, 33, 34, 35, 36, 37, 38, 39, 40, 41, 42, 43, 44, 45, 46, 47] (by decide +kernel) (by decide +kernel)
set_option maxRecDepth 20000 in
theorem gX4_reachNode_X4_reach : GoodIn wsX4_reachNode (wsV RX4 63 RX4 yX4_reach wsX4_reach) := goodIn_app (goodIn_of _ (by decide +kernel)) ggX4_reachNode_X4_reach
set_option maxRecDepth 20000 in
theorem ggX4_reachNode_X4_isRight : GoodIn wsX4_reachNode wsX4_isRight := goodIn_r _ [11, 12, 13, 14, 15, 4, 16, 17, 18, 19, 20, 21, 22, 23, 24, 25, 26, 27, 28, 29, 30, 31, 32, 33, 34, 35, 36, 37, 38, 39, 40, 41, 42, 43, 44, 45, 46, 47] (by decide +kernel) (by decide +kernel)
set_option maxRecDepth 20000 in
theorem gX4_reachNode_X4_isRight : GoodIn wsX4_reachNode (wsV RX4 57 RX4 yX4_isRight wsX4_isRight) := goodIn_app (goodIn_of _ (by decide +kernel)) ggX4_reachNode_X4_isRight
set_option maxRecDepth 20000 in
theorem ggX4_reachNode_X4_at : GoodIn wsX4_reachNode wsX4_at := goodIn_r _ [20, 21, 36, 37, 38, 39, 40, 41, 42, 43, 44, 45, 46, 47] (by decide +kernel) (by decide +kernel)
set_option maxRecDepth 20000 in
theorem gX4_reachNode_X4_at : GoodIn wsX4_reachNode (wsV RX4 33 RX4 yX4_at wsX4_at) := goodIn_app (goodIn_of _ (by decide +kernel)) ggX4_reachNode_X4_at
theorem dX4_reachNode_0 : decode cX4_reachNode 0 = .ok (.aload_n 0, 1) := by decide +kernel
theorem dX4_reachNode_1 : decode cX4_reachNode 1 = .ok (.iload_n 1, 1) := by decide +kernel
theorem dX4_reachNode_2 : decode cX4_reachNode 2 = .ok (.iconst 2, 1) := by decide +kernel
theorem dX4_reachNode_3 : decode cX4_reachNode 3 = .ok (.invokevirtual 63, 3) := by decide +kernel
theorem dX4_reachNode_6 : decode cX4_reachNode 6 = .ok (.iconst 0, 1) := by decide +kernel
theorem dX4_reachNode_7 : decode cX4_reachNode 7 = .ok (.istore_n 2, 1) := by decide +kernel
theorem dX4_reachNode_8 : decode cX4_reachNode 8 = .ok (.iload_n 2, 1) := by decide +kernel
theorem dX4_reachNode_9 : decode cX4_reachNode 9 = .ok (.bipush 32, 2) := by decide +kernel
theorem dX4_reachNode_11 : decode cX4_reachNode 11 = .ok (.if_icmp .ge 42, 3) := by decide +kernel
theorem dX4_reachNode_14 : decode cX4_reachNode 14 = .ok (.aload_n 0, 1) := by decide +kernel
theorem dX4_reachNode_15 : decode cX4_reachNode 15 = .ok (.iload_n 1, 1) := by decide +kernel
theorem dX4_reachNode_16 : decode cX4_reachNode 16 = .ok (.iconst 2, 1) := by decide +kernel
theorem dX4_reachNode_17 : decode cX4_reachNode 17 = .ok (.invokevirtual 57, 3) := by decide +kernel
theorem dX4_reachNode_20 : decode cX4_reachNode 20 = .ok (.ifCond .eq 33, 3) := by decide +kernel
theorem dX4_reachNode_23 : decode cX4_reachNode 23 = .ok (.aload_n 0, 1) := by decide +kernel
theorem dX4_reachNode_24 : decode cX4_reachNode 24 = .ok (.iload_n 1, 1) := by decide +kernel
theorem dX4_reachNode_25 : decode cX4_reachNode 25 = .ok (.iconst 2, 1) := by decide +kernel
theorem dX4_reachNode_26 : decode cX4_reachNode 26 = .ok (.iload_n 2, 1) := by decide +kernel
theorem dX4_reachNode_27 : decode cX4_reachNode 27 = .ok (.iadd, 1) := by decide +kernel
theorem dX4_reachNode_28 : decode cX4_reachNode 28 = .ok (.invokevirtual 33, 3) := by decide +kernel
theorem dX4_reachNode_31 : decode cX4_reachNode 31 = .ok (.ifCond .eq 16, 3) := by decide +kernel
theorem dX4_reachNode_34 : decode cX4_reachNode 34 = .ok (.aload_n 0, 1) := by decide +kernel
theorem dX4_reachNode_35 : decode cX4_reachNode 35 = .ok (.aload_n 0, 1) := by decide +kernel
theorem dX4_reachNode_36 : decode cX4_reachNode 36 = .ok (.iload_n 1, 1) := by decide +kernel
theorem dX4_reachNode_37 : decode cX4_reachNode 37 = .ok (.iconst 2, 1) := by decide +kernel
theorem dX4_reachNode_38 : decode cX4_reachNode 38 = .ok (.iload_n 2, 1) := by decide +kernel
theorem dX4_reachNode_39 : decode cX4_reachNode 39 = .ok (.iadd, 1) := by decide +kernel
theorem dX4_reachNode_40 : decode cX4_reachNode 40 = .ok (.invokevirtual 33, 3) := by decide +kernel
theorem dX4_reachNode_43 : decode cX4_reachNode 43 = .ok (.iconst 3, 1) := by decide +kernel
theorem dX4_reachNode_44 : decode cX4_reachNode 44 = .ok (.invokevirtual 63, 3) := by decide +kernel
theorem dX4_reachNode_47 : decode cX4_reachNode 47 = .ok (.iinc 2 1, 3) := by decide +kernel
theorem dX4_reachNode_50 : decode cX4_reachNode 50 = .ok (.goto (-42), 3) := by decide +kernel
theorem dX4_reachNode_53 : decode cX4_reachNode 53 = .ok (.return_, 1) := by decide +kernel
set_option maxRecDepth 20000 in
theorem ggX4_reachAll_X4_reach : GoodIn wsX4_reachAll wsX4_reach := goodIn_r _ [10, 3, 1, 11, 12, 13, 9, 14, 15, 16, 17, 18, 19, 20, 21, 22, 23, 24, 25, 26, 27, 28, 29, 30, 31, 32, 33, 34, 35, 36, 37, 2, 42, 43, 44, 45, 46, 47, 48, 49, 50, 51, 52, 53] (by decide +kernel) (by decide +kernel)
set_option maxRecDepth 20000 in
theorem gX4_reachAll_X4_reach : GoodIn wsX4_reachAll (wsV RX4 63 RX4 yX4_reach wsX4_reach) := goodIn_app (goodIn_of _ (by decide +kernel)) ggX4_reachAll_X4_reach
set_option maxRecDepth 20000 in
theorem ggX4_reachAll_X4_isRight : GoodIn wsX4_reachAll wsX4_isRight := goodIn_r _ [14, 15, 16, 17, 18, 9, 19, 20, 21, 22, 23, 24, 25, 26, 27, 28, 29, 30, 31, 32, 33, 34, 35, 36, 37, 2, 42, 43, 44, 45, 46, 47, 48, 49, 50, 51, 52, 53] (by decide +kernel) (by decide +kernel)
set_option maxRecDepth 20000 in
theorem gX4_reachAll_X4_isRight : GoodIn wsX4_reachAll (wsV RX4 57 RX4 yX4_isRight wsX4_isRight) := goodIn_app (goodIn_of _ (by decide +kernel)) ggX4_reachAll_X4_isRight
set_option maxRecDepth 20000 in
theorem ggX4_reachAll_X4_at : GoodIn wsX4_reachAll wsX4_at := goodIn_r _ [23, 24, 42, 43, 44, 45, 46, 47, 48, 49, 50, 51, 52, 53] (by decide +kernel) (by decide +kernel)
set_option maxRecDepth 20000 in
theorem gX4_reachAll_X4_at : GoodIn wsX4_reachAll (wsV RX4 33 RX4 yX4_at wsX4_at) := goodIn_app (goodIn_of _ (by decide +kernel)) ggX4_reachAll_X4_at
set_option maxRecDepth 20000 in
theorem ggX4_reachAll_X4_reachNode : GoodIn wsX4_reachAll wsX4_reachNode := goodIn_r _ [41, 6, 7, 8, 9, 10, 3, 1, 11, 12, 13, 14, 15, 16, 17, 18, 19, 20, 21, 22, 23, 24, 25, 26, 27, 28, 29, 30, 31, 32, 33, 34, 35, 36, 37, 2, 42, 43, 44, 45, 46, 47, 48, 49, 50, 51, 52, 53] (by decide +kernel) (by decide +kernel)
set_option maxRecDepth 20000 in
theorem gX4_reachAll_X4_reachNode : GoodIn wsX4_reachAll (wsV RX4 70 RX4 yX4_reachNode wsX4_reachNode) := goodIn_app (goodIn_of _ (by decide +kernel)) ggX4_reachAll_X4_reachNode
theorem dX4_reachAll_0 : decode cX4_reachAll 0 = .ok (.aload_n 0, 1) := by decide +kernel
theorem dX4_reachAll_1 : decode cX4_reachAll 1 = .ok (.iconst (-1), 1) := by decide +kernel
theorem dX4_reachAll_2 : decode cX4_reachAll 2 = .ok (.putfield 60, 3) := by decide +kernel
theorem dX4_reachAll_5 : decode cX4_reachAll 5 = .ok (.iconst 0, 1) := by decide +kernel
theorem dX4_reachAll_6 : decode cX4_reachAll 6 = .ok (.istore_n 1, 1) := by decide +kernel
theorem dX4_reachAll_7 : decode cX4_reachAll 7 = .ok (.iload_n 1, 1) := by decide +kernel
theorem dX4_reachAll_8 : decode cX4_reachAll 8 = .ok (.aload_n 0, 1) := by decide +kernel
theorem dX4_reachAll_9 : decode cX4_reachAll 9 = .ok (.getfield 27, 3) := by decide +kernel
theorem dX4_reachAll_12 : decode cX4_reachAll 12 = .ok (.if_icmp .ge 16, 3) := by decide +kernel
theorem dX4_reachAll_15 : decode cX4_reachAll 15 = .ok (.aload_n 0, 1) := by decide +kernel
theorem dX4_reachAll_16 : decode cX4_reachAll 16 = .ok (.getfield 23, 3) := by decide +kernel
theorem dX4_reachAll_19 : decode cX4_reachAll 19 = .ok (.iload_n 1, 1) := by decide +kernel
theorem dX4_reachAll_20 : decode cX4_reachAll 20 = .ok (.iconst 0, 1) := by decide +kernel
theorem dX4_reachAll_21 : decode cX4_reachAll 21 = .ok (.bastore, 1) := by decide +kernel
theorem dX4_reachAll_22 : decode cX4_reachAll 22 = .ok (.iinc 1 1, 3) := by decide +kernel
theorem dX4_reachAll_25 : decode cX4_reachAll 25 = .ok (.goto (-18), 3) := by decide +kernel
theorem dX4_reachAll_28 : decode cX4_reachAll 28 = .ok (.aload_n 0, 1) := by decide +kernel
theorem dX4_reachAll_29 : decode cX4_reachAll 29 = .ok (.getfield 13, 3) := by decide +kernel
theorem dX4_reachAll_32 : decode cX4_reachAll 32 = .ok (.istore_n 1, 1) := by decide +kernel
theorem dX4_reachAll_33 : decode cX4_reachAll 33 = .ok (.iload_n 1, 1) := by decide +kernel
theorem dX4_reachAll_34 : decode cX4_reachAll 34 = .ok (.aload_n 0, 1) := by decide +kernel
theorem dX4_reachAll_35 : decode cX4_reachAll 35 = .ok (.getfield 67, 3) := by decide +kernel
theorem dX4_reachAll_38 : decode cX4_reachAll 38 = .ok (.if_icmp .gt 68, 3) := by decide +kernel
theorem dX4_reachAll_41 : decode cX4_reachAll 41 = .ok (.iload_n 1, 1) := by decide +kernel
theorem dX4_reachAll_42 : decode cX4_reachAll 42 = .ok (.bipush 8, 2) := by decide +kernel
theorem dX4_reachAll_44 : decode cX4_reachAll 44 = .ok (.irem, 1) := by decide +kernel
theorem dX4_reachAll_45 : decode cX4_reachAll 45 = .ok (.istore_n 2, 1) := by decide +kernel
theorem dX4_reachAll_46 : decode cX4_reachAll 46 = .ok (.aload_n 0, 1) := by decide +kernel
theorem dX4_reachAll_47 : decode cX4_reachAll 47 = .ok (.iload_n 2, 1) := by decide +kernel
theorem dX4_reachAll_48 : decode cX4_reachAll 48 = .ok (.iconst 1, 1) := by decide +kernel
theorem dX4_reachAll_49 : decode cX4_reachAll 49 = .ok (.invokevirtual 63, 3) := by decide +kernel
theorem dX4_reachAll_52 : decode cX4_reachAll 52 = .ok (.iconst 0, 1) := by decide +kernel
theorem dX4_reachAll_53 : decode cX4_reachAll 53 = .ok (.istore_n 3, 1) := by decide +kernel
theorem dX4_reachAll_54 : decode cX4_reachAll 54 = .ok (.iload_n 3, 1) := by decide +kernel
theorem dX4_reachAll_55 : decode cX4_reachAll 55 = .ok (.bipush 32, 2) := by decide +kernel
theorem dX4_reachAll_57 : decode cX4_reachAll 57 = .ok (.if_icmp .ge 43, 3) := by decide +kernel
theorem dX4_reachAll_60 : decode cX4_reachAll 60 = .ok (.aload_n 0, 1) := by decide +kernel
theorem dX4_reachAll_61 : decode cX4_reachAll 61 = .ok (.iload_n 2, 1) := by decide +kernel
theorem dX4_reachAll_62 : decode cX4_reachAll 62 = .ok (.iconst 1, 1) := by decide +kernel
theorem dX4_reachAll_63 : decode cX4_reachAll 63 = .ok (.invokevirtual 57, 3) := by decide +kernel
theorem dX4_reachAll_66 : decode cX4_reachAll 66 = .ok (.ifCond .eq 34, 3) := by decide +kernel
theorem dX4_reachAll_69 : decode cX4_reachAll 69 = .ok (.aload_n 0, 1) := by decide +kernel
theorem dX4_reachAll_70 : decode cX4_reachAll 70 = .ok (.iload_n 2, 1) := by decide +kernel
theorem dX4_reachAll_71 : decode cX4_reachAll 71 = .ok (.bipush 9, 2) := by decide +kernel
theorem dX4_reachAll_73 : decode cX4_reachAll 73 = .ok (.iload_n 3, 1) := by decide +kernel
theorem dX4_reachAll_74 : decode cX4_reachAll 74 = .ok (.iadd, 1) := by decide +kernel
theorem dX4_reachAll_75 : decode cX4_reachAll 75 = .ok (.invokevirtual 33, 3) := by decide +kernel
theorem dX4_reachAll_78 : decode cX4_reachAll 78 = .ok (.ifCond .eq 16, 3) := by decide +kernel
theorem dX4_reachAll_81 : decode cX4_reachAll 81 = .ok (.aload_n 0, 1) := by decide +kernel
theorem dX4_reachAll_82 : decode cX4_reachAll 82 = .ok (.aload_n 0, 1) := by decide +kernel
theorem dX4_reachAll_83 : decode cX4_reachAll 83 = .ok (.iload_n 2, 1) := by decide +kernel
theorem dX4_reachAll_84 : decode cX4_reachAll 84 = .ok (.bipush 9, 2) := by decide +kernel
theorem dX4_reachAll_86 : decode cX4_reachAll 86 = .ok (.iload_n 3, 1) := by decide +kernel
theorem dX4_reachAll_87 : decode cX4_reachAll 87 = .ok (.iadd, 1) := by decide +kernel
theorem dX4_reachAll_88 : decode cX4_reachAll 88 = .ok (.invokevirtual 33, 3) := by decide +kernel
theorem dX4_reachAll_91 : decode cX4_reachAll 91 = .ok (.invokevirtual 70, 3) := by decide +kernel
theorem dX4_reachAll_94 : decode cX4_reachAll 94 = .ok (.iinc 3 1, 3) := by decide +kernel
theorem dX4_reachAll_97 : decode cX4_reachAll 97 = .ok (.goto (-43), 3) := by decide +kernel
theorem dX4_reachAll_100 : decode cX4_reachAll 100 = .ok (.iinc 1 1, 3) := by decide +kernel
theorem dX4_reachAll_103 : decode cX4_reachAll 103 = .ok (.goto (-70), 3) := by decide +kernel
theorem dX4_reachAll_106 : decode cX4_reachAll 106 = .ok (.return_, 1) := by decide +kernel
theorem dX4_free_0 : decode cX4_free 0 = .ok (.bipush 8, 2) := by decide +kernel
theorem dX4_free_2 : decode cX4_free 2 = .ok (.istore_n 2, 1) := by decide +kernel
theorem dX4_free_3 : decode cX4_free 3 = .ok (.iload_n 2, 1) := by decide +kernel
theorem dX4_free_4 : decode cX4_free 4 = .ok (.aload_n 0, 1) := by decide +kernel
theorem dX4_free_5 : decode cX4_free 5 = .ok (.getfield 27, 3) := by decide +kernel
theorem dX4_free_8 : decode cX4_free 8 = .ok (.if_icmp .ge 25, 3) := by decide +kernel
theorem dX4_free_11 : decode cX4_free 11 = .ok (.aload_n 0, 1) := by decide +kernel
theorem dX4_free_12 : decode cX4_free 12 = .ok (.getfield 23, 3) := by decide +kernel
theorem dX4_free_15 : decode cX4_free 15 = .ok (.iload_n 2, 1) := by decide +kernel
theorem dX4_free_16 : decode cX4_free 16 = .ok (.baload, 1) := by decide +kernel
theorem dX4_free_17 : decode cX4_free 17 = .ok (.ifCond .ne 10, 3) := by decide +kernel
theorem dX4_free_20 : decode cX4_free 20 = .ok (.iload_n 2, 1) := by decide +kernel
theorem dX4_free_21 : decode cX4_free 21 = .ok (.iload_n 1, 1) := by decide +kernel
theorem dX4_free_22 : decode cX4_free 22 = .ok (.if_icmp .le 5, 3) := by decide +kernel
theorem dX4_free_25 : decode cX4_free 25 = .ok (.iload_n 2, 1) := by decide +kernel
theorem dX4_free_26 : decode cX4_free 26 = .ok (.ireturn, 1) := by decide +kernel
theorem dX4_free_27 : decode cX4_free 27 = .ok (.iinc 2 1, 3) := by decide +kernel
theorem dX4_free_30 : decode cX4_free 30 = .ok (.goto (-27), 3) := by decide +kernel
theorem dX4_free_33 : decode cX4_free 33 = .ok (.iconst (-1), 1) := by decide +kernel
theorem dX4_free_34 : decode cX4_free 34 = .ok (.ireturn, 1) := by decide +kernel
set_option maxRecDepth 20000 in
theorem ggX4_empty_X4_lay : GoodIn wsX4_empty wsX4_lay := goodIn_r _ [5, 6, 7, 8, 9, 10, 11, 12, 13, 14, 15, 16, 17, 18] (by decide +kernel) (by decide +kernel)
set_option maxRecDepth 20000 in
theorem gX4_empty_X4_lay : GoodIn wsX4_empty (wsV RX4 37 RX4 yX4_lay wsX4_lay) := goodIn_app (goodIn_of _ (by decide +kernel)) ggX4_empty_X4_lay
theorem dX4_empty_0 : decode cX4_empty 0 = .ok (.iconst 0, 1) := by decide +kernel
theorem dX4_empty_1 : decode cX4_empty 1 = .ok (.istore_n 3, 1) := by decide +kernel
theorem dX4_empty_2 : decode cX4_empty 2 = .ok (.iload_n 3, 1) := by decide +kernel
theorem dX4_empty_3 : decode cX4_empty 3 = .ok (.bipush 48, 2) := by decide +kernel
theorem dX4_empty_5 : decode cX4_empty 5 = .ok (.if_icmp .ge 16, 3) := by decide +kernel
theorem dX4_empty_8 : decode cX4_empty 8 = .ok (.aload_n 0, 1) := by decide +kernel
theorem dX4_empty_9 : decode cX4_empty 9 = .ok (.iload_n 1, 1) := by decide +kernel
theorem dX4_empty_10 : decode cX4_empty 10 = .ok (.iload_n 3, 1) := by decide +kernel
theorem dX4_empty_11 : decode cX4_empty 11 = .ok (.iconst 0, 1) := by decide +kernel
theorem dX4_empty_12 : decode cX4_empty 12 = .ok (.invokevirtual 37, 3) := by decide +kernel
theorem dX4_empty_15 : decode cX4_empty 15 = .ok (.iinc 3 1, 3) := by decide +kernel
theorem dX4_empty_18 : decode cX4_empty 18 = .ok (.goto (-16), 3) := by decide +kernel
theorem dX4_empty_21 : decode cX4_empty 21 = .ok (.aload_n 0, 1) := by decide +kernel
theorem dX4_empty_22 : decode cX4_empty 22 = .ok (.iload_n 1, 1) := by decide +kernel
theorem dX4_empty_23 : decode cX4_empty 23 = .ok (.iconst 0, 1) := by decide +kernel
theorem dX4_empty_24 : decode cX4_empty 24 = .ok (.iload_n 2, 1) := by decide +kernel
theorem dX4_empty_25 : decode cX4_empty 25 = .ok (.invokevirtual 37, 3) := by decide +kernel
theorem dX4_empty_28 : decode cX4_empty 28 = .ok (.return_, 1) := by decide +kernel
set_option maxRecDepth 20000 in
theorem ggX4_copy_X4_at : GoodIn wsX4_copy wsX4_at := goodIn_r _ [5, 6, 11, 12, 13, 14, 15, 16, 17, 18, 19, 20, 21, 22] (by decide +kernel) (by decide +kernel)
set_option maxRecDepth 20000 in
theorem gX4_copy_X4_at : GoodIn wsX4_copy (wsV RX4 33 RX4 yX4_at wsX4_at) := goodIn_app (goodIn_of _ (by decide +kernel)) ggX4_copy_X4_at
set_option maxRecDepth 20000 in
theorem ggX4_copy_X4_lay : GoodIn wsX4_copy wsX4_lay := goodIn_r _ [10, 6, 11, 12, 13, 14, 15, 16, 17, 18, 19, 20, 21, 22] (by decide +kernel) (by decide +kernel)
set_option maxRecDepth 20000 in
theorem gX4_copy_X4_lay : GoodIn wsX4_copy (wsV RX4 37 RX4 yX4_lay wsX4_lay) := goodIn_app (goodIn_of _ (by decide +kernel)) ggX4_copy_X4_lay
theorem dX4_copy_0 : decode cX4_copy 0 = .ok (.iconst 0, 1) := by decide +kernel
theorem dX4_copy_1 : decode cX4_copy 1 = .ok (.istore_n 3, 1) := by decide +kernel
theorem dX4_copy_2 : decode cX4_copy 2 = .ok (.iload_n 3, 1) := by decide +kernel
theorem dX4_copy_3 : decode cX4_copy 3 = .ok (.bipush 48, 2) := by decide +kernel
theorem dX4_copy_5 : decode cX4_copy 5 = .ok (.if_icmp .ge 21, 3) := by decide +kernel
theorem dX4_copy_8 : decode cX4_copy 8 = .ok (.aload_n 0, 1) := by decide +kernel
theorem dX4_copy_9 : decode cX4_copy 9 = .ok (.iload_n 2, 1) := by decide +kernel
theorem dX4_copy_10 : decode cX4_copy 10 = .ok (.iload_n 3, 1) := by decide +kernel
theorem dX4_copy_11 : decode cX4_copy 11 = .ok (.aload_n 0, 1) := by decide +kernel
theorem dX4_copy_12 : decode cX4_copy 12 = .ok (.iload_n 1, 1) := by decide +kernel
theorem dX4_copy_13 : decode cX4_copy 13 = .ok (.iload_n 3, 1) := by decide +kernel
theorem dX4_copy_14 : decode cX4_copy 14 = .ok (.invokevirtual 33, 3) := by decide +kernel
theorem dX4_copy_17 : decode cX4_copy 17 = .ok (.invokevirtual 37, 3) := by decide +kernel
theorem dX4_copy_20 : decode cX4_copy 20 = .ok (.iinc 3 1, 3) := by decide +kernel
theorem dX4_copy_23 : decode cX4_copy 23 = .ok (.goto (-21), 3) := by decide +kernel
theorem dX4_copy_26 : decode cX4_copy 26 = .ok (.return_, 1) := by decide +kernel
set_option maxRecDepth 20000 in
theorem ggX4_done_X4_sum : GoodIn wsX4_done wsX4_sum := goodIn_r _ [8, 9, 10, 11, 12, 7, 13, 14, 28, 29, 30, 31, 32, 33, 34, 35, 36, 37, 38, 39] (by decide +kernel) (by decide +kernel)
set_option maxRecDepth 20000 in
theorem gX4_done_X4_sum : GoodIn wsX4_done (wsV RX4 45 RX4 yX4_sum wsX4_sum) := goodIn_app (goodIn_of _ (by decide +kernel)) ggX4_done_X4_sum
set_option maxRecDepth 20000 in
theorem ggX4_done_X4_putNumber : GoodIn wsX4_done wsX4_putNumber := goodIn_r _ [18, 19, 20, 21, 7, 22, 14, 28, 29, 30, 31, 32, 33, 34, 35, 36, 37, 38, 39] (by decide +kernel) (by decide +kernel)
set_option maxRecDepth 20000 in
theorem gX4_done_X4_putNumber : GoodIn wsX4_done (wsV RX4 74 RX4 yX4_putNumber wsX4_putNumber) := goodIn_app (goodIn_of _ (by decide +kernel)) ggX4_done_X4_putNumber
set_option maxRecDepth 20000 in
theorem ggX4_done_X4_fail : GoodIn wsX4_done wsX4_fail := goodIn_r _ [26, 3, 2, 27, 28, 29, 30, 31, 32, 33, 34, 35, 36, 37, 38, 39] (by decide +kernel) (by decide +kernel)
set_option maxRecDepth 20000 in
theorem gX4_done_X4_fail : GoodIn wsX4_done (wsV RX4 80 RX4 yX4_fail wsX4_fail) := goodIn_app (goodIn_of _ (by decide +kernel)) ggX4_done_X4_fail
theorem dX4_done_0 : decode cX4_done 0 = .ok (.aload_n 0, 1) := by decide +kernel
theorem dX4_done_1 : decode cX4_done 1 = .ok (.iload_n 1, 1) := by decide +kernel
theorem dX4_done_2 : decode cX4_done 2 = .ok (.bipush 44, 2) := by decide +kernel
theorem dX4_done_4 : decode cX4_done 4 = .ok (.aload_n 0, 1) := by decide +kernel
theorem dX4_done_5 : decode cX4_done 5 = .ok (.iload_n 1, 1) := by decide +kernel
theorem dX4_done_6 : decode cX4_done 6 = .ok (.invokevirtual 45, 3) := by decide +kernel
theorem dX4_done_9 : decode cX4_done 9 = .ok (.invokevirtual 74, 3) := by decide +kernel
theorem dX4_done_12 : decode cX4_done 12 = .ok (.aload_n 0, 1) := by decide +kernel
theorem dX4_done_13 : decode cX4_done 13 = .ok (.dup, 1) := by decide +kernel
theorem dX4_done_14 : decode cX4_done 14 = .ok (.getfield 77, 3) := by decide +kernel
theorem dX4_done_17 : decode cX4_done 17 = .ok (.iconst 1, 1) := by decide +kernel
theorem dX4_done_18 : decode cX4_done 18 = .ok (.iadd, 1) := by decide +kernel
theorem dX4_done_19 : decode cX4_done 19 = .ok (.putfield 77, 3) := by decide +kernel
theorem dX4_done_22 : decode cX4_done 22 = .ok (.aload_n 0, 1) := by decide +kernel
theorem dX4_done_23 : decode cX4_done 23 = .ok (.aload_n 0, 1) := by decide +kernel
theorem dX4_done_24 : decode cX4_done 24 = .ok (.getfield 17, 3) := by decide +kernel
theorem dX4_done_27 : decode cX4_done 27 = .ok (.ifCond .le 12, 3) := by decide +kernel
theorem dX4_done_30 : decode cX4_done 30 = .ok (.aload_n 0, 1) := by decide +kernel
theorem dX4_done_31 : decode cX4_done 31 = .ok (.getfield 17, 3) := by decide +kernel
theorem dX4_done_34 : decode cX4_done 34 = .ok (.iconst 1, 1) := by decide +kernel
theorem dX4_done_35 : decode cX4_done 35 = .ok (.isub, 1) := by decide +kernel
theorem dX4_done_36 : decode cX4_done 36 = .ok (.goto 7, 3) := by decide +kernel
theorem dX4_done_39 : decode cX4_done 39 = .ok (.aload_n 0, 1) := by decide +kernel
theorem dX4_done_40 : decode cX4_done 40 = .ok (.getfield 17, 3) := by decide +kernel
theorem dX4_done_43 : decode cX4_done 43 = .ok (.putfield 17, 3) := by decide +kernel
theorem dX4_done_46 : decode cX4_done 46 = .ok (.aload_n 0, 1) := by decide +kernel
theorem dX4_done_47 : decode cX4_done 47 = .ok (.getfield 17, 3) := by decide +kernel
theorem dX4_done_50 : decode cX4_done 50 = .ok (.ifCond .ne 7, 3) := by decide +kernel
theorem dX4_done_53 : decode cX4_done 53 = .ok (.aload_n 0, 1) := by decide +kernel
theorem dX4_done_54 : decode cX4_done 54 = .ok (.invokevirtual 80, 3) := by decide +kernel
theorem dX4_done_57 : decode cX4_done 57 = .ok (.aload_n 0, 1) := by decide +kernel
theorem dX4_done_58 : decode cX4_done 58 = .ok (.getfield 83, 3) := by decide +kernel
theorem dX4_done_61 : decode cX4_done 61 = .ok (.ifCond .ne 7, 3) := by decide +kernel
theorem dX4_done_64 : decode cX4_done 64 = .ok (.iconst 1, 1) := by decide +kernel
theorem dX4_done_65 : decode cX4_done 65 = .ok (.goto 4, 3) := by decide +kernel
theorem dX4_done_68 : decode cX4_done 68 = .ok (.iconst 0, 1) := by decide +kernel
theorem dX4_done_69 : decode cX4_done 69 = .ok (.ireturn, 1) := by decide +kernel
theorem dX4_fail_0 : decode cX4_fail 0 = .ok (.aload_n 0, 1) := by decide +kernel
theorem dX4_fail_1 : decode cX4_fail 1 = .ok (.iconst 1, 1) := by decide +kernel
theorem dX4_fail_2 : decode cX4_fail 2 = .ok (.putfield 83, 3) := by decide +kernel
theorem dX4_fail_5 : decode cX4_fail 5 = .ok (.aload_n 0, 1) := by decide +kernel
theorem dX4_fail_6 : decode cX4_fail 6 = .ok (.iconst (-1), 1) := by decide +kernel
theorem dX4_fail_7 : decode cX4_fail 7 = .ok (.putfield 17, 3) := by decide +kernel
theorem dX4_fail_10 : decode cX4_fail 10 = .ok (.aload_n 0, 1) := by decide +kernel
theorem dX4_fail_11 : decode cX4_fail 11 = .ok (.iconst 0, 1) := by decide +kernel
theorem dX4_fail_12 : decode cX4_fail 12 = .ok (.putfield 87, 3) := by decide +kernel
theorem dX4_fail_15 : decode cX4_fail 15 = .ok (.return_, 1) := by decide +kernel
theorem dX4_hasVersion_0 : decode cX4_hasVersion 0 = .ok (.aload_n 0, 1) := by decide +kernel
theorem dX4_hasVersion_1 : decode cX4_hasVersion 1 = .ok (.getfield 67, 3) := by decide +kernel
theorem dX4_hasVersion_4 : decode cX4_hasVersion 4 = .ok (.aload_n 0, 1) := by decide +kernel
theorem dX4_hasVersion_5 : decode cX4_hasVersion 5 = .ok (.getfield 13, 3) := by decide +kernel
theorem dX4_hasVersion_8 : decode cX4_hasVersion 8 = .ok (.if_icmp .lt 7, 3) := by decide +kernel
theorem dX4_hasVersion_11 : decode cX4_hasVersion 11 = .ok (.iconst 1, 1) := by decide +kernel
theorem dX4_hasVersion_12 : decode cX4_hasVersion 12 = .ok (.goto 4, 3) := by decide +kernel
theorem dX4_hasVersion_15 : decode cX4_hasVersion 15 = .ok (.iconst 0, 1) := by decide +kernel
theorem dX4_hasVersion_16 : decode cX4_hasVersion 16 = .ok (.ireturn, 1) := by decide +kernel
set_option maxRecDepth 20000 in
theorem ggX4_nodeOf_X4_at : GoodIn wsX4_nodeOf wsX4_at := goodIn_r _ [5, 6, 7, 8, 9, 10, 11, 12, 13, 14, 15, 16, 17, 18] (by decide +kernel) (by decide +kernel)
set_option maxRecDepth 20000 in
theorem gX4_nodeOf_X4_at : GoodIn wsX4_nodeOf (wsV RX4 33 RX4 yX4_at wsX4_at) := goodIn_app (goodIn_of _ (by decide +kernel)) ggX4_nodeOf_X4_at
theorem dX4_nodeOf_0 : decode cX4_nodeOf 0 = .ok (.aload_n 0, 1) := by decide +kernel
end
section
theorem dX4_nodeOf_1 : decode cX4_nodeOf 1 = .ok (.iload_n 1, 1) := by decide +kernel
theorem dX4_nodeOf_2 : decode cX4_nodeOf 2 = .ok (.bipush 8, 2) := by decide +kernel
theorem dX4_nodeOf_4 : decode cX4_nodeOf 4 = .ok (.irem, 1) := by decide +kernel
theorem dX4_nodeOf_5 : decode cX4_nodeOf 5 = .ok (.bipush 9, 2) := by decide +kernel
theorem dX4_nodeOf_7 : decode cX4_nodeOf 7 = .ok (.iload_n 2, 1) := by decide +kernel
theorem dX4_nodeOf_8 : decode cX4_nodeOf 8 = .ok (.iadd, 1) := by decide +kernel
theorem dX4_nodeOf_9 : decode cX4_nodeOf 9 = .ok (.invokevirtual 33, 3) := by decide +kernel
theorem dX4_nodeOf_12 : decode cX4_nodeOf 12 = .ok (.ireturn, 1) := by decide +kernel
set_option maxRecDepth 20000 in
theorem ggX4_change_X4_hasVersion : GoodIn wsX4_change wsX4_hasVersion := goodIn_r _ [7, 1, 2, 50, 51, 52, 53, 54, 55, 56, 57, 58, 59, 60, 61] (by decide +kernel) (by decide +kernel)
set_option maxRecDepth 20000 in
theorem gX4_change_X4_hasVersion : GoodIn wsX4_change (wsV RX4 90 RX4 yX4_hasVersion wsX4_hasVersion) := goodIn_app (goodIn_of _ (by decide +kernel)) ggX4_change_X4_hasVersion
set_option maxRecDepth 20000 in
theorem ggX4_change_X4_nodeOf : GoodIn wsX4_change wsX4_nodeOf := goodIn_r _ [11, 12, 13, 14, 6, 15, 16, 50, 51, 52, 53, 54, 55, 56, 57, 58, 59, 60, 61] (by decide +kernel) (by decide +kernel)
set_option maxRecDepth 20000 in
theorem gX4_change_X4_nodeOf : GoodIn wsX4_change (wsV RX4 94 RX4 yX4_nodeOf wsX4_nodeOf) := goodIn_app (goodIn_of _ (by decide +kernel)) ggX4_change_X4_nodeOf
set_option maxRecDepth 20000 in
theorem ggX4_change_X4_empty : GoodIn wsX4_change wsX4_empty := goodIn_r _ [20, 21, 22, 23, 6, 24, 16, 50, 51, 52, 53, 54, 55, 56, 57, 58, 59, 60, 61] (by decide +kernel) (by decide +kernel)
set_option maxRecDepth 20000 in
theorem gX4_change_X4_empty : GoodIn wsX4_change (wsV RX4 97 RX4 yX4_empty wsX4_empty) := goodIn_app (goodIn_of _ (by decide +kernel)) ggX4_change_X4_empty
set_option maxRecDepth 20000 in
theorem ggX4_change_X4_copy : GoodIn wsX4_change wsX4_copy := goodIn_r _ [28, 12, 13, 14, 6, 15, 16, 21, 22, 23, 24, 50, 51, 52, 53, 54, 55, 56, 57, 58, 59, 60, 61] (by decide +kernel) (by decide +kernel)
set_option maxRecDepth 20000 in
theorem gX4_change_X4_copy : GoodIn wsX4_change (wsV RX4 100 RX4 yX4_copy wsX4_copy) := goodIn_app (goodIn_of _ (by decide +kernel)) ggX4_change_X4_copy
set_option maxRecDepth 20000 in
theorem ggX4_change_X4_lay : GoodIn wsX4_change wsX4_lay := goodIn_r _ [24, 16, 50, 51, 52, 53, 54, 55, 56, 57, 58, 59, 60, 61] (by decide +kernel) (by decide +kernel)
set_option maxRecDepth 20000 in
theorem gX4_change_X4_lay : GoodIn wsX4_change (wsV RX4 37 RX4 yX4_lay wsX4_lay) := goodIn_app (goodIn_of _ (by decide +kernel)) ggX4_change_X4_lay
set_option maxRecDepth 20000 in
theorem ggX4_change_X4_done : GoodIn wsX4_change wsX4_done := goodIn_r _ [32, 33, 34, 35, 36, 37, 38, 6, 39, 40, 12, 13, 14, 15, 16, 41, 42, 43, 44, 21, 22, 23, 24, 45, 46, 47, 48, 49, 50, 51, 52, 53, 54, 55, 56, 57, 58, 59, 60, 61] (by decide +kernel) (by decide +kernel)
set_option maxRecDepth 20000 in
theorem gX4_change_X4_done : GoodIn wsX4_change (wsV RX4 103 RX4 yX4_done wsX4_done) := goodIn_app (goodIn_of _ (by decide +kernel)) ggX4_change_X4_done
set_option maxRecDepth 20000 in
theorem ggX4_change_X4_putNumber : GoodIn wsX4_change wsX4_putNumber := goodIn_r _ [44, 21, 22, 23, 6, 24, 16, 50, 51, 52, 53, 54, 55, 56, 57, 58, 59, 60, 61] (by decide +kernel) (by decide +kernel)
set_option maxRecDepth 20000 in
theorem gX4_change_X4_putNumber : GoodIn wsX4_change (wsV RX4 74 RX4 yX4_putNumber wsX4_putNumber) := goodIn_app (goodIn_of _ (by decide +kernel)) ggX4_change_X4_putNumber
theorem dX4_change_0 : decode cX4_change 0 = .ok (.aload_n 0, 1) := by decide +kernel
theorem dX4_change_1 : decode cX4_change 1 = .ok (.invokevirtual 90, 3) := by decide +kernel
theorem dX4_change_4 : decode cX4_change 4 = .ok (.ifCond .eq 18, 3) := by decide +kernel
theorem dX4_change_7 : decode cX4_change 7 = .ok (.aload_n 0, 1) := by decide +kernel
theorem dX4_change_8 : decode cX4_change 8 = .ok (.aload_n 0, 1) := by decide +kernel
theorem dX4_change_9 : decode cX4_change 9 = .ok (.getfield 67, 3) := by decide +kernel
theorem dX4_change_12 : decode cX4_change 12 = .ok (.iload_n 1, 1) := by decide +kernel
theorem dX4_change_13 : decode cX4_change 13 = .ok (.bipush 32, 2) := by decide +kernel
theorem dX4_change_15 : decode cX4_change 15 = .ok (.idiv, 1) := by decide +kernel
theorem dX4_change_16 : decode cX4_change 16 = .ok (.invokevirtual 94, 3) := by decide +kernel
theorem dX4_change_19 : decode cX4_change 19 = .ok (.goto 4, 3) := by decide +kernel
theorem dX4_change_22 : decode cX4_change 22 = .ok (.iconst 0, 1) := by decide +kernel
theorem dX4_change_23 : decode cX4_change 23 = .ok (.istore 4, 2) := by decide +kernel
theorem dX4_change_25 : decode cX4_change 25 = .ok (.iload 4, 2) := by decide +kernel
theorem dX4_change_27 : decode cX4_change 27 = .ok (.ifCond .ne 12, 3) := by decide +kernel
theorem dX4_change_30 : decode cX4_change 30 = .ok (.aload_n 0, 1) := by decide +kernel
theorem dX4_change_31 : decode cX4_change 31 = .ok (.iload_n 2, 1) := by decide +kernel
theorem dX4_change_32 : decode cX4_change 32 = .ok (.iconst 2, 1) := by decide +kernel
theorem dX4_change_33 : decode cX4_change 33 = .ok (.invokevirtual 97, 3) := by decide +kernel
theorem dX4_change_36 : decode cX4_change 36 = .ok (.goto 10, 3) := by decide +kernel
theorem dX4_change_39 : decode cX4_change 39 = .ok (.aload_n 0, 1) := by decide +kernel
theorem dX4_change_40 : decode cX4_change 40 = .ok (.iload 4, 2) := by decide +kernel
theorem dX4_change_42 : decode cX4_change 42 = .ok (.iload_n 2, 1) := by decide +kernel
theorem dX4_change_43 : decode cX4_change 43 = .ok (.invokevirtual 100, 3) := by decide +kernel
theorem dX4_change_46 : decode cX4_change 46 = .ok (.aload_n 0, 1) := by decide +kernel
theorem dX4_change_47 : decode cX4_change 47 = .ok (.iload_n 2, 1) := by decide +kernel
theorem dX4_change_48 : decode cX4_change 48 = .ok (.iconst 1, 1) := by decide +kernel
theorem dX4_change_49 : decode cX4_change 49 = .ok (.iload_n 1, 1) := by decide +kernel
theorem dX4_change_50 : decode cX4_change 50 = .ok (.bipush 32, 2) := by decide +kernel
theorem dX4_change_52 : decode cX4_change 52 = .ok (.idiv, 1) := by decide +kernel
theorem dX4_change_53 : decode cX4_change 53 = .ok (.invokevirtual 37, 3) := by decide +kernel
theorem dX4_change_56 : decode cX4_change 56 = .ok (.aload_n 0, 1) := by decide +kernel
theorem dX4_change_57 : decode cX4_change 57 = .ok (.iload_n 2, 1) := by decide +kernel
theorem dX4_change_58 : decode cX4_change 58 = .ok (.iconst 2, 1) := by decide +kernel
theorem dX4_change_59 : decode cX4_change 59 = .ok (.iload_n 1, 1) := by decide +kernel
theorem dX4_change_60 : decode cX4_change 60 = .ok (.bipush 32, 2) := by decide +kernel
theorem dX4_change_62 : decode cX4_change 62 = .ok (.irem, 1) := by decide +kernel
theorem dX4_change_63 : decode cX4_change 63 = .ok (.iadd, 1) := by decide +kernel
theorem dX4_change_64 : decode cX4_change 64 = .ok (.iload_n 3, 1) := by decide +kernel
theorem dX4_change_65 : decode cX4_change 65 = .ok (.invokevirtual 37, 3) := by decide +kernel
theorem dX4_change_68 : decode cX4_change 68 = .ok (.aload_n 0, 1) := by decide +kernel
theorem dX4_change_69 : decode cX4_change 69 = .ok (.iload_n 2, 1) := by decide +kernel
theorem dX4_change_70 : decode cX4_change 70 = .ok (.invokevirtual 103, 3) := by decide +kernel
theorem dX4_change_73 : decode cX4_change 73 = .ok (.ifCond .ne 6, 3) := by decide +kernel
theorem dX4_change_76 : decode cX4_change 76 = .ok (.bipush (-3), 2) := by decide +kernel
theorem dX4_change_78 : decode cX4_change 78 = .ok (.ireturn, 1) := by decide +kernel
theorem dX4_change_79 : decode cX4_change 79 = .ok (.aload_n 0, 1) := by decide +kernel
theorem dX4_change_80 : decode cX4_change 80 = .ok (.getfield 67, 3) := by decide +kernel
theorem dX4_change_83 : decode cX4_change 83 = .ok (.iconst 1, 1) := by decide +kernel
theorem dX4_change_84 : decode cX4_change 84 = .ok (.iadd, 1) := by decide +kernel
theorem dX4_change_85 : decode cX4_change 85 = .ok (.istore 5, 2) := by decide +kernel
theorem dX4_change_87 : decode cX4_change 87 = .ok (.iload 5, 2) := by decide +kernel
theorem dX4_change_89 : decode cX4_change 89 = .ok (.bipush 8, 2) := by decide +kernel
theorem dX4_change_91 : decode cX4_change 91 = .ok (.irem, 1) := by decide +kernel
theorem dX4_change_92 : decode cX4_change 92 = .ok (.istore 6, 2) := by decide +kernel
theorem dX4_change_94 : decode cX4_change 94 = .ok (.aload_n 0, 1) := by decide +kernel
theorem dX4_change_95 : decode cX4_change 95 = .ok (.invokevirtual 90, 3) := by decide +kernel
theorem dX4_change_98 : decode cX4_change 98 = .ok (.ifCond .eq 19, 3) := by decide +kernel
theorem dX4_change_101 : decode cX4_change 101 = .ok (.aload_n 0, 1) := by decide +kernel
theorem dX4_change_102 : decode cX4_change 102 = .ok (.aload_n 0, 1) := by decide +kernel
theorem dX4_change_103 : decode cX4_change 103 = .ok (.getfield 67, 3) := by decide +kernel
theorem dX4_change_106 : decode cX4_change 106 = .ok (.bipush 8, 2) := by decide +kernel
theorem dX4_change_108 : decode cX4_change 108 = .ok (.irem, 1) := by decide +kernel
theorem dX4_change_109 : decode cX4_change 109 = .ok (.iload 6, 2) := by decide +kernel
theorem dX4_change_111 : decode cX4_change 111 = .ok (.invokevirtual 100, 3) := by decide +kernel
theorem dX4_change_114 : decode cX4_change 114 = .ok (.goto 10, 3) := by decide +kernel
theorem dX4_change_117 : decode cX4_change 117 = .ok (.aload_n 0, 1) := by decide +kernel
theorem dX4_change_118 : decode cX4_change 118 = .ok (.iload 6, 2) := by decide +kernel
theorem dX4_change_120 : decode cX4_change 120 = .ok (.iconst 1, 1) := by decide +kernel
theorem dX4_change_121 : decode cX4_change 121 = .ok (.invokevirtual 97, 3) := by decide +kernel
theorem dX4_change_124 : decode cX4_change 124 = .ok (.aload_n 0, 1) := by decide +kernel
theorem dX4_change_125 : decode cX4_change 125 = .ok (.getfield 13, 3) := by decide +kernel
theorem dX4_change_128 : decode cX4_change 128 = .ok (.iload 5, 2) := by decide +kernel
theorem dX4_change_130 : decode cX4_change 130 = .ok (.bipush 7, 2) := by decide +kernel
theorem dX4_change_132 : decode cX4_change 132 = .ok (.isub, 1) := by decide +kernel
theorem dX4_change_133 : decode cX4_change 133 = .ok (.if_icmp .le 10, 3) := by decide +kernel
theorem dX4_change_136 : decode cX4_change 136 = .ok (.aload_n 0, 1) := by decide +kernel
theorem dX4_change_137 : decode cX4_change 137 = .ok (.getfield 13, 3) := by decide +kernel
theorem dX4_change_140 : decode cX4_change 140 = .ok (.goto 8, 3) := by decide +kernel
theorem dX4_change_143 : decode cX4_change 143 = .ok (.iload 5, 2) := by decide +kernel
theorem dX4_change_145 : decode cX4_change 145 = .ok (.bipush 7, 2) := by decide +kernel
theorem dX4_change_147 : decode cX4_change 147 = .ok (.isub, 1) := by decide +kernel
theorem dX4_change_148 : decode cX4_change 148 = .ok (.istore 7, 2) := by decide +kernel
theorem dX4_change_150 : decode cX4_change 150 = .ok (.aload_n 0, 1) := by decide +kernel
theorem dX4_change_151 : decode cX4_change 151 = .ok (.iload 6, 2) := by decide +kernel
theorem dX4_change_153 : decode cX4_change 153 = .ok (.iconst 1, 1) := by decide +kernel
theorem dX4_change_154 : decode cX4_change 154 = .ok (.iload 5, 2) := by decide +kernel
theorem dX4_change_156 : decode cX4_change 156 = .ok (.invokevirtual 74, 3) := by decide +kernel
theorem dX4_change_159 : decode cX4_change 159 = .ok (.aload_n 0, 1) := by decide +kernel
theorem dX4_change_160 : decode cX4_change 160 = .ok (.iload 6, 2) := by decide +kernel
theorem dX4_change_162 : decode cX4_change 162 = .ok (.iconst 5, 1) := by decide +kernel
theorem dX4_change_163 : decode cX4_change 163 = .ok (.iload 7, 2) := by decide +kernel
theorem dX4_change_165 : decode cX4_change 165 = .ok (.invokevirtual 74, 3) := by decide +kernel
theorem dX4_change_168 : decode cX4_change 168 = .ok (.aload_n 0, 1) := by decide +kernel
theorem dX4_change_169 : decode cX4_change 169 = .ok (.iload 6, 2) := by decide +kernel
theorem dX4_change_171 : decode cX4_change 171 = .ok (.bipush 9, 2) := by decide +kernel
theorem dX4_change_173 : decode cX4_change 173 = .ok (.iload_n 1, 1) := by decide +kernel
theorem dX4_change_174 : decode cX4_change 174 = .ok (.bipush 32, 2) := by decide +kernel
theorem dX4_change_176 : decode cX4_change 176 = .ok (.idiv, 1) := by decide +kernel
theorem dX4_change_177 : decode cX4_change 177 = .ok (.iadd, 1) := by decide +kernel
theorem dX4_change_178 : decode cX4_change 178 = .ok (.iload_n 2, 1) := by decide +kernel
theorem dX4_change_179 : decode cX4_change 179 = .ok (.invokevirtual 37, 3) := by decide +kernel
theorem dX4_change_182 : decode cX4_change 182 = .ok (.aload_n 0, 1) := by decide +kernel
theorem dX4_change_183 : decode cX4_change 183 = .ok (.iload 6, 2) := by decide +kernel
theorem dX4_change_185 : decode cX4_change 185 = .ok (.invokevirtual 103, 3) := by decide +kernel
theorem dX4_change_188 : decode cX4_change 188 = .ok (.ifCond .ne 6, 3) := by decide +kernel
theorem dX4_change_191 : decode cX4_change 191 = .ok (.bipush (-3), 2) := by decide +kernel
theorem dX4_change_193 : decode cX4_change 193 = .ok (.ireturn, 1) := by decide +kernel
theorem dX4_change_194 : decode cX4_change 194 = .ok (.aload_n 0, 1) := by decide +kernel
theorem dX4_change_195 : decode cX4_change 195 = .ok (.iload 5, 2) := by decide +kernel
theorem dX4_change_197 : decode cX4_change 197 = .ok (.putfield 67, 3) := by decide +kernel
theorem dX4_change_200 : decode cX4_change 200 = .ok (.aload_n 0, 1) := by decide +kernel
theorem dX4_change_201 : decode cX4_change 201 = .ok (.iload 7, 2) := by decide +kernel
theorem dX4_change_203 : decode cX4_change 203 = .ok (.putfield 13, 3) := by decide +kernel
theorem dX4_change_206 : decode cX4_change 206 = .ok (.iload 5, 2) := by decide +kernel
theorem dX4_change_208 : decode cX4_change 208 = .ok (.ireturn, 1) := by decide +kernel
theorem dX4_isKey_0 : decode cX4_isKey 0 = .ok (.iload_n 0, 1) := by decide +kernel
theorem dX4_isKey_1 : decode cX4_isKey 1 = .ok (.ifCond .lt 14, 3) := by decide +kernel
theorem dX4_isKey_4 : decode cX4_isKey 4 = .ok (.iload_n 0, 1) := by decide +kernel
theorem dX4_isKey_5 : decode cX4_isKey 5 = .ok (.sipush 1024, 3) := by decide +kernel
theorem dX4_isKey_8 : decode cX4_isKey 8 = .ok (.if_icmp .ge 7, 3) := by decide +kernel
theorem dX4_isKey_11 : decode cX4_isKey 11 = .ok (.iconst 1, 1) := by decide +kernel
theorem dX4_isKey_12 : decode cX4_isKey 12 = .ok (.goto 4, 3) := by decide +kernel
theorem dX4_isKey_15 : decode cX4_isKey 15 = .ok (.iconst 0, 1) := by decide +kernel
theorem dX4_isKey_16 : decode cX4_isKey 16 = .ok (.ireturn, 1) := by decide +kernel
theorem dX4_type_0 : decode cX4_type 0 = .ok (.aload_n 0, 1) := by decide +kernel
theorem dX4_type_1 : decode cX4_type 1 = .ok (.iconst 0, 1) := by decide +kernel
theorem dX4_type_2 : decode cX4_type 2 = .ok (.putfield 30, 3) := by decide +kernel
theorem dX4_type_5 : decode cX4_type 5 = .ok (.aload_n 0, 1) := by decide +kernel
theorem dX4_type_6 : decode cX4_type 6 = .ok (.getfield 83, 3) := by decide +kernel
theorem dX4_type_9 : decode cX4_type 9 = .ok (.ifCond .eq 6, 3) := by decide +kernel
theorem dX4_type_12 : decode cX4_type 12 = .ok (.bipush (-5), 2) := by decide +kernel
theorem dX4_type_14 : decode cX4_type 14 = .ok (.ireturn, 1) := by decide +kernel
theorem dX4_type_15 : decode cX4_type 15 = .ok (.iload_n 1, 1) := by decide +kernel
theorem dX4_type_16 : decode cX4_type 16 = .ok (.ifCond .lt 10, 3) := by decide +kernel
theorem dX4_type_19 : decode cX4_type 19 = .ok (.iload_n 1, 1) := by decide +kernel
theorem dX4_type_20 : decode cX4_type 20 = .ok (.sipush 255, 3) := by decide +kernel
theorem dX4_type_23 : decode cX4_type 23 = .ok (.if_icmp .le 6, 3) := by decide +kernel
theorem dX4_type_26 : decode cX4_type 26 = .ok (.bipush (-2), 2) := by decide +kernel
theorem dX4_type_28 : decode cX4_type 28 = .ok (.ireturn, 1) := by decide +kernel
theorem dX4_type_29 : decode cX4_type 29 = .ok (.aload_n 0, 1) := by decide +kernel
theorem dX4_type_30 : decode cX4_type 30 = .ok (.getfield 87, 3) := by decide +kernel
theorem dX4_type_33 : decode cX4_type 33 = .ok (.bipush 32, 2) := by decide +kernel
theorem dX4_type_35 : decode cX4_type 35 = .ok (.if_icmp .ne 6, 3) := by decide +kernel
theorem dX4_type_38 : decode cX4_type 38 = .ok (.bipush (-6), 2) := by decide +kernel
theorem dX4_type_40 : decode cX4_type 40 = .ok (.ireturn, 1) := by decide +kernel
theorem dX4_type_41 : decode cX4_type 41 = .ok (.aload_n 0, 1) := by decide +kernel
theorem dX4_type_42 : decode cX4_type 42 = .ok (.getfield 20, 3) := by decide +kernel
theorem dX4_type_45 : decode cX4_type 45 = .ok (.aload_n 0, 1) := by decide +kernel
theorem dX4_type_46 : decode cX4_type 46 = .ok (.getfield 87, 3) := by decide +kernel
theorem dX4_type_49 : decode cX4_type 49 = .ok (.iload_n 1, 1) := by decide +kernel
theorem dX4_type_50 : decode cX4_type 50 = .ok (.iastore, 1) := by decide +kernel
theorem dX4_type_51 : decode cX4_type 51 = .ok (.aload_n 0, 1) := by decide +kernel
theorem dX4_type_52 : decode cX4_type 52 = .ok (.dup, 1) := by decide +kernel
theorem dX4_type_53 : decode cX4_type 53 = .ok (.getfield 87, 3) := by decide +kernel
theorem dX4_type_56 : decode cX4_type 56 = .ok (.iconst 1, 1) := by decide +kernel
theorem dX4_type_57 : decode cX4_type 57 = .ok (.iadd, 1) := by decide +kernel
theorem dX4_type_58 : decode cX4_type 58 = .ok (.putfield 87, 3) := by decide +kernel
theorem dX4_type_61 : decode cX4_type 61 = .ok (.aload_n 0, 1) := by decide +kernel
theorem dX4_type_62 : decode cX4_type 62 = .ok (.getfield 87, 3) := by decide +kernel
theorem dX4_type_65 : decode cX4_type 65 = .ok (.ireturn, 1) := by decide +kernel
set_option maxRecDepth 20000 in
theorem ggX4_put_X4_isKey : GoodIn wsX4_put wsX4_isKey := goodIn_r _ [11] (by decide +kernel) (by decide +kernel)
set_option maxRecDepth 20000 in
theorem gX4_put_X4_isKey : GoodIn wsX4_put (va_wsS RX4 107 yX4_isKey wsX4_isKey) := goodIn_app (goodIn_of _ (by decide +kernel)) ggX4_put_X4_isKey
set_option maxRecDepth 20000 in
theorem ggX4_put_X4_reachAll : GoodIn wsX4_put wsX4_reachAll := goodIn_r _ [15, 3, 16, 17, 18, 4, 19, 20, 21, 10, 22, 23, 24, 25, 26, 5, 27, 28, 29, 30, 31, 32, 33, 34, 35, 36, 37, 38, 39, 40, 41, 42, 43, 44, 45, 46, 47, 48, 49, 50, 51, 52, 95, 96, 97, 98, 99, 100, 101, 102, 103, 104, 105, 106] (by decide +kernel) (by decide +kernel)
set_option maxRecDepth 20000 in
theorem gX4_put_X4_reachAll : GoodIn wsX4_put (wsV RX4 110 RX4 yX4_reachAll wsX4_reachAll) := goodIn_app (goodIn_of _ (by decide +kernel)) ggX4_put_X4_reachAll
set_option maxRecDepth 20000 in
theorem ggX4_put_X4_free : GoodIn wsX4_put wsX4_free := goodIn_r _ [56, 16, 17, 95, 96, 97, 98, 99, 100, 101, 102, 103, 104, 105, 106] (by decide +kernel) (by decide +kernel)
set_option maxRecDepth 20000 in
theorem gX4_put_X4_free : GoodIn wsX4_put (wsV RX4 113 RX4 yX4_free wsX4_free) := goodIn_app (goodIn_of _ (by decide +kernel)) ggX4_put_X4_free
set_option maxRecDepth 20000 in
theorem ggX4_put_X4_empty : GoodIn wsX4_put wsX4_empty := goodIn_r _ [60, 61, 62, 63, 10, 64, 35, 95, 96, 97, 98, 99, 100, 101, 102, 103, 104, 105, 106] (by decide +kernel) (by decide +kernel)
set_option maxRecDepth 20000 in
theorem gX4_put_X4_empty : GoodIn wsX4_put (wsV RX4 97 RX4 yX4_empty wsX4_empty) := goodIn_app (goodIn_of _ (by decide +kernel)) ggX4_put_X4_empty
set_option maxRecDepth 20000 in
theorem ggX4_put_X4_lay : GoodIn wsX4_put wsX4_lay := goodIn_r _ [64, 35, 95, 96, 97, 98, 99, 100, 101, 102, 103, 104, 105, 106] (by decide +kernel) (by decide +kernel)
set_option maxRecDepth 20000 in
theorem gX4_put_X4_lay : GoodIn wsX4_put (wsV RX4 37 RX4 yX4_lay wsX4_lay) := goodIn_app (goodIn_of _ (by decide +kernel)) ggX4_put_X4_lay
set_option maxRecDepth 20000 in
theorem ggX4_put_X4_done : GoodIn wsX4_put wsX4_done := goodIn_r _ [68, 69, 70, 2, 40, 41, 42, 10, 43, 44, 31, 32, 33, 34, 35, 71, 72, 73, 74, 61, 62, 63, 64, 75, 76, 77, 78, 6, 95, 96, 97, 98, 99, 100, 101, 102, 103, 104, 105, 106] (by decide +kernel) (by decide +kernel)
set_option maxRecDepth 20000 in
theorem gX4_put_X4_done : GoodIn wsX4_put (wsV RX4 103 RX4 yX4_done wsX4_done) := goodIn_app (goodIn_of _ (by decide +kernel)) ggX4_put_X4_done
set_option maxRecDepth 20000 in
theorem ggX4_put_X4_change : GoodIn wsX4_put wsX4_change := goodIn_r _ [82, 4, 18, 83, 84, 85, 10, 86, 87, 88, 89, 90, 31, 32, 33, 34, 35, 57, 58, 59, 60, 61, 62, 63, 64, 91, 92, 93, 94, 65, 66, 67, 68, 69, 70, 2, 40, 41, 42, 43, 44, 71, 72, 73, 74, 75, 76, 77, 78, 6, 95, 96, 97, 98, 99, 100, 101, 102, 103, 104, 105, 106] (by decide +kernel) (by decide +kernel)
set_option maxRecDepth 20000 in
theorem gX4_put_X4_change : GoodIn wsX4_put (wsV RX4 116 RX4 yX4_change wsX4_change) := goodIn_app (goodIn_of _ (by decide +kernel)) ggX4_put_X4_change
theorem dX4_put_0 : decode cX4_put 0 = .ok (.aload_n 0, 1) := by decide +kernel
theorem dX4_put_1 : decode cX4_put 1 = .ok (.iconst 0, 1) := by decide +kernel
theorem dX4_put_2 : decode cX4_put 2 = .ok (.putfield 30, 3) := by decide +kernel
theorem dX4_put_5 : decode cX4_put 5 = .ok (.aload_n 0, 1) := by decide +kernel
theorem dX4_put_6 : decode cX4_put 6 = .ok (.getfield 83, 3) := by decide +kernel
theorem dX4_put_9 : decode cX4_put 9 = .ok (.ifCond .eq 6, 3) := by decide +kernel
theorem dX4_put_12 : decode cX4_put 12 = .ok (.bipush (-5), 2) := by decide +kernel
theorem dX4_put_14 : decode cX4_put 14 = .ok (.ireturn, 1) := by decide +kernel
theorem dX4_put_15 : decode cX4_put 15 = .ok (.iload_n 1, 1) := by decide +kernel
theorem dX4_put_16 : decode cX4_put 16 = .ok (.invokestatic 107, 3) := by decide +kernel
theorem dX4_put_19 : decode cX4_put 19 = .ok (.ifCond .ne 6, 3) := by decide +kernel
theorem dX4_put_22 : decode cX4_put 22 = .ok (.bipush (-2), 2) := by decide +kernel
theorem dX4_put_24 : decode cX4_put 24 = .ok (.ireturn, 1) := by decide +kernel
theorem dX4_put_25 : decode cX4_put 25 = .ok (.aload_n 0, 1) := by decide +kernel
theorem dX4_put_26 : decode cX4_put 26 = .ok (.invokevirtual 110, 3) := by decide +kernel
theorem dX4_put_29 : decode cX4_put 29 = .ok (.aload_n 0, 1) := by decide +kernel
theorem dX4_put_30 : decode cX4_put 30 = .ok (.getfield 60, 3) := by decide +kernel
theorem dX4_put_33 : decode cX4_put 33 = .ok (.iconst (-1), 1) := by decide +kernel
theorem dX4_put_34 : decode cX4_put 34 = .ok (.if_icmp .eq 6, 3) := by decide +kernel
theorem dX4_put_37 : decode cX4_put 37 = .ok (.bipush (-4), 2) := by decide +kernel
theorem dX4_put_39 : decode cX4_put 39 = .ok (.ireturn, 1) := by decide +kernel
theorem dX4_put_40 : decode cX4_put 40 = .ok (.aload_n 0, 1) := by decide +kernel
theorem dX4_put_41 : decode cX4_put 41 = .ok (.iconst 0, 1) := by decide +kernel
theorem dX4_put_42 : decode cX4_put 42 = .ok (.invokevirtual 113, 3) := by decide +kernel
theorem dX4_put_45 : decode cX4_put 45 = .ok (.istore_n 2, 1) := by decide +kernel
theorem dX4_put_46 : decode cX4_put 46 = .ok (.iload_n 2, 1) := by decide +kernel
theorem dX4_put_47 : decode cX4_put 47 = .ok (.iconst (-1), 1) := by decide +kernel
theorem dX4_put_48 : decode cX4_put 48 = .ok (.if_icmp .ne 7, 3) := by decide +kernel
theorem dX4_put_51 : decode cX4_put 51 = .ok (.iconst (-1), 1) := by decide +kernel
theorem dX4_put_52 : decode cX4_put 52 = .ok (.goto 8, 3) := by decide +kernel
theorem dX4_put_55 : decode cX4_put 55 = .ok (.aload_n 0, 1) := by decide +kernel
theorem dX4_put_56 : decode cX4_put 56 = .ok (.iload_n 2, 1) := by decide +kernel
theorem dX4_put_57 : decode cX4_put 57 = .ok (.invokevirtual 113, 3) := by decide +kernel
theorem dX4_put_60 : decode cX4_put 60 = .ok (.istore_n 3, 1) := by decide +kernel
theorem dX4_put_61 : decode cX4_put 61 = .ok (.iload_n 3, 1) := by decide +kernel
theorem dX4_put_62 : decode cX4_put 62 = .ok (.iconst (-1), 1) := by decide +kernel
theorem dX4_put_63 : decode cX4_put 63 = .ok (.if_icmp .eq 12, 3) := by decide +kernel
theorem dX4_put_66 : decode cX4_put 66 = .ok (.aload_n 0, 1) := by decide +kernel
theorem dX4_put_67 : decode cX4_put 67 = .ok (.getfield 67, 3) := by decide +kernel
theorem dX4_put_70 : decode cX4_put 70 = .ok (.ldc 56, 2) := by decide +kernel
theorem dX4_put_72 : decode cX4_put 72 = .ok (.if_icmp .ne 6, 3) := by decide +kernel
theorem dX4_put_75 : decode cX4_put 75 = .ok (.bipush (-6), 2) := by decide +kernel
theorem dX4_put_77 : decode cX4_put 77 = .ok (.ireturn, 1) := by decide +kernel
theorem dX4_put_78 : decode cX4_put 78 = .ok (.aload_n 0, 1) := by decide +kernel
theorem dX4_put_79 : decode cX4_put 79 = .ok (.iload_n 2, 1) := by decide +kernel
theorem dX4_put_80 : decode cX4_put 80 = .ok (.iconst 3, 1) := by decide +kernel
theorem dX4_put_81 : decode cX4_put 81 = .ok (.invokevirtual 97, 3) := by decide +kernel
theorem dX4_put_84 : decode cX4_put 84 = .ok (.aload_n 0, 1) := by decide +kernel
theorem dX4_put_85 : decode cX4_put 85 = .ok (.iload_n 2, 1) := by decide +kernel
theorem dX4_put_86 : decode cX4_put 86 = .ok (.iconst 1, 1) := by decide +kernel
theorem dX4_put_87 : decode cX4_put 87 = .ok (.iload_n 1, 1) := by decide +kernel
theorem dX4_put_88 : decode cX4_put 88 = .ok (.bipush 8, 2) := by decide +kernel
theorem dX4_put_90 : decode cX4_put 90 = .ok (.ishr, 1) := by decide +kernel
theorem dX4_put_91 : decode cX4_put 91 = .ok (.invokevirtual 37, 3) := by decide +kernel
theorem dX4_put_94 : decode cX4_put 94 = .ok (.aload_n 0, 1) := by decide +kernel
theorem dX4_put_95 : decode cX4_put 95 = .ok (.iload_n 2, 1) := by decide +kernel
theorem dX4_put_96 : decode cX4_put 96 = .ok (.iconst 2, 1) := by decide +kernel
theorem dX4_put_97 : decode cX4_put 97 = .ok (.iload_n 1, 1) := by decide +kernel
theorem dX4_put_98 : decode cX4_put 98 = .ok (.invokevirtual 37, 3) := by decide +kernel
theorem dX4_put_101 : decode cX4_put 101 = .ok (.aload_n 0, 1) := by decide +kernel
theorem dX4_put_102 : decode cX4_put 102 = .ok (.iload_n 2, 1) := by decide +kernel
theorem dX4_put_103 : decode cX4_put 103 = .ok (.iconst 3, 1) := by decide +kernel
theorem dX4_put_104 : decode cX4_put 104 = .ok (.aload_n 0, 1) := by decide +kernel
theorem dX4_put_105 : decode cX4_put 105 = .ok (.getfield 87, 3) := by decide +kernel
theorem dX4_put_108 : decode cX4_put 108 = .ok (.invokevirtual 37, 3) := by decide +kernel
theorem dX4_put_111 : decode cX4_put 111 = .ok (.iconst 0, 1) := by decide +kernel
theorem dX4_put_112 : decode cX4_put 112 = .ok (.istore 4, 2) := by decide +kernel
theorem dX4_put_114 : decode cX4_put 114 = .ok (.iload 4, 2) := by decide +kernel
theorem dX4_put_116 : decode cX4_put 116 = .ok (.aload_n 0, 1) := by decide +kernel
theorem dX4_put_117 : decode cX4_put 117 = .ok (.getfield 87, 3) := by decide +kernel
theorem dX4_put_120 : decode cX4_put 120 = .ok (.if_icmp .ge 25, 3) := by decide +kernel
theorem dX4_put_123 : decode cX4_put 123 = .ok (.aload_n 0, 1) := by decide +kernel
theorem dX4_put_124 : decode cX4_put 124 = .ok (.iload_n 2, 1) := by decide +kernel
theorem dX4_put_125 : decode cX4_put 125 = .ok (.iconst 4, 1) := by decide +kernel
theorem dX4_put_126 : decode cX4_put 126 = .ok (.iload 4, 2) := by decide +kernel
theorem dX4_put_128 : decode cX4_put 128 = .ok (.iadd, 1) := by decide +kernel
theorem dX4_put_129 : decode cX4_put 129 = .ok (.aload_n 0, 1) := by decide +kernel
theorem dX4_put_130 : decode cX4_put 130 = .ok (.getfield 20, 3) := by decide +kernel
theorem dX4_put_133 : decode cX4_put 133 = .ok (.iload 4, 2) := by decide +kernel
theorem dX4_put_135 : decode cX4_put 135 = .ok (.iaload, 1) := by decide +kernel
theorem dX4_put_136 : decode cX4_put 136 = .ok (.invokevirtual 37, 3) := by decide +kernel
theorem dX4_put_139 : decode cX4_put 139 = .ok (.iinc 4 1, 3) := by decide +kernel
theorem dX4_put_142 : decode cX4_put 142 = .ok (.goto (-28), 3) := by decide +kernel
theorem dX4_put_145 : decode cX4_put 145 = .ok (.aload_n 0, 1) := by decide +kernel
theorem dX4_put_146 : decode cX4_put 146 = .ok (.iconst 0, 1) := by decide +kernel
theorem dX4_put_147 : decode cX4_put 147 = .ok (.putfield 87, 3) := by decide +kernel
theorem dX4_put_150 : decode cX4_put 150 = .ok (.aload_n 0, 1) := by decide +kernel
theorem dX4_put_151 : decode cX4_put 151 = .ok (.iload_n 2, 1) := by decide +kernel
theorem dX4_put_152 : decode cX4_put 152 = .ok (.invokevirtual 103, 3) := by decide +kernel
theorem dX4_put_155 : decode cX4_put 155 = .ok (.ifCond .eq 13, 3) := by decide +kernel
theorem dX4_put_158 : decode cX4_put 158 = .ok (.aload_n 0, 1) := by decide +kernel
theorem dX4_put_159 : decode cX4_put 159 = .ok (.iload_n 1, 1) := by decide +kernel
theorem dX4_put_160 : decode cX4_put 160 = .ok (.iload_n 3, 1) := by decide +kernel
theorem dX4_put_161 : decode cX4_put 161 = .ok (.iload_n 2, 1) := by decide +kernel
theorem dX4_put_162 : decode cX4_put 162 = .ok (.invokevirtual 116, 3) := by decide +kernel
theorem dX4_put_165 : decode cX4_put 165 = .ok (.goto 5, 3) := by decide +kernel
theorem dX4_put_168 : decode cX4_put 168 = .ok (.bipush (-3), 2) := by decide +kernel
theorem dX4_put_170 : decode cX4_put 170 = .ok (.ireturn, 1) := by decide +kernel
set_option maxRecDepth 20000 in
theorem ggX4_remove_X4_isKey : GoodIn wsX4_remove wsX4_isKey := goodIn_r _ [9] (by decide +kernel) (by decide +kernel)
set_option maxRecDepth 20000 in
theorem gX4_remove_X4_isKey : GoodIn wsX4_remove (va_wsS RX4 107 yX4_isKey wsX4_isKey) := goodIn_app (goodIn_of _ (by decide +kernel)) ggX4_remove_X4_isKey
set_option maxRecDepth 20000 in
theorem ggX4_remove_X4_reachAll : GoodIn wsX4_remove wsX4_reachAll := goodIn_r _ [13, 3, 14, 15, 16, 4, 17, 18, 19, 8, 20, 21, 22, 23, 24, 5, 25, 26, 27, 28, 29, 30, 31, 32, 33, 34, 35, 36, 37, 38, 39, 40, 41, 42, 43, 44, 45, 46, 47, 48, 49, 50, 94, 95, 96, 97, 98, 99, 100, 101, 102, 103, 104, 105] (by decide +kernel) (by decide +kernel)
set_option maxRecDepth 20000 in
theorem gX4_remove_X4_reachAll : GoodIn wsX4_remove (wsV RX4 110 RX4 yX4_reachAll wsX4_reachAll) := goodIn_app (goodIn_of _ (by decide +kernel)) ggX4_remove_X4_reachAll
set_option maxRecDepth 20000 in
theorem ggX4_remove_X4_hasVersion : GoodIn wsX4_remove wsX4_hasVersion := goodIn_r _ [54, 4, 16, 94, 95, 96, 97, 98, 99, 100, 101, 102, 103, 104, 105] (by decide +kernel) (by decide +kernel)
set_option maxRecDepth 20000 in
theorem gX4_remove_X4_hasVersion : GoodIn wsX4_remove (wsV RX4 90 RX4 yX4_hasVersion wsX4_hasVersion) := goodIn_app (goodIn_of _ (by decide +kernel)) ggX4_remove_X4_hasVersion
set_option maxRecDepth 20000 in
theorem ggX4_remove_X4_nodeOf : GoodIn wsX4_remove wsX4_nodeOf := goodIn_r _ [58, 29, 30, 31, 8, 32, 33, 94, 95, 96, 97, 98, 99, 100, 101, 102, 103, 104, 105] (by decide +kernel) (by decide +kernel)
set_option maxRecDepth 20000 in
theorem gX4_remove_X4_nodeOf : GoodIn wsX4_remove (wsV RX4 94 RX4 yX4_nodeOf wsX4_nodeOf) := goodIn_app (goodIn_of _ (by decide +kernel)) ggX4_remove_X4_nodeOf
set_option maxRecDepth 20000 in
theorem ggX4_remove_X4_at : GoodIn wsX4_remove wsX4_at := goodIn_r _ [32, 33, 94, 95, 96, 97, 98, 99, 100, 101, 102, 103, 104, 105] (by decide +kernel) (by decide +kernel)
set_option maxRecDepth 20000 in
theorem gX4_remove_X4_at : GoodIn wsX4_remove (wsV RX4 33 RX4 yX4_at wsX4_at) := goodIn_app (goodIn_of _ (by decide +kernel)) ggX4_remove_X4_at
set_option maxRecDepth 20000 in
theorem ggX4_remove_X4_free : GoodIn wsX4_remove wsX4_free := goodIn_r _ [62, 14, 15, 94, 95, 96, 97, 98, 99, 100, 101, 102, 103, 104, 105] (by decide +kernel) (by decide +kernel)
set_option maxRecDepth 20000 in
theorem gX4_remove_X4_free : GoodIn wsX4_remove (wsV RX4 113 RX4 yX4_free wsX4_free) := goodIn_app (goodIn_of _ (by decide +kernel)) ggX4_remove_X4_free
set_option maxRecDepth 20000 in
theorem ggX4_remove_X4_change : GoodIn wsX4_remove wsX4_change := goodIn_r _ [66, 4, 16, 51, 52, 53, 8, 54, 55, 56, 57, 58, 29, 30, 31, 32, 33, 67, 68, 69, 70, 71, 72, 73, 74, 75, 76, 77, 78, 79, 80, 81, 82, 83, 84, 2, 38, 39, 40, 41, 42, 85, 86, 87, 88, 89, 90, 91, 92, 93, 94, 95, 96, 97, 98, 99, 100, 101, 102, 103, 104, 105] (by decide +kernel) (by decide +kernel)
set_option maxRecDepth 20000 in
theorem gX4_remove_X4_change : GoodIn wsX4_remove (wsV RX4 116 RX4 yX4_change wsX4_change) := goodIn_app (goodIn_of _ (by decide +kernel)) ggX4_remove_X4_change
theorem dX4_remove_0 : decode cX4_remove 0 = .ok (.aload_n 0, 1) := by decide +kernel
theorem dX4_remove_1 : decode cX4_remove 1 = .ok (.iconst 0, 1) := by decide +kernel
theorem dX4_remove_2 : decode cX4_remove 2 = .ok (.putfield 30, 3) := by decide +kernel
theorem dX4_remove_5 : decode cX4_remove 5 = .ok (.aload_n 0, 1) := by decide +kernel
theorem dX4_remove_6 : decode cX4_remove 6 = .ok (.getfield 83, 3) := by decide +kernel
theorem dX4_remove_9 : decode cX4_remove 9 = .ok (.ifCond .eq 6, 3) := by decide +kernel
theorem dX4_remove_12 : decode cX4_remove 12 = .ok (.bipush (-5), 2) := by decide +kernel
theorem dX4_remove_14 : decode cX4_remove 14 = .ok (.ireturn, 1) := by decide +kernel
theorem dX4_remove_15 : decode cX4_remove 15 = .ok (.iload_n 1, 1) := by decide +kernel
theorem dX4_remove_16 : decode cX4_remove 16 = .ok (.invokestatic 107, 3) := by decide +kernel
theorem dX4_remove_19 : decode cX4_remove 19 = .ok (.ifCond .ne 6, 3) := by decide +kernel
theorem dX4_remove_22 : decode cX4_remove 22 = .ok (.bipush (-2), 2) := by decide +kernel
theorem dX4_remove_24 : decode cX4_remove 24 = .ok (.ireturn, 1) := by decide +kernel
theorem dX4_remove_25 : decode cX4_remove 25 = .ok (.aload_n 0, 1) := by decide +kernel
theorem dX4_remove_26 : decode cX4_remove 26 = .ok (.invokevirtual 110, 3) := by decide +kernel
theorem dX4_remove_29 : decode cX4_remove 29 = .ok (.aload_n 0, 1) := by decide +kernel
theorem dX4_remove_30 : decode cX4_remove 30 = .ok (.getfield 60, 3) := by decide +kernel
theorem dX4_remove_33 : decode cX4_remove 33 = .ok (.iconst (-1), 1) := by decide +kernel
theorem dX4_remove_34 : decode cX4_remove 34 = .ok (.if_icmp .eq 6, 3) := by decide +kernel
theorem dX4_remove_37 : decode cX4_remove 37 = .ok (.bipush (-4), 2) := by decide +kernel
theorem dX4_remove_39 : decode cX4_remove 39 = .ok (.ireturn, 1) := by decide +kernel
theorem dX4_remove_40 : decode cX4_remove 40 = .ok (.aload_n 0, 1) := by decide +kernel
theorem dX4_remove_41 : decode cX4_remove 41 = .ok (.invokevirtual 90, 3) := by decide +kernel
theorem dX4_remove_44 : decode cX4_remove 44 = .ok (.ifCond .eq 18, 3) := by decide +kernel
theorem dX4_remove_47 : decode cX4_remove 47 = .ok (.aload_n 0, 1) := by decide +kernel
theorem dX4_remove_48 : decode cX4_remove 48 = .ok (.aload_n 0, 1) := by decide +kernel
theorem dX4_remove_49 : decode cX4_remove 49 = .ok (.getfield 67, 3) := by decide +kernel
theorem dX4_remove_52 : decode cX4_remove 52 = .ok (.iload_n 1, 1) := by decide +kernel
theorem dX4_remove_53 : decode cX4_remove 53 = .ok (.bipush 32, 2) := by decide +kernel
theorem dX4_remove_55 : decode cX4_remove 55 = .ok (.idiv, 1) := by decide +kernel
theorem dX4_remove_56 : decode cX4_remove 56 = .ok (.invokevirtual 94, 3) := by decide +kernel
theorem dX4_remove_59 : decode cX4_remove 59 = .ok (.goto 4, 3) := by decide +kernel
theorem dX4_remove_62 : decode cX4_remove 62 = .ok (.iconst 0, 1) := by decide +kernel
theorem dX4_remove_63 : decode cX4_remove 63 = .ok (.istore_n 2, 1) := by decide +kernel
theorem dX4_remove_64 : decode cX4_remove 64 = .ok (.iload_n 2, 1) := by decide +kernel
theorem dX4_remove_65 : decode cX4_remove 65 = .ok (.ifCond .eq 17, 3) := by decide +kernel
theorem dX4_remove_68 : decode cX4_remove 68 = .ok (.aload_n 0, 1) := by decide +kernel
theorem dX4_remove_69 : decode cX4_remove 69 = .ok (.iload_n 2, 1) := by decide +kernel
theorem dX4_remove_70 : decode cX4_remove 70 = .ok (.iconst 2, 1) := by decide +kernel
theorem dX4_remove_71 : decode cX4_remove 71 = .ok (.iload_n 1, 1) := by decide +kernel
theorem dX4_remove_72 : decode cX4_remove 72 = .ok (.bipush 32, 2) := by decide +kernel
theorem dX4_remove_74 : decode cX4_remove 74 = .ok (.irem, 1) := by decide +kernel
theorem dX4_remove_75 : decode cX4_remove 75 = .ok (.iadd, 1) := by decide +kernel
theorem dX4_remove_76 : decode cX4_remove 76 = .ok (.invokevirtual 33, 3) := by decide +kernel
theorem dX4_remove_79 : decode cX4_remove 79 = .ok (.ifCond .ne 5, 3) := by decide +kernel
theorem dX4_remove_82 : decode cX4_remove 82 = .ok (.iconst 0, 1) := by decide +kernel
theorem dX4_remove_83 : decode cX4_remove 83 = .ok (.ireturn, 1) := by decide +kernel
theorem dX4_remove_84 : decode cX4_remove 84 = .ok (.aload_n 0, 1) := by decide +kernel
theorem dX4_remove_85 : decode cX4_remove 85 = .ok (.iconst 0, 1) := by decide +kernel
theorem dX4_remove_86 : decode cX4_remove 86 = .ok (.invokevirtual 113, 3) := by decide +kernel
theorem dX4_remove_89 : decode cX4_remove 89 = .ok (.istore_n 3, 1) := by decide +kernel
theorem dX4_remove_90 : decode cX4_remove 90 = .ok (.iload_n 3, 1) := by decide +kernel
theorem dX4_remove_91 : decode cX4_remove 91 = .ok (.iconst (-1), 1) := by decide +kernel
theorem dX4_remove_92 : decode cX4_remove 92 = .ok (.if_icmp .eq 12, 3) := by decide +kernel
theorem dX4_remove_95 : decode cX4_remove 95 = .ok (.aload_n 0, 1) := by decide +kernel
theorem dX4_remove_96 : decode cX4_remove 96 = .ok (.getfield 67, 3) := by decide +kernel
theorem dX4_remove_99 : decode cX4_remove 99 = .ok (.ldc 56, 2) := by decide +kernel
theorem dX4_remove_101 : decode cX4_remove 101 = .ok (.if_icmp .ne 8, 3) := by decide +kernel
theorem dX4_remove_104 : decode cX4_remove 104 = .ok (.bipush (-6), 2) := by decide +kernel
theorem dX4_remove_106 : decode cX4_remove 106 = .ok (.goto 10, 3) := by decide +kernel
theorem dX4_remove_109 : decode cX4_remove 109 = .ok (.aload_n 0, 1) := by decide +kernel
theorem dX4_remove_110 : decode cX4_remove 110 = .ok (.iload_n 1, 1) := by decide +kernel
theorem dX4_remove_111 : decode cX4_remove 111 = .ok (.iload_n 3, 1) := by decide +kernel
theorem dX4_remove_112 : decode cX4_remove 112 = .ok (.iconst 0, 1) := by decide +kernel
theorem dX4_remove_113 : decode cX4_remove 113 = .ok (.invokevirtual 116, 3) := by decide +kernel
theorem dX4_remove_116 : decode cX4_remove 116 = .ok (.ireturn, 1) := by decide +kernel
theorem dX4_isKept_0 : decode cX4_isKept 0 = .ok (.iload_n 1, 1) := by decide +kernel
theorem dX4_isKept_1 : decode cX4_isKept 1 = .ok (.aload_n 0, 1) := by decide +kernel
theorem dX4_isKept_2 : decode cX4_isKept 2 = .ok (.getfield 13, 3) := by decide +kernel
theorem dX4_isKept_5 : decode cX4_isKept 5 = .ok (.if_icmp .lt 15, 3) := by decide +kernel
theorem dX4_isKept_8 : decode cX4_isKept 8 = .ok (.iload_n 1, 1) := by decide +kernel
theorem dX4_isKept_9 : decode cX4_isKept 9 = .ok (.aload_n 0, 1) := by decide +kernel
theorem dX4_isKept_10 : decode cX4_isKept 10 = .ok (.getfield 67, 3) := by decide +kernel
theorem dX4_isKept_13 : decode cX4_isKept 13 = .ok (.if_icmp .gt 7, 3) := by decide +kernel
theorem dX4_isKept_16 : decode cX4_isKept 16 = .ok (.iconst 1, 1) := by decide +kernel
theorem dX4_isKept_17 : decode cX4_isKept 17 = .ok (.goto 4, 3) := by decide +kernel
theorem dX4_isKept_20 : decode cX4_isKept 20 = .ok (.iconst 0, 1) := by decide +kernel
theorem dX4_isKept_21 : decode cX4_isKept 21 = .ok (.ireturn, 1) := by decide +kernel
set_option maxRecDepth 20000 in
theorem ggX4_drop_X4_isKept : GoodIn wsX4_drop wsX4_isKept := goodIn_r _ [10, 5, 3, 71, 72, 73, 74, 75, 76, 77, 78, 79, 80, 81, 82] (by decide +kernel) (by decide +kernel)
set_option maxRecDepth 20000 in
theorem gX4_drop_X4_isKept : GoodIn wsX4_drop (wsV RX4 120 RX4 yX4_isKept wsX4_isKept) := goodIn_app (goodIn_of _ (by decide +kernel)) ggX4_drop_X4_isKept
set_option maxRecDepth 20000 in
theorem ggX4_drop_X4_reachAll : GoodIn wsX4_drop wsX4_reachAll := goodIn_r _ [14, 4, 15, 16, 5, 3, 17, 18, 19, 9, 20, 21, 22, 23, 24, 25, 26, 27, 28, 29, 30, 31, 32, 33, 34, 35, 36, 37, 38, 39, 40, 41, 42, 43, 44, 45, 46, 47, 48, 49, 50, 51, 71, 72, 73, 74, 75, 76, 77, 78, 79, 80, 81, 82] (by decide +kernel) (by decide +kernel)
set_option maxRecDepth 20000 in
theorem gX4_drop_X4_reachAll : GoodIn wsX4_drop (wsV RX4 110 RX4 yX4_reachAll wsX4_reachAll) := goodIn_app (goodIn_of _ (by decide +kernel)) ggX4_drop_X4_reachAll
set_option maxRecDepth 20000 in
theorem ggX4_drop_X4_putNumber : GoodIn wsX4_drop wsX4_putNumber := goodIn_r _ [55, 56, 57, 58, 9, 59, 34, 71, 72, 73, 74, 75, 76, 77, 78, 79, 80, 81, 82] (by decide +kernel) (by decide +kernel)
set_option maxRecDepth 20000 in
theorem gX4_drop_X4_putNumber : GoodIn wsX4_drop (wsV RX4 74 RX4 yX4_putNumber wsX4_putNumber) := goodIn_app (goodIn_of _ (by decide +kernel)) ggX4_drop_X4_putNumber
set_option maxRecDepth 20000 in
theorem ggX4_drop_X4_done : GoodIn wsX4_drop wsX4_done := goodIn_r _ [63, 64, 65, 2, 39, 40, 41, 9, 42, 43, 30, 31, 32, 33, 34, 52, 53, 54, 55, 56, 57, 58, 59, 66, 67, 68, 69, 70, 71, 72, 73, 74, 75, 76, 77, 78, 79, 80, 81, 82] (by decide +kernel) (by decide +kernel)
set_option maxRecDepth 20000 in
theorem gX4_drop_X4_done : GoodIn wsX4_drop (wsV RX4 103 RX4 yX4_done wsX4_done) := goodIn_app (goodIn_of _ (by decide +kernel)) ggX4_drop_X4_done
theorem dX4_drop_0 : decode cX4_drop 0 = .ok (.aload_n 0, 1) := by decide +kernel
theorem dX4_drop_1 : decode cX4_drop 1 = .ok (.iconst 0, 1) := by decide +kernel
theorem dX4_drop_2 : decode cX4_drop 2 = .ok (.putfield 30, 3) := by decide +kernel
theorem dX4_drop_5 : decode cX4_drop 5 = .ok (.aload_n 0, 1) := by decide +kernel
theorem dX4_drop_6 : decode cX4_drop 6 = .ok (.getfield 83, 3) := by decide +kernel
theorem dX4_drop_9 : decode cX4_drop 9 = .ok (.ifCond .eq 6, 3) := by decide +kernel
theorem dX4_drop_12 : decode cX4_drop 12 = .ok (.bipush (-5), 2) := by decide +kernel
theorem dX4_drop_14 : decode cX4_drop 14 = .ok (.ireturn, 1) := by decide +kernel
theorem dX4_drop_15 : decode cX4_drop 15 = .ok (.aload_n 0, 1) := by decide +kernel
theorem dX4_drop_16 : decode cX4_drop 16 = .ok (.iload_n 1, 1) := by decide +kernel
theorem dX4_drop_17 : decode cX4_drop 17 = .ok (.invokevirtual 120, 3) := by decide +kernel
theorem dX4_drop_20 : decode cX4_drop 20 = .ok (.ifCond .eq 11, 3) := by decide +kernel
theorem dX4_drop_23 : decode cX4_drop 23 = .ok (.iload_n 1, 1) := by decide +kernel
theorem dX4_drop_24 : decode cX4_drop 24 = .ok (.aload_n 0, 1) := by decide +kernel
theorem dX4_drop_25 : decode cX4_drop 25 = .ok (.getfield 67, 3) := by decide +kernel
theorem dX4_drop_28 : decode cX4_drop 28 = .ok (.if_icmp .ne 6, 3) := by decide +kernel
theorem dX4_drop_31 : decode cX4_drop 31 = .ok (.bipush (-2), 2) := by decide +kernel
theorem dX4_drop_33 : decode cX4_drop 33 = .ok (.ireturn, 1) := by decide +kernel
theorem dX4_drop_34 : decode cX4_drop 34 = .ok (.aload_n 0, 1) := by decide +kernel
theorem dX4_drop_35 : decode cX4_drop 35 = .ok (.invokevirtual 110, 3) := by decide +kernel
theorem dX4_drop_38 : decode cX4_drop 38 = .ok (.aload_n 0, 1) := by decide +kernel
theorem dX4_drop_39 : decode cX4_drop 39 = .ok (.getfield 60, 3) := by decide +kernel
theorem dX4_drop_42 : decode cX4_drop 42 = .ok (.iconst (-1), 1) := by decide +kernel
theorem dX4_drop_43 : decode cX4_drop 43 = .ok (.if_icmp .eq 6, 3) := by decide +kernel
theorem dX4_drop_46 : decode cX4_drop 46 = .ok (.bipush (-4), 2) := by decide +kernel
theorem dX4_drop_48 : decode cX4_drop 48 = .ok (.ireturn, 1) := by decide +kernel
theorem dX4_drop_49 : decode cX4_drop 49 = .ok (.aload_n 0, 1) := by decide +kernel
theorem dX4_drop_50 : decode cX4_drop 50 = .ok (.aload_n 0, 1) := by decide +kernel
theorem dX4_drop_51 : decode cX4_drop 51 = .ok (.getfield 67, 3) := by decide +kernel
theorem dX4_drop_54 : decode cX4_drop 54 = .ok (.bipush 8, 2) := by decide +kernel
theorem dX4_drop_56 : decode cX4_drop 56 = .ok (.irem, 1) := by decide +kernel
theorem dX4_drop_57 : decode cX4_drop 57 = .ok (.iconst 5, 1) := by decide +kernel
theorem dX4_drop_58 : decode cX4_drop 58 = .ok (.iload_n 1, 1) := by decide +kernel
theorem dX4_drop_59 : decode cX4_drop 59 = .ok (.iconst 1, 1) := by decide +kernel
theorem dX4_drop_60 : decode cX4_drop 60 = .ok (.iadd, 1) := by decide +kernel
theorem dX4_drop_61 : decode cX4_drop 61 = .ok (.invokevirtual 74, 3) := by decide +kernel
theorem dX4_drop_64 : decode cX4_drop 64 = .ok (.aload_n 0, 1) := by decide +kernel
theorem dX4_drop_65 : decode cX4_drop 65 = .ok (.aload_n 0, 1) := by decide +kernel
theorem dX4_drop_66 : decode cX4_drop 66 = .ok (.getfield 67, 3) := by decide +kernel
theorem dX4_drop_69 : decode cX4_drop 69 = .ok (.bipush 8, 2) := by decide +kernel
theorem dX4_drop_71 : decode cX4_drop 71 = .ok (.irem, 1) := by decide +kernel
theorem dX4_drop_72 : decode cX4_drop 72 = .ok (.invokevirtual 103, 3) := by decide +kernel
theorem dX4_drop_75 : decode cX4_drop 75 = .ok (.ifCond .ne 6, 3) := by decide +kernel
theorem dX4_drop_78 : decode cX4_drop 78 = .ok (.bipush (-3), 2) := by decide +kernel
theorem dX4_drop_80 : decode cX4_drop 80 = .ok (.ireturn, 1) := by decide +kernel
theorem dX4_drop_81 : decode cX4_drop 81 = .ok (.aload_n 0, 1) := by decide +kernel
theorem dX4_drop_82 : decode cX4_drop 82 = .ok (.iload_n 1, 1) := by decide +kernel
theorem dX4_drop_83 : decode cX4_drop 83 = .ok (.iconst 1, 1) := by decide +kernel
theorem dX4_drop_84 : decode cX4_drop 84 = .ok (.iadd, 1) := by decide +kernel
theorem dX4_drop_85 : decode cX4_drop 85 = .ok (.putfield 13, 3) := by decide +kernel
theorem dX4_drop_88 : decode cX4_drop 88 = .ok (.aload_n 0, 1) := by decide +kernel
theorem dX4_drop_89 : decode cX4_drop 89 = .ok (.getfield 67, 3) := by decide +kernel
theorem dX4_drop_92 : decode cX4_drop 92 = .ok (.aload_n 0, 1) := by decide +kernel
theorem dX4_drop_93 : decode cX4_drop 93 = .ok (.getfield 13, 3) := by decide +kernel
theorem dX4_drop_96 : decode cX4_drop 96 = .ok (.isub, 1) := by decide +kernel
theorem dX4_drop_97 : decode cX4_drop 97 = .ok (.iconst 1, 1) := by decide +kernel
theorem dX4_drop_98 : decode cX4_drop 98 = .ok (.iadd, 1) := by decide +kernel
theorem dX4_drop_99 : decode cX4_drop 99 = .ok (.ireturn, 1) := by decide +kernel
set_option maxRecDepth 20000 in
theorem ggX4_thingOf_X4_isKept : GoodIn wsX4_thingOf wsX4_isKept := goodIn_r _ [6, 7, 8, 44, 45, 46, 47, 48, 49, 50, 51, 52, 53, 54, 55] (by decide +kernel) (by decide +kernel)
set_option maxRecDepth 20000 in
theorem gX4_thingOf_X4_isKept : GoodIn wsX4_thingOf (wsV RX4 120 RX4 yX4_isKept wsX4_isKept) := goodIn_app (goodIn_of _ (by decide +kernel)) ggX4_thingOf_X4_isKept
set_option maxRecDepth 20000 in
theorem ggX4_thingOf_X4_isKey : GoodIn wsX4_thingOf wsX4_isKey := goodIn_r _ [11] (by decide +kernel) (by decide +kernel)
set_option maxRecDepth 20000 in
theorem gX4_thingOf_X4_isKey : GoodIn wsX4_thingOf (va_wsS RX4 107 yX4_isKey wsX4_isKey) := goodIn_app (goodIn_of _ (by decide +kernel)) ggX4_thingOf_X4_isKey
set_option maxRecDepth 20000 in
theorem ggX4_thingOf_X4_isRight : GoodIn wsX4_thingOf wsX4_isRight := goodIn_r _ [15, 16, 17, 18, 19, 5, 20, 21, 22, 23, 24, 25, 26, 27, 28, 29, 30, 31, 32, 33, 34, 35, 36, 37, 38, 39, 44, 45, 46, 47, 48, 49, 50, 51, 52, 53, 54, 55] (by decide +kernel) (by decide +kernel)
set_option maxRecDepth 20000 in
theorem gX4_thingOf_X4_isRight : GoodIn wsX4_thingOf (wsV RX4 57 RX4 yX4_isRight wsX4_isRight) := goodIn_app (goodIn_of _ (by decide +kernel)) ggX4_thingOf_X4_isRight
set_option maxRecDepth 20000 in
theorem ggX4_thingOf_X4_nodeOf : GoodIn wsX4_thingOf wsX4_nodeOf := goodIn_r _ [43, 21, 22, 23, 5, 24, 25, 44, 45, 46, 47, 48, 49, 50, 51, 52, 53, 54, 55] (by decide +kernel) (by decide +kernel)
set_option maxRecDepth 20000 in
theorem gX4_thingOf_X4_nodeOf : GoodIn wsX4_thingOf (wsV RX4 94 RX4 yX4_nodeOf wsX4_nodeOf) := goodIn_app (goodIn_of _ (by decide +kernel)) ggX4_thingOf_X4_nodeOf
set_option maxRecDepth 20000 in
theorem ggX4_thingOf_X4_at : GoodIn wsX4_thingOf wsX4_at := goodIn_r _ [24, 25, 44, 45, 46, 47, 48, 49, 50, 51, 52, 53, 54, 55] (by decide +kernel) (by decide +kernel)
set_option maxRecDepth 20000 in
theorem gX4_thingOf_X4_at : GoodIn wsX4_thingOf (wsV RX4 33 RX4 yX4_at wsX4_at) := goodIn_app (goodIn_of _ (by decide +kernel)) ggX4_thingOf_X4_at
theorem dX4_thingOf_0 : decode cX4_thingOf 0 = .ok (.aload_n 0, 1) := by decide +kernel
theorem dX4_thingOf_1 : decode cX4_thingOf 1 = .ok (.getfield 83, 3) := by decide +kernel
theorem dX4_thingOf_4 : decode cX4_thingOf 4 = .ok (.ifCond .eq 6, 3) := by decide +kernel
theorem dX4_thingOf_7 : decode cX4_thingOf 7 = .ok (.bipush (-5), 2) := by decide +kernel
theorem dX4_thingOf_9 : decode cX4_thingOf 9 = .ok (.ireturn, 1) := by decide +kernel
theorem dX4_thingOf_10 : decode cX4_thingOf 10 = .ok (.aload_n 0, 1) := by decide +kernel
theorem dX4_thingOf_11 : decode cX4_thingOf 11 = .ok (.iload_n 1, 1) := by decide +kernel
theorem dX4_thingOf_12 : decode cX4_thingOf 12 = .ok (.invokevirtual 120, 3) := by decide +kernel
theorem dX4_thingOf_15 : decode cX4_thingOf 15 = .ok (.ifCond .eq 10, 3) := by decide +kernel
theorem dX4_thingOf_18 : decode cX4_thingOf 18 = .ok (.iload_n 2, 1) := by decide +kernel
theorem dX4_thingOf_19 : decode cX4_thingOf 19 = .ok (.invokestatic 107, 3) := by decide +kernel
theorem dX4_thingOf_22 : decode cX4_thingOf 22 = .ok (.ifCond .ne 6, 3) := by decide +kernel
theorem dX4_thingOf_25 : decode cX4_thingOf 25 = .ok (.bipush (-2), 2) := by decide +kernel
theorem dX4_thingOf_27 : decode cX4_thingOf 27 = .ok (.ireturn, 1) := by decide +kernel
theorem dX4_thingOf_28 : decode cX4_thingOf 28 = .ok (.aload_n 0, 1) := by decide +kernel
theorem dX4_thingOf_29 : decode cX4_thingOf 29 = .ok (.iload_n 1, 1) := by decide +kernel
theorem dX4_thingOf_30 : decode cX4_thingOf 30 = .ok (.bipush 8, 2) := by decide +kernel
theorem dX4_thingOf_32 : decode cX4_thingOf 32 = .ok (.irem, 1) := by decide +kernel
theorem dX4_thingOf_33 : decode cX4_thingOf 33 = .ok (.iconst 1, 1) := by decide +kernel
theorem dX4_thingOf_34 : decode cX4_thingOf 34 = .ok (.invokevirtual 57, 3) := by decide +kernel
theorem dX4_thingOf_37 : decode cX4_thingOf 37 = .ok (.ifCond .ne 6, 3) := by decide +kernel
theorem dX4_thingOf_40 : decode cX4_thingOf 40 = .ok (.bipush (-4), 2) := by decide +kernel
theorem dX4_thingOf_42 : decode cX4_thingOf 42 = .ok (.ireturn, 1) := by decide +kernel
theorem dX4_thingOf_43 : decode cX4_thingOf 43 = .ok (.aload_n 0, 1) := by decide +kernel
theorem dX4_thingOf_44 : decode cX4_thingOf 44 = .ok (.iload_n 1, 1) := by decide +kernel
theorem dX4_thingOf_45 : decode cX4_thingOf 45 = .ok (.iload_n 2, 1) := by decide +kernel
theorem dX4_thingOf_46 : decode cX4_thingOf 46 = .ok (.bipush 32, 2) := by decide +kernel
theorem dX4_thingOf_48 : decode cX4_thingOf 48 = .ok (.idiv, 1) := by decide +kernel
theorem dX4_thingOf_49 : decode cX4_thingOf 49 = .ok (.invokevirtual 94, 3) := by decide +kernel
theorem dX4_thingOf_52 : decode cX4_thingOf 52 = .ok (.istore_n 3, 1) := by decide +kernel
theorem dX4_thingOf_53 : decode cX4_thingOf 53 = .ok (.iload_n 3, 1) := by decide +kernel
theorem dX4_thingOf_54 : decode cX4_thingOf 54 = .ok (.ifCond .ne 5, 3) := by decide +kernel
theorem dX4_thingOf_57 : decode cX4_thingOf 57 = .ok (.iconst (-1), 1) := by decide +kernel
theorem dX4_thingOf_58 : decode cX4_thingOf 58 = .ok (.ireturn, 1) := by decide +kernel
theorem dX4_thingOf_59 : decode cX4_thingOf 59 = .ok (.aload_n 0, 1) := by decide +kernel
theorem dX4_thingOf_60 : decode cX4_thingOf 60 = .ok (.iload_n 3, 1) := by decide +kernel
theorem dX4_thingOf_61 : decode cX4_thingOf 61 = .ok (.iconst 2, 1) := by decide +kernel
theorem dX4_thingOf_62 : decode cX4_thingOf 62 = .ok (.invokevirtual 57, 3) := by decide +kernel
theorem dX4_thingOf_65 : decode cX4_thingOf 65 = .ok (.ifCond .ne 6, 3) := by decide +kernel
theorem dX4_thingOf_68 : decode cX4_thingOf 68 = .ok (.bipush (-4), 2) := by decide +kernel
theorem dX4_thingOf_70 : decode cX4_thingOf 70 = .ok (.ireturn, 1) := by decide +kernel
theorem dX4_thingOf_71 : decode cX4_thingOf 71 = .ok (.aload_n 0, 1) := by decide +kernel
theorem dX4_thingOf_72 : decode cX4_thingOf 72 = .ok (.iload_n 3, 1) := by decide +kernel
theorem dX4_thingOf_73 : decode cX4_thingOf 73 = .ok (.iconst 2, 1) := by decide +kernel
theorem dX4_thingOf_74 : decode cX4_thingOf 74 = .ok (.iload_n 2, 1) := by decide +kernel
theorem dX4_thingOf_75 : decode cX4_thingOf 75 = .ok (.bipush 32, 2) := by decide +kernel
theorem dX4_thingOf_77 : decode cX4_thingOf 77 = .ok (.irem, 1) := by decide +kernel
theorem dX4_thingOf_78 : decode cX4_thingOf 78 = .ok (.iadd, 1) := by decide +kernel
theorem dX4_thingOf_79 : decode cX4_thingOf 79 = .ok (.invokevirtual 33, 3) := by decide +kernel
theorem dX4_thingOf_82 : decode cX4_thingOf 82 = .ok (.istore 4, 2) := by decide +kernel
theorem dX4_thingOf_84 : decode cX4_thingOf 84 = .ok (.iload 4, 2) := by decide +kernel
theorem dX4_thingOf_86 : decode cX4_thingOf 86 = .ok (.ifCond .ne 7, 3) := by decide +kernel
theorem dX4_thingOf_89 : decode cX4_thingOf 89 = .ok (.iconst (-1), 1) := by decide +kernel
theorem dX4_thingOf_90 : decode cX4_thingOf 90 = .ok (.goto 20, 3) := by decide +kernel
theorem dX4_thingOf_93 : decode cX4_thingOf 93 = .ok (.aload_n 0, 1) := by decide +kernel
theorem dX4_thingOf_94 : decode cX4_thingOf 94 = .ok (.iload 4, 2) := by decide +kernel
theorem dX4_thingOf_96 : decode cX4_thingOf 96 = .ok (.iconst 3, 1) := by decide +kernel
theorem dX4_thingOf_97 : decode cX4_thingOf 97 = .ok (.invokevirtual 57, 3) := by decide +kernel
theorem dX4_thingOf_100 : decode cX4_thingOf 100 = .ok (.ifCond .eq 8, 3) := by decide +kernel
theorem dX4_thingOf_103 : decode cX4_thingOf 103 = .ok (.iload 4, 2) := by decide +kernel
theorem dX4_thingOf_105 : decode cX4_thingOf 105 = .ok (.goto 5, 3) := by decide +kernel
theorem dX4_thingOf_108 : decode cX4_thingOf 108 = .ok (.bipush (-4), 2) := by decide +kernel
theorem dX4_thingOf_110 : decode cX4_thingOf 110 = .ok (.ireturn, 1) := by decide +kernel
set_option maxRecDepth 20000 in
theorem ggX4_length_X4_thingOf : GoodIn wsX4_length wsX4_thingOf := goodIn_r _ [6, 7, 8, 9, 10, 5, 11, 12, 13, 14, 15, 16, 17, 18, 19, 20, 21, 22, 23, 24, 25, 26, 27, 28, 29, 30, 31, 32, 33, 34, 35, 36, 37, 38, 39, 40, 41, 42, 43, 44, 45, 46, 47, 48, 49, 50, 51, 52, 53, 54, 55, 56, 57, 58, 59, 60] (by decide +kernel) (by decide +kernel)
set_option maxRecDepth 20000 in
theorem gX4_length_X4_thingOf : GoodIn wsX4_length (wsV RX4 123 RX4 yX4_thingOf wsX4_thingOf) := goodIn_app (goodIn_of _ (by decide +kernel)) ggX4_length_X4_thingOf
set_option maxRecDepth 20000 in
theorem ggX4_length_X4_at : GoodIn wsX4_length wsX4_at := goodIn_r _ [29, 30, 49, 50, 51, 52, 53, 54, 55, 56, 57, 58, 59, 60] (by decide +kernel) (by decide +kernel)
set_option maxRecDepth 20000 in
theorem gX4_length_X4_at : GoodIn wsX4_length (wsV RX4 33 RX4 yX4_at wsX4_at) := goodIn_app (goodIn_of _ (by decide +kernel)) ggX4_length_X4_at
theorem dX4_length_0 : decode cX4_length 0 = .ok (.aload_n 0, 1) := by decide +kernel
theorem dX4_length_1 : decode cX4_length 1 = .ok (.iconst 0, 1) := by decide +kernel
theorem dX4_length_2 : decode cX4_length 2 = .ok (.putfield 30, 3) := by decide +kernel
theorem dX4_length_5 : decode cX4_length 5 = .ok (.aload_n 0, 1) := by decide +kernel
theorem dX4_length_6 : decode cX4_length 6 = .ok (.iload_n 1, 1) := by decide +kernel
theorem dX4_length_7 : decode cX4_length 7 = .ok (.iload_n 2, 1) := by decide +kernel
theorem dX4_length_8 : decode cX4_length 8 = .ok (.invokevirtual 123, 3) := by decide +kernel
theorem dX4_length_11 : decode cX4_length 11 = .ok (.istore_n 3, 1) := by decide +kernel
theorem dX4_length_12 : decode cX4_length 12 = .ok (.iload_n 3, 1) := by decide +kernel
theorem dX4_length_13 : decode cX4_length 13 = .ok (.ifCond .ge 7, 3) := by decide +kernel
theorem dX4_length_16 : decode cX4_length 16 = .ok (.iload_n 3, 1) := by decide +kernel
theorem dX4_length_17 : decode cX4_length 17 = .ok (.goto 9, 3) := by decide +kernel
theorem dX4_length_20 : decode cX4_length 20 = .ok (.aload_n 0, 1) := by decide +kernel
theorem dX4_length_21 : decode cX4_length 21 = .ok (.iload_n 3, 1) := by decide +kernel
theorem dX4_length_22 : decode cX4_length 22 = .ok (.iconst 3, 1) := by decide +kernel
theorem dX4_length_23 : decode cX4_length 23 = .ok (.invokevirtual 33, 3) := by decide +kernel
theorem dX4_length_26 : decode cX4_length 26 = .ok (.ireturn, 1) := by decide +kernel
set_option maxRecDepth 20000 in
theorem ggX4_find_X4_thingOf : GoodIn wsX4_find wsX4_thingOf := goodIn_r _ [6, 7, 8, 9, 10, 5, 11, 12, 13, 14, 15, 16, 17, 18, 19, 20, 21, 22, 23, 24, 25, 26, 27, 28, 29, 30, 31, 32, 33, 34, 35, 36, 37, 38, 39, 40, 41, 42, 43, 44, 45, 46, 47, 48, 49, 50, 51, 52, 53, 54, 55, 56, 57, 58, 59, 60] (by decide +kernel) (by decide +kernel)
set_option maxRecDepth 20000 in
theorem gX4_find_X4_thingOf : GoodIn wsX4_find (wsV RX4 123 RX4 yX4_thingOf wsX4_thingOf) := goodIn_app (goodIn_of _ (by decide +kernel)) ggX4_find_X4_thingOf
set_option maxRecDepth 20000 in
theorem ggX4_find_X4_at : GoodIn wsX4_find wsX4_at := goodIn_r _ [29, 30, 49, 50, 51, 52, 53, 54, 55, 56, 57, 58, 59, 60] (by decide +kernel) (by decide +kernel)
set_option maxRecDepth 20000 in
theorem gX4_find_X4_at : GoodIn wsX4_find (wsV RX4 33 RX4 yX4_at wsX4_at) := goodIn_app (goodIn_of _ (by decide +kernel)) ggX4_find_X4_at
theorem dX4_find_0 : decode cX4_find 0 = .ok (.aload_n 0, 1) := by decide +kernel
end
section
theorem dX4_find_1 : decode cX4_find 1 = .ok (.iconst 0, 1) := by decide +kernel
theorem dX4_find_2 : decode cX4_find 2 = .ok (.putfield 30, 3) := by decide +kernel
theorem dX4_find_5 : decode cX4_find 5 = .ok (.aload_n 0, 1) := by decide +kernel
theorem dX4_find_6 : decode cX4_find 6 = .ok (.iload_n 1, 1) := by decide +kernel
theorem dX4_find_7 : decode cX4_find 7 = .ok (.iload_n 2, 1) := by decide +kernel
theorem dX4_find_8 : decode cX4_find 8 = .ok (.invokevirtual 123, 3) := by decide +kernel
theorem dX4_find_11 : decode cX4_find 11 = .ok (.istore 4, 2) := by decide +kernel
theorem dX4_find_13 : decode cX4_find 13 = .ok (.iload 4, 2) := by decide +kernel
theorem dX4_find_15 : decode cX4_find 15 = .ok (.ifCond .ge 8, 3) := by decide +kernel
theorem dX4_find_18 : decode cX4_find 18 = .ok (.iload 4, 2) := by decide +kernel
theorem dX4_find_20 : decode cX4_find 20 = .ok (.goto 31, 3) := by decide +kernel
theorem dX4_find_23 : decode cX4_find 23 = .ok (.iload_n 3, 1) := by decide +kernel
theorem dX4_find_24 : decode cX4_find 24 = .ok (.ifCond .lt 14, 3) := by decide +kernel
theorem dX4_find_27 : decode cX4_find 27 = .ok (.iload_n 3, 1) := by decide +kernel
theorem dX4_find_28 : decode cX4_find 28 = .ok (.aload_n 0, 1) := by decide +kernel
theorem dX4_find_29 : decode cX4_find 29 = .ok (.iload 4, 2) := by decide +kernel
theorem dX4_find_31 : decode cX4_find 31 = .ok (.iconst 3, 1) := by decide +kernel
theorem dX4_find_32 : decode cX4_find 32 = .ok (.invokevirtual 33, 3) := by decide +kernel
theorem dX4_find_35 : decode cX4_find 35 = .ok (.if_icmp .lt 7, 3) := by decide +kernel
theorem dX4_find_38 : decode cX4_find 38 = .ok (.iconst (-1), 1) := by decide +kernel
theorem dX4_find_39 : decode cX4_find 39 = .ok (.goto 12, 3) := by decide +kernel
theorem dX4_find_42 : decode cX4_find 42 = .ok (.aload_n 0, 1) := by decide +kernel
theorem dX4_find_43 : decode cX4_find 43 = .ok (.iload 4, 2) := by decide +kernel
theorem dX4_find_45 : decode cX4_find 45 = .ok (.iconst 4, 1) := by decide +kernel
theorem dX4_find_46 : decode cX4_find 46 = .ok (.iload_n 3, 1) := by decide +kernel
theorem dX4_find_47 : decode cX4_find 47 = .ok (.iadd, 1) := by decide +kernel
theorem dX4_find_48 : decode cX4_find 48 = .ok (.invokevirtual 33, 3) := by decide +kernel
theorem dX4_find_51 : decode cX4_find 51 = .ok (.ireturn, 1) := by decide +kernel
set_option maxRecDepth 20000 in
theorem ggX4_next_X4_isKept : GoodIn wsX4_next wsX4_isKept := goodIn_r _ [7, 8, 9, 45, 46, 47, 48, 49, 50, 51, 52, 53, 54, 55, 56] (by decide +kernel) (by decide +kernel)
set_option maxRecDepth 20000 in
theorem gX4_next_X4_isKept : GoodIn wsX4_next (wsV RX4 120 RX4 yX4_isKept wsX4_isKept) := goodIn_app (goodIn_of _ (by decide +kernel)) ggX4_next_X4_isKept
set_option maxRecDepth 20000 in
theorem ggX4_next_X4_isKey : GoodIn wsX4_next wsX4_isKey := goodIn_r _ [12] (by decide +kernel) (by decide +kernel)
set_option maxRecDepth 20000 in
theorem gX4_next_X4_isKey : GoodIn wsX4_next (va_wsS RX4 107 yX4_isKey wsX4_isKey) := goodIn_app (goodIn_of _ (by decide +kernel)) ggX4_next_X4_isKey
set_option maxRecDepth 20000 in
theorem ggX4_next_X4_isRight : GoodIn wsX4_next wsX4_isRight := goodIn_r _ [16, 17, 18, 19, 20, 6, 21, 22, 23, 24, 25, 26, 27, 28, 29, 30, 31, 32, 33, 34, 35, 36, 37, 38, 39, 40, 45, 46, 47, 48, 49, 50, 51, 52, 53, 54, 55, 56] (by decide +kernel) (by decide +kernel)
set_option maxRecDepth 20000 in
theorem gX4_next_X4_isRight : GoodIn wsX4_next (wsV RX4 57 RX4 yX4_isRight wsX4_isRight) := goodIn_app (goodIn_of _ (by decide +kernel)) ggX4_next_X4_isRight
set_option maxRecDepth 20000 in
theorem ggX4_next_X4_nodeOf : GoodIn wsX4_next wsX4_nodeOf := goodIn_r _ [44, 22, 23, 24, 6, 25, 26, 45, 46, 47, 48, 49, 50, 51, 52, 53, 54, 55, 56] (by decide +kernel) (by decide +kernel)
set_option maxRecDepth 20000 in
theorem gX4_next_X4_nodeOf : GoodIn wsX4_next (wsV RX4 94 RX4 yX4_nodeOf wsX4_nodeOf) := goodIn_app (goodIn_of _ (by decide +kernel)) ggX4_next_X4_nodeOf
set_option maxRecDepth 20000 in
theorem ggX4_next_X4_at : GoodIn wsX4_next wsX4_at := goodIn_r _ [25, 26, 45, 46, 47, 48, 49, 50, 51, 52, 53, 54, 55, 56] (by decide +kernel) (by decide +kernel)
set_option maxRecDepth 20000 in
theorem gX4_next_X4_at : GoodIn wsX4_next (wsV RX4 33 RX4 yX4_at wsX4_at) := goodIn_app (goodIn_of _ (by decide +kernel)) ggX4_next_X4_at
theorem dX4_next_0 : decode cX4_next 0 = .ok (.aload_n 0, 1) := by decide +kernel
theorem dX4_next_1 : decode cX4_next 1 = .ok (.iconst 0, 1) := by decide +kernel
theorem dX4_next_2 : decode cX4_next 2 = .ok (.putfield 30, 3) := by decide +kernel
theorem dX4_next_5 : decode cX4_next 5 = .ok (.aload_n 0, 1) := by decide +kernel
theorem dX4_next_6 : decode cX4_next 6 = .ok (.getfield 83, 3) := by decide +kernel
theorem dX4_next_9 : decode cX4_next 9 = .ok (.ifCond .eq 6, 3) := by decide +kernel
theorem dX4_next_12 : decode cX4_next 12 = .ok (.bipush (-5), 2) := by decide +kernel
theorem dX4_next_14 : decode cX4_next 14 = .ok (.ireturn, 1) := by decide +kernel
theorem dX4_next_15 : decode cX4_next 15 = .ok (.aload_n 0, 1) := by decide +kernel
theorem dX4_next_16 : decode cX4_next 16 = .ok (.iload_n 1, 1) := by decide +kernel
theorem dX4_next_17 : decode cX4_next 17 = .ok (.invokevirtual 120, 3) := by decide +kernel
theorem dX4_next_20 : decode cX4_next 20 = .ok (.ifCond .eq 10, 3) := by decide +kernel
theorem dX4_next_23 : decode cX4_next 23 = .ok (.iload_n 2, 1) := by decide +kernel
theorem dX4_next_24 : decode cX4_next 24 = .ok (.invokestatic 107, 3) := by decide +kernel
theorem dX4_next_27 : decode cX4_next 27 = .ok (.ifCond .ne 6, 3) := by decide +kernel
theorem dX4_next_30 : decode cX4_next 30 = .ok (.bipush (-2), 2) := by decide +kernel
theorem dX4_next_32 : decode cX4_next 32 = .ok (.ireturn, 1) := by decide +kernel
theorem dX4_next_33 : decode cX4_next 33 = .ok (.aload_n 0, 1) := by decide +kernel
theorem dX4_next_34 : decode cX4_next 34 = .ok (.iload_n 1, 1) := by decide +kernel
theorem dX4_next_35 : decode cX4_next 35 = .ok (.bipush 8, 2) := by decide +kernel
theorem dX4_next_37 : decode cX4_next 37 = .ok (.irem, 1) := by decide +kernel
theorem dX4_next_38 : decode cX4_next 38 = .ok (.iconst 1, 1) := by decide +kernel
theorem dX4_next_39 : decode cX4_next 39 = .ok (.invokevirtual 57, 3) := by decide +kernel
theorem dX4_next_42 : decode cX4_next 42 = .ok (.ifCond .ne 6, 3) := by decide +kernel
theorem dX4_next_45 : decode cX4_next 45 = .ok (.bipush (-4), 2) := by decide +kernel
theorem dX4_next_47 : decode cX4_next 47 = .ok (.ireturn, 1) := by decide +kernel
theorem dX4_next_48 : decode cX4_next 48 = .ok (.iload_n 2, 1) := by decide +kernel
theorem dX4_next_49 : decode cX4_next 49 = .ok (.istore_n 3, 1) := by decide +kernel
theorem dX4_next_50 : decode cX4_next 50 = .ok (.iload_n 3, 1) := by decide +kernel
theorem dX4_next_51 : decode cX4_next 51 = .ok (.sipush 1024, 3) := by decide +kernel
theorem dX4_next_54 : decode cX4_next 54 = .ok (.if_icmp .ge 72, 3) := by decide +kernel
theorem dX4_next_57 : decode cX4_next 57 = .ok (.aload_n 0, 1) := by decide +kernel
theorem dX4_next_58 : decode cX4_next 58 = .ok (.iload_n 1, 1) := by decide +kernel
theorem dX4_next_59 : decode cX4_next 59 = .ok (.iload_n 3, 1) := by decide +kernel
theorem dX4_next_60 : decode cX4_next 60 = .ok (.bipush 32, 2) := by decide +kernel
theorem dX4_next_62 : decode cX4_next 62 = .ok (.idiv, 1) := by decide +kernel
theorem dX4_next_63 : decode cX4_next 63 = .ok (.invokevirtual 94, 3) := by decide +kernel
theorem dX4_next_66 : decode cX4_next 66 = .ok (.istore 4, 2) := by decide +kernel
theorem dX4_next_68 : decode cX4_next 68 = .ok (.iload 4, 2) := by decide +kernel
theorem dX4_next_70 : decode cX4_next 70 = .ok (.ifCond .eq 28, 3) := by decide +kernel
theorem dX4_next_73 : decode cX4_next 73 = .ok (.iload_n 3, 1) := by decide +kernel
theorem dX4_next_74 : decode cX4_next 74 = .ok (.iload_n 2, 1) := by decide +kernel
theorem dX4_next_75 : decode cX4_next 75 = .ok (.if_icmp .eq 10, 3) := by decide +kernel
theorem dX4_next_78 : decode cX4_next 78 = .ok (.iload_n 3, 1) := by decide +kernel
theorem dX4_next_79 : decode cX4_next 79 = .ok (.bipush 32, 2) := by decide +kernel
theorem dX4_next_81 : decode cX4_next 81 = .ok (.irem, 1) := by decide +kernel
theorem dX4_next_82 : decode cX4_next 82 = .ok (.ifCond .ne 16, 3) := by decide +kernel
theorem dX4_next_85 : decode cX4_next 85 = .ok (.aload_n 0, 1) := by decide +kernel
theorem dX4_next_86 : decode cX4_next 86 = .ok (.iload 4, 2) := by decide +kernel
theorem dX4_next_88 : decode cX4_next 88 = .ok (.iconst 2, 1) := by decide +kernel
theorem dX4_next_89 : decode cX4_next 89 = .ok (.invokevirtual 57, 3) := by decide +kernel
theorem dX4_next_92 : decode cX4_next 92 = .ok (.ifCond .ne 6, 3) := by decide +kernel
theorem dX4_next_95 : decode cX4_next 95 = .ok (.bipush (-4), 2) := by decide +kernel
theorem dX4_next_97 : decode cX4_next 97 = .ok (.ireturn, 1) := by decide +kernel
theorem dX4_next_98 : decode cX4_next 98 = .ok (.iload 4, 2) := by decide +kernel
theorem dX4_next_100 : decode cX4_next 100 = .ok (.ifCond .eq 20, 3) := by decide +kernel
theorem dX4_next_103 : decode cX4_next 103 = .ok (.aload_n 0, 1) := by decide +kernel
theorem dX4_next_104 : decode cX4_next 104 = .ok (.iload 4, 2) := by decide +kernel
theorem dX4_next_106 : decode cX4_next 106 = .ok (.iconst 2, 1) := by decide +kernel
theorem dX4_next_107 : decode cX4_next 107 = .ok (.iload_n 3, 1) := by decide +kernel
theorem dX4_next_108 : decode cX4_next 108 = .ok (.bipush 32, 2) := by decide +kernel
theorem dX4_next_110 : decode cX4_next 110 = .ok (.irem, 1) := by decide +kernel
theorem dX4_next_111 : decode cX4_next 111 = .ok (.iadd, 1) := by decide +kernel
theorem dX4_next_112 : decode cX4_next 112 = .ok (.invokevirtual 33, 3) := by decide +kernel
theorem dX4_next_115 : decode cX4_next 115 = .ok (.ifCond .eq 5, 3) := by decide +kernel
theorem dX4_next_118 : decode cX4_next 118 = .ok (.iload_n 3, 1) := by decide +kernel
theorem dX4_next_119 : decode cX4_next 119 = .ok (.ireturn, 1) := by decide +kernel
theorem dX4_next_120 : decode cX4_next 120 = .ok (.iinc 3 1, 3) := by decide +kernel
theorem dX4_next_123 : decode cX4_next 123 = .ok (.goto (-73), 3) := by decide +kernel
theorem dX4_next_126 : decode cX4_next 126 = .ok (.iconst (-1), 1) := by decide +kernel
theorem dX4_next_127 : decode cX4_next 127 = .ok (.ireturn, 1) := by decide +kernel
set_option maxRecDepth 20000 in
theorem ggX4_crash_X4_fail : GoodIn wsX4_crash wsX4_fail := goodIn_r _ [8, 2, 3, 9, 10, 11, 12, 13, 14, 15, 16, 17, 18, 19, 20, 21] (by decide +kernel) (by decide +kernel)
set_option maxRecDepth 20000 in
theorem gX4_crash_X4_fail : GoodIn wsX4_crash (wsV RX4 80 RX4 yX4_fail wsX4_fail) := goodIn_app (goodIn_of _ (by decide +kernel)) ggX4_crash_X4_fail
theorem dX4_crash_0 : decode cX4_crash 0 = .ok (.aload_n 0, 1) := by decide +kernel
theorem dX4_crash_1 : decode cX4_crash 1 = .ok (.iconst 0, 1) := by decide +kernel
theorem dX4_crash_2 : decode cX4_crash 2 = .ok (.putfield 30, 3) := by decide +kernel
theorem dX4_crash_5 : decode cX4_crash 5 = .ok (.aload_n 0, 1) := by decide +kernel
theorem dX4_crash_6 : decode cX4_crash 6 = .ok (.getfield 83, 3) := by decide +kernel
theorem dX4_crash_9 : decode cX4_crash 9 = .ok (.ifCond .eq 6, 3) := by decide +kernel
theorem dX4_crash_12 : decode cX4_crash 12 = .ok (.bipush (-5), 2) := by decide +kernel
theorem dX4_crash_14 : decode cX4_crash 14 = .ok (.ireturn, 1) := by decide +kernel
theorem dX4_crash_15 : decode cX4_crash 15 = .ok (.iload_n 1, 1) := by decide +kernel
theorem dX4_crash_16 : decode cX4_crash 16 = .ok (.iconst (-1), 1) := by decide +kernel
theorem dX4_crash_17 : decode cX4_crash 17 = .ok (.if_icmp .lt 10, 3) := by decide +kernel
theorem dX4_crash_20 : decode cX4_crash 20 = .ok (.iload_n 1, 1) := by decide +kernel
theorem dX4_crash_21 : decode cX4_crash 21 = .ok (.sipush 1000, 3) := by decide +kernel
theorem dX4_crash_24 : decode cX4_crash 24 = .ok (.if_icmp .le 6, 3) := by decide +kernel
theorem dX4_crash_27 : decode cX4_crash 27 = .ok (.bipush (-2), 2) := by decide +kernel
theorem dX4_crash_29 : decode cX4_crash 29 = .ok (.ireturn, 1) := by decide +kernel
theorem dX4_crash_30 : decode cX4_crash 30 = .ok (.aload_n 0, 1) := by decide +kernel
theorem dX4_crash_31 : decode cX4_crash 31 = .ok (.iload_n 1, 1) := by decide +kernel
theorem dX4_crash_32 : decode cX4_crash 32 = .ok (.putfield 17, 3) := by decide +kernel
theorem dX4_crash_35 : decode cX4_crash 35 = .ok (.iload_n 1, 1) := by decide +kernel
theorem dX4_crash_36 : decode cX4_crash 36 = .ok (.ifCond .ne 7, 3) := by decide +kernel
theorem dX4_crash_39 : decode cX4_crash 39 = .ok (.aload_n 0, 1) := by decide +kernel
theorem dX4_crash_40 : decode cX4_crash 40 = .ok (.invokevirtual 80, 3) := by decide +kernel
theorem dX4_crash_43 : decode cX4_crash 43 = .ok (.iconst 1, 1) := by decide +kernel
theorem dX4_crash_44 : decode cX4_crash 44 = .ok (.ireturn, 1) := by decide +kernel
set_option maxRecDepth 20000 in
theorem ggX4_reopen_X4_isRight : GoodIn wsX4_reopen wsX4_isRight := goodIn_r _ [11, 12, 13, 14, 15, 10, 16, 17, 18, 19, 20, 21, 22, 23, 24, 25, 26, 27, 28, 29, 30, 31, 32, 33, 34, 35, 36, 37, 38, 39, 40, 41, 42, 43, 44, 45, 46, 47] (by decide +kernel) (by decide +kernel)
set_option maxRecDepth 20000 in
theorem gX4_reopen_X4_isRight : GoodIn wsX4_reopen (wsV RX4 57 RX4 yX4_isRight wsX4_isRight) := goodIn_app (goodIn_of _ (by decide +kernel)) ggX4_reopen_X4_isRight
set_option maxRecDepth 20000 in
theorem ggX4_reopen_X4_number : GoodIn wsX4_reopen wsX4_number := goodIn_r _ [25, 17, 18, 19, 10, 20, 21, 36, 37, 38, 39, 40, 41, 42, 43, 44, 45, 46, 47] (by decide +kernel) (by decide +kernel)
set_option maxRecDepth 20000 in
theorem gX4_reopen_X4_number : GoodIn wsX4_reopen (wsV RX4 42 RX4 yX4_number wsX4_number) := goodIn_app (goodIn_of _ (by decide +kernel)) ggX4_reopen_X4_number
theorem dX4_reopen_0 : decode cX4_reopen 0 = .ok (.aload_n 0, 1) := by decide +kernel
theorem dX4_reopen_1 : decode cX4_reopen 1 = .ok (.iconst 0, 1) := by decide +kernel
theorem dX4_reopen_2 : decode cX4_reopen 2 = .ok (.putfield 30, 3) := by decide +kernel
theorem dX4_reopen_5 : decode cX4_reopen 5 = .ok (.aload_n 0, 1) := by decide +kernel
theorem dX4_reopen_6 : decode cX4_reopen 6 = .ok (.iconst 0, 1) := by decide +kernel
theorem dX4_reopen_7 : decode cX4_reopen 7 = .ok (.putfield 83, 3) := by decide +kernel
theorem dX4_reopen_10 : decode cX4_reopen 10 = .ok (.aload_n 0, 1) := by decide +kernel
theorem dX4_reopen_11 : decode cX4_reopen 11 = .ok (.iconst (-1), 1) := by decide +kernel
theorem dX4_reopen_12 : decode cX4_reopen 12 = .ok (.putfield 17, 3) := by decide +kernel
theorem dX4_reopen_15 : decode cX4_reopen 15 = .ok (.aload_n 0, 1) := by decide +kernel
theorem dX4_reopen_16 : decode cX4_reopen 16 = .ok (.iconst 0, 1) := by decide +kernel
theorem dX4_reopen_17 : decode cX4_reopen 17 = .ok (.putfield 87, 3) := by decide +kernel
theorem dX4_reopen_20 : decode cX4_reopen 20 = .ok (.aload_n 0, 1) := by decide +kernel
theorem dX4_reopen_21 : decode cX4_reopen 21 = .ok (.iconst 0, 1) := by decide +kernel
theorem dX4_reopen_22 : decode cX4_reopen 22 = .ok (.putfield 67, 3) := by decide +kernel
theorem dX4_reopen_25 : decode cX4_reopen 25 = .ok (.aload_n 0, 1) := by decide +kernel
theorem dX4_reopen_26 : decode cX4_reopen 26 = .ok (.iconst 1, 1) := by decide +kernel
theorem dX4_reopen_27 : decode cX4_reopen 27 = .ok (.putfield 13, 3) := by decide +kernel
theorem dX4_reopen_30 : decode cX4_reopen 30 = .ok (.iconst 0, 1) := by decide +kernel
theorem dX4_reopen_31 : decode cX4_reopen 31 = .ok (.istore_n 1, 1) := by decide +kernel
theorem dX4_reopen_32 : decode cX4_reopen 32 = .ok (.iload_n 1, 1) := by decide +kernel
theorem dX4_reopen_33 : decode cX4_reopen 33 = .ok (.bipush 8, 2) := by decide +kernel
theorem dX4_reopen_35 : decode cX4_reopen 35 = .ok (.if_icmp .ge 51, 3) := by decide +kernel
theorem dX4_reopen_38 : decode cX4_reopen 38 = .ok (.aload_n 0, 1) := by decide +kernel
theorem dX4_reopen_39 : decode cX4_reopen 39 = .ok (.iload_n 1, 1) := by decide +kernel
theorem dX4_reopen_40 : decode cX4_reopen 40 = .ok (.iconst 1, 1) := by decide +kernel
theorem dX4_reopen_41 : decode cX4_reopen 41 = .ok (.invokevirtual 57, 3) := by decide +kernel
theorem dX4_reopen_44 : decode cX4_reopen 44 = .ok (.ifCond .eq 36, 3) := by decide +kernel
theorem dX4_reopen_47 : decode cX4_reopen 47 = .ok (.aload_n 0, 1) := by decide +kernel
theorem dX4_reopen_48 : decode cX4_reopen 48 = .ok (.iload_n 1, 1) := by decide +kernel
theorem dX4_reopen_49 : decode cX4_reopen 49 = .ok (.iconst 1, 1) := by decide +kernel
theorem dX4_reopen_50 : decode cX4_reopen 50 = .ok (.invokevirtual 42, 3) := by decide +kernel
theorem dX4_reopen_53 : decode cX4_reopen 53 = .ok (.aload_n 0, 1) := by decide +kernel
theorem dX4_reopen_54 : decode cX4_reopen 54 = .ok (.getfield 67, 3) := by decide +kernel
theorem dX4_reopen_57 : decode cX4_reopen 57 = .ok (.if_icmp .le 23, 3) := by decide +kernel
theorem dX4_reopen_60 : decode cX4_reopen 60 = .ok (.aload_n 0, 1) := by decide +kernel
theorem dX4_reopen_61 : decode cX4_reopen 61 = .ok (.aload_n 0, 1) := by decide +kernel
theorem dX4_reopen_62 : decode cX4_reopen 62 = .ok (.iload_n 1, 1) := by decide +kernel
theorem dX4_reopen_63 : decode cX4_reopen 63 = .ok (.iconst 1, 1) := by decide +kernel
theorem dX4_reopen_64 : decode cX4_reopen 64 = .ok (.invokevirtual 42, 3) := by decide +kernel
theorem dX4_reopen_67 : decode cX4_reopen 67 = .ok (.putfield 67, 3) := by decide +kernel
theorem dX4_reopen_70 : decode cX4_reopen 70 = .ok (.aload_n 0, 1) := by decide +kernel
theorem dX4_reopen_71 : decode cX4_reopen 71 = .ok (.aload_n 0, 1) := by decide +kernel
theorem dX4_reopen_72 : decode cX4_reopen 72 = .ok (.iload_n 1, 1) := by decide +kernel
theorem dX4_reopen_73 : decode cX4_reopen 73 = .ok (.iconst 5, 1) := by decide +kernel
theorem dX4_reopen_74 : decode cX4_reopen 74 = .ok (.invokevirtual 42, 3) := by decide +kernel
theorem dX4_reopen_77 : decode cX4_reopen 77 = .ok (.putfield 13, 3) := by decide +kernel
theorem dX4_reopen_80 : decode cX4_reopen 80 = .ok (.iinc 1 1, 3) := by decide +kernel
theorem dX4_reopen_83 : decode cX4_reopen 83 = .ok (.goto (-51), 3) := by decide +kernel
theorem dX4_reopen_86 : decode cX4_reopen 86 = .ok (.aload_n 0, 1) := by decide +kernel
theorem dX4_reopen_87 : decode cX4_reopen 87 = .ok (.getfield 67, 3) := by decide +kernel
theorem dX4_reopen_90 : decode cX4_reopen 90 = .ok (.ireturn, 1) := by decide +kernel
theorem dX4_isByte_0 : decode cX4_isByte 0 = .ok (.iload_n 1, 1) := by decide +kernel
theorem dX4_isByte_1 : decode cX4_isByte 1 = .ok (.ifCond .lt 25, 3) := by decide +kernel
theorem dX4_isByte_4 : decode cX4_isByte 4 = .ok (.iload_n 1, 1) := by decide +kernel
theorem dX4_isByte_5 : decode cX4_isByte 5 = .ok (.aload_n 0, 1) := by decide +kernel
theorem dX4_isByte_6 : decode cX4_isByte 6 = .ok (.getfield 27, 3) := by decide +kernel
theorem dX4_isByte_9 : decode cX4_isByte 9 = .ok (.if_icmp .ge 17, 3) := by decide +kernel
theorem dX4_isByte_12 : decode cX4_isByte 12 = .ok (.iload_n 2, 1) := by decide +kernel
theorem dX4_isByte_13 : decode cX4_isByte 13 = .ok (.ifCond .lt 13, 3) := by decide +kernel
theorem dX4_isByte_16 : decode cX4_isByte 16 = .ok (.iload_n 2, 1) := by decide +kernel
theorem dX4_isByte_17 : decode cX4_isByte 17 = .ok (.bipush 48, 2) := by decide +kernel
theorem dX4_isByte_19 : decode cX4_isByte 19 = .ok (.if_icmp .ge 7, 3) := by decide +kernel
theorem dX4_isByte_22 : decode cX4_isByte 22 = .ok (.iconst 1, 1) := by decide +kernel
theorem dX4_isByte_23 : decode cX4_isByte 23 = .ok (.goto 4, 3) := by decide +kernel
theorem dX4_isByte_26 : decode cX4_isByte 26 = .ok (.iconst 0, 1) := by decide +kernel
theorem dX4_isByte_27 : decode cX4_isByte 27 = .ok (.ireturn, 1) := by decide +kernel
set_option maxRecDepth 20000 in
theorem ggX4_poke_X4_isByte : GoodIn wsX4_poke wsX4_isByte := goodIn_r _ [6, 7, 17, 18, 19, 20, 21, 22, 23, 24, 25, 26, 27, 28] (by decide +kernel) (by decide +kernel)
set_option maxRecDepth 20000 in
theorem gX4_poke_X4_isByte : GoodIn wsX4_poke (wsV RX4 126 RX4 yX4_isByte wsX4_isByte) := goodIn_app (goodIn_of _ (by decide +kernel)) ggX4_poke_X4_isByte
set_option maxRecDepth 20000 in
theorem ggX4_poke_X4_at : GoodIn wsX4_poke wsX4_at := goodIn_r _ [11, 12, 17, 18, 19, 20, 21, 22, 23, 24, 25, 26, 27, 28] (by decide +kernel) (by decide +kernel)
set_option maxRecDepth 20000 in
theorem gX4_poke_X4_at : GoodIn wsX4_poke (wsV RX4 33 RX4 yX4_at wsX4_at) := goodIn_app (goodIn_of _ (by decide +kernel)) ggX4_poke_X4_at
set_option maxRecDepth 20000 in
theorem ggX4_poke_X4_lay : GoodIn wsX4_poke wsX4_lay := goodIn_r _ [16, 12, 17, 18, 19, 20, 21, 22, 23, 24, 25, 26, 27, 28] (by decide +kernel) (by decide +kernel)
set_option maxRecDepth 20000 in
theorem gX4_poke_X4_lay : GoodIn wsX4_poke (wsV RX4 37 RX4 yX4_lay wsX4_lay) := goodIn_app (goodIn_of _ (by decide +kernel)) ggX4_poke_X4_lay
theorem dX4_poke_0 : decode cX4_poke 0 = .ok (.aload_n 0, 1) := by decide +kernel
theorem dX4_poke_1 : decode cX4_poke 1 = .ok (.iconst 0, 1) := by decide +kernel
theorem dX4_poke_2 : decode cX4_poke 2 = .ok (.putfield 30, 3) := by decide +kernel
theorem dX4_poke_5 : decode cX4_poke 5 = .ok (.aload_n 0, 1) := by decide +kernel
theorem dX4_poke_6 : decode cX4_poke 6 = .ok (.iload_n 1, 1) := by decide +kernel
theorem dX4_poke_7 : decode cX4_poke 7 = .ok (.iload_n 2, 1) := by decide +kernel
theorem dX4_poke_8 : decode cX4_poke 8 = .ok (.invokevirtual 126, 3) := by decide +kernel
theorem dX4_poke_11 : decode cX4_poke 11 = .ok (.ifCond .eq 15, 3) := by decide +kernel
theorem dX4_poke_14 : decode cX4_poke 14 = .ok (.iload_n 3, 1) := by decide +kernel
theorem dX4_poke_15 : decode cX4_poke 15 = .ok (.iconst 1, 1) := by decide +kernel
theorem dX4_poke_16 : decode cX4_poke 16 = .ok (.if_icmp .lt 10, 3) := by decide +kernel
theorem dX4_poke_19 : decode cX4_poke 19 = .ok (.iload_n 3, 1) := by decide +kernel
theorem dX4_poke_20 : decode cX4_poke 20 = .ok (.sipush 255, 3) := by decide +kernel
theorem dX4_poke_23 : decode cX4_poke 23 = .ok (.if_icmp .le 6, 3) := by decide +kernel
theorem dX4_poke_26 : decode cX4_poke 26 = .ok (.bipush (-2), 2) := by decide +kernel
theorem dX4_poke_28 : decode cX4_poke 28 = .ok (.ireturn, 1) := by decide +kernel
theorem dX4_poke_29 : decode cX4_poke 29 = .ok (.aload_n 0, 1) := by decide +kernel
theorem dX4_poke_30 : decode cX4_poke 30 = .ok (.iload_n 1, 1) := by decide +kernel
theorem dX4_poke_31 : decode cX4_poke 31 = .ok (.iload_n 2, 1) := by decide +kernel
theorem dX4_poke_32 : decode cX4_poke 32 = .ok (.aload_n 0, 1) := by decide +kernel
theorem dX4_poke_33 : decode cX4_poke 33 = .ok (.iload_n 1, 1) := by decide +kernel
theorem dX4_poke_34 : decode cX4_poke 34 = .ok (.iload_n 2, 1) := by decide +kernel
theorem dX4_poke_35 : decode cX4_poke 35 = .ok (.invokevirtual 33, 3) := by decide +kernel
theorem dX4_poke_38 : decode cX4_poke 38 = .ok (.iload_n 3, 1) := by decide +kernel
theorem dX4_poke_39 : decode cX4_poke 39 = .ok (.ixor, 1) := by decide +kernel
theorem dX4_poke_40 : decode cX4_poke 40 = .ok (.invokevirtual 37, 3) := by decide +kernel
theorem dX4_poke_43 : decode cX4_poke 43 = .ok (.aload_n 0, 1) := by decide +kernel
theorem dX4_poke_44 : decode cX4_poke 44 = .ok (.iload_n 1, 1) := by decide +kernel
theorem dX4_poke_45 : decode cX4_poke 45 = .ok (.iload_n 2, 1) := by decide +kernel
theorem dX4_poke_46 : decode cX4_poke 46 = .ok (.invokevirtual 33, 3) := by decide +kernel
theorem dX4_poke_49 : decode cX4_poke 49 = .ok (.ireturn, 1) := by decide +kernel
set_option maxRecDepth 20000 in
theorem ggX4_byteAt_X4_isByte : GoodIn wsX4_byteAt wsX4_isByte := goodIn_r _ [6, 7, 13, 14, 15, 16, 17, 18, 19, 20, 21, 22, 23, 24] (by decide +kernel) (by decide +kernel)
set_option maxRecDepth 20000 in
theorem gX4_byteAt_X4_isByte : GoodIn wsX4_byteAt (wsV RX4 126 RX4 yX4_isByte wsX4_isByte) := goodIn_app (goodIn_of _ (by decide +kernel)) ggX4_byteAt_X4_isByte
set_option maxRecDepth 20000 in
theorem ggX4_byteAt_X4_at : GoodIn wsX4_byteAt wsX4_at := goodIn_r _ [11, 12, 13, 14, 15, 16, 17, 18, 19, 20, 21, 22, 23, 24] (by decide +kernel) (by decide +kernel)
set_option maxRecDepth 20000 in
theorem gX4_byteAt_X4_at : GoodIn wsX4_byteAt (wsV RX4 33 RX4 yX4_at wsX4_at) := goodIn_app (goodIn_of _ (by decide +kernel)) ggX4_byteAt_X4_at
theorem dX4_byteAt_0 : decode cX4_byteAt 0 = .ok (.aload_n 0, 1) := by decide +kernel
theorem dX4_byteAt_1 : decode cX4_byteAt 1 = .ok (.iconst 0, 1) := by decide +kernel
theorem dX4_byteAt_2 : decode cX4_byteAt 2 = .ok (.putfield 30, 3) := by decide +kernel
theorem dX4_byteAt_5 : decode cX4_byteAt 5 = .ok (.aload_n 0, 1) := by decide +kernel
theorem dX4_byteAt_6 : decode cX4_byteAt 6 = .ok (.iload_n 1, 1) := by decide +kernel
theorem dX4_byteAt_7 : decode cX4_byteAt 7 = .ok (.iload_n 2, 1) := by decide +kernel
theorem dX4_byteAt_8 : decode cX4_byteAt 8 = .ok (.invokevirtual 126, 3) := by decide +kernel
theorem dX4_byteAt_11 : decode cX4_byteAt 11 = .ok (.ifCond .eq 12, 3) := by decide +kernel
theorem dX4_byteAt_14 : decode cX4_byteAt 14 = .ok (.aload_n 0, 1) := by decide +kernel
theorem dX4_byteAt_15 : decode cX4_byteAt 15 = .ok (.iload_n 1, 1) := by decide +kernel
theorem dX4_byteAt_16 : decode cX4_byteAt 16 = .ok (.iload_n 2, 1) := by decide +kernel
theorem dX4_byteAt_17 : decode cX4_byteAt 17 = .ok (.invokevirtual 33, 3) := by decide +kernel
theorem dX4_byteAt_20 : decode cX4_byteAt 20 = .ok (.goto 5, 3) := by decide +kernel
theorem dX4_byteAt_23 : decode cX4_byteAt 23 = .ok (.bipush (-2), 2) := by decide +kernel
theorem dX4_byteAt_25 : decode cX4_byteAt 25 = .ok (.ireturn, 1) := by decide +kernel
set_option maxRecDepth 20000 in
theorem ggX4_badAt_X4_reachAll : GoodIn wsX4_badAt wsX4_reachAll := goodIn_r _ [8, 3, 9, 10, 11, 12, 13, 14, 15, 7, 16, 17, 18, 19, 20, 21, 22, 23, 24, 25, 26, 27, 28, 29, 30, 31, 32, 33, 34, 35, 36, 37, 38, 39, 40, 41, 42, 43, 44, 45, 46, 47, 48, 49, 50, 51, 52, 53, 54, 55, 56, 57, 58, 59] (by decide +kernel) (by decide +kernel)
set_option maxRecDepth 20000 in
theorem gX4_badAt_X4_reachAll : GoodIn wsX4_badAt (wsV RX4 110 RX4 yX4_reachAll wsX4_reachAll) := goodIn_app (goodIn_of _ (by decide +kernel)) ggX4_badAt_X4_reachAll
theorem dX4_badAt_0 : decode cX4_badAt 0 = .ok (.aload_n 0, 1) := by decide +kernel
theorem dX4_badAt_1 : decode cX4_badAt 1 = .ok (.iconst 0, 1) := by decide +kernel
theorem dX4_badAt_2 : decode cX4_badAt 2 = .ok (.putfield 30, 3) := by decide +kernel
theorem dX4_badAt_5 : decode cX4_badAt 5 = .ok (.aload_n 0, 1) := by decide +kernel
theorem dX4_badAt_6 : decode cX4_badAt 6 = .ok (.getfield 83, 3) := by decide +kernel
theorem dX4_badAt_9 : decode cX4_badAt 9 = .ok (.ifCond .eq 6, 3) := by decide +kernel
theorem dX4_badAt_12 : decode cX4_badAt 12 = .ok (.bipush (-5), 2) := by decide +kernel
theorem dX4_badAt_14 : decode cX4_badAt 14 = .ok (.ireturn, 1) := by decide +kernel
theorem dX4_badAt_15 : decode cX4_badAt 15 = .ok (.aload_n 0, 1) := by decide +kernel
theorem dX4_badAt_16 : decode cX4_badAt 16 = .ok (.invokevirtual 110, 3) := by decide +kernel
theorem dX4_badAt_19 : decode cX4_badAt 19 = .ok (.aload_n 0, 1) := by decide +kernel
theorem dX4_badAt_20 : decode cX4_badAt 20 = .ok (.getfield 60, 3) := by decide +kernel
theorem dX4_badAt_23 : decode cX4_badAt 23 = .ok (.ireturn, 1) := by decide +kernel
set_option maxRecDepth 20000 in
theorem ggX4_freePages_X4_reachAll : GoodIn wsX4_freePages wsX4_reachAll := goodIn_r _ [7, 8, 1, 2, 9, 10, 11, 12, 13, 6, 14, 15, 16, 17, 18, 19, 20, 21, 22, 23, 24, 25, 26, 27, 28, 29, 30, 31, 32, 33, 34, 35, 36, 37, 38, 39, 40, 41, 42, 43, 44, 45, 46, 47, 48, 49, 50, 51, 52, 53, 54, 55, 56, 57] (by decide +kernel) (by decide +kernel)
set_option maxRecDepth 20000 in
theorem gX4_freePages_X4_reachAll : GoodIn wsX4_freePages (wsV RX4 110 RX4 yX4_reachAll wsX4_reachAll) := goodIn_app (goodIn_of _ (by decide +kernel)) ggX4_freePages_X4_reachAll
theorem dX4_freePages_0 : decode cX4_freePages 0 = .ok (.aload_n 0, 1) := by decide +kernel
theorem dX4_freePages_1 : decode cX4_freePages 1 = .ok (.invokevirtual 110, 3) := by decide +kernel
theorem dX4_freePages_4 : decode cX4_freePages 4 = .ok (.iconst 0, 1) := by decide +kernel
theorem dX4_freePages_5 : decode cX4_freePages 5 = .ok (.istore_n 1, 1) := by decide +kernel
theorem dX4_freePages_6 : decode cX4_freePages 6 = .ok (.bipush 8, 2) := by decide +kernel
theorem dX4_freePages_8 : decode cX4_freePages 8 = .ok (.istore_n 2, 1) := by decide +kernel
theorem dX4_freePages_9 : decode cX4_freePages 9 = .ok (.iload_n 2, 1) := by decide +kernel
theorem dX4_freePages_10 : decode cX4_freePages 10 = .ok (.aload_n 0, 1) := by decide +kernel
theorem dX4_freePages_11 : decode cX4_freePages 11 = .ok (.getfield 27, 3) := by decide +kernel
theorem dX4_freePages_14 : decode cX4_freePages 14 = .ok (.if_icmp .ge 26, 3) := by decide +kernel
theorem dX4_freePages_17 : decode cX4_freePages 17 = .ok (.iload_n 1, 1) := by decide +kernel
theorem dX4_freePages_18 : decode cX4_freePages 18 = .ok (.aload_n 0, 1) := by decide +kernel
theorem dX4_freePages_19 : decode cX4_freePages 19 = .ok (.getfield 23, 3) := by decide +kernel
theorem dX4_freePages_22 : decode cX4_freePages 22 = .ok (.iload_n 2, 1) := by decide +kernel
theorem dX4_freePages_23 : decode cX4_freePages 23 = .ok (.baload, 1) := by decide +kernel
theorem dX4_freePages_24 : decode cX4_freePages 24 = .ok (.ifCond .eq 7, 3) := by decide +kernel
theorem dX4_freePages_27 : decode cX4_freePages 27 = .ok (.iconst 0, 1) := by decide +kernel
theorem dX4_freePages_28 : decode cX4_freePages 28 = .ok (.goto 4, 3) := by decide +kernel
theorem dX4_freePages_31 : decode cX4_freePages 31 = .ok (.iconst 1, 1) := by decide +kernel
theorem dX4_freePages_32 : decode cX4_freePages 32 = .ok (.iadd, 1) := by decide +kernel
theorem dX4_freePages_33 : decode cX4_freePages 33 = .ok (.istore_n 1, 1) := by decide +kernel
theorem dX4_freePages_34 : decode cX4_freePages 34 = .ok (.iinc 2 1, 3) := by decide +kernel
theorem dX4_freePages_37 : decode cX4_freePages 37 = .ok (.goto (-28), 3) := by decide +kernel
theorem dX4_freePages_40 : decode cX4_freePages 40 = .ok (.iload_n 1, 1) := by decide +kernel
theorem dX4_freePages_41 : decode cX4_freePages 41 = .ok (.ireturn, 1) := by decide +kernel
set_option maxRecDepth 20000 in
theorem ggX4_keys_X4_hasVersion : GoodIn wsX4_keys wsX4_hasVersion := goodIn_r _ [6, 1, 7, 40, 41, 42, 43, 44, 45, 46, 47, 48, 49, 50, 51] (by decide +kernel) (by decide +kernel)
set_option maxRecDepth 20000 in
theorem gX4_keys_X4_hasVersion : GoodIn wsX4_keys (wsV RX4 90 RX4 yX4_hasVersion wsX4_hasVersion) := goodIn_app (goodIn_of _ (by decide +kernel)) ggX4_keys_X4_hasVersion
set_option maxRecDepth 20000 in
theorem ggX4_keys_X4_isRight : GoodIn wsX4_keys wsX4_isRight := goodIn_r _ [11, 12, 13, 14, 15, 5, 16, 17, 18, 19, 20, 21, 22, 23, 24, 25, 26, 27, 28, 29, 30, 31, 32, 33, 34, 35, 40, 41, 42, 43, 44, 45, 46, 47, 48, 49, 50, 51] (by decide +kernel) (by decide +kernel)
set_option maxRecDepth 20000 in
theorem gX4_keys_X4_isRight : GoodIn wsX4_keys (wsV RX4 57 RX4 yX4_isRight wsX4_isRight) := goodIn_app (goodIn_of _ (by decide +kernel)) ggX4_keys_X4_isRight
set_option maxRecDepth 20000 in
theorem ggX4_keys_X4_nodeOf : GoodIn wsX4_keys wsX4_nodeOf := goodIn_r _ [39, 17, 18, 19, 5, 20, 21, 40, 41, 42, 43, 44, 45, 46, 47, 48, 49, 50, 51] (by decide +kernel) (by decide +kernel)
set_option maxRecDepth 20000 in
theorem gX4_keys_X4_nodeOf : GoodIn wsX4_keys (wsV RX4 94 RX4 yX4_nodeOf wsX4_nodeOf) := goodIn_app (goodIn_of _ (by decide +kernel)) ggX4_keys_X4_nodeOf
set_option maxRecDepth 20000 in
theorem ggX4_keys_X4_at : GoodIn wsX4_keys wsX4_at := goodIn_r _ [20, 21, 40, 41, 42, 43, 44, 45, 46, 47, 48, 49, 50, 51] (by decide +kernel) (by decide +kernel)
set_option maxRecDepth 20000 in
theorem gX4_keys_X4_at : GoodIn wsX4_keys (wsV RX4 33 RX4 yX4_at wsX4_at) := goodIn_app (goodIn_of _ (by decide +kernel)) ggX4_keys_X4_at
theorem dX4_keys_0 : decode cX4_keys 0 = .ok (.iconst 0, 1) := by decide +kernel
theorem dX4_keys_1 : decode cX4_keys 1 = .ok (.istore_n 1, 1) := by decide +kernel
theorem dX4_keys_2 : decode cX4_keys 2 = .ok (.aload_n 0, 1) := by decide +kernel
theorem dX4_keys_3 : decode cX4_keys 3 = .ok (.invokevirtual 90, 3) := by decide +kernel
theorem dX4_keys_6 : decode cX4_keys 6 = .ok (.ifCond .eq 22, 3) := by decide +kernel
theorem dX4_keys_9 : decode cX4_keys 9 = .ok (.aload_n 0, 1) := by decide +kernel
theorem dX4_keys_10 : decode cX4_keys 10 = .ok (.aload_n 0, 1) := by decide +kernel
theorem dX4_keys_11 : decode cX4_keys 11 = .ok (.getfield 67, 3) := by decide +kernel
theorem dX4_keys_14 : decode cX4_keys 14 = .ok (.bipush 8, 2) := by decide +kernel
theorem dX4_keys_16 : decode cX4_keys 16 = .ok (.irem, 1) := by decide +kernel
theorem dX4_keys_17 : decode cX4_keys 17 = .ok (.iconst 1, 1) := by decide +kernel
theorem dX4_keys_18 : decode cX4_keys 18 = .ok (.invokevirtual 57, 3) := by decide +kernel
theorem dX4_keys_21 : decode cX4_keys 21 = .ok (.ifCond .eq 7, 3) := by decide +kernel
theorem dX4_keys_24 : decode cX4_keys 24 = .ok (.iconst 1, 1) := by decide +kernel
theorem dX4_keys_25 : decode cX4_keys 25 = .ok (.goto 4, 3) := by decide +kernel
theorem dX4_keys_28 : decode cX4_keys 28 = .ok (.iconst 0, 1) := by decide +kernel
theorem dX4_keys_29 : decode cX4_keys 29 = .ok (.istore_n 2, 1) := by decide +kernel
theorem dX4_keys_30 : decode cX4_keys 30 = .ok (.iconst 0, 1) := by decide +kernel
theorem dX4_keys_31 : decode cX4_keys 31 = .ok (.istore_n 3, 1) := by decide +kernel
theorem dX4_keys_32 : decode cX4_keys 32 = .ok (.iload_n 3, 1) := by decide +kernel
theorem dX4_keys_33 : decode cX4_keys 33 = .ok (.bipush 32, 2) := by decide +kernel
theorem dX4_keys_35 : decode cX4_keys 35 = .ok (.if_icmp .ge 88, 3) := by decide +kernel
theorem dX4_keys_38 : decode cX4_keys 38 = .ok (.iload_n 2, 1) := by decide +kernel
theorem dX4_keys_39 : decode cX4_keys 39 = .ok (.ifCond .eq 84, 3) := by decide +kernel
theorem dX4_keys_42 : decode cX4_keys 42 = .ok (.aload_n 0, 1) := by decide +kernel
theorem dX4_keys_43 : decode cX4_keys 43 = .ok (.aload_n 0, 1) := by decide +kernel
theorem dX4_keys_44 : decode cX4_keys 44 = .ok (.getfield 67, 3) := by decide +kernel
theorem dX4_keys_47 : decode cX4_keys 47 = .ok (.iload_n 3, 1) := by decide +kernel
theorem dX4_keys_48 : decode cX4_keys 48 = .ok (.invokevirtual 94, 3) := by decide +kernel
theorem dX4_keys_51 : decode cX4_keys 51 = .ok (.istore 4, 2) := by decide +kernel
theorem dX4_keys_53 : decode cX4_keys 53 = .ok (.iload 4, 2) := by decide +kernel
theorem dX4_keys_55 : decode cX4_keys 55 = .ok (.ifCond .eq 17, 3) := by decide +kernel
theorem dX4_keys_58 : decode cX4_keys 58 = .ok (.aload_n 0, 1) := by decide +kernel
theorem dX4_keys_59 : decode cX4_keys 59 = .ok (.iload 4, 2) := by decide +kernel
theorem dX4_keys_61 : decode cX4_keys 61 = .ok (.iconst 2, 1) := by decide +kernel
theorem dX4_keys_62 : decode cX4_keys 62 = .ok (.invokevirtual 57, 3) := by decide +kernel
theorem dX4_keys_65 : decode cX4_keys 65 = .ok (.ifCond .eq 7, 3) := by decide +kernel
theorem dX4_keys_68 : decode cX4_keys 68 = .ok (.iconst 1, 1) := by decide +kernel
theorem dX4_keys_69 : decode cX4_keys 69 = .ok (.goto 4, 3) := by decide +kernel
theorem dX4_keys_72 : decode cX4_keys 72 = .ok (.iconst 0, 1) := by decide +kernel
theorem dX4_keys_73 : decode cX4_keys 73 = .ok (.istore 5, 2) := by decide +kernel
theorem dX4_keys_75 : decode cX4_keys 75 = .ok (.iconst 0, 1) := by decide +kernel
theorem dX4_keys_76 : decode cX4_keys 76 = .ok (.istore 6, 2) := by decide +kernel
theorem dX4_keys_78 : decode cX4_keys 78 = .ok (.iload 6, 2) := by decide +kernel
theorem dX4_keys_80 : decode cX4_keys 80 = .ok (.bipush 32, 2) := by decide +kernel
theorem dX4_keys_82 : decode cX4_keys 82 = .ok (.if_icmp .ge 35, 3) := by decide +kernel
theorem dX4_keys_85 : decode cX4_keys 85 = .ok (.iload 5, 2) := by decide +kernel
theorem dX4_keys_87 : decode cX4_keys 87 = .ok (.ifCond .eq 30, 3) := by decide +kernel
theorem dX4_keys_90 : decode cX4_keys 90 = .ok (.iload_n 1, 1) := by decide +kernel
theorem dX4_keys_91 : decode cX4_keys 91 = .ok (.aload_n 0, 1) := by decide +kernel
theorem dX4_keys_92 : decode cX4_keys 92 = .ok (.iload 4, 2) := by decide +kernel
theorem dX4_keys_94 : decode cX4_keys 94 = .ok (.iconst 2, 1) := by decide +kernel
theorem dX4_keys_95 : decode cX4_keys 95 = .ok (.iload 6, 2) := by decide +kernel
theorem dX4_keys_97 : decode cX4_keys 97 = .ok (.iadd, 1) := by decide +kernel
theorem dX4_keys_98 : decode cX4_keys 98 = .ok (.invokevirtual 33, 3) := by decide +kernel
theorem dX4_keys_101 : decode cX4_keys 101 = .ok (.ifCond .eq 7, 3) := by decide +kernel
theorem dX4_keys_104 : decode cX4_keys 104 = .ok (.iconst 1, 1) := by decide +kernel
theorem dX4_keys_105 : decode cX4_keys 105 = .ok (.goto 4, 3) := by decide +kernel
theorem dX4_keys_108 : decode cX4_keys 108 = .ok (.iconst 0, 1) := by decide +kernel
theorem dX4_keys_109 : decode cX4_keys 109 = .ok (.iadd, 1) := by decide +kernel
theorem dX4_keys_110 : decode cX4_keys 110 = .ok (.istore_n 1, 1) := by decide +kernel
theorem dX4_keys_111 : decode cX4_keys 111 = .ok (.iinc 6 1, 3) := by decide +kernel
theorem dX4_keys_114 : decode cX4_keys 114 = .ok (.goto (-36), 3) := by decide +kernel
theorem dX4_keys_117 : decode cX4_keys 117 = .ok (.iinc 3 1, 3) := by decide +kernel
theorem dX4_keys_120 : decode cX4_keys 120 = .ok (.goto (-88), 3) := by decide +kernel
theorem dX4_keys_123 : decode cX4_keys 123 = .ok (.iload_n 1, 1) := by decide +kernel
theorem dX4_keys_124 : decode cX4_keys 124 = .ok (.ireturn, 1) := by decide +kernel
set_option maxRecDepth 20000 in
theorem ggX4_count_X4_freePages : GoodIn wsX4_count wsX4_freePages := goodIn_r _ [10, 11, 12, 13, 14, 15, 9, 16, 17, 4, 3, 18, 19, 20, 21, 22, 23, 24, 25, 26, 27, 28, 29, 30, 31, 32, 33, 34, 35, 36, 37, 38, 39, 40, 41, 42, 43, 44, 45, 46, 47, 48, 49, 50, 51, 52, 65, 66, 67, 68, 69, 70, 71, 72, 73, 74, 75, 76] (by decide +kernel) (by decide +kernel)
set_option maxRecDepth 20000 in
theorem gX4_count_X4_freePages : GoodIn wsX4_count (wsV RX4 129 RX4 yX4_freePages wsX4_freePages) := goodIn_app (goodIn_of _ (by decide +kernel)) ggX4_count_X4_freePages
set_option maxRecDepth 20000 in
theorem ggX4_count_X4_keys : GoodIn wsX4_count wsX4_keys := goodIn_r _ [56, 3, 57, 58, 59, 9, 60, 4, 22, 23, 24, 25, 26, 27, 28, 29, 30, 31, 32, 33, 34, 35, 36, 37, 38, 39, 40, 41, 42, 43, 44, 45, 46, 47, 48, 11, 61, 62, 63, 64, 65, 66, 67, 68, 69, 70, 71, 72, 73, 74, 75, 76] (by decide +kernel) (by decide +kernel)
set_option maxRecDepth 20000 in
theorem gX4_count_X4_keys : GoodIn wsX4_count (wsV RX4 133 RX4 yX4_keys wsX4_keys) := goodIn_app (goodIn_of _ (by decide +kernel)) ggX4_count_X4_keys
theorem dX4_count_0 : decode cX4_count 0 = .ok (.aload_n 0, 1) := by decide +kernel
theorem dX4_count_1 : decode cX4_count 1 = .ok (.iconst 0, 1) := by decide +kernel
theorem dX4_count_2 : decode cX4_count 2 = .ok (.putfield 30, 3) := by decide +kernel
theorem dX4_count_5 : decode cX4_count 5 = .ok (.aload_n 0, 1) := by decide +kernel
theorem dX4_count_6 : decode cX4_count 6 = .ok (.getfield 83, 3) := by decide +kernel
theorem dX4_count_9 : decode cX4_count 9 = .ok (.ifCond .eq 6, 3) := by decide +kernel
theorem dX4_count_12 : decode cX4_count 12 = .ok (.bipush (-5), 2) := by decide +kernel
theorem dX4_count_14 : decode cX4_count 14 = .ok (.ireturn, 1) := by decide +kernel
theorem dX4_count_15 : decode cX4_count 15 = .ok (.iload_n 1, 1) := by decide +kernel
theorem dX4_count_16 : decode cX4_count 16 = .ok (.tableswitch 61 0 4 #[36, 41, 46, 51, 56], 36) := by decide +kernel
theorem dX4_count_52 : decode cX4_count 52 = .ok (.aload_n 0, 1) := by decide +kernel
theorem dX4_count_53 : decode cX4_count 53 = .ok (.getfield 67, 3) := by decide +kernel
theorem dX4_count_56 : decode cX4_count 56 = .ok (.ireturn, 1) := by decide +kernel
theorem dX4_count_57 : decode cX4_count 57 = .ok (.aload_n 0, 1) := by decide +kernel
theorem dX4_count_58 : decode cX4_count 58 = .ok (.getfield 13, 3) := by decide +kernel
theorem dX4_count_61 : decode cX4_count 61 = .ok (.ireturn, 1) := by decide +kernel
theorem dX4_count_62 : decode cX4_count 62 = .ok (.aload_n 0, 1) := by decide +kernel
theorem dX4_count_63 : decode cX4_count 63 = .ok (.invokevirtual 129, 3) := by decide +kernel
theorem dX4_count_66 : decode cX4_count 66 = .ok (.ireturn, 1) := by decide +kernel
theorem dX4_count_67 : decode cX4_count 67 = .ok (.aload_n 0, 1) := by decide +kernel
theorem dX4_count_68 : decode cX4_count 68 = .ok (.invokevirtual 133, 3) := by decide +kernel
theorem dX4_count_71 : decode cX4_count 71 = .ok (.ireturn, 1) := by decide +kernel
theorem dX4_count_72 : decode cX4_count 72 = .ok (.aload_n 0, 1) := by decide +kernel
theorem dX4_count_73 : decode cX4_count 73 = .ok (.getfield 87, 3) := by decide +kernel
theorem dX4_count_76 : decode cX4_count 76 = .ok (.ireturn, 1) := by decide +kernel
theorem dX4_count_77 : decode cX4_count 77 = .ok (.bipush (-2), 2) := by decide +kernel
theorem dX4_count_79 : decode cX4_count 79 = .ok (.ireturn, 1) := by decide +kernel
theorem dX4_written_0 : decode cX4_written 0 = .ok (.aload_n 0, 1) := by decide +kernel
theorem dX4_written_1 : decode cX4_written 1 = .ok (.iconst 0, 1) := by decide +kernel
theorem dX4_written_2 : decode cX4_written 2 = .ok (.putfield 30, 3) := by decide +kernel
theorem dX4_written_5 : decode cX4_written 5 = .ok (.aload_n 0, 1) := by decide +kernel
theorem dX4_written_6 : decode cX4_written 6 = .ok (.getfield 77, 3) := by decide +kernel
theorem dX4_written_9 : decode cX4_written 9 = .ok (.ireturn, 1) := by decide +kernel
theorem dX4_isDown_0 : decode cX4_isDown 0 = .ok (.aload_n 0, 1) := by decide +kernel
theorem dX4_isDown_1 : decode cX4_isDown 1 = .ok (.iconst 0, 1) := by decide +kernel
theorem dX4_isDown_2 : decode cX4_isDown 2 = .ok (.putfield 30, 3) := by decide +kernel
theorem dX4_isDown_5 : decode cX4_isDown 5 = .ok (.aload_n 0, 1) := by decide +kernel
theorem dX4_isDown_6 : decode cX4_isDown 6 = .ok (.getfield 83, 3) := by decide +kernel
theorem dX4_isDown_9 : decode cX4_isDown 9 = .ok (.ireturn, 1) := by decide +kernel
theorem dJ9_max_7cf53_0 : decode cJ9_max_7cf53 0 = .ok (.iload_n 0, 1) := by decide +kernel
theorem dJ9_max_7cf53_1 : decode cJ9_max_7cf53 1 = .ok (.iload_n 1, 1) := by decide +kernel
theorem dJ9_max_7cf53_2 : decode cJ9_max_7cf53 2 = .ok (.if_icmp .lt 7, 3) := by decide +kernel
theorem dJ9_max_7cf53_5 : decode cJ9_max_7cf53 5 = .ok (.iload_n 0, 1) := by decide +kernel
theorem dJ9_max_7cf53_6 : decode cJ9_max_7cf53 6 = .ok (.goto 4, 3) := by decide +kernel
theorem dJ9_max_7cf53_9 : decode cJ9_max_7cf53 9 = .ok (.iload_n 1, 1) := by decide +kernel
theorem dJ9_max_7cf53_10 : decode cJ9_max_7cf53 10 = .ok (.ireturn, 1) := by decide +kernel
theorem dJ9_min_7cf53_0 : decode cJ9_min_7cf53 0 = .ok (.iload_n 0, 1) := by decide +kernel
theorem dJ9_min_7cf53_1 : decode cJ9_min_7cf53 1 = .ok (.iload_n 1, 1) := by decide +kernel
theorem dJ9_min_7cf53_2 : decode cJ9_min_7cf53 2 = .ok (.if_icmp .gt 7, 3) := by decide +kernel
theorem dJ9_min_7cf53_5 : decode cJ9_min_7cf53 5 = .ok (.iload_n 0, 1) := by decide +kernel
theorem dJ9_min_7cf53_6 : decode cJ9_min_7cf53 6 = .ok (.goto 4, 3) := by decide +kernel
theorem dJ9_min_7cf53_9 : decode cJ9_min_7cf53 9 = .ok (.iload_n 1, 1) := by decide +kernel
theorem dJ9_min_7cf53_10 : decode cJ9_min_7cf53 10 = .ok (.ireturn, 1) := by decide +kernel
theorem dJ7_rangeCheck_23922_0 : decode cJ7_rangeCheck_23922 0 = .ok (.iload_n 1, 1) := by decide +kernel
theorem dJ7_rangeCheck_23922_1 : decode cJ7_rangeCheck_23922 1 = .ok (.iload_n 2, 1) := by decide +kernel
theorem dJ7_rangeCheck_23922_2 : decode cJ7_rangeCheck_23922 2 = .ok (.if_icmp .le 44, 3) := by decide +kernel
theorem dJ7_rangeCheck_23922_5 : decode cJ7_rangeCheck_23922 5 = .ok (.new 43, 3) := by decide +kernel
theorem dJ7_rangeCheck_23922_8 : decode cJ7_rangeCheck_23922 8 = .ok (.dup, 1) := by decide +kernel
theorem dJ7_rangeCheck_23922_9 : decode cJ7_rangeCheck_23922 9 = .ok (.new 45, 3) := by decide +kernel
theorem dJ7_rangeCheck_23922_12 : decode cJ7_rangeCheck_23922 12 = .ok (.dup, 1) := by decide +kernel
theorem dJ7_rangeCheck_23922_13 : decode cJ7_rangeCheck_23922 13 = .ok (.invokespecial 47, 3) := by decide +kernel
theorem dJ7_rangeCheck_23922_16 : decode cJ7_rangeCheck_23922 16 = .ok (.ldc 48, 2) := by decide +kernel
theorem dJ7_rangeCheck_23922_18 : decode cJ7_rangeCheck_23922 18 = .ok (.invokevirtual 50, 3) := by decide +kernel
theorem dJ7_rangeCheck_23922_21 : decode cJ7_rangeCheck_23922 21 = .ok (.iload_n 1, 1) := by decide +kernel
theorem dJ7_rangeCheck_23922_22 : decode cJ7_rangeCheck_23922 22 = .ok (.invokevirtual 54, 3) := by decide +kernel
theorem dJ7_rangeCheck_23922_25 : decode cJ7_rangeCheck_23922 25 = .ok (.ldc 57, 2) := by decide +kernel
theorem dJ7_rangeCheck_23922_27 : decode cJ7_rangeCheck_23922 27 = .ok (.invokevirtual 50, 3) := by decide +kernel
theorem dJ7_rangeCheck_23922_30 : decode cJ7_rangeCheck_23922 30 = .ok (.iload_n 2, 1) := by decide +kernel
theorem dJ7_rangeCheck_23922_31 : decode cJ7_rangeCheck_23922 31 = .ok (.invokevirtual 54, 3) := by decide +kernel
theorem dJ7_rangeCheck_23922_34 : decode cJ7_rangeCheck_23922 34 = .ok (.ldc 59, 2) := by decide +kernel
theorem dJ7_rangeCheck_23922_36 : decode cJ7_rangeCheck_23922 36 = .ok (.invokevirtual 50, 3) := by decide +kernel
theorem dJ7_rangeCheck_23922_39 : decode cJ7_rangeCheck_23922 39 = .ok (.invokevirtual 61, 3) := by decide +kernel
theorem dJ7_rangeCheck_23922_42 : decode cJ7_rangeCheck_23922 42 = .ok (.invokespecial 65, 3) := by decide +kernel
theorem dJ7_rangeCheck_23922_45 : decode cJ7_rangeCheck_23922 45 = .ok (.athrow, 1) := by decide +kernel
theorem dJ7_rangeCheck_23922_46 : decode cJ7_rangeCheck_23922 46 = .ok (.iload_n 1, 1) := by decide +kernel
theorem dJ7_rangeCheck_23922_47 : decode cJ7_rangeCheck_23922 47 = .ok (.ifCond .ge 12, 3) := by decide +kernel
theorem dJ7_rangeCheck_23922_50 : decode cJ7_rangeCheck_23922 50 = .ok (.new 68, 3) := by decide +kernel
theorem dJ7_rangeCheck_23922_53 : decode cJ7_rangeCheck_23922 53 = .ok (.dup, 1) := by decide +kernel
theorem dJ7_rangeCheck_23922_54 : decode cJ7_rangeCheck_23922 54 = .ok (.iload_n 1, 1) := by decide +kernel
theorem dJ7_rangeCheck_23922_55 : decode cJ7_rangeCheck_23922 55 = .ok (.invokespecial 70, 3) := by decide +kernel
theorem dJ7_rangeCheck_23922_58 : decode cJ7_rangeCheck_23922 58 = .ok (.athrow, 1) := by decide +kernel
theorem dJ7_rangeCheck_23922_59 : decode cJ7_rangeCheck_23922 59 = .ok (.iload_n 2, 1) := by decide +kernel
theorem dJ7_rangeCheck_23922_60 : decode cJ7_rangeCheck_23922 60 = .ok (.iload_n 0, 1) := by decide +kernel
theorem dJ7_rangeCheck_23922_61 : decode cJ7_rangeCheck_23922 61 = .ok (.if_icmp .le 12, 3) := by decide +kernel
theorem dJ7_rangeCheck_23922_64 : decode cJ7_rangeCheck_23922 64 = .ok (.new 68, 3) := by decide +kernel
theorem dJ7_rangeCheck_23922_67 : decode cJ7_rangeCheck_23922 67 = .ok (.dup, 1) := by decide +kernel
theorem dJ7_rangeCheck_23922_68 : decode cJ7_rangeCheck_23922 68 = .ok (.iload_n 2, 1) := by decide +kernel
theorem dJ7_rangeCheck_23922_69 : decode cJ7_rangeCheck_23922 69 = .ok (.invokespecial 70, 3) := by decide +kernel
theorem dJ7_rangeCheck_23922_72 : decode cJ7_rangeCheck_23922 72 = .ok (.athrow, 1) := by decide +kernel
theorem dJ7_rangeCheck_23922_73 : decode cJ7_rangeCheck_23922 73 = .ok (.return_, 1) := by decide +kernel
theorem dJ7_fill_53178_0 : decode cJ7_fill_53178 0 = .ok (.iconst 0, 1) := by decide +kernel
theorem dJ7_fill_53178_1 : decode cJ7_fill_53178 1 = .ok (.istore_n 2, 1) := by decide +kernel
theorem dJ7_fill_53178_2 : decode cJ7_fill_53178 2 = .ok (.aload_n 0, 1) := by decide +kernel
theorem dJ7_fill_53178_3 : decode cJ7_fill_53178 3 = .ok (.arraylength, 1) := by decide +kernel
theorem dJ7_fill_53178_4 : decode cJ7_fill_53178 4 = .ok (.istore_n 3, 1) := by decide +kernel
theorem dJ7_fill_53178_5 : decode cJ7_fill_53178 5 = .ok (.iload_n 2, 1) := by decide +kernel
theorem dJ7_fill_53178_6 : decode cJ7_fill_53178 6 = .ok (.iload_n 3, 1) := by decide +kernel
theorem dJ7_fill_53178_7 : decode cJ7_fill_53178 7 = .ok (.if_icmp .ge 13, 3) := by decide +kernel
theorem dJ7_fill_53178_10 : decode cJ7_fill_53178 10 = .ok (.aload_n 0, 1) := by decide +kernel
theorem dJ7_fill_53178_11 : decode cJ7_fill_53178 11 = .ok (.iload_n 2, 1) := by decide +kernel
theorem dJ7_fill_53178_12 : decode cJ7_fill_53178 12 = .ok (.iload_n 1, 1) := by decide +kernel
theorem dJ7_fill_53178_13 : decode cJ7_fill_53178 13 = .ok (.iastore, 1) := by decide +kernel
theorem dJ7_fill_53178_14 : decode cJ7_fill_53178 14 = .ok (.iinc 2 1, 3) := by decide +kernel
theorem dJ7_fill_53178_17 : decode cJ7_fill_53178 17 = .ok (.goto (-12), 3) := by decide +kernel
theorem dJ7_fill_53178_20 : decode cJ7_fill_53178 20 = .ok (.return_, 1) := by decide +kernel
set_option maxRecDepth 20000 in
theorem ggJ7_fill_fda19_J7_rangeCheck_23922 : GoodIn wsJ7_fill_fda19 wsJ7_rangeCheck_23922 := goodIn_r _ [4] (by decide +kernel) (by decide +kernel)
set_option maxRecDepth 20000 in
theorem gJ7_fill_fda19_J7_rangeCheck_23922 : GoodIn wsJ7_fill_fda19 (va_wsS RJ7 13 yJ7_rangeCheck_23922 wsJ7_rangeCheck_23922) := goodIn_app (goodIn_of _ (by decide +kernel)) ggJ7_fill_fda19_J7_rangeCheck_23922
theorem dJ7_fill_fda19_0 : decode cJ7_fill_fda19 0 = .ok (.aload_n 0, 1) := by decide +kernel
theorem dJ7_fill_fda19_1 : decode cJ7_fill_fda19 1 = .ok (.arraylength, 1) := by decide +kernel
theorem dJ7_fill_fda19_2 : decode cJ7_fill_fda19 2 = .ok (.iload_n 1, 1) := by decide +kernel
theorem dJ7_fill_fda19_3 : decode cJ7_fill_fda19 3 = .ok (.iload_n 2, 1) := by decide +kernel
theorem dJ7_fill_fda19_4 : decode cJ7_fill_fda19 4 = .ok (.invokestatic 13, 3) := by decide +kernel
theorem dJ7_fill_fda19_7 : decode cJ7_fill_fda19 7 = .ok (.iload_n 1, 1) := by decide +kernel
theorem dJ7_fill_fda19_8 : decode cJ7_fill_fda19 8 = .ok (.istore 4, 2) := by decide +kernel
theorem dJ7_fill_fda19_10 : decode cJ7_fill_fda19 10 = .ok (.iload 4, 2) := by decide +kernel
theorem dJ7_fill_fda19_12 : decode cJ7_fill_fda19 12 = .ok (.iload_n 2, 1) := by decide +kernel
theorem dJ7_fill_fda19_13 : decode cJ7_fill_fda19 13 = .ok (.if_icmp .ge 14, 3) := by decide +kernel
theorem dJ7_fill_fda19_16 : decode cJ7_fill_fda19 16 = .ok (.aload_n 0, 1) := by decide +kernel
theorem dJ7_fill_fda19_17 : decode cJ7_fill_fda19 17 = .ok (.iload 4, 2) := by decide +kernel
theorem dJ7_fill_fda19_19 : decode cJ7_fill_fda19 19 = .ok (.iload_n 3, 1) := by decide +kernel
theorem dJ7_fill_fda19_20 : decode cJ7_fill_fda19 20 = .ok (.iastore, 1) := by decide +kernel
theorem dJ7_fill_fda19_21 : decode cJ7_fill_fda19 21 = .ok (.iinc 4 1, 3) := by decide +kernel
theorem dJ7_fill_fda19_24 : decode cJ7_fill_fda19 24 = .ok (.goto (-14), 3) := by decide +kernel
theorem dJ7_fill_fda19_27 : decode cJ7_fill_fda19 27 = .ok (.return_, 1) := by decide +kernel
theorem dL_cell_0 : decode cL_cell 0 = .ok (.iload_n 1, 1) := by decide +kernel
theorem dL_cell_1 : decode cL_cell 1 = .ok (.aload_n 0, 1) := by decide +kernel
theorem dL_cell_2 : decode cL_cell 2 = .ok (.arraylength, 1) := by decide +kernel
theorem dL_cell_3 : decode cL_cell 3 = .ok (.if_icmp .ge 9, 3) := by decide +kernel
theorem dL_cell_6 : decode cL_cell 6 = .ok (.aload_n 0, 1) := by decide +kernel
theorem dL_cell_7 : decode cL_cell 7 = .ok (.iload_n 1, 1) := by decide +kernel
theorem dL_cell_8 : decode cL_cell 8 = .ok (.iaload, 1) := by decide +kernel
theorem dL_cell_9 : decode cL_cell 9 = .ok (.goto 4, 3) := by decide +kernel
theorem dL_cell_12 : decode cL_cell 12 = .ok (.iconst 0, 1) := by decide +kernel
theorem dL_cell_13 : decode cL_cell 13 = .ok (.ireturn, 1) := by decide +kernel
set_option maxRecDepth 20000 in
theorem ggL_law_L_cell : GoodIn wsL_law wsL_cell := goodIn_r _ [9] (by decide +kernel) (by decide +kernel)
set_option maxRecDepth 20000 in
theorem gL_law_L_cell : GoodIn wsL_law (va_wsS RL 9 yL_cell wsL_cell) := goodIn_app (goodIn_of _ (by decide +kernel)) ggL_law_L_cell
set_option maxRecDepth 20000 in
theorem ggL_law_X3_init : GoodIn wsL_law wsX3_init := goodIn_r _ [12, 13, 14, 15, 16, 17, 18, 19, 20, 21, 22, 23, 24, 25, 26, 27, 28, 29, 30, 31, 32, 33, 34, 35, 36, 37, 38, 39, 40, 41, 42, 43, 44, 45, 46, 47, 48, 49, 50, 51, 52, 53, 54, 55, 56, 57, 491, 492, 472, 473, 474, 475, 476, 477, 478, 493, 494, 495, 496] (by decide +kernel) (by decide +kernel)
set_option maxRecDepth 20000 in
theorem gL_law_X3_init : GoodIn wsL_law (wsX3_init) := ggL_law_X3_init
set_option maxRecDepth 20000 in
theorem ggL_law_X4_init : GoodIn wsL_law wsX4_init := goodIn_r _ [60, 61, 14, 15, 35, 62, 63, 64, 65, 66, 67, 68, 479, 480, 481, 482, 483, 484, 485, 486, 487, 488, 489, 490] (by decide +kernel) (by decide +kernel)
set_option maxRecDepth 20000 in
theorem gL_law_X4_init : GoodIn wsL_law (wsX4_init) := ggL_law_X4_init
set_option maxRecDepth 20000 in
theorem ggL_law_X3_type : GoodIn wsL_law wsX3_type := goodIn_r _ [72, 34, 37, 36, 73, 74, 75, 33, 76, 55, 472, 473, 474, 475, 476, 477, 478, 494, 495, 496] (by decide +kernel) (by decide +kernel)
set_option maxRecDepth 20000 in
theorem gL_law_X3_type : GoodIn wsL_law (wsV RL 21 RX3 yX3_type wsX3_type) := goodIn_app (goodIn_of _ (by decide +kernel)) ggL_law_X3_type
set_option maxRecDepth 20000 in
theorem ggL_law_X4_type : GoodIn wsL_law wsX4_type := goodIn_r _ [80, 81, 82, 83, 65, 479, 480, 481, 482, 483, 484, 485, 486, 487, 488, 489, 490] (by decide +kernel) (by decide +kernel)
set_option maxRecDepth 20000 in
theorem gL_law_X4_type : GoodIn wsL_law (wsV RL 25 RX4 yX4_type wsX4_type) := goodIn_app (goodIn_of _ (by decide +kernel)) ggL_law_X4_type
set_option maxRecDepth 20000 in
theorem ggL_law_X3_put : GoodIn wsL_law wsX3_put := goodIn_r _ [87, 30, 38, 88, 89, 90, 2, 91, 92, 93, 94, 95, 34, 26, 39, 73, 74, 75, 33, 76, 55, 96, 97, 98, 29, 99, 50, 100, 101, 102, 103, 104, 105, 106, 107, 108, 109, 110, 111, 112, 113, 114, 115, 25, 116, 117, 118, 119, 120, 45, 121, 122, 123, 124, 125, 126, 127, 128, 129, 130, 131, 132, 133, 134, 135, 136, 137, 138, 44, 139, 140, 141, 142, 143, 144, 145, 146, 147, 148, 149, 150, 151, 152, 153, 154, 155, 37, 36, 156, 157, 158, 159, 160, 161, 162, 163, 164, 165, 166, 167, 168, 169, 170, 171, 172, 173, 174, 175, 176, 177, 178, 179, 180, 181, 182, 183, 184, 185, 186, 57, 56, 187, 188, 189, 190, 20, 21, 18, 22, 191, 192, 193, 194, 195, 196, 197, 198, 199, 200, 201, 202, 203, 204, 205, 206, 207, 208, 209, 472, 473, 474, 475, 476, 477, 478, 494, 495, 496, 493, 491, 492] (by decide +kernel) (by decide +kernel)
set_option maxRecDepth 20000 in
theorem gL_law_X3_put : GoodIn wsL_law (wsV RL 26 RX3 yX3_put wsX3_put) := goodIn_app (goodIn_of _ (by decide +kernel)) ggL_law_X3_put
set_option maxRecDepth 20000 in
theorem ggL_law_X4_put : GoodIn wsL_law wsX4_put := goodIn_r _ [213, 81, 82, 214, 215, 216, 83, 65, 217, 218, 5, 219, 220, 221, 222, 223, 68, 67, 63, 224, 225, 226, 227, 228, 229, 230, 231, 232, 233, 234, 235, 236, 237, 238, 239, 62, 240, 241, 242, 243, 244, 245, 246, 247, 248, 249, 250, 251, 252, 253, 254, 255, 256, 257, 258, 259, 260, 261, 262, 263, 264, 265, 266, 267, 268, 269, 270, 271, 272, 273, 64, 274, 275, 276, 277, 278, 279, 280, 281, 282, 283, 284, 285, 286, 287, 288, 289, 290, 291, 292, 293, 294, 295, 296, 297, 479, 480, 481, 482, 483, 484, 485, 486, 487, 488, 489, 490] (by decide +kernel) (by decide +kernel)
set_option maxRecDepth 20000 in
theorem gL_law_X4_put : GoodIn wsL_law (wsV RL 29 RX4 yX4_put wsX4_put) := goodIn_app (goodIn_of _ (by decide +kernel)) ggL_law_X4_put
set_option maxRecDepth 20000 in
theorem ggL_law_X3_remove : GoodIn wsL_law wsX3_remove := goodIn_r _ [301, 38, 30, 88, 89, 90, 2, 91, 92, 93, 94, 95, 34, 26, 39, 73, 74, 75, 33, 76, 55, 96, 97, 98, 29, 99, 50, 100, 101, 102, 103, 104, 105, 106, 107, 108, 109, 110, 111, 112, 113, 114, 115, 25, 116, 117, 118, 119, 120, 45, 121, 122, 123, 124, 125, 126, 127, 128, 129, 130, 131, 132, 133, 134, 135, 136, 137, 138, 44, 139, 140, 141, 142, 143, 144, 145, 146, 147, 302, 303, 304, 305, 195, 306, 196, 148, 149, 150, 151, 187, 188, 189, 190, 20, 21, 18, 22, 191, 192, 193, 194, 156, 157, 158, 159, 160, 161, 162, 163, 164, 165, 166, 167, 168, 169, 170, 197, 198, 199, 200, 201, 202, 203, 204, 171, 172, 173, 174, 175, 176, 177, 178, 179, 180, 181, 182, 183, 184, 185, 186, 57, 56, 205, 206, 207, 208, 209, 472, 473, 474, 475, 476, 477, 478, 494, 495, 496, 493, 491, 492] (by decide +kernel) (by decide +kernel)
set_option maxRecDepth 20000 in
theorem gL_law_X3_remove : GoodIn wsL_law (wsV RL 30 RX3 yX3_remove wsX3_remove) := goodIn_app (goodIn_of _ (by decide +kernel)) ggL_law_X3_remove
set_option maxRecDepth 20000 in
theorem ggL_law_X4_remove : GoodIn wsL_law wsX4_remove := goodIn_r _ [310, 81, 82, 214, 215, 216, 217, 218, 5, 219, 220, 221, 222, 223, 68, 67, 63, 224, 225, 226, 227, 228, 229, 230, 231, 232, 233, 234, 235, 236, 237, 238, 239, 62, 240, 241, 242, 243, 244, 245, 246, 247, 248, 249, 250, 251, 252, 253, 254, 255, 256, 286, 287, 288, 289, 290, 291, 292, 293, 257, 258, 259, 260, 282, 283, 284, 285, 261, 262, 263, 264, 265, 266, 267, 268, 294, 295, 296, 297, 269, 270, 271, 272, 273, 64, 274, 275, 276, 277, 278, 279, 280, 281, 83, 479, 480, 481, 482, 483, 484, 485, 486, 487, 488, 489, 490] (by decide +kernel) (by decide +kernel)
set_option maxRecDepth 20000 in
theorem gL_law_X4_remove : GoodIn wsL_law (wsV RL 33 RX4 yX4_remove wsX4_remove) := goodIn_app (goodIn_of _ (by decide +kernel)) ggL_law_X4_remove
set_option maxRecDepth 20000 in
theorem ggL_law_X3_drop : GoodIn wsL_law wsX3_drop := goodIn_r _ [314, 38, 26, 39, 315, 316, 317, 2, 318, 92, 93, 94, 95, 34, 30, 73, 74, 75, 33, 76, 55, 96, 97, 98, 29, 99, 50, 100, 101, 102, 103, 104, 105, 106, 107, 108, 109, 110, 111, 112, 113, 114, 115, 25, 116, 117, 118, 119, 120, 45, 121, 122, 123, 124, 125, 126, 127, 128, 129, 130, 131, 132, 133, 134, 135, 136, 137, 138, 44, 139, 140, 141, 142, 143, 144, 145, 146, 147, 195, 209, 180, 181, 182, 171, 172, 173, 174, 175, 176, 177, 178, 179, 183, 184, 185, 186, 57, 56, 472, 473, 474, 475, 476, 477, 478, 494, 495, 496, 493, 491, 492] (by decide +kernel) (by decide +kernel)
set_option maxRecDepth 20000 in
theorem gL_law_X3_drop : GoodIn wsL_law (wsV RL 34 RX3 yX3_drop wsX3_drop) := goodIn_app (goodIn_of _ (by decide +kernel)) ggL_law_X3_drop
set_option maxRecDepth 20000 in
theorem ggL_law_X4_drop : GoodIn wsL_law wsX4_drop := goodIn_r _ [322, 81, 82, 215, 214, 63, 323, 324, 325, 5, 326, 220, 221, 222, 223, 68, 67, 224, 225, 226, 227, 228, 229, 230, 231, 216, 232, 233, 234, 235, 236, 237, 238, 239, 62, 240, 241, 242, 243, 244, 245, 246, 247, 248, 249, 250, 251, 252, 253, 254, 255, 256, 274, 275, 276, 277, 265, 266, 267, 268, 269, 270, 271, 272, 273, 64, 278, 279, 280, 281, 83, 479, 480, 481, 482, 483, 484, 485, 486, 487, 488, 489, 490] (by decide +kernel) (by decide +kernel)
set_option maxRecDepth 20000 in
theorem gL_law_X4_drop : GoodIn wsL_law (wsV RL 37 RX4 yX4_drop wsX4_drop) := goodIn_app (goodIn_of _ (by decide +kernel)) ggL_law_X4_drop
set_option maxRecDepth 20000 in
theorem ggL_law_X3_length : GoodIn wsL_law wsX3_length := goodIn_r _ [330, 26, 331, 332, 333, 2, 334, 335, 336, 337, 338, 34, 73, 74, 75, 33, 76, 55, 315, 316, 317, 318, 39, 38, 89, 90, 91, 302, 303, 304, 305, 195, 104, 105, 306, 114, 115, 25, 116, 117, 118, 119, 120, 45, 121, 122, 123, 124, 125, 126, 127, 128, 129, 130, 131, 132, 133, 134, 135, 136, 137, 138, 44, 196, 472, 473, 474, 475, 476, 477, 478, 494, 495, 496, 491, 492] (by decide +kernel) (by decide +kernel)
set_option maxRecDepth 20000 in
theorem gL_law_X3_length : GoodIn wsL_law (wsV RL 38 RX3 yX3_length wsX3_length) := goodIn_app (goodIn_of _ (by decide +kernel)) ggL_law_X3_length
set_option maxRecDepth 20000 in
theorem ggL_law_X4_length : GoodIn wsL_law wsX4_length := goodIn_r _ [342, 81, 343, 344, 345, 5, 346, 82, 323, 324, 325, 326, 63, 215, 217, 218, 219, 228, 229, 230, 231, 216, 232, 233, 234, 235, 236, 237, 238, 239, 62, 240, 241, 242, 243, 244, 245, 246, 247, 248, 249, 250, 251, 252, 68, 290, 291, 292, 293, 479, 480, 481, 482, 483, 484, 485, 486, 487, 488, 489, 490] (by decide +kernel) (by decide +kernel)
set_option maxRecDepth 20000 in
theorem gL_law_X4_length : GoodIn wsL_law (wsV RL 42 RX4 yX4_length wsX4_length) := goodIn_app (goodIn_of _ (by decide +kernel)) ggL_law_X4_length
set_option maxRecDepth 20000 in
theorem ggL_law_X3_find : GoodIn wsL_law wsX3_find := goodIn_r _ [350, 26, 331, 332, 333, 2, 334, 335, 336, 337, 338, 34, 73, 74, 75, 33, 76, 55, 315, 316, 317, 318, 39, 38, 89, 90, 91, 302, 303, 304, 305, 195, 104, 105, 306, 114, 115, 25, 116, 117, 118, 119, 120, 45, 121, 122, 123, 124, 125, 126, 127, 128, 129, 130, 131, 132, 133, 134, 135, 136, 137, 138, 44, 196, 472, 473, 474, 475, 476, 477, 478, 494, 495, 496, 491, 492] (by decide +kernel) (by decide +kernel)
set_option maxRecDepth 20000 in
theorem gL_law_X3_find : GoodIn wsL_law (wsV RL 43 RX3 yX3_find wsX3_find) := goodIn_app (goodIn_of _ (by decide +kernel)) ggL_law_X3_find
set_option maxRecDepth 20000 in
theorem ggL_law_X4_find : GoodIn wsL_law wsX4_find := goodIn_r _ [354, 81, 343, 344, 345, 5, 346, 82, 323, 324, 325, 326, 63, 215, 217, 218, 219, 228, 229, 230, 231, 216, 232, 233, 234, 235, 236, 237, 238, 239, 62, 240, 241, 242, 243, 244, 245, 246, 247, 248, 249, 250, 251, 252, 68, 290, 291, 292, 293, 479, 480, 481, 482, 483, 484, 485, 486, 487, 488, 489, 490] (by decide +kernel) (by decide +kernel)
end
section
set_option maxRecDepth 20000 in
theorem gL_law_X4_find : GoodIn wsL_law (wsV RL 47 RX4 yX4_find wsX4_find) := goodIn_app (goodIn_of _ (by decide +kernel)) ggL_law_X4_find
set_option maxRecDepth 20000 in
theorem ggL_law_X3_next : GoodIn wsL_law wsX3_next := goodIn_r _ [358, 26, 335, 336, 337, 2, 338, 34, 73, 74, 75, 33, 76, 55, 315, 316, 317, 318, 39, 38, 89, 90, 91, 195, 104, 105, 306, 114, 115, 25, 116, 117, 118, 119, 120, 45, 121, 122, 123, 124, 125, 126, 127, 128, 129, 130, 131, 132, 133, 134, 135, 136, 137, 138, 44, 196, 359, 360, 361, 362, 472, 473, 474, 475, 476, 477, 478, 494, 495, 496, 491, 492] (by decide +kernel) (by decide +kernel)
set_option maxRecDepth 20000 in
theorem gL_law_X3_next : GoodIn wsL_law (wsV RL 48 RX3 yX3_next wsX3_next) := goodIn_app (goodIn_of _ (by decide +kernel)) ggL_law_X3_next
set_option maxRecDepth 20000 in
theorem ggL_law_X4_next : GoodIn wsL_law wsX4_next := goodIn_r _ [366, 81, 82, 323, 324, 325, 5, 326, 63, 215, 217, 218, 219, 228, 229, 230, 231, 216, 232, 233, 234, 235, 236, 237, 238, 239, 62, 240, 241, 242, 243, 244, 245, 246, 247, 248, 249, 250, 251, 252, 68, 290, 291, 292, 293, 479, 480, 481, 482, 483, 484, 485, 486, 487, 488, 489, 490] (by decide +kernel) (by decide +kernel)
set_option maxRecDepth 20000 in
theorem gL_law_X4_next : GoodIn wsL_law (wsV RL 51 RX4 yX4_next wsX4_next) := goodIn_app (goodIn_of _ (by decide +kernel)) ggL_law_X4_next
set_option maxRecDepth 20000 in
theorem ggL_law_X3_crash : GoodIn wsL_law wsX3_crash := goodIn_r _ [370, 34, 73, 74, 75, 33, 76, 55, 371, 372, 373, 374, 56, 472, 473, 474, 475, 476, 477, 478, 494, 495, 496] (by decide +kernel) (by decide +kernel)
set_option maxRecDepth 20000 in
theorem gL_law_X3_crash : GoodIn wsL_law (wsV RL 52 RX3 yX3_crash wsX3_crash) := goodIn_app (goodIn_of _ (by decide +kernel)) ggL_law_X3_crash
set_option maxRecDepth 20000 in
theorem ggL_law_X4_crash : GoodIn wsL_law wsX4_crash := goodIn_r _ [378, 81, 82, 64, 278, 279, 280, 5, 281, 83, 479, 480, 481, 482, 483, 484, 485, 486, 487, 488, 489, 490] (by decide +kernel) (by decide +kernel)
set_option maxRecDepth 20000 in
theorem gL_law_X4_crash : GoodIn wsL_law (wsV RL 55 RX4 yX4_crash wsX4_crash) := goodIn_app (goodIn_of _ (by decide +kernel)) ggL_law_X4_crash
set_option maxRecDepth 20000 in
theorem ggL_law_X3_reopen : GoodIn wsL_law wsX3_reopen := goodIn_r _ [382, 34, 37, 38, 39, 26, 383, 384, 385, 33, 386, 55, 56, 306, 114, 115, 25, 116, 117, 118, 119, 120, 45, 121, 122, 123, 124, 125, 126, 127, 128, 129, 130, 131, 132, 133, 134, 104, 2, 105, 135, 136, 137, 138, 44, 387, 472, 473, 474, 475, 476, 477, 478, 494, 495, 496, 491, 492] (by decide +kernel) (by decide +kernel)
set_option maxRecDepth 20000 in
theorem gL_law_X3_reopen : GoodIn wsL_law (wsV RL 56 RX3 yX3_reopen wsX3_reopen) := goodIn_app (goodIn_of _ (by decide +kernel)) ggL_law_X3_reopen
set_option maxRecDepth 20000 in
theorem ggL_law_X4_reopen : GoodIn wsL_law wsX4_reopen := goodIn_r _ [391, 81, 82, 64, 83, 215, 63, 228, 229, 230, 5, 231, 216, 232, 233, 234, 235, 236, 237, 238, 239, 62, 240, 241, 242, 243, 244, 245, 246, 247, 248, 249, 250, 251, 252, 68, 479, 480, 481, 482, 483, 484, 485, 486, 487, 488, 489, 490] (by decide +kernel) (by decide +kernel)
set_option maxRecDepth 20000 in
theorem gL_law_X4_reopen : GoodIn wsL_law (wsV RL 60 RX4 yX4_reopen wsX4_reopen) := goodIn_app (goodIn_of _ (by decide +kernel)) ggL_law_X4_reopen
set_option maxRecDepth 20000 in
theorem ggL_law_X3_poke : GoodIn wsL_law wsX3_poke := goodIn_r _ [395, 26, 396, 397, 398, 25, 399, 44, 196, 118, 119, 120, 45, 170, 167, 168, 169, 472, 473, 474, 475, 476, 477, 478, 491, 492] (by decide +kernel) (by decide +kernel)
set_option maxRecDepth 20000 in
theorem gL_law_X3_poke : GoodIn wsL_law (wsV RL 61 RX3 yX3_poke wsX3_poke) := goodIn_app (goodIn_of _ (by decide +kernel)) ggL_law_X3_poke
set_option maxRecDepth 20000 in
theorem ggL_law_X4_poke : GoodIn wsL_law wsX4_poke := goodIn_r _ [403, 81, 404, 405, 406, 5, 407, 68, 236, 237, 238, 239, 62, 265, 266, 267, 268, 479, 480, 481, 482, 483, 484, 485, 486, 487, 488, 489, 490] (by decide +kernel) (by decide +kernel)
set_option maxRecDepth 20000 in
theorem gL_law_X4_poke : GoodIn wsL_law (wsV RL 64 RX4 yX4_poke wsX4_poke) := goodIn_app (goodIn_of _ (by decide +kernel)) ggL_law_X4_poke
set_option maxRecDepth 20000 in
theorem ggL_law_X3_byteAt : GoodIn wsL_law wsX3_byteAt := goodIn_r _ [411, 26, 396, 397, 398, 25, 399, 44, 196, 118, 119, 120, 45, 472, 473, 474, 475, 476, 477, 478, 491, 492] (by decide +kernel) (by decide +kernel)
set_option maxRecDepth 20000 in
theorem gL_law_X3_byteAt : GoodIn wsL_law (wsV RL 65 RX3 yX3_byteAt wsX3_byteAt) := goodIn_app (goodIn_of _ (by decide +kernel)) ggL_law_X3_byteAt
set_option maxRecDepth 20000 in
theorem ggL_law_X4_byteAt : GoodIn wsL_law wsX4_byteAt := goodIn_r _ [415, 81, 404, 405, 406, 5, 407, 68, 236, 237, 238, 239, 62, 479, 480, 481, 482, 483, 484, 485, 486, 487, 488, 489, 490] (by decide +kernel) (by decide +kernel)
set_option maxRecDepth 20000 in
theorem gL_law_X4_byteAt : GoodIn wsL_law (wsV RL 68 RX4 yX4_byteAt wsX4_byteAt) := goodIn_app (goodIn_of _ (by decide +kernel)) ggL_law_X4_byteAt
set_option maxRecDepth 20000 in
theorem ggL_law_X3_badAt : GoodIn wsL_law wsX3_badAt := goodIn_r _ [419, 34, 30, 26, 39, 38, 73, 74, 75, 33, 76, 55, 96, 97, 98, 29, 99, 50, 100, 101, 102, 103, 104, 2, 105, 106, 107, 108, 109, 110, 111, 112, 113, 114, 115, 25, 116, 117, 118, 119, 120, 45, 121, 122, 123, 124, 125, 126, 127, 128, 129, 130, 131, 132, 133, 134, 135, 136, 137, 138, 44, 139, 140, 141, 142, 143, 144, 145, 146, 147, 472, 473, 474, 475, 476, 477, 478, 494, 495, 496, 493, 491, 492] (by decide +kernel) (by decide +kernel)
set_option maxRecDepth 20000 in
theorem gL_law_X3_badAt : GoodIn wsL_law (wsV RL 69 RX3 yX3_badAt wsX3_badAt) := goodIn_app (goodIn_of _ (by decide +kernel)) ggL_law_X3_badAt
set_option maxRecDepth 20000 in
theorem ggL_law_X4_badAt : GoodIn wsL_law wsX4_badAt := goodIn_r _ [423, 81, 82, 214, 220, 221, 222, 5, 223, 68, 67, 63, 215, 224, 225, 226, 227, 228, 229, 230, 231, 216, 232, 233, 234, 235, 236, 237, 238, 239, 62, 240, 241, 242, 243, 244, 245, 246, 247, 248, 249, 250, 251, 252, 253, 254, 255, 256, 479, 480, 481, 482, 483, 484, 485, 486, 487, 488, 489, 490] (by decide +kernel) (by decide +kernel)
set_option maxRecDepth 20000 in
theorem gL_law_X4_badAt : GoodIn wsL_law (wsV RL 72 RX4 yX4_badAt wsX4_badAt) := goodIn_app (goodIn_of _ (by decide +kernel)) ggL_law_X4_badAt
set_option maxRecDepth 20000 in
theorem ggL_law_X3_count : GoodIn wsL_law wsX3_count := goodIn_r _ [427, 34, 38, 39, 30, 26, 37, 73, 74, 75, 33, 76, 55, 96, 97, 98, 29, 99, 50, 100, 101, 102, 103, 104, 2, 105, 106, 107, 108, 109, 110, 111, 112, 113, 114, 115, 25, 116, 117, 118, 119, 120, 45, 121, 122, 123, 124, 125, 126, 127, 128, 129, 130, 131, 132, 133, 134, 135, 136, 137, 138, 44, 139, 140, 141, 142, 143, 428, 429, 430, 431, 432, 433, 434, 435, 195, 306, 196, 436, 437, 438, 439, 472, 473, 474, 475, 476, 477, 478, 494, 495, 496, 493, 491, 492] (by decide +kernel) (by decide +kernel)
set_option maxRecDepth 20000 in
theorem gL_law_X3_count : GoodIn wsL_law (wsV RL 73 RX3 yX3_count wsX3_count) := goodIn_app (goodIn_of _ (by decide +kernel)) ggL_law_X3_count
set_option maxRecDepth 20000 in
theorem ggL_law_X4_count : GoodIn wsL_law wsX4_count := goodIn_r _ [443, 81, 82, 215, 63, 83, 444, 445, 446, 5, 447, 68, 67, 220, 221, 222, 223, 214, 224, 225, 226, 227, 228, 229, 230, 231, 216, 232, 233, 234, 235, 236, 237, 238, 239, 62, 240, 241, 242, 243, 244, 245, 246, 247, 248, 249, 250, 251, 252, 253, 254, 255, 256, 448, 449, 450, 451, 286, 287, 288, 289, 290, 291, 292, 293, 479, 480, 481, 482, 483, 484, 485, 486, 487, 488, 489, 490] (by decide +kernel) (by decide +kernel)
set_option maxRecDepth 20000 in
theorem gL_law_X4_count : GoodIn wsL_law (wsV RL 76 RX4 yX4_count wsX4_count) := goodIn_app (goodIn_of _ (by decide +kernel)) ggL_law_X4_count
set_option maxRecDepth 20000 in
theorem ggL_law_X3_written : GoodIn wsL_law wsX3_written := goodIn_r _ [455, 34, 456, 457, 458, 33, 459, 57, 472, 473, 474, 475, 476, 477, 478, 494, 495, 496] (by decide +kernel) (by decide +kernel)
set_option maxRecDepth 20000 in
theorem gL_law_X3_written : GoodIn wsL_law (wsV RL 77 RX3 yX3_written wsX3_written) := goodIn_app (goodIn_of _ (by decide +kernel)) ggL_law_X3_written
set_option maxRecDepth 20000 in
theorem ggL_law_X4_written : GoodIn wsL_law wsX4_written := goodIn_r _ [463, 81, 273, 479, 480, 481, 482, 483, 484, 485, 486, 487, 488, 489, 490] (by decide +kernel) (by decide +kernel)
set_option maxRecDepth 20000 in
theorem gL_law_X4_written : GoodIn wsL_law (wsV RL 80 RX4 yX4_written wsX4_written) := goodIn_app (goodIn_of _ (by decide +kernel)) ggL_law_X4_written
set_option maxRecDepth 20000 in
theorem ggL_law_X3_isDown : GoodIn wsL_law wsX3_isDown := goodIn_r _ [467, 34, 73, 74, 75, 33, 76, 55, 472, 473, 474, 475, 476, 477, 478, 494, 495, 496] (by decide +kernel) (by decide +kernel)
set_option maxRecDepth 20000 in
theorem gL_law_X3_isDown : GoodIn wsL_law (wsV RL 81 RX3 yX3_isDown wsX3_isDown) := goodIn_app (goodIn_of _ (by decide +kernel)) ggL_law_X3_isDown
set_option maxRecDepth 20000 in
theorem ggL_law_X4_isDown : GoodIn wsL_law wsX4_isDown := goodIn_r _ [471, 81, 82, 479, 480, 481, 482, 483, 484, 485, 486, 487, 488, 489, 490] (by decide +kernel) (by decide +kernel)
set_option maxRecDepth 20000 in
theorem gL_law_X4_isDown : GoodIn wsL_law (wsV RL 85 RX4 yX4_isDown wsX4_isDown) := goodIn_app (goodIn_of _ (by decide +kernel)) ggL_law_X4_isDown
theorem dL_law_0 : decode cL_law 0 = .ok (.new 7, 3) := by decide +kernel
theorem dL_law_3 : decode cL_law 3 = .ok (.dup, 1) := by decide +kernel
theorem dL_law_4 : decode cL_law 4 = .ok (.aload_n 0, 1) := by decide +kernel
theorem dL_law_5 : decode cL_law 5 = .ok (.iconst 0, 1) := by decide +kernel
theorem dL_law_6 : decode cL_law 6 = .ok (.invokestatic 9, 3) := by decide +kernel
theorem dL_law_9 : decode cL_law 9 = .ok (.invokespecial 15, 3) := by decide +kernel
theorem dL_law_12 : decode cL_law 12 = .ok (.astore_n 1, 1) := by decide +kernel
theorem dL_law_13 : decode cL_law 13 = .ok (.new 18, 3) := by decide +kernel
theorem dL_law_16 : decode cL_law 16 = .ok (.dup, 1) := by decide +kernel
theorem dL_law_17 : decode cL_law 17 = .ok (.aload_n 0, 1) := by decide +kernel
theorem dL_law_18 : decode cL_law 18 = .ok (.iconst 0, 1) := by decide +kernel
theorem dL_law_19 : decode cL_law 19 = .ok (.invokestatic 9, 3) := by decide +kernel
theorem dL_law_22 : decode cL_law 22 = .ok (.invokespecial 20, 3) := by decide +kernel
theorem dL_law_25 : decode cL_law 25 = .ok (.astore_n 2, 1) := by decide +kernel
theorem dL_law_26 : decode cL_law 26 = .ok (.iconst 1, 1) := by decide +kernel
theorem dL_law_27 : decode cL_law 27 = .ok (.istore_n 3, 1) := by decide +kernel
theorem dL_law_28 : decode cL_law 28 = .ok (.iload_n 3, 1) := by decide +kernel
theorem dL_law_29 : decode cL_law 29 = .ok (.aload_n 0, 1) := by decide +kernel
theorem dL_law_30 : decode cL_law 30 = .ok (.arraylength, 1) := by decide +kernel
theorem dL_law_31 : decode cL_law 31 = .ok (.iconst 4, 1) := by decide +kernel
theorem dL_law_32 : decode cL_law 32 = .ok (.isub, 1) := by decide +kernel
theorem dL_law_33 : decode cL_law 33 = .ok (.if_icmp .gt 464, 3) := by decide +kernel
theorem dL_law_36 : decode cL_law 36 = .ok (.aload_n 0, 1) := by decide +kernel
theorem dL_law_37 : decode cL_law 37 = .ok (.iload_n 3, 1) := by decide +kernel
theorem dL_law_38 : decode cL_law 38 = .ok (.iaload, 1) := by decide +kernel
theorem dL_law_39 : decode cL_law 39 = .ok (.bipush 15, 2) := by decide +kernel
theorem dL_law_41 : decode cL_law 41 = .ok (.iand, 1) := by decide +kernel
theorem dL_law_42 : decode cL_law 42 = .ok (.tableswitch 449 0 14 #[74, 97, 120, 143, 166, 199, 242, 275, 298, 311, 354, 387, 400, 423, 436], 74) := by decide +kernel
theorem dL_law_116 : decode cL_law 116 = .ok (.aload_n 1, 1) := by decide +kernel
theorem dL_law_117 : decode cL_law 117 = .ok (.aload_n 0, 1) := by decide +kernel
theorem dL_law_118 : decode cL_law 118 = .ok (.iload_n 3, 1) := by decide +kernel
theorem dL_law_119 : decode cL_law 119 = .ok (.iconst 1, 1) := by decide +kernel
theorem dL_law_120 : decode cL_law 120 = .ok (.iadd, 1) := by decide +kernel
theorem dL_law_121 : decode cL_law 121 = .ok (.iaload, 1) := by decide +kernel
theorem dL_law_122 : decode cL_law 122 = .ok (.invokevirtual 21, 3) := by decide +kernel
theorem dL_law_125 : decode cL_law 125 = .ok (.aload_n 2, 1) := by decide +kernel
theorem dL_law_126 : decode cL_law 126 = .ok (.aload_n 0, 1) := by decide +kernel
theorem dL_law_127 : decode cL_law 127 = .ok (.iload_n 3, 1) := by decide +kernel
theorem dL_law_128 : decode cL_law 128 = .ok (.iconst 1, 1) := by decide +kernel
theorem dL_law_129 : decode cL_law 129 = .ok (.iadd, 1) := by decide +kernel
theorem dL_law_130 : decode cL_law 130 = .ok (.iaload, 1) := by decide +kernel
theorem dL_law_131 : decode cL_law 131 = .ok (.invokevirtual 25, 3) := by decide +kernel
theorem dL_law_134 : decode cL_law 134 = .ok (.if_icmp .eq 357, 3) := by decide +kernel
theorem dL_law_137 : decode cL_law 137 = .ok (.iconst 0, 1) := by decide +kernel
theorem dL_law_138 : decode cL_law 138 = .ok (.ireturn, 1) := by decide +kernel
theorem dL_law_139 : decode cL_law 139 = .ok (.aload_n 1, 1) := by decide +kernel
theorem dL_law_140 : decode cL_law 140 = .ok (.aload_n 0, 1) := by decide +kernel
theorem dL_law_141 : decode cL_law 141 = .ok (.iload_n 3, 1) := by decide +kernel
theorem dL_law_142 : decode cL_law 142 = .ok (.iconst 1, 1) := by decide +kernel
theorem dL_law_143 : decode cL_law 143 = .ok (.iadd, 1) := by decide +kernel
theorem dL_law_144 : decode cL_law 144 = .ok (.iaload, 1) := by decide +kernel
theorem dL_law_145 : decode cL_law 145 = .ok (.invokevirtual 26, 3) := by decide +kernel
theorem dL_law_148 : decode cL_law 148 = .ok (.aload_n 2, 1) := by decide +kernel
theorem dL_law_149 : decode cL_law 149 = .ok (.aload_n 0, 1) := by decide +kernel
theorem dL_law_150 : decode cL_law 150 = .ok (.iload_n 3, 1) := by decide +kernel
theorem dL_law_151 : decode cL_law 151 = .ok (.iconst 1, 1) := by decide +kernel
theorem dL_law_152 : decode cL_law 152 = .ok (.iadd, 1) := by decide +kernel
theorem dL_law_153 : decode cL_law 153 = .ok (.iaload, 1) := by decide +kernel
theorem dL_law_154 : decode cL_law 154 = .ok (.invokevirtual 29, 3) := by decide +kernel
theorem dL_law_157 : decode cL_law 157 = .ok (.if_icmp .eq 334, 3) := by decide +kernel
theorem dL_law_160 : decode cL_law 160 = .ok (.iconst 0, 1) := by decide +kernel
theorem dL_law_161 : decode cL_law 161 = .ok (.ireturn, 1) := by decide +kernel
theorem dL_law_162 : decode cL_law 162 = .ok (.aload_n 1, 1) := by decide +kernel
theorem dL_law_163 : decode cL_law 163 = .ok (.aload_n 0, 1) := by decide +kernel
theorem dL_law_164 : decode cL_law 164 = .ok (.iload_n 3, 1) := by decide +kernel
theorem dL_law_165 : decode cL_law 165 = .ok (.iconst 1, 1) := by decide +kernel
theorem dL_law_166 : decode cL_law 166 = .ok (.iadd, 1) := by decide +kernel
theorem dL_law_167 : decode cL_law 167 = .ok (.iaload, 1) := by decide +kernel
theorem dL_law_168 : decode cL_law 168 = .ok (.invokevirtual 30, 3) := by decide +kernel
theorem dL_law_171 : decode cL_law 171 = .ok (.aload_n 2, 1) := by decide +kernel
theorem dL_law_172 : decode cL_law 172 = .ok (.aload_n 0, 1) := by decide +kernel
theorem dL_law_173 : decode cL_law 173 = .ok (.iload_n 3, 1) := by decide +kernel
theorem dL_law_174 : decode cL_law 174 = .ok (.iconst 1, 1) := by decide +kernel
theorem dL_law_175 : decode cL_law 175 = .ok (.iadd, 1) := by decide +kernel
theorem dL_law_176 : decode cL_law 176 = .ok (.iaload, 1) := by decide +kernel
theorem dL_law_177 : decode cL_law 177 = .ok (.invokevirtual 33, 3) := by decide +kernel
theorem dL_law_180 : decode cL_law 180 = .ok (.if_icmp .eq 311, 3) := by decide +kernel
theorem dL_law_183 : decode cL_law 183 = .ok (.iconst 0, 1) := by decide +kernel
theorem dL_law_184 : decode cL_law 184 = .ok (.ireturn, 1) := by decide +kernel
theorem dL_law_185 : decode cL_law 185 = .ok (.aload_n 1, 1) := by decide +kernel
theorem dL_law_186 : decode cL_law 186 = .ok (.aload_n 0, 1) := by decide +kernel
theorem dL_law_187 : decode cL_law 187 = .ok (.iload_n 3, 1) := by decide +kernel
theorem dL_law_188 : decode cL_law 188 = .ok (.iconst 1, 1) := by decide +kernel
theorem dL_law_189 : decode cL_law 189 = .ok (.iadd, 1) := by decide +kernel
theorem dL_law_190 : decode cL_law 190 = .ok (.iaload, 1) := by decide +kernel
theorem dL_law_191 : decode cL_law 191 = .ok (.invokevirtual 34, 3) := by decide +kernel
theorem dL_law_194 : decode cL_law 194 = .ok (.aload_n 2, 1) := by decide +kernel
theorem dL_law_195 : decode cL_law 195 = .ok (.aload_n 0, 1) := by decide +kernel
theorem dL_law_196 : decode cL_law 196 = .ok (.iload_n 3, 1) := by decide +kernel
theorem dL_law_197 : decode cL_law 197 = .ok (.iconst 1, 1) := by decide +kernel
theorem dL_law_198 : decode cL_law 198 = .ok (.iadd, 1) := by decide +kernel
theorem dL_law_199 : decode cL_law 199 = .ok (.iaload, 1) := by decide +kernel
theorem dL_law_200 : decode cL_law 200 = .ok (.invokevirtual 37, 3) := by decide +kernel
theorem dL_law_203 : decode cL_law 203 = .ok (.if_icmp .eq 288, 3) := by decide +kernel
theorem dL_law_206 : decode cL_law 206 = .ok (.iconst 0, 1) := by decide +kernel
theorem dL_law_207 : decode cL_law 207 = .ok (.ireturn, 1) := by decide +kernel
theorem dL_law_208 : decode cL_law 208 = .ok (.aload_n 1, 1) := by decide +kernel
theorem dL_law_209 : decode cL_law 209 = .ok (.aload_n 0, 1) := by decide +kernel
theorem dL_law_210 : decode cL_law 210 = .ok (.iload_n 3, 1) := by decide +kernel
theorem dL_law_211 : decode cL_law 211 = .ok (.iconst 1, 1) := by decide +kernel
theorem dL_law_212 : decode cL_law 212 = .ok (.iadd, 1) := by decide +kernel
theorem dL_law_213 : decode cL_law 213 = .ok (.iaload, 1) := by decide +kernel
theorem dL_law_214 : decode cL_law 214 = .ok (.aload_n 0, 1) := by decide +kernel
theorem dL_law_215 : decode cL_law 215 = .ok (.iload_n 3, 1) := by decide +kernel
theorem dL_law_216 : decode cL_law 216 = .ok (.iconst 2, 1) := by decide +kernel
theorem dL_law_217 : decode cL_law 217 = .ok (.iadd, 1) := by decide +kernel
theorem dL_law_218 : decode cL_law 218 = .ok (.iaload, 1) := by decide +kernel
theorem dL_law_219 : decode cL_law 219 = .ok (.invokevirtual 38, 3) := by decide +kernel
theorem dL_law_222 : decode cL_law 222 = .ok (.aload_n 2, 1) := by decide +kernel
theorem dL_law_223 : decode cL_law 223 = .ok (.aload_n 0, 1) := by decide +kernel
theorem dL_law_224 : decode cL_law 224 = .ok (.iload_n 3, 1) := by decide +kernel
theorem dL_law_225 : decode cL_law 225 = .ok (.iconst 1, 1) := by decide +kernel
theorem dL_law_226 : decode cL_law 226 = .ok (.iadd, 1) := by decide +kernel
theorem dL_law_227 : decode cL_law 227 = .ok (.iaload, 1) := by decide +kernel
theorem dL_law_228 : decode cL_law 228 = .ok (.aload_n 0, 1) := by decide +kernel
theorem dL_law_229 : decode cL_law 229 = .ok (.iload_n 3, 1) := by decide +kernel
theorem dL_law_230 : decode cL_law 230 = .ok (.iconst 2, 1) := by decide +kernel
theorem dL_law_231 : decode cL_law 231 = .ok (.iadd, 1) := by decide +kernel
theorem dL_law_232 : decode cL_law 232 = .ok (.iaload, 1) := by decide +kernel
theorem dL_law_233 : decode cL_law 233 = .ok (.invokevirtual 42, 3) := by decide +kernel
theorem dL_law_236 : decode cL_law 236 = .ok (.if_icmp .eq 255, 3) := by decide +kernel
theorem dL_law_239 : decode cL_law 239 = .ok (.iconst 0, 1) := by decide +kernel
theorem dL_law_240 : decode cL_law 240 = .ok (.ireturn, 1) := by decide +kernel
theorem dL_law_241 : decode cL_law 241 = .ok (.aload_n 1, 1) := by decide +kernel
theorem dL_law_242 : decode cL_law 242 = .ok (.aload_n 0, 1) := by decide +kernel
theorem dL_law_243 : decode cL_law 243 = .ok (.iload_n 3, 1) := by decide +kernel
theorem dL_law_244 : decode cL_law 244 = .ok (.iconst 1, 1) := by decide +kernel
theorem dL_law_245 : decode cL_law 245 = .ok (.iadd, 1) := by decide +kernel
theorem dL_law_246 : decode cL_law 246 = .ok (.iaload, 1) := by decide +kernel
theorem dL_law_247 : decode cL_law 247 = .ok (.aload_n 0, 1) := by decide +kernel
theorem dL_law_248 : decode cL_law 248 = .ok (.iload_n 3, 1) := by decide +kernel
theorem dL_law_249 : decode cL_law 249 = .ok (.iconst 2, 1) := by decide +kernel
theorem dL_law_250 : decode cL_law 250 = .ok (.iadd, 1) := by decide +kernel
theorem dL_law_251 : decode cL_law 251 = .ok (.iaload, 1) := by decide +kernel
theorem dL_law_252 : decode cL_law 252 = .ok (.aload_n 0, 1) := by decide +kernel
theorem dL_law_253 : decode cL_law 253 = .ok (.iload_n 3, 1) := by decide +kernel
theorem dL_law_254 : decode cL_law 254 = .ok (.iconst 3, 1) := by decide +kernel
theorem dL_law_255 : decode cL_law 255 = .ok (.iadd, 1) := by decide +kernel
theorem dL_law_256 : decode cL_law 256 = .ok (.iaload, 1) := by decide +kernel
theorem dL_law_257 : decode cL_law 257 = .ok (.invokevirtual 43, 3) := by decide +kernel
theorem dL_law_260 : decode cL_law 260 = .ok (.aload_n 2, 1) := by decide +kernel
theorem dL_law_261 : decode cL_law 261 = .ok (.aload_n 0, 1) := by decide +kernel
theorem dL_law_262 : decode cL_law 262 = .ok (.iload_n 3, 1) := by decide +kernel
theorem dL_law_263 : decode cL_law 263 = .ok (.iconst 1, 1) := by decide +kernel
theorem dL_law_264 : decode cL_law 264 = .ok (.iadd, 1) := by decide +kernel
theorem dL_law_265 : decode cL_law 265 = .ok (.iaload, 1) := by decide +kernel
theorem dL_law_266 : decode cL_law 266 = .ok (.aload_n 0, 1) := by decide +kernel
theorem dL_law_267 : decode cL_law 267 = .ok (.iload_n 3, 1) := by decide +kernel
theorem dL_law_268 : decode cL_law 268 = .ok (.iconst 2, 1) := by decide +kernel
theorem dL_law_269 : decode cL_law 269 = .ok (.iadd, 1) := by decide +kernel
theorem dL_law_270 : decode cL_law 270 = .ok (.iaload, 1) := by decide +kernel
theorem dL_law_271 : decode cL_law 271 = .ok (.aload_n 0, 1) := by decide +kernel
theorem dL_law_272 : decode cL_law 272 = .ok (.iload_n 3, 1) := by decide +kernel
theorem dL_law_273 : decode cL_law 273 = .ok (.iconst 3, 1) := by decide +kernel
theorem dL_law_274 : decode cL_law 274 = .ok (.iadd, 1) := by decide +kernel
theorem dL_law_275 : decode cL_law 275 = .ok (.iaload, 1) := by decide +kernel
theorem dL_law_276 : decode cL_law 276 = .ok (.invokevirtual 47, 3) := by decide +kernel
theorem dL_law_279 : decode cL_law 279 = .ok (.if_icmp .eq 212, 3) := by decide +kernel
theorem dL_law_282 : decode cL_law 282 = .ok (.iconst 0, 1) := by decide +kernel
theorem dL_law_283 : decode cL_law 283 = .ok (.ireturn, 1) := by decide +kernel
theorem dL_law_284 : decode cL_law 284 = .ok (.aload_n 1, 1) := by decide +kernel
theorem dL_law_285 : decode cL_law 285 = .ok (.aload_n 0, 1) := by decide +kernel
theorem dL_law_286 : decode cL_law 286 = .ok (.iload_n 3, 1) := by decide +kernel
theorem dL_law_287 : decode cL_law 287 = .ok (.iconst 1, 1) := by decide +kernel
theorem dL_law_288 : decode cL_law 288 = .ok (.iadd, 1) := by decide +kernel
theorem dL_law_289 : decode cL_law 289 = .ok (.iaload, 1) := by decide +kernel
theorem dL_law_290 : decode cL_law 290 = .ok (.aload_n 0, 1) := by decide +kernel
theorem dL_law_291 : decode cL_law 291 = .ok (.iload_n 3, 1) := by decide +kernel
theorem dL_law_292 : decode cL_law 292 = .ok (.iconst 2, 1) := by decide +kernel
theorem dL_law_293 : decode cL_law 293 = .ok (.iadd, 1) := by decide +kernel
theorem dL_law_294 : decode cL_law 294 = .ok (.iaload, 1) := by decide +kernel
theorem dL_law_295 : decode cL_law 295 = .ok (.invokevirtual 48, 3) := by decide +kernel
theorem dL_law_298 : decode cL_law 298 = .ok (.aload_n 2, 1) := by decide +kernel
theorem dL_law_299 : decode cL_law 299 = .ok (.aload_n 0, 1) := by decide +kernel
theorem dL_law_300 : decode cL_law 300 = .ok (.iload_n 3, 1) := by decide +kernel
theorem dL_law_301 : decode cL_law 301 = .ok (.iconst 1, 1) := by decide +kernel
theorem dL_law_302 : decode cL_law 302 = .ok (.iadd, 1) := by decide +kernel
theorem dL_law_303 : decode cL_law 303 = .ok (.iaload, 1) := by decide +kernel
theorem dL_law_304 : decode cL_law 304 = .ok (.aload_n 0, 1) := by decide +kernel
theorem dL_law_305 : decode cL_law 305 = .ok (.iload_n 3, 1) := by decide +kernel
theorem dL_law_306 : decode cL_law 306 = .ok (.iconst 2, 1) := by decide +kernel
theorem dL_law_307 : decode cL_law 307 = .ok (.iadd, 1) := by decide +kernel
theorem dL_law_308 : decode cL_law 308 = .ok (.iaload, 1) := by decide +kernel
theorem dL_law_309 : decode cL_law 309 = .ok (.invokevirtual 51, 3) := by decide +kernel
theorem dL_law_312 : decode cL_law 312 = .ok (.if_icmp .eq 179, 3) := by decide +kernel
theorem dL_law_315 : decode cL_law 315 = .ok (.iconst 0, 1) := by decide +kernel
theorem dL_law_316 : decode cL_law 316 = .ok (.ireturn, 1) := by decide +kernel
theorem dL_law_317 : decode cL_law 317 = .ok (.aload_n 1, 1) := by decide +kernel
theorem dL_law_318 : decode cL_law 318 = .ok (.aload_n 0, 1) := by decide +kernel
theorem dL_law_319 : decode cL_law 319 = .ok (.iload_n 3, 1) := by decide +kernel
theorem dL_law_320 : decode cL_law 320 = .ok (.iconst 1, 1) := by decide +kernel
theorem dL_law_321 : decode cL_law 321 = .ok (.iadd, 1) := by decide +kernel
theorem dL_law_322 : decode cL_law 322 = .ok (.iaload, 1) := by decide +kernel
theorem dL_law_323 : decode cL_law 323 = .ok (.invokevirtual 52, 3) := by decide +kernel
theorem dL_law_326 : decode cL_law 326 = .ok (.aload_n 2, 1) := by decide +kernel
theorem dL_law_327 : decode cL_law 327 = .ok (.aload_n 0, 1) := by decide +kernel
theorem dL_law_328 : decode cL_law 328 = .ok (.iload_n 3, 1) := by decide +kernel
theorem dL_law_329 : decode cL_law 329 = .ok (.iconst 1, 1) := by decide +kernel
theorem dL_law_330 : decode cL_law 330 = .ok (.iadd, 1) := by decide +kernel
theorem dL_law_331 : decode cL_law 331 = .ok (.iaload, 1) := by decide +kernel
theorem dL_law_332 : decode cL_law 332 = .ok (.invokevirtual 55, 3) := by decide +kernel
theorem dL_law_335 : decode cL_law 335 = .ok (.if_icmp .eq 156, 3) := by decide +kernel
theorem dL_law_338 : decode cL_law 338 = .ok (.iconst 0, 1) := by decide +kernel
theorem dL_law_339 : decode cL_law 339 = .ok (.ireturn, 1) := by decide +kernel
theorem dL_law_340 : decode cL_law 340 = .ok (.aload_n 1, 1) := by decide +kernel
theorem dL_law_341 : decode cL_law 341 = .ok (.invokevirtual 56, 3) := by decide +kernel
theorem dL_law_344 : decode cL_law 344 = .ok (.aload_n 2, 1) := by decide +kernel
theorem dL_law_345 : decode cL_law 345 = .ok (.invokevirtual 60, 3) := by decide +kernel
theorem dL_law_348 : decode cL_law 348 = .ok (.if_icmp .eq 143, 3) := by decide +kernel
theorem dL_law_351 : decode cL_law 351 = .ok (.iconst 0, 1) := by decide +kernel
theorem dL_law_352 : decode cL_law 352 = .ok (.ireturn, 1) := by decide +kernel
theorem dL_law_353 : decode cL_law 353 = .ok (.aload_n 1, 1) := by decide +kernel
theorem dL_law_354 : decode cL_law 354 = .ok (.aload_n 0, 1) := by decide +kernel
theorem dL_law_355 : decode cL_law 355 = .ok (.iload_n 3, 1) := by decide +kernel
theorem dL_law_356 : decode cL_law 356 = .ok (.iconst 1, 1) := by decide +kernel
theorem dL_law_357 : decode cL_law 357 = .ok (.iadd, 1) := by decide +kernel
theorem dL_law_358 : decode cL_law 358 = .ok (.iaload, 1) := by decide +kernel
theorem dL_law_359 : decode cL_law 359 = .ok (.aload_n 0, 1) := by decide +kernel
theorem dL_law_360 : decode cL_law 360 = .ok (.iload_n 3, 1) := by decide +kernel
theorem dL_law_361 : decode cL_law 361 = .ok (.iconst 2, 1) := by decide +kernel
theorem dL_law_362 : decode cL_law 362 = .ok (.iadd, 1) := by decide +kernel
theorem dL_law_363 : decode cL_law 363 = .ok (.iaload, 1) := by decide +kernel
theorem dL_law_364 : decode cL_law 364 = .ok (.aload_n 0, 1) := by decide +kernel
theorem dL_law_365 : decode cL_law 365 = .ok (.iload_n 3, 1) := by decide +kernel
theorem dL_law_366 : decode cL_law 366 = .ok (.iconst 3, 1) := by decide +kernel
theorem dL_law_367 : decode cL_law 367 = .ok (.iadd, 1) := by decide +kernel
theorem dL_law_368 : decode cL_law 368 = .ok (.iaload, 1) := by decide +kernel
theorem dL_law_369 : decode cL_law 369 = .ok (.invokevirtual 61, 3) := by decide +kernel
theorem dL_law_372 : decode cL_law 372 = .ok (.aload_n 2, 1) := by decide +kernel
theorem dL_law_373 : decode cL_law 373 = .ok (.aload_n 0, 1) := by decide +kernel
theorem dL_law_374 : decode cL_law 374 = .ok (.iload_n 3, 1) := by decide +kernel
theorem dL_law_375 : decode cL_law 375 = .ok (.iconst 1, 1) := by decide +kernel
theorem dL_law_376 : decode cL_law 376 = .ok (.iadd, 1) := by decide +kernel
theorem dL_law_377 : decode cL_law 377 = .ok (.iaload, 1) := by decide +kernel
theorem dL_law_378 : decode cL_law 378 = .ok (.aload_n 0, 1) := by decide +kernel
theorem dL_law_379 : decode cL_law 379 = .ok (.iload_n 3, 1) := by decide +kernel
theorem dL_law_380 : decode cL_law 380 = .ok (.iconst 2, 1) := by decide +kernel
theorem dL_law_381 : decode cL_law 381 = .ok (.iadd, 1) := by decide +kernel
theorem dL_law_382 : decode cL_law 382 = .ok (.iaload, 1) := by decide +kernel
theorem dL_law_383 : decode cL_law 383 = .ok (.aload_n 0, 1) := by decide +kernel
theorem dL_law_384 : decode cL_law 384 = .ok (.iload_n 3, 1) := by decide +kernel
theorem dL_law_385 : decode cL_law 385 = .ok (.iconst 3, 1) := by decide +kernel
theorem dL_law_386 : decode cL_law 386 = .ok (.iadd, 1) := by decide +kernel
theorem dL_law_387 : decode cL_law 387 = .ok (.iaload, 1) := by decide +kernel
theorem dL_law_388 : decode cL_law 388 = .ok (.invokevirtual 64, 3) := by decide +kernel
theorem dL_law_391 : decode cL_law 391 = .ok (.if_icmp .eq 100, 3) := by decide +kernel
theorem dL_law_394 : decode cL_law 394 = .ok (.iconst 0, 1) := by decide +kernel
theorem dL_law_395 : decode cL_law 395 = .ok (.ireturn, 1) := by decide +kernel
theorem dL_law_396 : decode cL_law 396 = .ok (.aload_n 1, 1) := by decide +kernel
theorem dL_law_397 : decode cL_law 397 = .ok (.aload_n 0, 1) := by decide +kernel
theorem dL_law_398 : decode cL_law 398 = .ok (.iload_n 3, 1) := by decide +kernel
theorem dL_law_399 : decode cL_law 399 = .ok (.iconst 1, 1) := by decide +kernel
theorem dL_law_400 : decode cL_law 400 = .ok (.iadd, 1) := by decide +kernel
theorem dL_law_401 : decode cL_law 401 = .ok (.iaload, 1) := by decide +kernel
theorem dL_law_402 : decode cL_law 402 = .ok (.aload_n 0, 1) := by decide +kernel
theorem dL_law_403 : decode cL_law 403 = .ok (.iload_n 3, 1) := by decide +kernel
theorem dL_law_404 : decode cL_law 404 = .ok (.iconst 2, 1) := by decide +kernel
theorem dL_law_405 : decode cL_law 405 = .ok (.iadd, 1) := by decide +kernel
theorem dL_law_406 : decode cL_law 406 = .ok (.iaload, 1) := by decide +kernel
theorem dL_law_407 : decode cL_law 407 = .ok (.invokevirtual 65, 3) := by decide +kernel
theorem dL_law_410 : decode cL_law 410 = .ok (.aload_n 2, 1) := by decide +kernel
theorem dL_law_411 : decode cL_law 411 = .ok (.aload_n 0, 1) := by decide +kernel
theorem dL_law_412 : decode cL_law 412 = .ok (.iload_n 3, 1) := by decide +kernel
theorem dL_law_413 : decode cL_law 413 = .ok (.iconst 1, 1) := by decide +kernel
theorem dL_law_414 : decode cL_law 414 = .ok (.iadd, 1) := by decide +kernel
theorem dL_law_415 : decode cL_law 415 = .ok (.iaload, 1) := by decide +kernel
theorem dL_law_416 : decode cL_law 416 = .ok (.aload_n 0, 1) := by decide +kernel
theorem dL_law_417 : decode cL_law 417 = .ok (.iload_n 3, 1) := by decide +kernel
theorem dL_law_418 : decode cL_law 418 = .ok (.iconst 2, 1) := by decide +kernel
theorem dL_law_419 : decode cL_law 419 = .ok (.iadd, 1) := by decide +kernel
theorem dL_law_420 : decode cL_law 420 = .ok (.iaload, 1) := by decide +kernel
theorem dL_law_421 : decode cL_law 421 = .ok (.invokevirtual 68, 3) := by decide +kernel
theorem dL_law_424 : decode cL_law 424 = .ok (.if_icmp .eq 67, 3) := by decide +kernel
theorem dL_law_427 : decode cL_law 427 = .ok (.iconst 0, 1) := by decide +kernel
theorem dL_law_428 : decode cL_law 428 = .ok (.ireturn, 1) := by decide +kernel
theorem dL_law_429 : decode cL_law 429 = .ok (.aload_n 1, 1) := by decide +kernel
theorem dL_law_430 : decode cL_law 430 = .ok (.invokevirtual 69, 3) := by decide +kernel
theorem dL_law_433 : decode cL_law 433 = .ok (.aload_n 2, 1) := by decide +kernel
theorem dL_law_434 : decode cL_law 434 = .ok (.invokevirtual 72, 3) := by decide +kernel
theorem dL_law_437 : decode cL_law 437 = .ok (.if_icmp .eq 54, 3) := by decide +kernel
theorem dL_law_440 : decode cL_law 440 = .ok (.iconst 0, 1) := by decide +kernel
theorem dL_law_441 : decode cL_law 441 = .ok (.ireturn, 1) := by decide +kernel
theorem dL_law_442 : decode cL_law 442 = .ok (.aload_n 1, 1) := by decide +kernel
theorem dL_law_443 : decode cL_law 443 = .ok (.aload_n 0, 1) := by decide +kernel
theorem dL_law_444 : decode cL_law 444 = .ok (.iload_n 3, 1) := by decide +kernel
theorem dL_law_445 : decode cL_law 445 = .ok (.iconst 1, 1) := by decide +kernel
theorem dL_law_446 : decode cL_law 446 = .ok (.iadd, 1) := by decide +kernel
theorem dL_law_447 : decode cL_law 447 = .ok (.iaload, 1) := by decide +kernel
theorem dL_law_448 : decode cL_law 448 = .ok (.invokevirtual 73, 3) := by decide +kernel
theorem dL_law_451 : decode cL_law 451 = .ok (.aload_n 2, 1) := by decide +kernel
theorem dL_law_452 : decode cL_law 452 = .ok (.aload_n 0, 1) := by decide +kernel
theorem dL_law_453 : decode cL_law 453 = .ok (.iload_n 3, 1) := by decide +kernel
theorem dL_law_454 : decode cL_law 454 = .ok (.iconst 1, 1) := by decide +kernel
theorem dL_law_455 : decode cL_law 455 = .ok (.iadd, 1) := by decide +kernel
theorem dL_law_456 : decode cL_law 456 = .ok (.iaload, 1) := by decide +kernel
theorem dL_law_457 : decode cL_law 457 = .ok (.invokevirtual 76, 3) := by decide +kernel
theorem dL_law_460 : decode cL_law 460 = .ok (.if_icmp .eq 31, 3) := by decide +kernel
theorem dL_law_463 : decode cL_law 463 = .ok (.iconst 0, 1) := by decide +kernel
theorem dL_law_464 : decode cL_law 464 = .ok (.ireturn, 1) := by decide +kernel
theorem dL_law_465 : decode cL_law 465 = .ok (.aload_n 1, 1) := by decide +kernel
theorem dL_law_466 : decode cL_law 466 = .ok (.invokevirtual 77, 3) := by decide +kernel
theorem dL_law_469 : decode cL_law 469 = .ok (.aload_n 2, 1) := by decide +kernel
theorem dL_law_470 : decode cL_law 470 = .ok (.invokevirtual 80, 3) := by decide +kernel
theorem dL_law_473 : decode cL_law 473 = .ok (.if_icmp .eq 18, 3) := by decide +kernel
theorem dL_law_476 : decode cL_law 476 = .ok (.iconst 0, 1) := by decide +kernel
theorem dL_law_477 : decode cL_law 477 = .ok (.ireturn, 1) := by decide +kernel
theorem dL_law_478 : decode cL_law 478 = .ok (.aload_n 1, 1) := by decide +kernel
theorem dL_law_479 : decode cL_law 479 = .ok (.invokevirtual 81, 3) := by decide +kernel
theorem dL_law_482 : decode cL_law 482 = .ok (.aload_n 2, 1) := by decide +kernel
theorem dL_law_483 : decode cL_law 483 = .ok (.invokevirtual 85, 3) := by decide +kernel
theorem dL_law_486 : decode cL_law 486 = .ok (.if_icmp .eq 5, 3) := by decide +kernel
theorem dL_law_489 : decode cL_law 489 = .ok (.iconst 0, 1) := by decide +kernel
theorem dL_law_490 : decode cL_law 490 = .ok (.ireturn, 1) := by decide +kernel
theorem dL_law_491 : decode cL_law 491 = .ok (.iinc 3 4, 3) := by decide +kernel
theorem dL_law_494 : decode cL_law 494 = .ok (.goto (-466), 3) := by decide +kernel
theorem dL_law_497 : decode cL_law 497 = .ok (.iconst 1, 1) := by decide +kernel
theorem dL_law_498 : decode cL_law 498 = .ok (.ireturn, 1) := by decide +kernel
end
section
/-! the links to a nest mate's private method, which ride beside the words -/
def nw_ok (U : State) : Prop := va_Nw (.methodLinkNest RX0 59 yX3_pageOfRoot "DesignPages") U ∧ va_Nw (.methodLinkNest RX2 21 yX3_pageOfRoot "DesignPages") U
theorem nw_ok.same {u U : State} (h : u.vm = U.vm) (hZ : nw_ok u) : nw_ok U := ⟨va_Nw.same rfl h hZ.1, va_Nw.same rfl h hZ.2⟩
theorem nw_ok.warm {s U : State} (hZ : nw_ok s) (hW : s.WarmedH U.vm) : nw_ok U := ⟨va_Nw.warmM hW hZ.1, va_Nw.warmM hW hZ.2⟩
abbrev ct_T (cI cZ : ClassId) : List (ClassId × FieldType) := [(cI, .int), (cZ, .boolean)]
/-! contracts of one form: the world w before, w' behind (its cells at the same addresses), the answer r -/
def ct_set : va_W → List Nat → va_W → va_W
  | ws, i :: is, q :: qs => ct_set (ws.set i q) is qs
  | ws, _, _ => ws
def ct_Pre (D : va_G) (cl : List vw_C) (tys : List (ClassId × FieldType)) (av : List Value) (w : va_W) (sz : Nat) : Array Value → State → Prop :=
  va_Pc av (fun U => U.heap.size = sz ∧ va_P D cl w U.heap ∧ va_K D cl tys U ∧ nw_ok U ∧ va_D (fun _ => True) w)
def ct_at (D : va_G) (cl : List vw_C) (A : Nat → Prop) (w : va_W) (_ : Unit) (t : State) : Prop :=
  va_P D cl w t.heap ∧ va_D A w
def ct_Qi (D : va_G) (cl : List vw_C) (w' : va_W) (r : Int32) (A : Nat → Prop) : Array Value → State → Outcome → State → Prop :=
  va_Qi (fun (x : Int32) (_ : Unit) => x = r) (ct_at D cl A w') A
def ct_Qv (D : va_G) (cl : List vw_C) (w' : va_W) (A : Nat → Prop) : Array Value → State → Outcome → State → Prop :=
  va_Qv (fun (_ : Unit) => True) (ct_at D cl A w') A
/-- the contract of a method that answers an int (or a boolean) -/
abbrev CtI (l : Launch) (y : MethodName) (ws : List Cond) (rm : Room) (D : va_G) (cl : List vw_C) (tys : List (ClassId × FieldType)) (av : List Value) (w w' : va_W) (r : Int32) : Prop :=
  ∀ sz : Nat, Met l y ws rm (ct_Pre D cl tys av w sz) (ct_Qi D cl w' r (va_A w sz)) 0 0 (va_A w sz)
abbrev CtV (l : Launch) (y : MethodName) (ws : List Cond) (rm : Room) (D : va_G) (cl : List vw_C) (tys : List (ClassId × FieldType)) (av : List Value) (w w' : va_W) : Prop :=
  ∀ sz : Nat, Met l y ws rm (ct_Pre D cl tys av w sz) (ct_Qv D cl w' (va_A w sz)) 0 0 (va_A w sz)
theorem ct_at' {ws w : va_W} {is : List Nat} (hs : is.map (fun i => ws[i]?) = w.map some) (k : Nat) (q : Nat × va_E) (hq : w[k]? = some q) : ∃ i, is[k]? = some i ∧ ws[i]? = some q := by
  have h1 : (is.map (fun i => ws[i]?))[k]? = some (some q) := by rw [hs, List.getElem?_map, hq]; rfl
  rw [List.getElem?_map] at h1
  cases hi : is[k]? with
  | none => rw [hi] at h1; cases h1
  | some i => rw [hi] at h1; exact ⟨i, rfl, Option.some.inj h1⟩
theorem ct_set_get : ∀ (is : List Nat) (w' ws : va_W), (∀ i ∈ is, i < ws.length) → is.length = w'.length → ∀ (k : Nat) (q : Nat × va_E), (ct_set ws is w')[k]? = some q → (∃ j : Nat, is[j]? = some k ∧ w'[j]? = some q) ∨ (k ∉ is ∧ ws[k]? = some q)
  | [], [], ws, _, _, k, q, h => Or.inr ⟨List.not_mem_nil, h⟩
  | [], _ :: _, _, _, h, _, _, _ => by simp at h
  | _ :: _, [], _, _, h, _, _, _ => by simp at h
  | i :: is, q0 :: qs, ws, hl, hn, k, q, h => by
    have h' : (ct_set (ws.set i q0) is qs)[k]? = some q := h
    rcases ct_set_get is qs (ws.set i q0) (fun j hj => by rw [List.length_set]; exact hl j (List.mem_cons_of_mem _ hj)) (by simpa using hn) k q h' with ⟨j, h1, h2⟩ | ⟨h1, h2⟩
    · exact Or.inl ⟨j + 1, by simpa using h1, by simpa using h2⟩
    · by_cases hk : i = k
      · subst hk
        rw [List.getElem?_set_self (hl i List.mem_cons_self)] at h2
        exact Or.inl ⟨0, rfl, by simpa using h2⟩
      · rw [List.getElem?_set_ne hk] at h2
        refine Or.inr ⟨fun hm => ?_, h2⟩
        rcases List.mem_cons.mp hm with e | e
        · exact hk e.symm
        · exact h1 e
theorem ct_set_ok {A0 : Nat → Prop} {D : va_G} {cl : List vw_C} {ws w w' : va_W} {H H1 : Heap} (hP : va_P D cl ws H) (hD : va_D A0 ws) (isC : List Nat) (hC : isC.map (fun i => ws[i]?) = w.map some) (ha : w'.map Prod.fst = w.map Prod.fst)
    (hk : ∀ q : Nat, q < H.size → ¬ va_A w H.size q → H1[q]? = H[q]?) (hP1 : va_P D cl w' H1) : va_P D cl (ct_set ws isC w') H1 ∧ va_D A0 (ct_set ws isC w') := by
  have hlen : isC.length = w.length := by simpa using congrArg List.length hC
  have hlen' : w'.length = w.length := by simpa using congrArg List.length ha
  have hlt : ∀ i ∈ isC, i < ws.length := by
    intro i hi
    obtain ⟨j, hj⟩ := List.getElem?_of_mem hi
    have hjl : j < w.length := by rw [← hlen]; exact (List.getElem?_eq_some_iff.mp hj).1
    obtain ⟨i', h1, h2⟩ := ct_at' hC j w[j] (List.getElem?_eq_getElem hjl)
    rw [hj] at h1
    cases h1
    exact (List.getElem?_eq_some_iff.mp h2).1
  have key : ∀ (k : Nat) (q : Nat × va_E), (ct_set ws isC w')[k]? = some q → ∃ q0, ws[k]? = some q0 ∧ q0.1 = q.1 := by
    intro k q h
    rcases ct_set_get isC w' ws hlt (hlen.trans hlen'.symm) k q h with ⟨j, h1, h2⟩ | ⟨-, h2⟩
    · have hj : j < w.length := by rw [← hlen']; exact (List.getElem?_eq_some_iff.mp h2).1
      obtain ⟨i, h3, h4⟩ := ct_at' hC j w[j] (List.getElem?_eq_getElem hj)
      rw [h1] at h3
      cases h3
      refine ⟨_, h4, ?_⟩
      have e1 : (w'.map Prod.fst)[j]? = some q.1 := by rw [List.getElem?_map, h2]; rfl
      rw [ha, List.getElem?_map, List.getElem?_eq_getElem hj] at e1
      exact Option.some.inj e1
    · exact ⟨q, h2, rfl⟩
  refine ⟨fun k q h => ?_, fun i j x y hi hj hxy => ?_, fun k q h => ?_⟩
  · rcases ct_set_get isC w' ws hlt (hlen.trans hlen'.symm) k q h with ⟨j, h1, h2⟩ | ⟨h1, h2⟩
    · exact hP1 j q h2
    · have hl := (hP k q h2).lt
      refine (hP k q h2).kept (hk q.1 hl fun hA => ?_)
      rcases hA with ⟨k2, e, hA⟩ | hA
      · obtain ⟨i, h3, h4⟩ := ct_at' hC k2 (q.1, e) hA
        have := hD.1 k i q (q.1, e) h2 h4 rfl
        subst this
        exact h1 (List.mem_of_getElem? h3)
      · omega
  · obtain ⟨x0, h1, h2⟩ := key i x hi
    obtain ⟨y0, h3, h4⟩ := key j y hj
    exact hD.1 i j x0 y0 h1 h3 (h2.trans (hxy.trans h4.symm))
  · obtain ⟨q0, h1, h2⟩ := key k q h
    rw [← h2]
    exact hD.2 k q0 h1
section CTC
variable {p : Program} {l : Launch} {e : Env} {R : Room} {s : State} {m : MethodId} {args : Array Value} {below : List Frame} {meth : Method} {c : Code} {H : Heap} {locs : List Loc} {cells slots : Nat} {Q : State → Prop}
variable {pc : Nat} {ls : Array Slot} {rest st0 : List Value} {a : Array Value} {A0 : Nat → Prop} {H0 : Heap} {D : va_G} {cl : List vw_C} {tys : List (ClassId × FieldType)} {ws w w' : va_W}
theorem ct_calli {r : Int32} (hr : va_Run p l e R s m args below meth c H locs cells slots 0 0 (F0 m pc ls st0) rest (ct_Qi D cl w' r (va_A w H.size) a) (va_A w H.size)) (hP : va_P D cl ws H) (hD : va_D A0 ws) (hS : va_S A0 H0 H locs) (hA : ∀ q, H0.size ≤ q → A0 q) (isC : List Nat) (hC : isC.map (fun i => ws[i]?) = w.map some) (as : List Nat) (ha1 : w'.map Prod.fst = as) (ha2 : w.map Prod.fst = as)
    (kk : ∀ (H1 : Heap) (locs1 : List Loc), va_P D cl (ct_set ws isC w') H1 → va_D A0 (ct_set ws isC w') → va_S A0 H0 H1 locs1 → W p l e R s m args below meth c H1 locs1 cells slots Q (F0 m (pc + 3) ls (.int r :: rest))) : W p l e R s m args below meth c H locs cells slots Q (F0 m pc ls st0) := by
  have hFc := va_free (wc := w) hD hS hA isC hC
  refine va_calli hr hS (fun q _ h => hFc q h) hFc (fun r' u t H1 locs1 ht hvm hw hB hz1 hk1 hS1 => ?_)
  obtain ⟨hP1, hD1⟩ := hB
  rw [ht] at hP1
  have hw' : r' = r := hw
  subst hw'
  obtain ⟨hP2, hD2⟩ := ct_set_ok hP hD isC hC (ha1.trans ha2.symm) hk1 hP1
  exact kk H1 locs1 hP2 hD2 hS1
theorem ct_callv (hr : va_Run p l e R s m args below meth c H locs cells slots 0 0 (F0 m pc ls st0) rest (ct_Qv D cl w' (va_A w H.size) a) (va_A w H.size)) (hP : va_P D cl ws H) (hD : va_D A0 ws) (hS : va_S A0 H0 H locs) (hA : ∀ q, H0.size ≤ q → A0 q) (isC : List Nat) (hC : isC.map (fun i => ws[i]?) = w.map some) (as : List Nat) (ha1 : w'.map Prod.fst = as) (ha2 : w.map Prod.fst = as)
    (kk : ∀ (H1 : Heap) (locs1 : List Loc), va_P D cl (ct_set ws isC w') H1 → va_D A0 (ct_set ws isC w') → va_S A0 H0 H1 locs1 → W p l e R s m args below meth c H1 locs1 cells slots Q (F0 m (pc + 3) ls rest)) : W p l e R s m args below meth c H locs cells slots Q (F0 m pc ls st0) := by
  have hFc := va_free (wc := w) hD hS hA isC hC
  refine va_callv hr hS (fun q _ h => hFc q h) hFc (fun u t H1 locs1 ht hvm hw hB hz1 hk1 hS1 => ?_)
  obtain ⟨hP1, hD1⟩ := hB
  rw [ht] at hP1
  obtain ⟨hP2, hD2⟩ := ct_set_ok hP hD isC hC (ha1.trans ha2.symm) hk1 hP1
  exact kk H1 locs1 hP2 hD2 hS1
theorem ct_blind {av : List Value} {sz : Nat} : FrameBlind (ct_Pre D cl tys av w sz) := fun a U g mk q => by
  obtain ⟨q0, q1, qP, qK, qN, qD⟩ := q
  exact ⟨q0, q1, qP, va_K.moved (u := U) (U := U.calling g mk a) (Vm.Alike.refl U.vm) qK, nw_ok.same rfl qN, qD⟩
theorem ct_in {As : List Value} (hK : va_K D cl tys s) (hN : nw_ok s) (hP : va_P D cl ws H) (hD : va_D A0 ws) (isC : List Nat) (hn : va_nd isC = true) (hC : isC.map (fun i => ws[i]?) = w.map some) : ∀ U : State, U.heap = H → s.WarmedH U.vm → ct_Pre D cl tys As w H.size As.toArray U := by
  intro U hU hW
  refine ⟨rfl, by rw [hU], ?_, va_K.moved hW.alike hK, hN.warm hW, (hD.sub isC hn hC).weaken (fun _ _ _ _ => trivial)⟩
  rw [hU]
  intro k q hq
  obtain ⟨i, -, h2⟩ := ct_at' hC k q hq
  exact hP i q h2
theorem ct_preV {As : List Value} {b : Nat} {ci i0 : Nat} {fs : List Value} {q : vw_C} (hK : va_K D cl tys s) (hN : nw_ok s) (hP : va_P D cl ws H) (hD : va_D A0 ws) (isC : List Nat) (hn : va_nd isC = true) (hC : isC.map (fun i => ws[i]?) = w.map some) (hc : cl[ci]? = some q) (he : ws[i0]? = some (b, .inr (ci, fs))) : PreV s H q.1 b (ct_Pre D cl tys (.ref b :: As) w H.size) As :=
  ⟨ct_blind, va_recv hK hP hc he, ct_in (As := .ref b :: As) hK hN hP hD isC hn hC⟩
theorem ct_preS {As : List Value} (hK : va_K D cl tys s) (hN : nw_ok s) (hP : va_P D cl ws H) (hD : va_D A0 ws) (isC : List Nat) (hn : va_nd isC = true) (hC : isC.map (fun i => ws[i]?) = w.map some) : PreS s H (ct_Pre D cl tys As w H.size) As :=
  ⟨ct_blind, ct_in hK hN hP hD isC hn hC⟩
/-- another word for the number on top -/
theorem ct_top {x y : Int32} (h : x = y) (k : W p l e R s m args below meth c H locs cells slots Q (F0 m pc ls (.int y :: rest))) : W p l e R s m args below meth c H locs cells slots Q (F0 m pc ls (.int x :: rest)) := h ▸ k
theorem ct_iret {cc : ByteArray} {A : Nat → Prop} {v r : Int32} (hexec : p.tables.exec = Jvm.exec) (hb : c.code = cc) (hr : meth.sig.returnType = some .int) (hlocks : meth.locks = false) (hv : v = r) (hw : w = w') (hP : va_P D cl w H) (hD : va_D A w) (hS : va_S A s.heap H locs) (hdg : decode cc pc = .ok (.ireturn, 1)) : W p l e R s m args below meth c H locs cells slots (MQ below (ct_Qi D cl w' r A) args s cells slots A) (F0 m pc ls [.int v]) := by
  subst hv hw
  exact W.iret hexec hb hr (fun t ht hW => ⟨⟨v, (), rfl, rfl, by rw [ht]; exact hP, hD⟩, hS.F ht⟩) hS.2.2 hdg hlocks
theorem ct_vret {cc : ByteArray} {A : Nat → Prop} (hexec : p.tables.exec = Jvm.exec) (hb : c.code = cc) (hr : meth.sig.returnType = none) (hlocks : meth.locks = false) (hw : w = w') (hP : va_P D cl w H) (hD : va_D A w) (hS : va_S A s.heap H locs) (hdg : decode cc pc = .ok (.return_, 1)) : W p l e R s m args below meth c H locs cells slots (MQ below (ct_Qv D cl w' A) args s cells slots A) (F0 m pc ls []) := by
  subst hw
  exact W.vret hexec hb hr (fun t ht hW => ⟨⟨(), rfl, trivial, by rw [ht]; exact hP, hD⟩, hS.F ht⟩) hS.2.2 hdg
end CTC
theorem ct_zret {p : Program} {l : Launch} {e : Env} {R : Room} {s : State} {m : MethodId} {args : Array Value} {below : List Frame} {meth : Method} {c : Code} {H : Heap} {locs : List Loc} {cells slots : Nat} {pc : Nat} {ls : Array Slot} {D : va_G} {cl : List vw_C} {w w' : va_W} {cc : ByteArray} {A : Nat → Prop} {v r : Int32} (hexec : p.tables.exec = Jvm.exec) (hb : c.code = cc) (hr : meth.sig.returnType = some .boolean) (hlocks : meth.locks = false) (hn : narrow .boolean (.int v) = .int v) (hv : v = r) (hw : w = w') (hP : va_P D cl w H) (hD : va_D A w) (hS : va_S A s.heap H locs) (hdg : decode cc pc = .ok (.ireturn, 1)) : W p l e R s m args below meth c H locs cells slots (MQ below (ct_Qi D cl w' r A) args s cells slots A) (F0 m pc ls [.int v]) := by
  subst hv hw
  exact W.zret hexec hb hr hn (fun t ht hW => ⟨⟨v, (), rfl, rfl, by rw [ht]; exact hP, hD⟩, hS.F ht⟩) hS.2.2 hdg hlocks
/-- a method's walk, from its entry -/
theorem ct_of {l : Launch} {y : MethodName} {ws ws' : List Cond} {rm : Room} {D : va_G} {cl : List vw_C} {tys : List (ClassId × FieldType)} {av : List Value} {w : va_W} {Qf : (Nat → Prop) → Array Value → State → Outcome → State → Prop} {mc ms : Nat} {cc : ByteArray} {maxL : Nat} {ret : Option FieldType} (lv : List (Nat × Value))
    (hy : plainName y.cls = true) (hw : ws = Cond.code y cc maxL ret :: ws') (hav : (lg_sl av).length ≤ maxL) (hlv : lv_args 0 av = lv)
    (body : ∀ (p : Program) (e : Env) (s : State) (m : MethodId) (below : List Frame) (meth : Method) (c : Code), p.tables.exec = Jvm.exec → c.code = cc → meth.sig.returnType = ret → (∀ w ∈ ws, w.before av.toArray s = true) → s.vm.findClass y.cls = some m.cls → meth.locks = false → c.maxLocals = maxL → meth.name = y.name →
      ∀ A : Nat → Prop, (∀ q : Nat, s.heap.size ≤ q → A q) → va_K D cl tys s → nw_ok s → va_P D cl w s.heap → va_D A w → va_S A s.heap s.heap [] → ∀ ls : Array Slot, lv_has ls maxL lv → W p l e rm s m av.toArray below meth c s.heap [] 0 0 (MQ below (Qf A) av.toArray s mc ms A) (F0 m 0 ls [])) :
    ∀ sz : Nat, Met l y ws rm (ct_Pre D cl tys av w sz) (Qf (va_A w sz)) mc ms (va_A w sz) := by
  intro sz
  refine Met.ofW (cc := cc) (maxL := maxL) (ret := ret) hy hw ?_
  intro p e s m args below meth c s₁ B hml hv
  obtain ⟨rfl, hsz, hP, hK, hN, hD0⟩ := hv
  subst hsz
  have hl := lv_entry av (n := maxL) hav
  rw [hlv] at hl
  rw [lg_entry_eq]
  exact body p e s m below meth c B.exec B.bytes B.returns (atoms_spec (ws := ws) B.pre) (findClass_of_methodNamed B.named) B.notSynchronized hml (name_of_methodNamed B.named B.method).1 (va_A w s.heap.size) (fun q h => Or.inr h) hK hN hP (hD0.self (sz := s.heap.size)) va_S.rf _ hl
section CTA
variable {p : Program} {l : Launch} {e : Env} {R : Room} {s : State} {m : MethodId} {args : Array Value} {below : List Frame} {meth : Method} {c : Code} {H : Heap} {locs : List Loc} {cells slots : Nat} {Q : State → Prop}
variable {cc : ByteArray} {pc : Nat} {ls : Array Slot} {rest : List Value} {D : va_G} {cl : List vw_C} {A : Nat → Prop} {a : Nat} {tys : List (ClassId × FieldType)} {ws : va_W} {H0 : Heap}
theorem ct_iald (hexec : p.tables.exec = Jvm.exec) (hb : c.code = cc) (hK : va_K D cl tys s) (hP : va_P D cl ws H) (q0 t0 : Nat) {cA : ClassId} {n k : Nat} {f : Nat → Int32} (ha : ws[q0]? = some (a, .inl (cA, n, .inl f))) (ht : tys[t0]? = some (cA, .int)) (hk : k < n) (hn : n < 2 ^ 31) (hdg : decode cc pc = .ok (.iaload, 1))
    (kk : W p l e R s m args below meth c H locs cells slots Q (F0 m (pc + 1) ls (.int (f k) :: rest))) : W p l e R s m args below meth c H locs cells slots Q (F0 m pc ls (.int (nI k) :: .ref a :: rest)) := by
  refine va_iald hexec hb hK hP q0 t0 ha ht (vp_in_nI hk hn) hdg ?_
  rw [nI_clamp (Nat.lt_trans hk hn)]
  exact kk
theorem ct_zald (hexec : p.tables.exec = Jvm.exec) (hb : c.code = cc) (hK : va_K D cl tys s) (hP : va_P D cl ws H) (q0 t0 : Nat) {cA : ClassId} {n k : Nat} {f : Nat → Int32} (ha : ws[q0]? = some (a, .inl (cA, n, .inl f))) (ht : tys[t0]? = some (cA, .boolean)) (hk : k < n) (hn : n < 2 ^ 31) (hdg : decode cc pc = .ok (.baload, 1))
    (kk : W p l e R s m args below meth c H locs cells slots Q (F0 m (pc + 1) ls (.int (f k) :: rest))) : W p l e R s m args below meth c H locs cells slots Q (F0 m pc ls (.int (nI k) :: .ref a :: rest)) := by
  refine va_zald hexec hb hK hP q0 t0 ha ht (vp_in_nI hk hn) hdg ?_
  rw [nI_clamp (Nat.lt_trans hk hn)]
  exact kk
theorem ct_iast (hexec : p.tables.exec = Jvm.exec) (hb : c.code = cc) (hK : va_K D cl tys s) (hP : va_P D cl ws H) (hD : va_D A ws) (hS : va_S A H0 H locs) (q0 t0 : Nat) {cA : ClassId} {n k : Nat} {f : Nat → Int32} (ha : ws[q0]? = some (a, .inl (cA, n, .inl f))) (ht : tys[t0]? = some (cA, .int)) {x : Int32} (hk : k < n) (hn : n < 2 ^ 31) (hdg : decode cc pc = .ok (.iastore, 1))
    (kk : ∀ (H1 : Heap) (locs1 : List Loc), va_P D cl (ws.set q0 (a, .inl (cA, n, .inl (upd f k x)))) H1 → va_D A (ws.set q0 (a, .inl (cA, n, .inl (upd f k x)))) → va_S A H0 H1 locs1 → W p l e R s m args below meth c H1 locs1 cells slots Q (F0 m (pc + 1) ls rest)) : W p l e R s m args below meth c H locs cells slots Q (F0 m pc ls (.int x :: .int (nI k) :: .ref a :: rest)) := by
  refine va_iast hexec hb hK hP hD hS q0 t0 ha ht (vp_in_nI hk hn) hdg ?_
  rw [nI_clamp (Nat.lt_trans hk hn)]
  exact kk
theorem ct_zast (hexec : p.tables.exec = Jvm.exec) (hb : c.code = cc) (hK : va_K D cl tys s) (hP : va_P D cl ws H) (hD : va_D A ws) (hS : va_S A H0 H locs) (q0 t0 : Nat) {cA : ClassId} {n k : Nat} {f : Nat → Int32} (ha : ws[q0]? = some (a, .inl (cA, n, .inl f))) (ht : tys[t0]? = some (cA, .boolean)) {x : Int32} (hk : k < n) (hn : n < 2 ^ 31) (hx : vp_nar .boolean x = x) (hdg : decode cc pc = .ok (.bastore, 1))
    (kk : ∀ (H1 : Heap) (locs1 : List Loc), va_P D cl (ws.set q0 (a, .inl (cA, n, .inl (upd f k x)))) H1 → va_D A (ws.set q0 (a, .inl (cA, n, .inl (upd f k x)))) → va_S A H0 H1 locs1 → W p l e R s m args below meth c H1 locs1 cells slots Q (F0 m (pc + 1) ls rest)) : W p l e R s m args below meth c H locs cells slots Q (F0 m pc ls (.int x :: .int (nI k) :: .ref a :: rest)) := by
  refine va_zast hexec hb hK hP hD hS q0 t0 ha ht (vp_in_nI hk hn) hdg ?_
  rw [nI_clamp (Nat.lt_trans hk hn), hx]
  exact kk
end CTA
section CTY
variable {p : Program} {l : Launch} {e : Env} {R : Room} {s : State} {m : MethodId} {args : Array Value} {below : List Frame} {meth : Method} {c : Code} {H : Heap} {locs : List Loc} {cells slots : Nat} {Q : State → Prop}
variable {cc : ByteArray} {pc : Nat} {ls : Array Slot} {rest : List Value} {D : va_G} {cl : List vw_C} {A : Nat → Prop} {a : Nat} {tys : List (ClassId × FieldType)} {ws : va_W} {H0 : Heap}
theorem ct_copyi (hexec : p.tables.exec = Jvm.exec) (hb : c.code = cc) (hml : c.maxLocals = ls.size) {own : String} {index : Nat} (hown : s.vm.findClass own = some m.cls) (hlink : (Cond.methodLink own index arraycopyName).before args s = true) (hnat : (Cond.native arraycopyName).before args s = true) (hstat : (Cond.static arraycopyName).before args s = true) (hini : (Cond.initialized "java/lang/System").before args s = true)
    (hK : va_K D cl tys s) (hP : va_P D cl ws H) (hD : va_D A ws) (hS : va_S A H0 H locs) (q0 q1 t0 t1 : Nat) {a0 : Nat} {c0 c1 : ClassId} {n0 n1 : Nat} {f g : Nat → Int32} (ha0 : ws[q0]? = some (a0, .inl (c0, n0, .inl f))) (ha1 : ws[q1]? = some (a, .inl (c1, n1, .inl g))) (ht0 : tys[t0]? = some (c0, .int)) (ht1 : tys[t1]? = some (c1, .int))
    {sp dp n : Nat} (h4 : sp + n ≤ n0) (h5 : dp + n ≤ n1) (hn0 : n0 < 2 ^ 31) (hn1 : n1 < 2 ^ 31)
    (hframes : 1 ≤ R.frames) (hlocals : (rest.map fun v => v.category).sum + (nativeFrameWords "java/lang/System" "arraycopy" 5 + 11) ≤ R.locals) (hdg : decode cc pc = .ok (.invokestatic index, 3))
    (kk : ∀ (H1 : Heap) (locs1 : List Loc), va_P D cl (ws.set q1 (a, .inl (c1, n1, .inl (va_cpy f g sp dp n)))) H1 → va_D A (ws.set q1 (a, .inl (c1, n1, .inl (va_cpy f g sp dp n)))) → va_S A H0 H1 locs1 → W p l e R s m args below meth c H1 locs1 cells slots Q (F0 m (pc + 3) ls rest)) : W p l e R s m args below meth c H locs cells slots Q (F0 m pc ls (.int (nI n) :: .int (nI dp) :: .ref a :: .int (nI sp) :: .ref a0 :: rest)) := by
  have e1 : (nI sp).toNatClampNeg = sp := nI_clamp (by omega)
  have e2 : (nI dp).toNatClampNeg = dp := nI_clamp (by omega)
  have e3 : (nI n).toNatClampNeg = n := nI_clamp (by omega)
  refine va_copyi hexec hb hml hown hlink hnat hstat hini hK hP hD hS q0 q1 t0 t1 ha0 ha1 ht0 ht1 rfl (nI_pos (by omega)) (nI_pos (by omega)) (nI_pos (by omega)) (by rw [e1, e3]; exact h4) (by rw [e2, e3]; exact h5) (fun _ _ => rfl) hframes hlocals hdg ?_
  rw [e1, e2, e3]
  exact kk
/-- a world's array may be told by another function, alike as far as the array goes -/
theorem ct_refun {q0 : Nat} {cA : ClassId} {n : Nat} {f g : Nat → Int32} (hP : va_P D cl ws H) (hD : va_D A ws) (ha : ws[q0]? = some (a, .inl (cA, n, .inl f))) (h : ∀ k, k < n → f k = g k) : va_P D cl (ws.set q0 (a, .inl (cA, n, .inl g))) H ∧ va_D A (ws.set q0 (a, .inl (cA, n, .inl g))) := by
  refine ⟨hP.set hD ha ?_ (fun _ _ => rfl), hD.set ha⟩
  have h1 := hP q0 _ ha
  have h2 : H[a]? = some (vp_cell cA (n, .inl f)) := h1
  show H[a]? = some (vp_cell cA (n, .inl g))
  rw [h2, vp_cell_i, vp_cell_i]
  unfold arrV
  congr 2
  apply congrArg
  funext j
  show Value.int (f j.val) = Value.int (g j.val)
  rw [h j.val j.isLt]
end CTY
end
section
/-! truth as an int -/
noncomputable def b2i (P : Prop) : Int32 := @ite Int32 P (Classical.propDecidable P) 1 0
theorem b2i_t {P : Prop} (h : P) : b2i P = 1 := by unfold b2i; exact if_pos h
theorem b2i_f {P : Prop} (h : ¬ P) : b2i P = 0 := by unfold b2i; exact if_neg h
theorem b2i_0 {P : Prop} : b2i P = 0 ↔ ¬ P := by
  by_cases h : P
  · rw [b2i_t h]; exact ⟨fun e => absurd e (by decide), fun e => absurd h e⟩
  · rw [b2i_f h]; exact ⟨fun _ => h, fun _ => rfl⟩
theorem b2i_n0 {P : Prop} (h : ¬ b2i P = 0) : P := Classical.byContradiction fun e => h (b2i_f e)
theorem b2i_nar (P : Prop) : narrow .boolean (.int (b2i P)) = .int (b2i P) := by
  by_cases h : P
  · rw [b2i_t h]; rfl
  · rw [b2i_f h]; rfl
theorem b2i_fit (P : Prop) : fits .boolean (.int (b2i P)) = true := by
  by_cases h : P
  · rw [b2i_t h]; rfl
  · rw [b2i_f h]; rfl
theorem b2i_congr {P Q : Prop} (h : P ↔ Q) : b2i P = b2i Q := by rw [propext h]
/-! the pages: bytes f, P = a pages -/
def pg_us (x k : Int32) : Int32 := (Int32.toUInt32 x >>> (Int32.toUInt32 k &&& Int32.toUInt32 31)).toInt32
def pg_mix (x : Int32) : Int32 := ((x <<< ((9 : Int32) &&& 31)) ||| pg_us x 23) * 668265263
def pg_sum (f : Nat → Int32) (b : Nat) : Nat → Int32
  | 0 => 0
  | i + 1 => pg_mix (pg_sum f b i ^^^ f (b + i))
def pg_num (f : Nat → Int32) (k : Nat) : Int32 := ((f k <<< ((24 : Int32) &&& 31) ||| f (k + 1) <<< ((16 : Int32) &&& 31)) ||| f (k + 2) <<< ((8 : Int32) &&& 31)) ||| f (k + 3)
def pg_setn (f : Nat → Int32) (k : Nat) (v : Int32) : Nat → Int32 := upd (upd (upd (upd f k (pg_us v 24)) (k + 1) (pg_us v 16 &&& 255)) (k + 2) (pg_us v 8 &&& 255)) (k + 3) (v &&& 255)
def pg_fill (f : Nat → Int32) (lo hi : Nat) (x : Int32) : Nat → Int32 := fun k => if lo ≤ k ∧ k < hi then x else f k
def pg_one (x : Int32) (a : Nat) : Prop := x = 0 ∨ (¬ x < 8 ∧ ¬ nI a ≤ x)
def pg_ok (f : Nat → Int32) (a b n : Nat) : Prop := ∀ i, i < n → pg_one (f (b + i)) a
def pg_told (f : Nat → Int32) (b : Nat) : Nat → Nat
  | 0 => 0
  | i + 1 => pg_told f b i + (if f (b + i) = 0 then 0 else 1)
def pg_vers (f : Nat → Int32) (p : Nat) : Prop := ¬ pg_num f (p * 48 + 1) < 1 ∧ ¬ 1000000 < pg_num f (p * 48 + 1) ∧ pg_num f (p * 48 + 1) - pg_num f (p * 48 + 1) / 8 * 8 = nI p ∧ ¬ pg_num f (p * 48 + 5) < 1 ∧ ¬ pg_num f (p * 48 + 1) < pg_num f (p * 48 + 5) ∧ ¬ pg_num f (p * 48 + 5) < pg_num f (p * 48 + 1) - 7
def pg_kind (f : Nat → Int32) (a p : Nat) (kind : Int32) : Prop := (kind = 1 → pg_vers f p ∧ pg_ok f a (p * 48 + 9) 32) ∧ (kind = 2 → pg_ok f a (p * 48 + 2) 32) ∧ (¬ kind = 1 → ¬ kind = 2 → ¬ 32 < f (p * 48 + 3))
def pg_right (f : Nat → Int32) (a p : Nat) (kind : Int32) : Prop := f (p * 48 + 0) = kind ∧ pg_num f (p * 48 + 44) = pg_sum f (p * 48) 44 ∧ pg_kind f a p kind
theorem pg_told_0 {f : Nat → Int32} {b i : Nat} (h : f (b + i) = 0) : pg_told f b (i + 1) = pg_told f b i := by show pg_told f b i + (if f (b + i) = 0 then 0 else 1) = _; rw [if_pos h]; rfl
theorem pg_told_1 {f : Nat → Int32} {b i : Nat} (h : ¬ f (b + i) = 0) : pg_told f b (i + 1) = pg_told f b i + 1 := by show pg_told f b i + (if f (b + i) = 0 then 0 else 1) = _; rw [if_neg h]
theorem pg_fill_0 (f : Nat → Int32) (lo : Nat) (x : Int32) : f = pg_fill f lo lo x := by
  funext k
  unfold pg_fill
  rw [if_neg (by omega)]
theorem pg_fill_s (f : Nat → Int32) {lo i : Nat} (x : Int32) (h : lo ≤ i) : upd (pg_fill f lo i x) i x = pg_fill f lo (i + 1) x := by
  funext k
  unfold upd pg_fill
  by_cases e : k = i
  · rw [if_pos e, if_pos (by omega)]
  · rw [if_neg e]
    by_cases e2 : lo ≤ k ∧ k < i
    · rw [if_pos e2, if_pos (by omega)]
    · rw [if_neg e2, if_neg (by omega)]
def pg_begin (f : Nat → Int32) (q : Nat) (k : Int32) : Nat → Int32 := upd (pg_fill f (q * 48) (q * 48 + 48) 0) (q * 48 + 0) k
/-! a byte's value as a number -/
def nv (x : Int32) : Nat := x.toNatClampNeg
theorem nv_nI {n : Nat} (h : n < 2 ^ 31) : nv (nI n) = n := nI_clamp h
theorem pg_one_nv {x : Int32} {a : Nat} (h : pg_one x a) (ha : a ≤ 120) (h0 : 0 < a) : x = nI (nv x) ∧ nv x < a ∧ (x = 0 ∨ 8 ≤ nv x) := by
  rcases h with h | ⟨h1, h2⟩
  · subst h
    exact ⟨rfl, h0, Or.inl rfl⟩
  · have h3 : ¬ x < 0 := fun q => h1 (Int32.lt_trans q (by decide))
    obtain ⟨j, hj, rfl⟩ := nI_of h3
    rw [nv_nI hj]
    have h4 : ¬ a ≤ j := fun q => h2 ((nI_leI (by omega) hj).mpr q)
    have h5 : ¬ j < 8 := fun q => h1 ((nI_ltI (a := j) (b := 8) hj (by omega)).mpr q)
    exact ⟨rfl, by omega, Or.inr (by omega)⟩
theorem nv_0 {x : Int32} (h : x = nI (nv x)) : nv x = 0 ↔ x = 0 := ⟨fun e => by rw [h, e]; rfl, fun e => by rw [e]; rfl⟩
/-! the power -/
def pw_off (O : Prop) (lf : Int32) : Prop := (0 < lf ∧ lf - 1 = 0) ∨ (¬ 0 < lf ∧ O)
def pw_left (lf : Int32) : Int32 := if 0 < lf then lf - 1 else lf
/-! marks -/
def mt_step (b : Int32) (M : Nat → Int32) (x : Int32) : Nat → Int32 := if x = 0 then M else upd M (nv x) (M (nv x) ||| b)
def mt_fold (f : Nat → Int32) (k : Nat) (b : Int32) (M : Nat → Int32) : Nat → Nat → Int32
  | 0 => M
  | i + 1 => mt_step b (mt_fold f k b M i) (f (k + i))
theorem mt_s0 {f : Nat → Int32} {k : Nat} {b : Int32} {M : Nat → Int32} {i : Nat} (h : f (k + i) = 0) : mt_fold f k b M (i + 1) = mt_fold f k b M i := by show mt_step b _ _ = _; unfold mt_step; rw [if_pos h]
theorem mt_s1 {f : Nat → Int32} {k : Nat} {b : Int32} {M : Nat → Int32} {i : Nat} (h : ¬ f (k + i) = 0) : mt_fold f k b M (i + 1) = upd (mt_fold f k b M i) (nv (f (k + i))) (mt_fold f k b M i (nv (f (k + i))) ||| b) := by show mt_step b _ _ = _; unfold mt_step; rw [if_neg h]
def mk_bit (k : Int32) : Int32 := 1 <<< (k &&& 31)
noncomputable def la_step (f : Nat → Int32) (a : Nat) (k : Int32) (M : Nat → Int32) (q : Nat) : Nat → Int32 :=
  if M q &&& mk_bit k = 0 then M else @ite _ (pg_right f a q k) (Classical.propDecidable _) (if k = 1 then mt_fold f (q * 48 + 9) (mk_bit 2) M 32 else if k = 2 then mt_fold f (q * 48 + 2) (mk_bit 3) M 32 else M) (upd M q (M q ||| 1))
noncomputable def la_fold (f : Nat → Int32) (a : Nat) (k : Int32) (M : Nat → Int32) : Nat → Nat → Int32
  | 0 => M
  | q + 1 => la_step f a k (la_fold f a k M q) q
theorem la_none {f : Nat → Int32} {a q : Nat} {k : Int32} {M : Nat → Int32} (h : M q &&& mk_bit k = 0) : la_step f a k M q = M := by unfold la_step; rw [if_pos h]
theorem la_bad {f : Nat → Int32} {a q : Nat} {k : Int32} {M : Nat → Int32} (h : ¬ M q &&& mk_bit k = 0) (hr : ¬ pg_right f a q k) : la_step f a k M q = upd M q (M q ||| 1) := by unfold la_step; rw [if_neg h, if_neg hr]
theorem la_1 {f : Nat → Int32} {a q : Nat} {k : Int32} {M : Nat → Int32} (h : ¬ M q &&& mk_bit k = 0) (hr : pg_right f a q k) (hk : k = 1) : la_step f a k M q = mt_fold f (q * 48 + 9) (mk_bit 2) M 32 := by unfold la_step; rw [if_neg h, if_pos hr, if_pos hk]
theorem la_2 {f : Nat → Int32} {a q : Nat} {k : Int32} {M : Nat → Int32} (h : ¬ M q &&& mk_bit k = 0) (hr : pg_right f a q k) (hk : ¬ k = 1) (hk2 : k = 2) : la_step f a k M q = mt_fold f (q * 48 + 2) (mk_bit 3) M 32 := by unfold la_step; rw [if_neg h, if_pos hr, if_neg hk, if_pos hk2]
theorem la_3 {f : Nat → Int32} {a q : Nat} {k : Int32} {M : Nat → Int32} (h : ¬ M q &&& mk_bit k = 0) (hr : pg_right f a q k) (hk : ¬ k = 1) (hk2 : ¬ k = 2) : la_step f a k M q = M := by unfold la_step; rw [if_neg h, if_pos hr, if_neg hk, if_neg hk2]
def rt_fold (M : Nat → Int32) (o : Nat) : Nat → Nat → Int32
  | 0 => M
  | j + 1 => upd (rt_fold M o j) ((o + j) % 8) (rt_fold M o j ((o + j) % 8) ||| mk_bit 1)
/-- the marks behind a walk over the versions o .. o + n - 1 -/
noncomputable def wk_marks (f : Nat → Int32) (a o n : Nat) : Nat → Int32 := la_fold f a 3 (la_fold f a 2 (la_fold f a 1 (rt_fold (fun _ => 0) o n) a) a) a
/-- the least place from p on, among n, where P holds; -1 -/
noncomputable def fd (P : Nat → Prop) : Nat → Nat → Int32
  | 0, _ => -1
  | n + 1, q => @ite _ (P q) (Classical.propDecidable _) (nI q) (fd P n (q + 1))
theorem fd_t {P : Nat → Prop} {n q : Nat} (h : P q) : fd P (n + 1) q = nI q := by unfold fd; rw [if_pos h]
theorem fd_n {P : Nat → Prop} {n q : Nat} (h : ¬ P q) : fd P (n + 1) q = fd P n (q + 1) := by rw [fd, if_neg h]
theorem fd_t' {P : Nat → Prop} {a q : Nat} (h : P q) (hq : q < a) : fd P (a - q) q = nI q := by rw [show a - q = (a - (q + 1)) + 1 by omega]; exact fd_t h
theorem fd_n' {P : Nat → Prop} {a q : Nat} (h : ¬ P q) (hq : q < a) : fd P (a - q) q = fd P (a - (q + 1)) (q + 1) := by rw [show a - q = (a - (q + 1)) + 1 by omega]; exact fd_n h
theorem fd_0' {P : Nat → Prop} {a q : Nat} (hq : a ≤ q) : fd P (a - q) q = -1 := by rw [show a - q = 0 by omega]; rfl
/-- how many of n places from q on have P -/
noncomputable def ct_of_P (P : Nat → Prop) (q : Nat) : Nat → Nat
  | 0 => 0
  | n + 1 => ct_of_P P q n + @ite Nat (P (q + n)) (Classical.propDecidable _) 1 0
theorem ct_P1 {P : Nat → Prop} {q n : Nat} (h : P (q + n)) : ct_of_P P q (n + 1) = ct_of_P P q n + 1 := by rw [ct_of_P, if_pos h]
theorem ct_P0 {P : Nat → Prop} {q n : Nat} (h : ¬ P (q + n)) : ct_of_P P q (n + 1) = ct_of_P P q n := by rw [ct_of_P, if_neg h]; rfl
theorem ct_P_le (P : Nat → Prop) (q : Nat) : ∀ n, ct_of_P P q n ≤ n
  | 0 => Nat.le_refl _
  | n + 1 => by
    have h := ct_P_le P q n
    by_cases e : P (q + n)
    · rw [ct_P1 e]; omega
    · rw [ct_P0 e]; omega
end
section
noncomputable def ifp {α : Type} (P : Prop) (x y : α) : α := @ite α P (Classical.propDecidable P) x y
theorem ifp_t {α : Type} {P : Prop} {x y : α} (h : P) : ifp P x y = x := by unfold ifp; exact if_pos h
theorem ifp_f {α : Type} {P : Prop} {x y : α} (h : ¬ P) : ifp P x y = y := by unfold ifp; exact if_neg h
def kp (ol nw : Nat) (v : Int32) : Prop := ¬ v < nI ol ∧ ¬ nI nw < v
def ky (x : Int32) : Prop := ¬ x < 0 ∧ ¬ 1024 ≤ x
theorem ky_nat {x : Int32} (h : ky x) : ∃ k : Nat, k < 1024 ∧ x = nI k := by
  obtain ⟨j, hj, rfl⟩ := nI_of h.1
  exact ⟨j, Nat.lt_of_not_le fun q => h.2 ((nI_leI (a := 1024) (b := j) (by omega) hj).mpr q), rfl⟩
theorem kp_nat {ol nw : Nat} {x : Int32} (h : kp ol nw x) (h1 : ol < 2 ^ 31) (h2 : nw < 2 ^ 31) : ∃ v : Nat, ol ≤ v ∧ v ≤ nw ∧ x = nI v := by
  have h0 : ¬ x < 0 := fun q => h.1 (Int32.lt_of_lt_of_le q (nI_pos' h1))
  obtain ⟨j, hj, rfl⟩ := nI_of h0
  exact ⟨j, Nat.le_of_not_lt fun q => h.1 ((nI_ltI hj h1).mpr q), Nat.le_of_not_lt fun q => h.2 ((nI_ltI h2 hj).mpr q), rfl⟩
/-- what a change or drop() is refused with -/
noncomputable def rwr (O B : Prop) (f : Nat → Int32) (a ol nw : Nat) : Int32 := ifp O (-5) (ifp B (ifp (fd (fun p => ¬ wk_marks f a ol (nw + 1 - ol) p &&& 1 = 0) a 0 = -1) 0 (-4)) (-2))
noncomputable def rwm (O B : Prop) (M f : Nat → Int32) (a ol nw : Nat) : Nat → Int32 := ifp (¬ O ∧ B) (wk_marks f a ol (nw + 1 - ol)) M
noncomputable def rrd (O : Prop) (ol nw : Nat) (x y : Int32) : Int32 := ifp O (-5) (ifp (kp ol nw x ∧ ky y) 0 (-2))
theorem rwr_0 {O B : Prop} {f : Nat → Int32} {a ol nw : Nat} (h : rwr O B f a ol nw = 0) : ¬ O ∧ B ∧ fd (fun p => ¬ wk_marks f a ol (nw + 1 - ol) p &&& 1 = 0) a 0 = -1 := by
  unfold rwr at h
  by_cases h1 : O
  · rw [ifp_t h1] at h; exact absurd h (by decide)
  · rw [ifp_f h1] at h
    by_cases h2 : B
    · rw [ifp_t h2] at h
      by_cases h3 : fd (fun p => ¬ wk_marks f a ol (nw + 1 - ol) p &&& 1 = 0) a 0 = -1
      · exact ⟨h1, h2, h3⟩
      · rw [ifp_f h3] at h; exact absurd h (by decide)
    · rw [ifp_f h2] at h; exact absurd h (by decide)
theorem rrd_0 {O : Prop} {ol nw : Nat} {x y : Int32} (h : rrd O ol nw x y = 0) : ¬ O ∧ kp ol nw x ∧ ky y := by
  unfold rrd at h
  by_cases h1 : O
  · rw [ifp_t h1] at h; exact absurd h (by decide)
  · rw [ifp_f h1] at h
    by_cases h2 : kp ol nw x ∧ ky y
    · exact ⟨h1, h2⟩
    · rw [ifp_f h2] at h; exact absurd h (by decide)
theorem rrd_n {O : Prop} {ol nw : Nat} {x y : Int32} (h : ¬ rrd O ol nw x y = 0) : O ∨ ¬ (kp ol nw x ∧ ky y) := by
  by_cases h1 : O
  · exact Or.inl h1
  · refine Or.inr fun h2 => h ?_
    unfold rrd
    rw [ifp_f h1, ifp_t h2]
/-- the page of key k's thing at version v -/
noncomputable def ptg (f : Nat → Int32) (a v k : Nat) : Int32 :=
  ifp (pg_right f a (v % 8) 1) (ifp (f (v % 8 * 48 + (9 + k / 32)) = 0) (-1)
    (ifp (pg_right f a (nv (f (v % 8 * 48 + (9 + k / 32)))) 2) (ifp (f (nv (f (v % 8 * 48 + (9 + k / 32))) * 48 + (2 + k % 32)) = 0) (-1)
      (ifp (pg_right f a (nv (f (nv (f (v % 8 * 48 + (9 + k / 32))) * 48 + (2 + k % 32)))) 3) (f (nv (f (v % 8 * 48 + (9 + k / 32))) * 48 + (2 + k % 32))) (-4))) (-4))) (-4)
noncomputable def lku (O : Prop) (f : Nat → Int32) (a ol nw : Nat) (x y : Int32) : Int32 := ifp O (-5) (ifp (kp ol nw x ∧ ky y) (ptg f a (nv x) (nv y)) (-2))
/-- a page that a right root or node tells -/
theorem rt_nv {f : Nat → Int32} {a q i : Nat} (h : pg_right f a q 1) (ha : a ≤ 120) (h0 : 0 < a) (hi : i < 32) : f (q * 48 + (9 + i)) = nI (nv (f (q * 48 + (9 + i)))) ∧ nv (f (q * 48 + (9 + i))) < a ∧ (f (q * 48 + (9 + i)) = 0 ∨ 8 ≤ nv (f (q * 48 + (9 + i)))) := by
  have h1 := (h.2.2.1 rfl).2 i hi
  rw [Nat.add_assoc] at h1
  exact pg_one_nv h1 ha h0
theorem nd_nv {f : Nat → Int32} {a q i : Nat} (h : pg_right f a q 2) (ha : a ≤ 120) (h0 : 0 < a) (hi : i < 32) : f (q * 48 + (2 + i)) = nI (nv (f (q * 48 + (2 + i)))) ∧ nv (f (q * 48 + (2 + i))) < a ∧ (f (q * 48 + (2 + i)) = 0 ∨ 8 ≤ nv (f (q * 48 + (2 + i)))) := by
  have h1 := h.2.2.2.1 rfl i hi
  rw [Nat.add_assoc] at h1
  exact pg_one_nv h1 ha h0
/-! pages written -/
def pg_seal (f : Nat → Int32) (q : Nat) : Nat → Int32 := pg_setn f (q * 48 + 44) (pg_sum f (q * 48) 44)
def wt_set (f : Nat → Int32) (q : Nat) (t : Nat → Int32) : Nat → Nat → Int32
  | 0 => f
  | i + 1 => upd (wt_set f q t i) (q * 48 + (4 + i)) (t i)
def wt (f : Nat → Int32) (q k : Nat) (t : Nat → Int32) (tc : Nat) : Nat → Int32 := pg_seal (wt_set (upd (upd (upd (pg_begin f q 3) (q * 48 + 1) (nI (k / 256))) (q * 48 + 2) (nI (k % 256))) (q * 48 + 3) (nI tc)) q t tc) q
def wr (f : Nat → Int32) (v o n : Nat) (x : Int32) (nw : Nat) : Nat → Int32 := pg_seal (upd (pg_setn (pg_setn (if nw = 0 then pg_begin f (v % 8) 1 else va_cpy f f (nw % 8 * 48) (v % 8 * 48) 48) (v % 8 * 48 + 1) (nI v)) (v % 8 * 48 + 5) (nI o)) (v % 8 * 48 + (9 + n)) x) (v % 8)
theorem ot_max {ol v : Nat} (h1 : ol < 2 ^ 30) (h2 : v < 2 ^ 30) : (if nI ol < nI v - 7 then nI v - 7 else nI ol) = nI (max ol (v - 7)) := by
  have e : (nI v - 7).toInt = (v : Int) - 7 := pk_sub_toInt (a := v) (b := 7) h2 (by omega)
  have e2 : (nI ol).toInt = (ol : Int) := nI_toInt (by omega)
  by_cases h : nI ol < nI v - 7
  · rw [if_pos h]
    have h3 := Int32.lt_iff_toInt_lt.mp h
    rw [e, e2] at h3
    rw [show max ol (v - 7) = v - 7 by omega]
    exact pk_sub (a := v) (b := 7) (by omega)
  · rw [if_neg h]
    have h3 : ¬ (nI ol).toInt < (nI v - 7).toInt := fun q => h (Int32.lt_iff_toInt_lt.mpr q)
    rw [e, e2] at h3
    rw [show max ol (v - 7) = ol by omega]
/-- how many keys -/
noncomputable def ks_sum (f : Nat → Int32) (a r : Nat) : Nat → Nat
  | 0 => 0
  | i + 1 => ks_sum f a r i + ifp (¬ f (r * 48 + (9 + i)) = 0 ∧ pg_right f a (nv (f (r * 48 + (9 + i)))) 2) (pg_told f (nv (f (r * 48 + (9 + i))) * 48 + 2) 32) 0
theorem pg_told_le (f : Nat → Int32) (b : Nat) : ∀ n, pg_told f b n ≤ n
  | 0 => Nat.le_refl _
  | n + 1 => by
    have h := pg_told_le f b n
    by_cases e : f (b + n) = 0
    · rw [pg_told_0 e]; omega
    · rw [pg_told_1 e]; omega
theorem ks_le (f : Nat → Int32) (a r : Nat) : ∀ n, ks_sum f a r n ≤ 32 * n
  | 0 => Nat.le_refl _
  | n + 1 => by
    have h := ks_le f a r n
    by_cases e : ¬ f (r * 48 + (9 + n)) = 0 ∧ pg_right f a (nv (f (r * 48 + (9 + n)))) 2
    · have h2 := pg_told_le f (nv (f (r * 48 + (9 + n))) * 48 + 2) 32
      rw [ks_sum, ifp_t e]; omega
    · rw [ks_sum, ifp_f e]; omega
theorem lku_n {O : Prop} {f : Nat → Int32} {a ol nw : Nat} {x y : Int32} (h : ¬ rrd O ol nw x y = 0) : rrd O ol nw x y = lku O f a ol nw x y := by
  unfold rrd at h ⊢
  unfold lku
  by_cases h1 : O
  · rw [ifp_t h1, ifp_t h1]
  · rw [ifp_f h1] at h ⊢
    rw [ifp_f h1]
    by_cases h2 : kp ol nw x ∧ ky y
    · rw [ifp_t h2] at h; exact absurd rfl h
    · rw [ifp_f h2, ifp_f h2]
end
section
/-! what fd finds -/
theorem fd_spec (P : Nat → Prop) : ∀ (n q : Nat), (fd P n q = -1 ∧ ∀ j, q ≤ j → j < q + n → ¬ P j) ∨ ∃ j, q ≤ j ∧ j < q + n ∧ P j ∧ fd P n q = nI j ∧ ∀ i, q ≤ i → i < j → ¬ P i
  | 0, q => Or.inl ⟨rfl, fun j h1 h2 => absurd h2 (by omega)⟩
  | n + 1, q => by
    by_cases h : P q
    · exact Or.inr ⟨q, Nat.le_refl _, by omega, h, fd_t h, fun i h1 h2 => absurd h2 (by omega)⟩
    · rw [fd_n h]
      rcases fd_spec P n (q + 1) with ⟨h1, h2⟩ | ⟨j, h1, h2, h3, h4, h5⟩
      · refine Or.inl ⟨h1, fun j g1 g2 => ?_⟩
        rcases Nat.lt_or_ge q j with g | g
        · exact h2 j g (by omega)
        · rw [show j = q by omega]; exact h
      · refine Or.inr ⟨j, by omega, by omega, h3, h4, fun i g1 g2 => ?_⟩
        rcases Nat.lt_or_ge q i with g | g
        · exact h5 i g g2
        · rw [show i = q by omega]; exact h
theorem nI_nm1 {j : Nat} (h : j < 2 ^ 31) : ¬ nI j = -1 := fun e => by
  have h1 := nI_pos h
  rw [e] at h1
  exact h1 (by decide)
theorem fd_none {P : Nat → Prop} {n q : Nat} (hb : q + n < 2 ^ 31) : fd P n q = -1 ↔ ∀ j, q ≤ j → j < q + n → ¬ P j := by
  rcases fd_spec P n q with ⟨h1, h2⟩ | ⟨j, h1, h2, h3, h4, h5⟩
  · exact ⟨fun _ => h2, fun _ => h1⟩
  · refine ⟨fun e => ?_, fun e => absurd h3 (e j h1 h2)⟩
    rw [h4] at e
    exact absurd e (nI_nm1 (by omega))
theorem fd_some {P : Nat → Prop} {n q : Nat} (hb : q + n < 2 ^ 31) (h : ¬ fd P n q = -1) : fd P n q = nI (nv (fd P n q)) ∧ q ≤ nv (fd P n q) ∧ nv (fd P n q) < q + n ∧ P (nv (fd P n q)) := by
  rcases fd_spec P n q with ⟨h1, h2⟩ | ⟨j, h1, h2, h3, h4, h5⟩
  · exact absurd h1 h
  · rw [h4, nv_nI (by omega)]
    exact ⟨rfl, h1, h2, h3⟩
theorem fd_congr {P Q : Nat → Prop} : ∀ (n q : Nat), (∀ j, q ≤ j → j < q + n → (P j ↔ Q j)) → fd P n q = fd Q n q
  | 0, _, _ => rfl
  | n + 1, q, h => by
    by_cases h1 : P q
    · rw [fd_t h1, fd_t ((h q (Nat.le_refl _) (by omega)).mp h1)]
    · rw [fd_n h1, fd_n (fun e => h1 ((h q (Nat.le_refl _) (by omega)).mpr e))]
      exact fd_congr n (q + 1) (fun j g1 g2 => h j (by omega) (by omega))
/-! a page's words look at its bytes alone -/
theorem pg_sum_congr {f g : Nat → Int32} {b : Nat} : ∀ n, (∀ i, i < n → f (b + i) = g (b + i)) → pg_sum f b n = pg_sum g b n
  | 0, _ => rfl
  | n + 1, h => by
    show pg_mix (pg_sum f b n ^^^ f (b + n)) = pg_mix (pg_sum g b n ^^^ g (b + n))
    rw [pg_sum_congr n (fun i hi => h i (by omega)), h n (by omega)]
theorem pg_num_congr {f g : Nat → Int32} {b i : Nat} (h : ∀ j, j < 48 → f (b + j) = g (b + j)) (hi : i + 3 < 48) : pg_num f (b + i) = pg_num g (b + i) := by
  unfold pg_num
  rw [h i (by omega), show b + i + 1 = b + (i + 1) by omega, show b + i + 2 = b + (i + 2) by omega, show b + i + 3 = b + (i + 3) by omega, h (i + 1) (by omega), h (i + 2) (by omega), h (i + 3) (by omega)]
theorem pg_ok_congr {f g : Nat → Int32} {a b i n : Nat} (h : ∀ j, j < 48 → f (b + j) = g (b + j)) (hi : i + n ≤ 48) : pg_ok f a (b + i) n ↔ pg_ok g a (b + i) n := by
  unfold pg_ok
  constructor
  · intro q j hj
    have := q j hj
    rw [Nat.add_assoc, h (i + j) (by omega)] at this
    rw [Nat.add_assoc]; exact this
  · intro q j hj
    have := q j hj
    rw [Nat.add_assoc, ← h (i + j) (by omega)] at this
    rw [Nat.add_assoc]; exact this
theorem pg_right_congr {f g : Nat → Int32} {a q : Nat} {k : Int32} (h : ∀ j, j < 48 → f (q * 48 + j) = g (q * 48 + j)) : pg_right f a q k ↔ pg_right g a q k := by
  have e1 := h 0 (by omega)
  have e2 := pg_num_congr (i := 44) h (by omega)
  have e3 := pg_sum_congr (f := f) (g := g) (b := q * 48) 44 (fun i hi => h i (by omega))
  have e4 := pg_num_congr (i := 1) h (by omega)
  have e5 := pg_num_congr (i := 5) h (by omega)
  have e6 := pg_ok_congr (a := a) (i := 9) (n := 32) h (by omega)
  have e7 := pg_ok_congr (a := a) (i := 2) (n := 32) h (by omega)
  have e8 := h 3 (by omega)
  unfold pg_right pg_kind pg_vers
  rw [e1, e2, e3, e4, e5, e8, propext e6, propext e7]
/-- what a right root tells of versions -/
theorem vers_nv {f : Nat → Int32} {a q : Nat} (h : pg_right f a q 1) (hq : q < 2 ^ 31) : pg_num f (q * 48 + 1) = nI (nv (pg_num f (q * 48 + 1))) ∧ 1 ≤ nv (pg_num f (q * 48 + 1)) ∧ nv (pg_num f (q * 48 + 1)) ≤ 1000000 ∧ nv (pg_num f (q * 48 + 1)) % 8 = q ∧ pg_num f (q * 48 + 5) = nI (nv (pg_num f (q * 48 + 5))) ∧ 1 ≤ nv (pg_num f (q * 48 + 5)) ∧ nv (pg_num f (q * 48 + 5)) ≤ nv (pg_num f (q * 48 + 1)) ∧ nv (pg_num f (q * 48 + 1)) ≤ nv (pg_num f (q * 48 + 5)) + 7 := by
  obtain ⟨h1, h2, h3, h4, h5, h6⟩ := (h.2.2.1 rfl).1
  generalize pg_num f (q * 48 + 1) = x at *
  generalize pg_num f (q * 48 + 5) = y at *
  have hx : ¬ x < 0 := fun e => h1 (Int32.lt_trans e (by decide))
  have hy : ¬ y < 0 := fun e => h4 (Int32.lt_trans e (by decide))
  obtain ⟨u, hu, rfl⟩ := nI_of hx
  obtain ⟨v, hv, rfl⟩ := nI_of hy
  rw [nv_nI hu, nv_nI hv]
  have g1 : ¬ u < 1 := fun e => h1 ((nI_ltI (a := u) (b := 1) hu (by omega)).mpr e)
  have g2 : ¬ 1000000 < u := fun e => h2 ((nI_ltI (a := 1000000) (b := u) (by omega) hu).mpr e)
  have g4 : ¬ v < 1 := fun e => h4 ((nI_ltI (a := v) (b := 1) hv (by omega)).mpr e)
  have g5 : ¬ u < v := fun e => h5 ((nI_ltI (a := u) (b := v) hu hv).mpr e)
  have g3 : u % 8 = q := by
    have e : nI u - nI u / nI 8 * nI 8 = nI (u % 8) := pk_rem hu (by omega) (by omega)
    have e2 : nI (u % 8) = nI q := e.symm.trans h3
    exact (nI_eq (by omega) hq).mp e2
  have g6 : ¬ v + 7 < u := by
    intro e
    refine h6 (Int32.lt_iff_toInt_lt.mpr ?_)
    have e1 : (nI u - 7).toInt = (u : Int) - 7 := pk_sub_toInt (a := u) (b := 7) (by omega) (by omega)
    rw [e1, nI_toInt hv]
    omega
  exact ⟨rfl, by omega, by omega, g3, rfl, by omega, by omega, by omega⟩
/-- a page found by looking a key up -/
theorem ptg_page {f : Nat → Int32} {a v k : Nat} (ha : a ≤ 120) (h0 : 0 < a) (hk : k < 1024) (h : ¬ ptg f a v k < 0) : ptg f a v k = nI (nv (ptg f a v k)) ∧ nv (ptg f a v k) < a ∧ pg_right f a (nv (ptg f a v k)) 3 := by
  unfold ptg at h ⊢
  by_cases h1 : pg_right f a (v % 8) 1
  · rw [ifp_t h1] at h ⊢
    by_cases h2 : f (v % 8 * 48 + (9 + k / 32)) = 0
    · rw [ifp_t h2] at h; exact absurd (by decide) h
    · rw [ifp_f h2] at h ⊢
      by_cases h3 : pg_right f a (nv (f (v % 8 * 48 + (9 + k / 32)))) 2
      · rw [ifp_t h3] at h ⊢
        have e1 := nd_nv (i := k % 32) h3 ha h0 (by omega)
        by_cases h4 : f (nv (f (v % 8 * 48 + (9 + k / 32))) * 48 + (2 + k % 32)) = 0
        · rw [ifp_t h4] at h; exact absurd (by decide) h
        · rw [ifp_f h4] at h ⊢
          by_cases h5 : pg_right f a (nv (f (nv (f (v % 8 * 48 + (9 + k / 32))) * 48 + (2 + k % 32)))) 3
          · rw [ifp_t h5]
            exact ⟨e1.1, e1.2.1, h5⟩
          · rw [ifp_f h5] at h; exact absurd (by decide) h
      · rw [ifp_f h3] at h; exact absurd (by decide) h
  · rw [ifp_f h1] at h; exact absurd (by decide) h
theorem lku_page {O : Prop} {f : Nat → Int32} {a ol nw : Nat} {x y : Int32} (ha : a ≤ 120) (h0 : 0 < a) (h : ¬ lku O f a ol nw x y < 0) : lku O f a ol nw x y = nI (nv (lku O f a ol nw x y)) ∧ nv (lku O f a ol nw x y) < a ∧ pg_right f a (nv (lku O f a ol nw x y)) 3 := by
  unfold lku at h ⊢
  by_cases h1 : O
  · rw [ifp_t h1] at h; exact absurd (by decide) h
  · rw [ifp_f h1] at h ⊢
    by_cases h2 : kp ol nw x ∧ ky y
    · rw [ifp_t h2] at h ⊢
      obtain ⟨k, hk, rfl⟩ := ky_nat h2.2
      rw [nv_nI (by omega)] at h ⊢
      exact ptg_page ha h0 hk h
    · rw [ifp_f h2] at h; exact absurd (by decide) h
theorem th_len {f : Nat → Int32} {a q : Nat} (h : pg_right f a q 3) : ¬ 32 < f (q * 48 + 3) := h.2.2.2.2 (by decide) (by decide)
theorem fi_lt {j : Nat} {x : Int32} (hj : j < 2 ^ 31) (h : nI j < x) (h2 : ¬ 32 < x) : j < 32 := by
  refine Nat.lt_of_not_le fun e => h2 (Int32.lt_of_le_of_lt ?_ h)
  exact (nI_leI (a := 32) (b := j) (by omega) hj).mpr e
end
section
/-! what the calls answer and do -/
def had (f : Nat → Int32) (nw n : Nat) : Int32 := if nw = 0 then 0 else f (nw % 8 * 48 + (9 + n))
noncomputable def wn (f : Nat → Int32) (q k : Nat) (x : Int32) (nw : Nat) : Nat → Int32 := pg_seal (upd (upd (ifp (had f nw (k / 32) = 0) (pg_begin f q 2) (va_cpy f f (nv (had f nw (k / 32)) * 48) (q * 48) 48)) (q * 48 + 1) (nI (k / 32))) (q * 48 + (2 + k % 32)) x) q
abbrev SV : Type := Int32 × (Nat → Int32) × Prop × Int32 × Int32 × Nat × Nat
noncomputable def sp_wv (f : Nat → Int32) (O : Prop) (lf us : Int32) (nw ol q k : Nat) (x : Int32) : SV :=
  ifp (pw_off O lf) (-3, wn f q k x nw, pw_off O lf, pw_left lf, us + 1, nw, ol)
    (ifp (pw_off (pw_off O lf) (pw_left lf)) (-3, wr (wn f q k x nw) (nw + 1) (max ol (nw + 1 - 7)) (k / 32) (nI q) nw, pw_off (pw_off O lf) (pw_left lf), pw_left (pw_left lf), us + 1 + 1, nw, ol)
      (nI (nw + 1), wr (wn f q k x nw) (nw + 1) (max ol (nw + 1 - 7)) (k / 32) (nI q) nw, pw_off (pw_off O lf) (pw_left lf), pw_left (pw_left lf), us + 1 + 1, nw + 1, max ol (nw + 1 - 7)))
noncomputable def sp_type (O : Prop) (x : Int32) (tc : Nat) (t : Nat → Int32) : Int32 × (Nat → Int32) × Nat :=
  ifp O (-5, t, tc) (ifp (x < 0 ∨ 255 < x) (-2, t, tc) (ifp (32 ≤ tc) (-6, t, tc) (nI (tc + 1), upd t tc x, tc + 1)))
noncomputable def sp_crash (O : Prop) (lf x : Int32) : Int32 × Prop × Int32 :=
  ifp O (-5, O, lf) (ifp (x < -1 ∨ 1000 < x) (-2, O, lf) (1, x = 0, x))
noncomputable def sp_len (f : Nat → Int32) (y : Int32) : Int32 := ifp (y < 0) y (f (nv y * 48 + 3))
noncomputable def sp_find (f : Nat → Int32) (y z : Int32) : Int32 := ifp (y < 0) y (ifp (z < 0 ∨ ¬ z < f (nv y * 48 + 3)) (-1) (f (nv y * 48 + (4 + nv z))))
noncomputable def nth (f : Nat → Int32) (a q j : Nat) : Int32 := ifp (q = 0) (-1) (ifp (pg_right f a q 2) (fd (fun i => ¬ f (q * 48 + (2 + i)) = 0) (32 - j) j) (-4))
noncomputable def nxt (f : Nat → Int32) (a r : Nat) : Nat → Nat → Nat → Int32
  | 0, _, _ => -1
  | n + 1, i, j => ifp (nth f a (nv (f (r * 48 + (9 + i)))) j = -1) (nxt f a r n (i + 1) 0) (ifp (nth f a (nv (f (r * 48 + (9 + i)))) j = -4) (-4) (nI (i * 32) + nth f a (nv (f (r * 48 + (9 + i)))) j))
theorem nxt_1 {f : Nat → Int32} {a r i j : Nat} (hi : i < 32) (h : nth f a (nv (f (r * 48 + (9 + i)))) j = -1) : nxt f a r (32 - i) i j = nxt f a r (32 - (i + 1)) (i + 1) 0 := by
  rw [show 32 - i = (32 - (i + 1)) + 1 by omega, nxt, ifp_t h]
theorem nxt_4 {f : Nat → Int32} {a r i j : Nat} (hi : i < 32) (h : ¬ nth f a (nv (f (r * 48 + (9 + i)))) j = -1) (h4 : nth f a (nv (f (r * 48 + (9 + i)))) j = -4) : nxt f a r (32 - i) i j = -4 := by
  rw [show 32 - i = (32 - (i + 1)) + 1 by omega, nxt, ifp_f h, ifp_t h4]
theorem nxt_t {f : Nat → Int32} {a r i j : Nat} (hi : i < 32) (h : ¬ nth f a (nv (f (r * 48 + (9 + i)))) j = -1) (h4 : ¬ nth f a (nv (f (r * 48 + (9 + i)))) j = -4) : nxt f a r (32 - i) i j = nI (i * 32) + nth f a (nv (f (r * 48 + (9 + i)))) j := by
  rw [show 32 - i = (32 - (i + 1)) + 1 by omega, nxt, ifp_f h, ifp_f h4]
noncomputable def sp_next (O : Prop) (f : Nat → Int32) (a ol nw : Nat) (x y : Int32) : Int32 :=
  ifp (rrd O ol nw x y = 0) (ifp (pg_right f a (nv x % 8) 1) (nxt f a (nv x % 8) (32 - nv y / 32) (nv y / 32) (nv y % 32)) (-4)) (rrd O ol nw x y)
noncomputable def ro (f : Nat → Int32) (a : Nat) : Nat → Nat × Nat
  | 0 => (0, 1)
  | i + 1 => ifp (pg_right f a i 1 ∧ (ro f a i).1 < nv (pg_num f (i * 48 + 1))) (nv (pg_num f (i * 48 + 1)), nv (pg_num f (i * 48 + 5))) (ro f a i)
theorem ro_t {f : Nat → Int32} {a i u v : Nat} (e : (u, v) = ro f a i) (h : pg_right f a i 1) (h2 : u < nv (pg_num f (i * 48 + 1))) : (nv (pg_num f (i * 48 + 1)), nv (pg_num f (i * 48 + 5))) = ro f a (i + 1) := by
  rw [ro, ifp_t ⟨h, by rw [← e]; exact h2⟩]
theorem ro_n {f : Nat → Int32} {a i u v : Nat} (e : (u, v) = ro f a i) (h : pg_right f a i 1) (h2 : ¬ u < nv (pg_num f (i * 48 + 1))) : (u, v) = ro f a (i + 1) := by
  rw [ro, ifp_f (fun g => h2 (by have := g.2; rw [← e] at this; exact this))]; exact e
theorem ro_f {f : Nat → Int32} {a i u v : Nat} (e : (u, v) = ro f a i) (h : ¬ pg_right f a i 1) : (u, v) = ro f a (i + 1) := by
  rw [ro, ifp_f (fun g => h g.1)]; exact e
def hs (a : Nat) (x y : Int32) : Prop := ¬ x < 0 ∧ ¬ nI a ≤ x ∧ ¬ y < 0 ∧ ¬ 48 ≤ y
theorem hs_nat {a : Nat} {x y : Int32} (h : hs a x y) (ha : a < 2 ^ 31) : ∃ q i : Nat, q < a ∧ i < 48 ∧ x = nI q ∧ y = nI i := by
  obtain ⟨q, hq, rfl⟩ := nI_of h.1
  obtain ⟨i, hi, rfl⟩ := nI_of h.2.2.1
  exact ⟨q, i, Nat.lt_of_not_le fun e => h.2.1 ((nI_leI ha hq).mpr e), Nat.lt_of_not_le fun e => h.2.2.2 ((nI_leI (a := 48) (b := i) (by omega) hi).mpr e), rfl, rfl⟩
noncomputable def sp_poke (f : Nat → Int32) (a : Nat) (x y z : Int32) : Int32 × (Nat → Int32) :=
  ifp (hs a x y ∧ ¬ z < 1 ∧ ¬ 255 < z) (f (nv x * 48 + nv y) ^^^ z, upd f (nv x * 48 + nv y) (f (nv x * 48 + nv y) ^^^ z)) (-2, f)
noncomputable def sp_byte (f : Nat → Int32) (a : Nat) (x y : Int32) : Int32 := ifp (hs a x y) (f (nv x * 48 + nv y)) (-2)
noncomputable def bad_at (f : Nat → Int32) (a ol nw : Nat) : Int32 := fd (fun p => ¬ wk_marks f a ol (nw + 1 - ol) p &&& 1 = 0) a 0
noncomputable def sp_bad (O : Prop) (M f : Nat → Int32) (a ol nw : Nat) : Int32 × (Nat → Int32) := ifp O (-5, M) (bad_at f a ol nw, wk_marks f a ol (nw + 1 - ol))
noncomputable def sp_keys (f : Nat → Int32) (a nw : Nat) : Nat := ifp (nw = 0 ∨ ¬ pg_right f a (nw % 8) 1) 0 (ks_sum f a (nw % 8) 32)
noncomputable def fr_pages (f : Nat → Int32) (a ol nw : Nat) : Nat := ct_of_P (fun p => wk_marks f a ol (nw + 1 - ol) p = 0) 8 (a - 8)
noncomputable def sp_count (O : Prop) (M f : Nat → Int32) (a tc ol nw : Nat) (x : Int32) : Int32 × (Nat → Int32) :=
  ifp O (-5, M) (ifp (x = 0) (nI nw, M) (ifp (x = 1) (nI ol, M) (ifp (x = 2) (nI (fr_pages f a ol nw), wk_marks f a ol (nw + 1 - ol)) (ifp (x = 3) (nI (sp_keys f a nw), M) (ifp (x = 4) (nI tc, M) (-2, M))))))
theorem sw_all {x : Int32} (h : ¬ (x.toInt < 0 ∨ 4 < x.toInt)) (h0 : ¬ x = 0) (h1 : ¬ x = 1) (h2 : ¬ x = 2) (h3 : ¬ x = 3) (h4 : ¬ x = 4) : False := by
  have hx : ¬ x < 0 := fun e => h (Or.inl (Int32.lt_iff_toInt_lt.mp e))
  obtain ⟨j, hj, rfl⟩ := nI_of hx
  have e := nI_toInt hj
  rw [e] at h
  rcases (show j = 0 ∨ j = 1 ∨ j = 2 ∨ j = 3 ∨ j = 4 by omega) with rfl | rfl | rfl | rfl | rfl
  · exact h0 rfl
  · exact h1 rfl
  · exact h2 rfl
  · exact h3 rfl
  · exact h4 rfl
theorem sw_out {x : Int32} (h : x.toInt < 0 ∨ 4 < x.toInt) : ¬ x = 0 ∧ ¬ x = 1 ∧ ¬ x = 2 ∧ ¬ x = 3 ∧ ¬ x = 4 := by
  refine ⟨?_, ?_, ?_, ?_, ?_⟩ <;> (intro e; subst e; revert h; decide)
/-- the least free page from n on, behind a walk -/
noncomputable def fr (f : Nat → Int32) (a ol nw n : Nat) : Int32 := fd (fun p => wk_marks f a ol (nw + 1 - ol) p = 0) (a - n) n
noncomputable def fr2 (f : Nat → Int32) (a ol nw : Nat) : Int32 := ifp (fr f a ol nw 8 = -1) (-1) (fr f a ol nw (nv (fr f a ol nw 8) + 1))
abbrev SP : Type := Int32 × (Nat → Int32) × Prop × Int32 × Int32 × Nat × Nat × Nat
noncomputable def sp_put (f : Nat → Int32) (O : Prop) (lf us : Int32) (t : Nat → Int32) (a tc nw ol : Nat) (x : Int32) : SP :=
  ifp (rwr O (ky x) f a ol nw = 0)
    (ifp (fr2 f a ol nw = -1 ∨ 1000000 ≤ nw) (-6, f, O, lf, us, tc, nw, ol)
      (ifp (pw_off O lf) (-3, wt f (nv (fr f a ol nw 8)) (nv x) t tc, pw_off O lf, pw_left lf, us + 1, 0, nw, ol)
        ((sp_wv (wt f (nv (fr f a ol nw 8)) (nv x) t tc) (pw_off O lf) (pw_left lf) (us + 1) nw ol (nv (fr2 f a ol nw)) (nv x) (nI (nv (fr f a ol nw 8)))).1, (sp_wv (wt f (nv (fr f a ol nw 8)) (nv x) t tc) (pw_off O lf) (pw_left lf) (us + 1) nw ol (nv (fr2 f a ol nw)) (nv x) (nI (nv (fr f a ol nw 8)))).2.1, (sp_wv (wt f (nv (fr f a ol nw 8)) (nv x) t tc) (pw_off O lf) (pw_left lf) (us + 1) nw ol (nv (fr2 f a ol nw)) (nv x) (nI (nv (fr f a ol nw 8)))).2.2.1, (sp_wv (wt f (nv (fr f a ol nw 8)) (nv x) t tc) (pw_off O lf) (pw_left lf) (us + 1) nw ol (nv (fr2 f a ol nw)) (nv x) (nI (nv (fr f a ol nw 8)))).2.2.2.1, (sp_wv (wt f (nv (fr f a ol nw 8)) (nv x) t tc) (pw_off O lf) (pw_left lf) (us + 1) nw ol (nv (fr2 f a ol nw)) (nv x) (nI (nv (fr f a ol nw 8)))).2.2.2.2.1, 0, (sp_wv (wt f (nv (fr f a ol nw 8)) (nv x) t tc) (pw_off O lf) (pw_left lf) (us + 1) nw ol (nv (fr2 f a ol nw)) (nv x) (nI (nv (fr f a ol nw 8)))).2.2.2.2.2.1, (sp_wv (wt f (nv (fr f a ol nw 8)) (nv x) t tc) (pw_off O lf) (pw_left lf) (us + 1) nw ol (nv (fr2 f a ol nw)) (nv x) (nI (nv (fr f a ol nw 8)))).2.2.2.2.2.2)))
    (rwr O (ky x) f a ol nw, f, O, lf, us, tc, nw, ol)
noncomputable def sp_rem (f : Nat → Int32) (O : Prop) (lf us : Int32) (a nw ol : Nat) (x : Int32) : SV :=
  ifp (rwr O (ky x) f a ol nw = 0)
    (ifp (nw = 0 ∨ ptg f a nw (nv x) = -1) (0, f, O, lf, us, nw, ol)
      (ifp (fr f a ol nw 8 = -1 ∨ 1000000 ≤ nw) (-6, f, O, lf, us, nw, ol) (sp_wv f O lf us nw ol (nv (fr f a ol nw 8)) (nv x) 0)))
    (rwr O (ky x) f a ol nw, f, O, lf, us, nw, ol)
def kd (ol nw : Nat) (x : Int32) : Prop := kp ol nw x ∧ ¬ x = nI nw
def wd (f : Nat → Int32) (nw v : Nat) : Nat → Int32 := pg_seal (pg_setn f (nw % 8 * 48 + 5) (nI (v + 1))) (nw % 8)
noncomputable def sp_drop (f : Nat → Int32) (O : Prop) (lf us : Int32) (a nw ol : Nat) (x : Int32) : SV :=
  ifp (rwr O (kd ol nw x) f a ol nw = 0)
    (ifp (pw_off O lf) (-3, wd f nw (nv x), pw_off O lf, pw_left lf, us + 1, nw, ol) (nI nw - x, wd f nw (nv x), pw_off O lf, pw_left lf, us + 1, nw, nv x + 1))
    (rwr O (kd ol nw x) f a ol nw, f, O, lf, us, nw, ol)
end
section
def bt (x : Int32) (i : Nat) : Bool := x.toBitVec.getLsbD i
theorem b_ext {x y : Int32} (h : ∀ i, i < 32 → bt x i = bt y i) : x = y := Int32.toBitVec_inj.mp (BitVec.eq_of_getLsbD_eq (fun i hi => h i hi))
theorem b_or (x y : Int32) (i : Nat) : bt (x ||| y) i = (bt x i || bt y i) := by unfold bt; rw [Int32.toBitVec_or, BitVec.getLsbD_or]
theorem b_and (x y : Int32) (i : Nat) : bt (x &&& y) i = (bt x i && bt y i) := by unfold bt; rw [Int32.toBitVec_and, BitVec.getLsbD_and]
theorem b_xor (x y : Int32) (i : Nat) : bt (x ^^^ y) i = (bt x i ^^ bt y i) := by unfold bt; rw [Int32.toBitVec_xor, BitVec.getLsbD_xor]
theorem b_big {x : Int32} {i : Nat} (h : 32 ≤ i) : bt x i = false := BitVec.getLsbD_of_ge _ _ h
theorem b_255 (i : Nat) : bt 255 i = decide (i < 8) := by
  rcases Nat.lt_or_ge i 32 with h | h
  · exact (by decide +kernel : ∀ i, i < 32 → bt 255 i = decide (i < 8)) i h
  · rw [b_big h, decide_eq_false (by omega)]
theorem b_65535 (i : Nat) : bt 65535 i = decide (i < 16) := by
  rcases Nat.lt_or_ge i 32 with h | h
  · exact (by decide +kernel : ∀ i, i < 32 → bt 65535 i = decide (i < 16)) i h
  · rw [b_big h, decide_eq_false (by omega)]
theorem b_m1 : ∀ i, i < 32 → bt (-1) i = true := by decide +kernel
theorem b_0 (i : Nat) : bt 0 i = false := BitVec.getLsbD_zero
theorem s_l : ∀ n, n < 32 → ((nI n &&& 31).toBitVec.smod 32).toNat = n := by decide +kernel
theorem s_u : ∀ n, n < 32 → (((nI n).toUInt32 &&& Int32.toUInt32 31).toBitVec % 32).toNat = n := by decide +kernel
theorem b_shl (n : Nat) (hn : n < 32) (x : Int32) {i : Nat} (hi : i < 32) : bt (x <<< (nI n &&& 31)) i = (decide (n ≤ i) && bt x (i - n)) := by
  unfold bt
  rw [Int32.toBitVec_shiftLeft]
  show (x.toBitVec <<< ((nI n &&& 31).toBitVec.smod 32).toNat).getLsbD i = _
  rw [s_l n hn, BitVec.getLsbD_shiftLeft]
  rcases Nat.lt_or_ge i n with h | h
  · simp [h, Nat.not_le.mpr h]
  · simp [hi, h, Nat.not_lt.mpr h]
theorem b_ushr (n : Nat) (hn : n < 32) (x : Int32) (i : Nat) : bt ((x.toUInt32 >>> ((nI n).toUInt32 &&& Int32.toUInt32 31)).toInt32) i = bt x (n + i) := by
  show (x.toUInt32 >>> ((nI n).toUInt32 &&& Int32.toUInt32 31)).toBitVec.getLsbD i = x.toUInt32.toBitVec.getLsbD (n + i)
  rw [UInt32.toBitVec_shiftRight]
  show (x.toUInt32.toBitVec >>> (((nI n).toUInt32 &&& Int32.toUInt32 31).toBitVec % 32).toNat).getLsbD i = _
  rw [s_u n hn, BitVec.getLsbD_ushiftRight]
theorem b_sshr (n : Nat) (hn : n < 32) (x : Int32) {i : Nat} (hi : i < 32) : bt (x >>> (nI n &&& 31)) i = if n + i < 32 then bt x (n + i) else bt x 31 := by
  unfold bt
  rw [Int32.toBitVec_shiftRight]
  show (x.toBitVec.sshiftRight ((nI n &&& 31).toBitVec.smod 32).toNat).getLsbD i = _
  rw [s_l n hn, BitVec.getLsbD_sshiftRight, BitVec.msb_eq_getLsbD_last]
  simp [hi]
theorem b_shl8 (x : Int32) {i : Nat} (hi : i < 32) : bt (x <<< ((8 : Int32) &&& 31)) i = (decide (8 ≤ i) && bt x (i - 8)) := b_shl 8 (by omega) x hi
theorem b_shl16 (x : Int32) {i : Nat} (hi : i < 32) : bt (x <<< ((16 : Int32) &&& 31)) i = (decide (16 ≤ i) && bt x (i - 16)) := b_shl 16 (by omega) x hi
theorem b_shl24 (x : Int32) {i : Nat} (hi : i < 32) : bt (x <<< ((24 : Int32) &&& 31)) i = (decide (24 ≤ i) && bt x (i - 24)) := b_shl 24 (by omega) x hi
theorem b_sshr8 (x : Int32) {i : Nat} (hi : i < 32) : bt (x >>> ((8 : Int32) &&& 31)) i = if 8 + i < 32 then bt x (8 + i) else bt x 31 := b_sshr 8 (by omega) x hi

def bT (x : Int32) (i : Nat) : Prop := bt x i = true
theorem bT_or {x y : Int32} {i : Nat} : bT (x ||| y) i ↔ bT x i ∨ bT y i := by unfold bT; rw [b_or, Bool.or_eq_true]
theorem bT_c {B : Int32} {k : Nat} (h : ∀ i, i < 32 → bt B i = decide (i = k)) (hk : k < 32) (i : Nat) : bT B i ↔ i = k := by
  unfold bT
  rcases Nat.lt_or_ge i 32 with e | e
  · rw [h i e]; exact decide_eq_true_iff
  · rw [b_big e]; exact ⟨fun q => absurd q (by decide), fun q => absurd q (by omega)⟩
theorem bT_1 (i : Nat) : bT 1 i ↔ i = 0 := bT_c (by decide +kernel) (by omega) i
theorem bT_m1 (i : Nat) : bT (mk_bit 1) i ↔ i = 1 := bT_c (by decide +kernel) (by omega) i
theorem bT_m2 (i : Nat) : bT (mk_bit 2) i ↔ i = 2 := bT_c (by decide +kernel) (by omega) i
theorem bT_m3 (i : Nat) : bT (mk_bit 3) i ↔ i = 3 := bT_c (by decide +kernel) (by omega) i
theorem bT_and0 {x B : Int32} {k : Nat} (hB : ∀ i, bT B i ↔ i = k) : x &&& B = 0 ↔ ¬ bT x k := by
  constructor
  · intro h hx
    have e : bt (x &&& B) k = bt 0 k := by rw [h]
    rw [b_and, b_0, show bt x k = true from hx, show bt B k = true from (hB k).mpr rfl] at e
    exact absurd e (by decide)
  · intro h
    refine b_ext fun i _ => ?_
    rw [b_and, b_0]
    by_cases e : i = k
    · subst e
      rw [show bt x i = false from Bool.eq_false_iff.mpr h]; rfl
    · rw [show bt B i = false from Bool.eq_false_iff.mpr (fun q => e ((hB i).mp q)), Bool.and_false]
theorem bT_zero {x : Int32} : x = 0 ↔ ∀ i, ¬ bT x i := by
  constructor
  · intro h i hi
    unfold bT at hi
    rw [h, b_0] at hi
    exact absurd hi (by decide)
  · intro h
    refine b_ext fun i _ => ?_
    rw [b_0]
    exact Bool.eq_false_iff.mpr (h i)
/-! who tells whom -/
def told (f : Nat → Int32) (b n p : Nat) : Prop := ∃ j, j < n ∧ ¬ f (b + j) = 0 ∧ nv (f (b + j)) = p
theorem mt_bits {f : Nat → Int32} {b k : Nat} {B : Int32} (M : Nat → Int32) (hB : ∀ i, bT B i ↔ i = k) : ∀ (n p i : Nat), bT (mt_fold f b B M n p) i ↔ bT (M p) i ∨ (i = k ∧ told f b n p)
  | 0, p, i => ⟨fun h => Or.inl h, fun h => h.elim id (fun h => by obtain ⟨-, j, hj, -⟩ := h; omega)⟩
  | n + 1, p, i => by
    have ih := mt_bits (f := f) (b := b) M hB n
    by_cases h : f (b + n) = 0
    · rw [mt_s0 h, ih p i]
      have e : told f b n p ↔ told f b (n + 1) p := ⟨fun ⟨j, h1, h2⟩ => ⟨j, by omega, h2⟩, fun ⟨j, h1, h2, h3⟩ => by
        rcases Nat.lt_or_ge j n with g | g
        · exact ⟨j, g, h2, h3⟩
        · rw [show j = n by omega] at h2; exact absurd h h2⟩
      rw [e]
    · rw [mt_s1 h]
      unfold upd
      by_cases hp : p = nv (f (b + n))
      · rw [if_pos hp, bT_or, hB, ← hp, ih p i]
        constructor
        · rintro ((h1 | ⟨h1, j, h2, h3⟩) | h1)
          · exact Or.inl h1
          · exact Or.inr ⟨h1, j, by omega, h3⟩
          · exact Or.inr ⟨h1, n, by omega, h, hp.symm⟩
        · rintro (h1 | ⟨h1, -⟩)
          · exact Or.inl (Or.inl h1)
          · exact Or.inr h1
      · rw [if_neg hp, ih p i]
        have e : told f b n p ↔ told f b (n + 1) p := ⟨fun ⟨j, h1, h2⟩ => ⟨j, by omega, h2⟩, fun ⟨j, h1, h2, h3⟩ => by
          rcases Nat.lt_or_ge j n with g | g
          · exact ⟨j, g, h2, h3⟩
          · rw [show j = n by omega] at h3; exact absurd h3.symm hp⟩
        rw [e]
/-- a pass over all pages, for a kind with bit k that tells with bit k2 -/
theorem la_bits {f : Nat → Int32} {a k k2 : Nat} {K : Int32} {T : Nat → Nat → Prop} (M : Nat → Int32) (hK : ∀ i, bT (mk_bit K) i ↔ i = k) (h1 : ¬ k = 0) (h2 : ¬ k2 = 0) (h3 : ¬ k2 = k)
    (ht : ∀ (G : Nat → Int32) (q p i : Nat), ¬ G q &&& mk_bit K = 0 → pg_right f a q K → (bT (la_step f a K G q p) i ↔ bT (G p) i ∨ (i = k2 ∧ T q p))) :
    ∀ (n p i : Nat), bT (la_fold f a K M n p) i ↔ bT (M p) i ∨ (i = 0 ∧ p < n ∧ bT (M p) k ∧ ¬ pg_right f a p K) ∨ (i = k2 ∧ ∃ q, q < n ∧ bT (M q) k ∧ pg_right f a q K ∧ T q p)
  | 0, p, i => ⟨fun h => Or.inl h, fun h => by
      rcases h with h | ⟨-, h, -⟩ | ⟨-, q, h, -⟩
      · exact h
      · omega
      · omega⟩
  | n + 1, p, i => by
    have ih := la_bits (f := f) (a := a) (T := T) M hK h1 h2 h3 ht n
    show bT (la_step f a K (la_fold f a K M n) n p) i ↔ _
    have hbit : bT (la_fold f a K M n n) k ↔ bT (M n) k := by
      rw [ih n k]
      constructor
      · rintro (h | ⟨h, -⟩ | ⟨h, -⟩)
        · exact h
        · exact absurd h h1
        · exact absurd h.symm h3
      · exact fun h => Or.inl h
    by_cases hm : la_fold f a K M n n &&& mk_bit K = 0
    · have hn : ¬ bT (M n) k := fun e => (bT_and0 hK).mp hm (hbit.mpr e)
      rw [la_none hm, ih p i]
      constructor
      · rintro (h | ⟨g1, g2, g3⟩ | ⟨g1, q, g2, g3⟩)
        · exact Or.inl h
        · exact Or.inr (Or.inl ⟨g1, by omega, g3⟩)
        · exact Or.inr (Or.inr ⟨g1, q, by omega, g3⟩)
      · rintro (h | ⟨g1, g2, g3, g4⟩ | ⟨g1, q, g2, g3, g4⟩)
        · exact Or.inl h
        · rcases Nat.lt_or_ge p n with g | g
          · exact Or.inr (Or.inl ⟨g1, g, g3, g4⟩)
          · rw [show p = n by omega] at g3; exact absurd g3 hn
        · rcases Nat.lt_or_ge q n with g | g
          · exact Or.inr (Or.inr ⟨g1, q, g, g3, g4⟩)
          · rw [show q = n by omega] at g3; exact absurd g3 hn
    · have hn : bT (M n) k := Classical.byContradiction fun e => hm ((bT_and0 hK).mpr fun g => e (hbit.mp g))
      by_cases hr : pg_right f a n K
      · rw [ht _ n p i hm hr, ih p i]
        constructor
        · rintro ((h | ⟨g1, g2, g3⟩ | ⟨g1, q, g2, g3⟩) | ⟨g1, g2⟩)
          · exact Or.inl h
          · exact Or.inr (Or.inl ⟨g1, by omega, g3⟩)
          · exact Or.inr (Or.inr ⟨g1, q, by omega, g3⟩)
          · exact Or.inr (Or.inr ⟨g1, n, by omega, hn, hr, g2⟩)
        · rintro (h | ⟨g1, g2, g3, g4⟩ | ⟨g1, q, g2, g3, g4, g5⟩)
          · exact Or.inl (Or.inl h)
          · rcases Nat.lt_or_ge p n with g | g
            · exact Or.inl (Or.inr (Or.inl ⟨g1, g, g3, g4⟩))
            · rw [show p = n by omega] at g4; exact absurd hr g4
          · rcases Nat.lt_or_ge q n with g | g
            · exact Or.inl (Or.inr (Or.inr ⟨g1, q, g, g3, g4, g5⟩))
            · rw [show q = n by omega] at g5; exact Or.inr ⟨g1, g5⟩
      · rw [la_bad hm hr]
        unfold upd
        by_cases hp : p = n
        · rw [hp, if_pos rfl, bT_or, bT_1, ih n i]
          constructor
          · rintro ((h | ⟨g1, g2, g3⟩ | ⟨g1, q, g2, g3⟩) | g1)
            · exact Or.inl h
            · exact Or.inr (Or.inl ⟨g1, by omega, g3⟩)
            · exact Or.inr (Or.inr ⟨g1, q, by omega, g3⟩)
            · exact Or.inr (Or.inl ⟨g1, by omega, hn, hr⟩)
          · rintro (h | ⟨g1, g2, g3, g4⟩ | ⟨g1, q, g2, g3, g4⟩)
            · exact Or.inl (Or.inl h)
            · exact Or.inr g1
            · rcases Nat.lt_or_ge q n with g | g
              · exact Or.inl (Or.inr (Or.inr ⟨g1, q, by omega, g3, g4⟩))
              · rw [show q = n by omega] at g4; exact absurd g4.1 hr
        · rw [if_neg hp, ih p i]
          constructor
          · rintro (h | ⟨g1, g2, g3⟩ | ⟨g1, q, g2, g3⟩)
            · exact Or.inl h
            · exact Or.inr (Or.inl ⟨g1, by omega, g3⟩)
            · exact Or.inr (Or.inr ⟨g1, q, by omega, g3⟩)
          · rintro (h | ⟨g1, g2, g3, g4⟩ | ⟨g1, q, g2, g3, g4⟩)
            · exact Or.inl h
            · exact Or.inr (Or.inl ⟨g1, by omega, g3, g4⟩)
            · rcases Nat.lt_or_ge q n with g | g
              · exact Or.inr (Or.inr ⟨g1, q, g, g3, g4⟩)
              · rw [show q = n by omega] at g4; exact absurd g4.1 hr
def rootS (o n p : Nat) : Prop := ∃ j, j < n ∧ (o + j) % 8 = p
def nodeS (f : Nat → Int32) (a o n p : Nat) : Prop := ∃ q, q < a ∧ rootS o n q ∧ pg_right f a q 1 ∧ told f (q * 48 + 9) 32 p
def thingS (f : Nat → Int32) (a o n p : Nat) : Prop := ∃ q, q < a ∧ nodeS f a o n q ∧ pg_right f a q 2 ∧ told f (q * 48 + 2) 32 p
def badS (f : Nat → Int32) (a o n p : Nat) : Prop := (rootS o n p ∧ ¬ pg_right f a p 1) ∨ (nodeS f a o n p ∧ ¬ pg_right f a p 2) ∨ (thingS f a o n p ∧ ¬ pg_right f a p 3)
def reachS (f : Nat → Int32) (a o n p : Nat) : Prop := rootS o n p ∨ nodeS f a o n p ∨ thingS f a o n p
theorem rt_bits (o : Nat) : ∀ (n p i : Nat), bT (rt_fold (fun _ => 0) o n p) i ↔ i = 1 ∧ rootS o n p
  | 0, p, i => ⟨fun h => absurd (show bt 0 i = true from h) (by rw [b_0]; decide), fun ⟨_, j, hj, _⟩ => absurd hj (Nat.not_lt_zero j)⟩
  | n + 1, p, i => by
    have ih := rt_bits o n
    show bT (upd (rt_fold (fun _ => 0) o n) ((o + n) % 8) (rt_fold (fun _ => 0) o n ((o + n) % 8) ||| mk_bit 1) p) i ↔ _
    unfold upd
    by_cases hp : p = (o + n) % 8
    · rw [if_pos hp, bT_or, bT_m1, ← hp, ih p i]
      constructor
      · rintro (⟨h1, j, h2, h3⟩ | h)
        · exact ⟨h1, j, by omega, h3⟩
        · exact ⟨h, n, by omega, hp.symm⟩
      · rintro ⟨h, -⟩
        exact Or.inr h
    · rw [if_neg hp, ih p i]
      constructor
      · rintro ⟨h1, j, h2, h3⟩
        exact ⟨h1, j, by omega, h3⟩
      · rintro ⟨h1, j, h2, h3⟩
        rcases Nat.lt_or_ge j n with g | g
        · exact ⟨h1, j, g, h3⟩
        · rw [show j = n by omega] at h3; exact absurd h3.symm hp
/-- the marks behind a walk, bit by bit -/
theorem wk_bits (f : Nat → Int32) (a o n p i : Nat) : bT (wk_marks f a o n p) i ↔ (i = 1 ∧ rootS o n p) ∨ (i = 2 ∧ nodeS f a o n p) ∨ (i = 3 ∧ thingS f a o n p) ∨ (i = 0 ∧ p < a ∧ badS f a o n p) := by
  have l1 := la_bits (f := f) (a := a) (k := 1) (k2 := 2) (K := 1) (T := fun q p => told f (q * 48 + 9) 32 p) (rt_fold (fun _ => 0) o n) bT_m1 (by decide) (by decide) (by decide) (fun G q p i hm hr => by rw [la_1 hm hr rfl]; exact mt_bits G bT_m2 32 p i) a
  have l2 := la_bits (f := f) (a := a) (k := 2) (k2 := 3) (K := 2) (T := fun q p => told f (q * 48 + 2) 32 p) (la_fold f a 1 (rt_fold (fun _ => 0) o n) a) bT_m2 (by decide) (by decide) (by decide) (fun G q p i hm hr => by rw [la_2 hm hr (by decide) rfl]; exact mt_bits G bT_m3 32 p i) a
  have l3 := la_bits (f := f) (a := a) (k := 3) (k2 := 9) (K := 3) (T := fun _ _ => False) (la_fold f a 2 (la_fold f a 1 (rt_fold (fun _ => 0) o n) a) a) bT_m3 (by decide) (by decide) (by decide) (fun G q p i hm hr => by rw [la_3 hm hr (by decide) (by decide)]; exact ⟨fun h => Or.inl h, fun h => h.elim id (fun h => h.2.elim)⟩) a
  have r := rt_bits o n
  have a1 : ∀ p i, bT (la_fold f a 1 (rt_fold (fun _ => 0) o n) a p) i ↔ (i = 1 ∧ rootS o n p) ∨ (i = 0 ∧ p < a ∧ rootS o n p ∧ ¬ pg_right f a p 1) ∨ (i = 2 ∧ nodeS f a o n p) := by
    intro p i
    rw [l1 p i, r p i]
    have e1 : bT (rt_fold (fun _ => 0) o n p) 1 ↔ rootS o n p := (r p 1).trans ⟨fun h => h.2, fun h => ⟨rfl, h⟩⟩
    have e2 : (∃ q, q < a ∧ bT (rt_fold (fun _ => 0) o n q) 1 ∧ pg_right f a q 1 ∧ told f (q * 48 + 9) 32 p) ↔ nodeS f a o n p := ⟨fun ⟨q, g1, g2, g3⟩ => ⟨q, g1, ((r q 1).mp g2).2, g3⟩, fun ⟨q, g1, g2, g3⟩ => ⟨q, g1, (r q 1).mpr ⟨rfl, g2⟩, g3⟩⟩
    rw [e1, e2]
  have b2 : ∀ q, bT (la_fold f a 1 (rt_fold (fun _ => 0) o n) a q) 2 ↔ nodeS f a o n q := by
    intro q
    rw [a1 q 2]
    exact ⟨fun h => by
      rcases h with ⟨h, -⟩ | ⟨h, -⟩ | ⟨-, h⟩
      · exact absurd h (by decide)
      · exact absurd h (by decide)
      · exact h, fun h => Or.inr (Or.inr ⟨rfl, h⟩)⟩
  have e3 : ∀ p, (∃ q, q < a ∧ bT (la_fold f a 1 (rt_fold (fun _ => 0) o n) a q) 2 ∧ pg_right f a q 2 ∧ told f (q * 48 + 2) 32 p) ↔ thingS f a o n p := fun p => ⟨fun ⟨q, g1, g2, g3⟩ => ⟨q, g1, (b2 q).mp g2, g3⟩, fun ⟨q, g1, g2, g3⟩ => ⟨q, g1, (b2 q).mpr g2, g3⟩⟩
  have b3 : ∀ q, bT (la_fold f a 2 (la_fold f a 1 (rt_fold (fun _ => 0) o n) a) a q) 3 ↔ thingS f a o n q := by
    intro q
    rw [l2 q 3, a1 q 3, e3 q]
    exact ⟨fun h => by
      rcases h with (⟨h, -⟩ | ⟨h, -⟩ | ⟨h, -⟩) | ⟨h, -⟩ | ⟨-, h⟩
      · exact absurd h (by decide)
      · exact absurd h (by decide)
      · exact absurd h (by decide)
      · exact absurd h (by decide)
      · exact h, fun h => Or.inr (Or.inr ⟨rfl, h⟩)⟩
  unfold wk_marks
  rw [l3 p i, b3 p, l2 p i, b2 p, e3 p, a1 p i]
  constructor
  · rintro (((⟨h1, h2⟩ | ⟨h1, h2, h3⟩ | ⟨h1, h2⟩) | ⟨h1, h2, h3⟩ | ⟨h1, h2⟩) | ⟨h1, h2, h3⟩ | ⟨-, q, -, -, -, h⟩)
    · exact Or.inl ⟨h1, h2⟩
    · exact Or.inr (Or.inr (Or.inr ⟨h1, h2, Or.inl h3⟩))
    · exact Or.inr (Or.inl ⟨h1, h2⟩)
    · exact Or.inr (Or.inr (Or.inr ⟨h1, h2, Or.inr (Or.inl h3)⟩))
    · exact Or.inr (Or.inr (Or.inl ⟨h1, h2⟩))
    · exact Or.inr (Or.inr (Or.inr ⟨h1, h2, Or.inr (Or.inr h3)⟩))
    · exact h.elim
  · rintro (⟨h1, h2⟩ | ⟨h1, h2⟩ | ⟨h1, h2⟩ | ⟨h1, h2, (h3 | h3 | h3)⟩)
    · exact Or.inl (Or.inl (Or.inl ⟨h1, h2⟩))
    · exact Or.inl (Or.inl (Or.inr (Or.inr ⟨h1, h2⟩)))
    · exact Or.inl (Or.inr (Or.inr ⟨h1, h2⟩))
    · exact Or.inl (Or.inl (Or.inr (Or.inl ⟨h1, h2, h3⟩)))
    · exact Or.inl (Or.inr (Or.inl ⟨h1, h2, h3⟩))
    · exact Or.inr (Or.inl ⟨h1, h2, h3⟩)
theorem wk_bad (f : Nat → Int32) (a o n p : Nat) : ¬ wk_marks f a o n p &&& 1 = 0 ↔ p < a ∧ badS f a o n p := by
  rw [bT_and0 bT_1, Classical.not_not, wk_bits]
  exact ⟨fun h => by
    rcases h with ⟨h, -⟩ | ⟨h, -⟩ | ⟨h, -⟩ | ⟨-, h⟩
    · exact absurd h (by decide)
    · exact absurd h (by decide)
    · exact absurd h (by decide)
    · exact h, fun h => Or.inr (Or.inr (Or.inr ⟨rfl, h⟩))⟩
theorem wk_zero (f : Nat → Int32) (a o n p : Nat) : wk_marks f a o n p = 0 ↔ ¬ reachS f a o n p := by
  rw [bT_zero]
  constructor
  · rintro h (h1 | h1 | h1)
    · exact h 1 ((wk_bits f a o n p 1).mpr (Or.inl ⟨rfl, h1⟩))
    · exact h 2 ((wk_bits f a o n p 2).mpr (Or.inr (Or.inl ⟨rfl, h1⟩)))
    · exact h 3 ((wk_bits f a o n p 3).mpr (Or.inr (Or.inr (Or.inl ⟨rfl, h1⟩))))
  · intro h i hi
    rcases (wk_bits f a o n p i).mp hi with ⟨-, h1⟩ | ⟨-, h1⟩ | ⟨-, h1⟩ | ⟨-, -, (h1 | h1 | h1)⟩
    · exact h (Or.inl h1)
    · exact h (Or.inr (Or.inl h1))
    · exact h (Or.inr (Or.inr h1))
    · exact h (Or.inl h1.1)
    · exact h (Or.inr (Or.inl h1.1))
    · exact h (Or.inr (Or.inr h1.1))
/-- where nothing is bad, the kept versions' roots are right -/
theorem wk_root {f : Nat → Int32} {a o nw v : Nat} (ha : a ≤ 120) (h8 : 12 ≤ a) (h : fd (fun p => ¬ wk_marks f a o (nw + 1 - o) p &&& 1 = 0) a 0 = -1) (h1 : o ≤ v) (h2 : v ≤ nw) : pg_right f a (v % 8) 1 := by
  have g := (fd_none (by omega)).mp h (v % 8) (Nat.zero_le _) (by omega)
  refine Classical.byContradiction fun e => g ((wk_bad f a o (nw + 1 - o) (v % 8)).mpr ⟨by omega, Or.inl ⟨⟨v - o, by omega, ?_⟩, e⟩⟩)
  rw [show o + (v - o) = v by omega]
end
section
set_option maxHeartbeats 4000000 in
set_option maxRecDepth 100000 in
theorem c_X0_has (l : Launch) (D : va_G) (cI cZ : ClassId) (hd hB a : Nat) (x y : Int32) (f : Nat → Int32)  : CtI l yX0_has wsX0_has ({ frames := 0, cells := 0, slots := 0, locals := 0 }) D vwCl (ct_T cI cZ) [.ref hd, .int x, .int y] [(hd, .inr (0, [.int (nI a), .ref hB])), (hB, .inl (cI, a * 48, .inl f))] [(hd, .inr (0, [.int (nI a), .ref hB])), (hB, .inl (cI, a * 48, .inl f))] (b2i (¬ x < 0 ∧ ¬ nI a ≤ x ∧ ¬ y < 0 ∧ ¬ 48 ≤ y)) := by
  refine ct_of (Qf := ct_Qi D vwCl [(hd, .inr (0, [.int (nI a), .ref hB])), (hB, .inl (cI, a * 48, .inl f))] (b2i (¬ x < 0 ∧ ¬ nI a ≤ x ∧ ¬ y < 0 ∧ ¬ 48 ≤ y))) (cc := cX0_has) (maxL := 3) (ret := (some .boolean)) [(0, .ref hd), (1, .int x), (2, .int y)] (by decide) rfl (Nat.le_of_ble_eq_true rfl) rfl ?_
  intro p e s m below meth c hx hb hr hts hown hlocks hml hnm A hA hK hN hP hD hS ls hl
  have hown : s.vm.findClass RX0 = some m.cls := hown
  have hk0 := hts (.fieldLink RX0 9 "DesignPages$Pages" "amount" "I") (by decide +kernel)
  have hiX0 : ∀ w ∈ wsX00, w ∈ wsX0_has := by decide +kernel
  refine lv_iload_n hx hb dX0_has_0 rfl (lv_at hl 1 rfl) ?_
  refine lv_if_lt (tgt := 26) hx hb dX0_has_1 (by decide) (fun c1 => ?_) (fun c1 => ?_)
  · skip
    refine lv_iconst (v := 0) hx hb dX0_has_26 (by decide) ?_
    exact ct_zret hx hb hr hlocks (rfl) ((b2i_f (fun h => by first | exact h.1 c1 | exact c1 h.1)).symm) (rfl) hP hD hS dX0_has_27
  · skip
    refine lv_iload_n hx hb dX0_has_4 rfl (lv_at hl 1 rfl) ?_
    refine lv_aload_n hx hb dX0_has_5 rfl (lv_at hl 0 rfl) ?_
    refine va_get (D := D) (cl := vwCl) (ci := 0) (v := .int (nI a)) (C := RX0) (T := TX0) (N := 2) hx hb hts hiX0 hown hK hP 0 rfl rfl 0 (by decide) hk0 (fun _ h9 => h9) rfl dX0_has_6 ?_
    refine lv_icmp_ge (tgt := 26) hx hb dX0_has_9 (by decide) (fun c9 => ?_) (fun c9 => ?_)
    · skip
      refine lv_iconst (v := 0) hx hb dX0_has_26 (by decide) ?_
      exact ct_zret hx hb hr hlocks (rfl) ((b2i_f (fun h => by first | exact h.2.1 c9 | exact c9 h.2.1)).symm) (rfl) hP hD hS dX0_has_27
    · skip
      refine lv_iload_n hx hb dX0_has_12 rfl (lv_at hl 2 rfl) ?_
      refine lv_if_lt (tgt := 26) hx hb dX0_has_13 (by decide) (fun c13 => ?_) (fun c13 => ?_)
      · skip
        refine lv_iconst (v := 0) hx hb dX0_has_26 (by decide) ?_
        exact ct_zret hx hb hr hlocks (rfl) ((b2i_f (fun h => by first | exact h.2.2.1 c13 | exact c13 h.2.2.1)).symm) (rfl) hP hD hS dX0_has_27
      · skip
        refine lv_iload_n hx hb dX0_has_16 rfl (lv_at hl 2 rfl) ?_
        refine lv_bipush (v := 48) hx hb dX0_has_17 (by decide) ?_
        refine lv_icmp_ge (tgt := 26) hx hb dX0_has_19 (by decide) (fun c19 => ?_) (fun c19 => ?_)
        · skip
          refine lv_iconst (v := 0) hx hb dX0_has_26 (by decide) ?_
          exact ct_zret hx hb hr hlocks (rfl) ((b2i_f (fun h => by first | exact h.2.2.2 c19 | exact c19 h.2.2.2)).symm) (rfl) hP hD hS dX0_has_27
        · skip
          refine lv_iconst (v := 1) hx hb dX0_has_22 (by decide) ?_
          refine lv_goto (tgt := 27) hx hb dX0_has_23 (by decide) ?_
          exact ct_zret hx hb hr hlocks (rfl) ((b2i_t ⟨c1, c9, c13, c19⟩).symm) (rfl) hP hD hS dX0_has_27
set_option maxHeartbeats 4000000 in
set_option maxRecDepth 100000 in
theorem c_X0_at (l : Launch) (D : va_G) (cI cZ : ClassId) (hd hB a q i : Nat) (f : Nat → Int32) (h1 : q < a) (h2 : i < 48) (ha : a ≤ 120) : CtI l yX0_at wsX0_at ({ frames := 0, cells := 0, slots := 0, locals := 0 }) D vwCl (ct_T cI cZ) [.ref hd, .int (nI q), .int (nI i)] [(hd, .inr (0, [.int (nI a), .ref hB])), (hB, .inl (cI, a * 48, .inl f))] [(hd, .inr (0, [.int (nI a), .ref hB])), (hB, .inl (cI, a * 48, .inl f))] (f (q * 48 + i)) := by
  refine ct_of (Qf := ct_Qi D vwCl [(hd, .inr (0, [.int (nI a), .ref hB])), (hB, .inl (cI, a * 48, .inl f))] (f (q * 48 + i))) (cc := cX0_at) (maxL := 3) (ret := (some .int)) [(0, .ref hd), (1, .int (nI q)), (2, .int (nI i))] (by decide) rfl (Nat.le_of_ble_eq_true rfl) rfl ?_
  intro p e s m below meth c hx hb hr hts hown hlocks hml hnm A hA hK hN hP hD hS ls hl
  have hown : s.vm.findClass RX0 = some m.cls := hown
  have hk0 := hts (.fieldLink RX0 15 "DesignPages$Pages" "bytes" "[I") (by decide +kernel)
  have hiX0 : ∀ w ∈ wsX00, w ∈ wsX0_at := by decide +kernel
  refine lv_aload_n hx hb dX0_at_0 rfl (lv_at hl 0 rfl) ?_
  refine va_get (D := D) (cl := vwCl) (ci := 0) (v := .ref hB) (C := RX0) (T := TX0) (N := 2) hx hb hts hiX0 hown hK hP 0 rfl rfl 1 (by decide) hk0 (fun _ h9 => h9) rfl dX0_at_1 ?_
  refine lv_iload_n hx hb dX0_at_4 rfl (lv_at hl 1 rfl) ?_
  refine lv_bipush (v := 48) hx hb dX0_at_5 (by decide) ?_
  refine lv_imul hx hb dX0_at_7 ?_
  refine ct_top (y := nI (q * 48)) (pk_mul q 48) ?_
  refine lv_iload_n hx hb dX0_at_8 rfl (lv_at hl 2 rfl) ?_
  refine lv_iadd hx hb dX0_at_9 ?_
  refine ct_top (y := nI ((q * 48) + i)) (nI_add (q * 48) i) ?_
  refine ct_iald hx hb hK hP 1 0 (k := ((q * 48) + i)) rfl rfl (by omega) (by omega) dX0_at_10 ?_
  exact ct_iret hx hb hr hlocks (rfl) (rfl) hP hD hS dX0_at_11
set_option maxHeartbeats 4000000 in
set_option maxRecDepth 100000 in
theorem c_X0_set (l : Launch) (D : va_G) (cI cZ : ClassId) (hd hB a q i : Nat) (x : Int32) (f : Nat → Int32) (h1 : q < a) (h2 : i < 48) (ha : a ≤ 120) : CtV l yX0_set wsX0_set ({ frames := 0, cells := 0, slots := 0, locals := 0 }) D vwCl (ct_T cI cZ) [.ref hd, .int (nI q), .int (nI i), .int x] [(hd, .inr (0, [.int (nI a), .ref hB])), (hB, .inl (cI, a * 48, .inl f))] [(hd, .inr (0, [.int (nI a), .ref hB])), (hB, .inl (cI, a * 48, .inl (upd f (q * 48 + i) x)))] := by
  refine ct_of (Qf := ct_Qv D vwCl [(hd, .inr (0, [.int (nI a), .ref hB])), (hB, .inl (cI, a * 48, .inl (upd f (q * 48 + i) x)))]) (cc := cX0_set) (maxL := 4) (ret := none) [(0, .ref hd), (1, .int (nI q)), (2, .int (nI i)), (3, .int x)] (by decide) rfl (Nat.le_of_ble_eq_true rfl) rfl ?_
  intro p e s m below meth c hx hb hr hts hown hlocks hml hnm A hA hK hN hP hD hS ls hl
  have hown : s.vm.findClass RX0 = some m.cls := hown
  have hk0 := hts (.fieldLink RX0 15 "DesignPages$Pages" "bytes" "[I") (by decide +kernel)
  have hiX0 : ∀ w ∈ wsX00, w ∈ wsX0_set := by decide +kernel
  refine lv_aload_n hx hb dX0_set_0 rfl (lv_at hl 0 rfl) ?_
  refine va_get (D := D) (cl := vwCl) (ci := 0) (v := .ref hB) (C := RX0) (T := TX0) (N := 2) hx hb hts hiX0 hown hK hP 0 rfl rfl 1 (by decide) hk0 (fun _ h9 => h9) rfl dX0_set_1 ?_
  refine lv_iload_n hx hb dX0_set_4 rfl (lv_at hl 1 rfl) ?_
  refine lv_bipush (v := 48) hx hb dX0_set_5 (by decide) ?_
  refine lv_imul hx hb dX0_set_7 ?_
  refine ct_top (y := nI (q * 48)) (pk_mul q 48) ?_
  refine lv_iload_n hx hb dX0_set_8 rfl (lv_at hl 2 rfl) ?_
  refine lv_iadd hx hb dX0_set_9 ?_
  refine ct_top (y := nI ((q * 48) + i)) (nI_add (q * 48) i) ?_
  refine lv_iload_n hx hb dX0_set_10 rfl (lv_at hl 3 rfl) ?_
  refine ct_iast hx hb hK hP hD hS 1 0 (k := ((q * 48) + i)) (x := x) rfl rfl (by omega) (by omega) dX0_set_11 (fun H locs hP hD hS => ?_)
  have hP : va_P D vwCl [(hd, .inr (0, [.int (nI a), .ref hB])), (hB, .inl (cI, a * 48, .inl (upd f ((q * 48) + i) x)))] _ := hP
  have hD : va_D A [(hd, .inr (0, [.int (nI a), .ref hB])), (hB, .inl (cI, a * 48, .inl (upd f ((q * 48) + i) x)))] := hD
  exact ct_vret hx hb hr hlocks (rfl) hP hD hS dX0_set_12
set_option maxHeartbeats 4000000 in
set_option maxRecDepth 100000 in
theorem c_X0_numberAt (l : Launch) (D : va_G) (cI cZ : ClassId) (hd hB a q i : Nat) (f : Nat → Int32) (h1 : q < a) (h2 : i + 3 < 48) (ha : a ≤ 120) : CtI l yX0_numberAt wsX0_numberAt ({ frames := 0, cells := 0, slots := 0, locals := 0 }) D vwCl (ct_T cI cZ) [.ref hd, .int (nI q), .int (nI i)] [(hd, .inr (0, [.int (nI a), .ref hB])), (hB, .inl (cI, a * 48, .inl f))] [(hd, .inr (0, [.int (nI a), .ref hB])), (hB, .inl (cI, a * 48, .inl f))] (pg_num f (q * 48 + i)) := by
  refine ct_of (Qf := ct_Qi D vwCl [(hd, .inr (0, [.int (nI a), .ref hB])), (hB, .inl (cI, a * 48, .inl f))] (pg_num f (q * 48 + i))) (cc := cX0_numberAt) (maxL := 4) (ret := (some .int)) [(0, .ref hd), (1, .int (nI q)), (2, .int (nI i))] (by decide) rfl (Nat.le_of_ble_eq_true rfl) rfl ?_
  intro p e s m below meth c hx hb hr hts hown hlocks hml hnm A hA hK hN hP hD hS ls hl
  have hown : s.vm.findClass RX0 = some m.cls := hown
  have hk0 := hts (.fieldLink RX0 15 "DesignPages$Pages" "bytes" "[I") (by decide +kernel)
  have hiX0 : ∀ w ∈ wsX00, w ∈ wsX0_numberAt := by decide +kernel
  refine lv_iload_n hx hb dX0_numberAt_0 rfl (lv_at hl 1 rfl) ?_
  refine lv_bipush (v := 48) hx hb dX0_numberAt_1 (by decide) ?_
  refine lv_imul hx hb dX0_numberAt_3 ?_
  refine ct_top (y := nI (q * 48)) (pk_mul q 48) ?_
  refine lv_iload_n hx hb dX0_numberAt_4 rfl (lv_at hl 2 rfl) ?_
  refine lv_iadd hx hb dX0_numberAt_5 ?_
  refine ct_top (y := nI ((q * 48) + i)) (nI_add (q * 48) i) ?_
  refine lv_istore_n (lv' := [(3, .int (nI ((q * 48) + i))), (0, .ref hd), (1, .int (nI q)), (2, .int (nI i))]) hx hb dX0_numberAt_6 rfl hl (by decide) rfl (fun ls hl => ?_)
  refine lv_aload_n hx hb dX0_numberAt_7 rfl (lv_at hl 1 rfl) ?_
  refine va_get (D := D) (cl := vwCl) (ci := 0) (v := .ref hB) (C := RX0) (T := TX0) (N := 2) hx hb hts hiX0 hown hK hP 0 rfl rfl 1 (by decide) hk0 (fun _ h9 => h9) rfl dX0_numberAt_8 ?_
  refine lv_iload_n hx hb dX0_numberAt_11 rfl (lv_at hl 0 rfl) ?_
  refine ct_iald hx hb hK hP 1 0 (k := ((q * 48) + i)) rfl rfl (by omega) (by omega) dX0_numberAt_12 ?_
  refine lv_bipush (v := 24) hx hb dX0_numberAt_13 (by decide) ?_
  refine lv_ishl hx hb dX0_numberAt_15 ?_
  refine lv_aload_n hx hb dX0_numberAt_16 rfl (lv_at hl 1 rfl) ?_
  refine va_get (D := D) (cl := vwCl) (ci := 0) (v := .ref hB) (C := RX0) (T := TX0) (N := 2) hx hb hts hiX0 hown hK hP 0 rfl rfl 1 (by decide) hk0 (fun _ h9 => h9) rfl dX0_numberAt_17 ?_
  refine lv_iload_n hx hb dX0_numberAt_20 rfl (lv_at hl 0 rfl) ?_
  refine lv_iconst (v := 1) hx hb dX0_numberAt_21 (by decide) ?_
  refine lv_iadd hx hb dX0_numberAt_22 ?_
  refine ct_top (y := nI (((q * 48) + i) + 1)) (nI_add ((q * 48) + i) 1) ?_
  refine ct_iald hx hb hK hP 1 0 (k := (((q * 48) + i) + 1)) rfl rfl (by omega) (by omega) dX0_numberAt_23 ?_
  refine lv_bipush (v := 16) hx hb dX0_numberAt_24 (by decide) ?_
  refine lv_ishl hx hb dX0_numberAt_26 ?_
  refine lv_ior hx hb dX0_numberAt_27 ?_
  refine lv_aload_n hx hb dX0_numberAt_28 rfl (lv_at hl 1 rfl) ?_
  refine va_get (D := D) (cl := vwCl) (ci := 0) (v := .ref hB) (C := RX0) (T := TX0) (N := 2) hx hb hts hiX0 hown hK hP 0 rfl rfl 1 (by decide) hk0 (fun _ h9 => h9) rfl dX0_numberAt_29 ?_
  refine lv_iload_n hx hb dX0_numberAt_32 rfl (lv_at hl 0 rfl) ?_
  refine lv_iconst (v := 2) hx hb dX0_numberAt_33 (by decide) ?_
  refine lv_iadd hx hb dX0_numberAt_34 ?_
  refine ct_top (y := nI (((q * 48) + i) + 2)) (nI_add ((q * 48) + i) 2) ?_
  refine ct_iald hx hb hK hP 1 0 (k := (((q * 48) + i) + 2)) rfl rfl (by omega) (by omega) dX0_numberAt_35 ?_
  refine lv_bipush (v := 8) hx hb dX0_numberAt_36 (by decide) ?_
  refine lv_ishl hx hb dX0_numberAt_38 ?_
  refine lv_ior hx hb dX0_numberAt_39 ?_
  refine lv_aload_n hx hb dX0_numberAt_40 rfl (lv_at hl 1 rfl) ?_
  refine va_get (D := D) (cl := vwCl) (ci := 0) (v := .ref hB) (C := RX0) (T := TX0) (N := 2) hx hb hts hiX0 hown hK hP 0 rfl rfl 1 (by decide) hk0 (fun _ h9 => h9) rfl dX0_numberAt_41 ?_
  refine lv_iload_n hx hb dX0_numberAt_44 rfl (lv_at hl 0 rfl) ?_
  refine lv_iconst (v := 3) hx hb dX0_numberAt_45 (by decide) ?_
  refine lv_iadd hx hb dX0_numberAt_46 ?_
  refine ct_top (y := nI (((q * 48) + i) + 3)) (nI_add ((q * 48) + i) 3) ?_
  refine ct_iald hx hb hK hP 1 0 (k := (((q * 48) + i) + 3)) rfl rfl (by omega) (by omega) dX0_numberAt_47 ?_
  refine lv_ior hx hb dX0_numberAt_48 ?_
  exact ct_iret hx hb hr hlocks (rfl) (rfl) hP hD hS dX0_numberAt_49
set_option maxHeartbeats 4000000 in
set_option maxRecDepth 100000 in
theorem c_X0_setNumber (l : Launch) (D : va_G) (cI cZ : ClassId) (hd hB a q i : Nat) (x : Int32) (f : Nat → Int32) (h1 : q < a) (h2 : i + 3 < 48) (ha : a ≤ 120) : CtV l yX0_setNumber wsX0_setNumber ({ frames := 0, cells := 0, slots := 0, locals := 0 }) D vwCl (ct_T cI cZ) [.ref hd, .int (nI q), .int (nI i), .int x] [(hd, .inr (0, [.int (nI a), .ref hB])), (hB, .inl (cI, a * 48, .inl f))] [(hd, .inr (0, [.int (nI a), .ref hB])), (hB, .inl (cI, a * 48, .inl (pg_setn f (q * 48 + i) x)))] := by
  refine ct_of (Qf := ct_Qv D vwCl [(hd, .inr (0, [.int (nI a), .ref hB])), (hB, .inl (cI, a * 48, .inl (pg_setn f (q * 48 + i) x)))]) (cc := cX0_setNumber) (maxL := 5) (ret := none) [(0, .ref hd), (1, .int (nI q)), (2, .int (nI i)), (3, .int x)] (by decide) rfl (Nat.le_of_ble_eq_true rfl) rfl ?_
  intro p e s m below meth c hx hb hr hts hown hlocks hml hnm A hA hK hN hP hD hS ls hl
  have hown : s.vm.findClass RX0 = some m.cls := hown
  have hk0 := hts (.fieldLink RX0 15 "DesignPages$Pages" "bytes" "[I") (by decide +kernel)
  have hiX0 : ∀ w ∈ wsX00, w ∈ wsX0_setNumber := by decide +kernel
  refine lv_iload_n hx hb dX0_setNumber_0 rfl (lv_at hl 1 rfl) ?_
  refine lv_bipush (v := 48) hx hb dX0_setNumber_1 (by decide) ?_
  refine lv_imul hx hb dX0_setNumber_3 ?_
  refine ct_top (y := nI (q * 48)) (pk_mul q 48) ?_
  refine lv_iload_n hx hb dX0_setNumber_4 rfl (lv_at hl 2 rfl) ?_
  refine lv_iadd hx hb dX0_setNumber_5 ?_
  refine ct_top (y := nI ((q * 48) + i)) (nI_add (q * 48) i) ?_
  refine lv_istore (lv' := [(4, .int (nI ((q * 48) + i))), (0, .ref hd), (1, .int (nI q)), (2, .int (nI i)), (3, .int x)]) hx hb dX0_setNumber_6 hl (by decide) rfl (fun ls hl => ?_)
  refine lv_aload_n hx hb dX0_setNumber_8 rfl (lv_at hl 1 rfl) ?_
  refine va_get (D := D) (cl := vwCl) (ci := 0) (v := .ref hB) (C := RX0) (T := TX0) (N := 2) hx hb hts hiX0 hown hK hP 0 rfl rfl 1 (by decide) hk0 (fun _ h9 => h9) rfl dX0_setNumber_9 ?_
  refine lv_iload hx hb dX0_setNumber_12 (lv_at hl 0 rfl) ?_
  refine lv_iload_n hx hb dX0_setNumber_14 rfl (lv_at hl 4 rfl) ?_
  refine lv_bipush (v := 24) hx hb dX0_setNumber_15 (by decide) ?_
  refine lv_iushr hx hb dX0_setNumber_17 rfl ?_
  refine ct_iast hx hb hK hP hD hS 1 0 (k := ((q * 48) + i)) (x := ((Int32.toUInt32 x >>> (Int32.toUInt32 24 &&& Int32.toUInt32 31)).toInt32)) rfl rfl (by omega) (by omega) dX0_setNumber_18 (fun H locs hP hD hS => ?_)
  have hP : va_P D vwCl [(hd, .inr (0, [.int (nI a), .ref hB])), (hB, .inl (cI, a * 48, .inl (upd f ((q * 48) + i) ((Int32.toUInt32 x >>> (Int32.toUInt32 24 &&& Int32.toUInt32 31)).toInt32))))] _ := hP
  have hD : va_D A [(hd, .inr (0, [.int (nI a), .ref hB])), (hB, .inl (cI, a * 48, .inl (upd f ((q * 48) + i) ((Int32.toUInt32 x >>> (Int32.toUInt32 24 &&& Int32.toUInt32 31)).toInt32))))] := hD
  refine lv_aload_n hx hb dX0_setNumber_19 rfl (lv_at hl 1 rfl) ?_
  refine va_get (D := D) (cl := vwCl) (ci := 0) (v := .ref hB) (C := RX0) (T := TX0) (N := 2) hx hb hts hiX0 hown hK hP 0 rfl rfl 1 (by decide) hk0 (fun _ h9 => h9) rfl dX0_setNumber_20 ?_
  refine lv_iload hx hb dX0_setNumber_23 (lv_at hl 0 rfl) ?_
  refine lv_iconst (v := 1) hx hb dX0_setNumber_25 (by decide) ?_
  refine lv_iadd hx hb dX0_setNumber_26 ?_
  refine ct_top (y := nI (((q * 48) + i) + 1)) (nI_add ((q * 48) + i) 1) ?_
  refine lv_iload_n hx hb dX0_setNumber_27 rfl (lv_at hl 4 rfl) ?_
  refine lv_bipush (v := 16) hx hb dX0_setNumber_28 (by decide) ?_
  refine lv_iushr hx hb dX0_setNumber_30 rfl ?_
  refine lv_sipush (v := 255) hx hb dX0_setNumber_31 (by decide) ?_
  refine lv_iand hx hb dX0_setNumber_34 ?_
  refine ct_iast hx hb hK hP hD hS 1 0 (k := (((q * 48) + i) + 1)) (x := (((Int32.toUInt32 x >>> (Int32.toUInt32 16 &&& Int32.toUInt32 31)).toInt32) &&& 255)) rfl rfl (by omega) (by omega) dX0_setNumber_35 (fun H locs hP hD hS => ?_)
  have hP : va_P D vwCl [(hd, .inr (0, [.int (nI a), .ref hB])), (hB, .inl (cI, a * 48, .inl (upd (upd f ((q * 48) + i) ((Int32.toUInt32 x >>> (Int32.toUInt32 24 &&& Int32.toUInt32 31)).toInt32)) (((q * 48) + i) + 1) (((Int32.toUInt32 x >>> (Int32.toUInt32 16 &&& Int32.toUInt32 31)).toInt32) &&& 255))))] _ := hP
  have hD : va_D A [(hd, .inr (0, [.int (nI a), .ref hB])), (hB, .inl (cI, a * 48, .inl (upd (upd f ((q * 48) + i) ((Int32.toUInt32 x >>> (Int32.toUInt32 24 &&& Int32.toUInt32 31)).toInt32)) (((q * 48) + i) + 1) (((Int32.toUInt32 x >>> (Int32.toUInt32 16 &&& Int32.toUInt32 31)).toInt32) &&& 255))))] := hD
  refine lv_aload_n hx hb dX0_setNumber_36 rfl (lv_at hl 1 rfl) ?_
  refine va_get (D := D) (cl := vwCl) (ci := 0) (v := .ref hB) (C := RX0) (T := TX0) (N := 2) hx hb hts hiX0 hown hK hP 0 rfl rfl 1 (by decide) hk0 (fun _ h9 => h9) rfl dX0_setNumber_37 ?_
  refine lv_iload hx hb dX0_setNumber_40 (lv_at hl 0 rfl) ?_
  refine lv_iconst (v := 2) hx hb dX0_setNumber_42 (by decide) ?_
  refine lv_iadd hx hb dX0_setNumber_43 ?_
  refine ct_top (y := nI (((q * 48) + i) + 2)) (nI_add ((q * 48) + i) 2) ?_
  refine lv_iload_n hx hb dX0_setNumber_44 rfl (lv_at hl 4 rfl) ?_
  refine lv_bipush (v := 8) hx hb dX0_setNumber_45 (by decide) ?_
  refine lv_iushr hx hb dX0_setNumber_47 rfl ?_
  refine lv_sipush (v := 255) hx hb dX0_setNumber_48 (by decide) ?_
  refine lv_iand hx hb dX0_setNumber_51 ?_
  refine ct_iast hx hb hK hP hD hS 1 0 (k := (((q * 48) + i) + 2)) (x := (((Int32.toUInt32 x >>> (Int32.toUInt32 8 &&& Int32.toUInt32 31)).toInt32) &&& 255)) rfl rfl (by omega) (by omega) dX0_setNumber_52 (fun H locs hP hD hS => ?_)
  have hP : va_P D vwCl [(hd, .inr (0, [.int (nI a), .ref hB])), (hB, .inl (cI, a * 48, .inl (upd (upd (upd f ((q * 48) + i) ((Int32.toUInt32 x >>> (Int32.toUInt32 24 &&& Int32.toUInt32 31)).toInt32)) (((q * 48) + i) + 1) (((Int32.toUInt32 x >>> (Int32.toUInt32 16 &&& Int32.toUInt32 31)).toInt32) &&& 255)) (((q * 48) + i) + 2) (((Int32.toUInt32 x >>> (Int32.toUInt32 8 &&& Int32.toUInt32 31)).toInt32) &&& 255))))] _ := hP
  have hD : va_D A [(hd, .inr (0, [.int (nI a), .ref hB])), (hB, .inl (cI, a * 48, .inl (upd (upd (upd f ((q * 48) + i) ((Int32.toUInt32 x >>> (Int32.toUInt32 24 &&& Int32.toUInt32 31)).toInt32)) (((q * 48) + i) + 1) (((Int32.toUInt32 x >>> (Int32.toUInt32 16 &&& Int32.toUInt32 31)).toInt32) &&& 255)) (((q * 48) + i) + 2) (((Int32.toUInt32 x >>> (Int32.toUInt32 8 &&& Int32.toUInt32 31)).toInt32) &&& 255))))] := hD
  refine lv_aload_n hx hb dX0_setNumber_53 rfl (lv_at hl 1 rfl) ?_
  refine va_get (D := D) (cl := vwCl) (ci := 0) (v := .ref hB) (C := RX0) (T := TX0) (N := 2) hx hb hts hiX0 hown hK hP 0 rfl rfl 1 (by decide) hk0 (fun _ h9 => h9) rfl dX0_setNumber_54 ?_
  refine lv_iload hx hb dX0_setNumber_57 (lv_at hl 0 rfl) ?_
  refine lv_iconst (v := 3) hx hb dX0_setNumber_59 (by decide) ?_
  refine lv_iadd hx hb dX0_setNumber_60 ?_
  refine ct_top (y := nI (((q * 48) + i) + 3)) (nI_add ((q * 48) + i) 3) ?_
  refine lv_iload_n hx hb dX0_setNumber_61 rfl (lv_at hl 4 rfl) ?_
  refine lv_sipush (v := 255) hx hb dX0_setNumber_62 (by decide) ?_
  refine lv_iand hx hb dX0_setNumber_65 ?_
  refine ct_iast hx hb hK hP hD hS 1 0 (k := (((q * 48) + i) + 3)) (x := (x &&& 255)) rfl rfl (by omega) (by omega) dX0_setNumber_66 (fun H locs hP hD hS => ?_)
  have hP : va_P D vwCl [(hd, .inr (0, [.int (nI a), .ref hB])), (hB, .inl (cI, a * 48, .inl (upd (upd (upd (upd f ((q * 48) + i) ((Int32.toUInt32 x >>> (Int32.toUInt32 24 &&& Int32.toUInt32 31)).toInt32)) (((q * 48) + i) + 1) (((Int32.toUInt32 x >>> (Int32.toUInt32 16 &&& Int32.toUInt32 31)).toInt32) &&& 255)) (((q * 48) + i) + 2) (((Int32.toUInt32 x >>> (Int32.toUInt32 8 &&& Int32.toUInt32 31)).toInt32) &&& 255)) (((q * 48) + i) + 3) (x &&& 255))))] _ := hP
  have hD : va_D A [(hd, .inr (0, [.int (nI a), .ref hB])), (hB, .inl (cI, a * 48, .inl (upd (upd (upd (upd f ((q * 48) + i) ((Int32.toUInt32 x >>> (Int32.toUInt32 24 &&& Int32.toUInt32 31)).toInt32)) (((q * 48) + i) + 1) (((Int32.toUInt32 x >>> (Int32.toUInt32 16 &&& Int32.toUInt32 31)).toInt32) &&& 255)) (((q * 48) + i) + 2) (((Int32.toUInt32 x >>> (Int32.toUInt32 8 &&& Int32.toUInt32 31)).toInt32) &&& 255)) (((q * 48) + i) + 3) (x &&& 255))))] := hD
  exact ct_vret hx hb hr hlocks (rfl) hP hD hS dX0_setNumber_67
set_option maxHeartbeats 4000000 in
set_option maxRecDepth 100000 in
theorem c_X0_sumOf (l : Launch) (D : va_G) (cI cZ : ClassId) (hd hB a q : Nat) (f : Nat → Int32) (h1 : q < a) (ha : a ≤ 120) : CtI l yX0_sumOf wsX0_sumOf ({ frames := 1, cells := 0, slots := 0, locals := 22 }) D vwCl (ct_T cI cZ) [.ref hd, .int (nI q)] [(hd, .inr (0, [.int (nI a), .ref hB])), (hB, .inl (cI, a * 48, .inl f))] [(hd, .inr (0, [.int (nI a), .ref hB])), (hB, .inl (cI, a * 48, .inl f))] (pg_sum f (q * 48) 44) := by
  refine ct_of (Qf := ct_Qi D vwCl [(hd, .inr (0, [.int (nI a), .ref hB])), (hB, .inl (cI, a * 48, .inl f))] (pg_sum f (q * 48) 44)) (cc := cX0_sumOf) (maxL := 5) (ret := (some .int)) [(0, .ref hd), (1, .int (nI q))] (by decide) rfl (Nat.le_of_ble_eq_true rfl) rfl ?_
  intro p e s m below meth c hx hb hr hts hown hlocks hml hnm A hA hK hN hP hD hS ls hl
  have hown : s.vm.findClass RX0 = some m.cls := hown
  have hk0 := hts (.constant RX0 57 (668265263)) (by decide +kernel)
  refine lv_iconst (v := 0) hx hb dX0_sumOf_0 (by decide) ?_
  refine lv_istore_n (lv' := [(2, .int 0), (0, .ref hd), (1, .int (nI q))]) hx hb dX0_sumOf_1 rfl hl (by decide) rfl (fun ls hl => ?_)
  refine lv_iconst (v := 0) hx hb dX0_sumOf_2 (by decide) ?_
  refine lv_istore_n (lv' := [(3, .int 0), (2, .int 0), (0, .ref hd), (1, .int (nI q))]) hx hb dX0_sumOf_3 rfl hl (by decide) rfl (fun ls hl => ?_)
  have loop4 : ∀ (n4 : Nat) (i : Nat) (x : Int32), i ≤ 44 → x = pg_sum f (q * 48) i → 44 - i < n4 → ∀ (H : Heap) (locs : List Loc), va_P D vwCl [(hd, .inr (0, [.int (nI a), .ref hB])), (hB, .inl (cI, a * 48, .inl f))] H → va_D A [(hd, .inr (0, [.int (nI a), .ref hB])), (hB, .inl (cI, a * 48, .inl f))] → va_S A s.heap H locs → ∀ (ls : Array Slot), lv_has ls 5 [(3, .int (nI i)), (2, .int x), (0, .ref hd), (1, .int (nI q))] → W p l e ({ frames := 1, cells := 0, slots := 0, locals := 22 }) s m ([.ref hd, .int (nI q)] : List Value).toArray below meth c H locs 0 0 (MQ below (ct_Qi D vwCl [(hd, .inr (0, [.int (nI a), .ref hB])), (hB, .inl (cI, a * 48, .inl f))] (pg_sum f (q * 48) 44) A) ([.ref hd, .int (nI q)] : List Value).toArray s 0 0 A) (F0 m 4 ls []) := by
    intro n4
    induction n4 with
    | zero =>
      intro i x _ _ hm
      exact absurd hm (Nat.not_lt_zero _)
    | succ n4 ih4 =>
      intro i x hi ex hm4 H locs hP hD hS ls hl
      refine lv_iload_n hx hb dX0_sumOf_4 rfl (lv_at hl 0 rfl) ?_
      refine lv_bipush (v := 44) hx hb dX0_sumOf_5 (by decide) ?_
      refine lv_icmp_ge (tgt := 41) hx hb dX0_sumOf_7 (by decide) (fun c7 => ?_) (fun c7 => ?_)
      · skip
        have c7 : 44 ≤ i := (nI_leI (a := 44) (b := i) (by omega) (by omega)).mp c7
        refine lv_iload_n hx hb dX0_sumOf_41 rfl (lv_at hl 1 rfl) ?_
        exact ct_iret hx hb hr hlocks (by have e1 : i = 44 := (by omega); subst e1; exact ex) (rfl) hP hD hS dX0_sumOf_42
      · skip
        have c7 : ¬ 44 ≤ i := fun h => c7 ((nI_leI (a := 44) (b := i) (by omega) (by omega)).mpr h)
        refine lv_iload_n hx hb dX0_sumOf_10 rfl (lv_at hl 1 rfl) ?_
        refine lv_aload_n hx hb dX0_sumOf_11 rfl (lv_at hl 2 rfl) ?_
        refine lv_iload_n hx hb dX0_sumOf_12 rfl (lv_at hl 3 rfl) ?_
        refine lv_iload_n hx hb dX0_sumOf_13 rfl (lv_at hl 0 rfl) ?_
        refine ct_calli (w := [(hd, .inr (0, [.int (nI a), .ref hB])), (hB, .inl (cI, a * 48, .inl f))]) (w' := [(hd, .inr (0, [.int (nI a), .ref hB])), (hB, .inl (cI, a * 48, .inl f))]) (va_runV (As := [.int (nI q), .int (nI i)]) (rest := [.int x]) ⟨hx, hb, hml, hown, hts⟩ (c_X0_at l D cI cZ hd hB a q i f (by omega) (by omega) (by omega) _) (cwV 2 hts gX0_sumOf_X0_at rfl rfl rfl (by decide +kernel) ⟨Nat.le_of_ble_eq_true rfl, Nat.le_of_ble_eq_true rfl⟩) (ct_preV (w := [(hd, .inr (0, [.int (nI a), .ref hB])), (hB, .inl (cI, a * 48, .inl f))]) (ci := 0) (i0 := 0) hK hN hP hD [0, 1] (by decide) rfl rfl rfl) rfl rfl hl.1 rfl (lv_room (Nat.le_of_ble_eq_true rfl)) dX0_sumOf_14 ⟨Nat.le_of_ble_eq_true rfl, Nat.le_of_ble_eq_true rfl⟩) hP hD hS hA [0, 1] rfl [hd, hB] rfl rfl (fun H locs hP hD hS => ?_)
        have hP : va_P D vwCl [(hd, .inr (0, [.int (nI a), .ref hB])), (hB, .inl (cI, a * 48, .inl f))] _ := hP
        have hD : va_D A [(hd, .inr (0, [.int (nI a), .ref hB])), (hB, .inl (cI, a * 48, .inl f))] := hD
        refine lv_ixor hx hb dX0_sumOf_17 ?_
        refine lv_istore (lv' := [(4, .int (x ^^^ (f (q * 48 + i)))), (3, .int (nI i)), (2, .int x), (0, .ref hd), (1, .int (nI q))]) hx hb dX0_sumOf_18 hl (by decide) rfl (fun ls hl => ?_)
        refine lv_iload hx hb dX0_sumOf_20 (lv_at hl 0 rfl) ?_
        refine lv_bipush (v := 9) hx hb dX0_sumOf_22 (by decide) ?_
        refine lv_ishl hx hb dX0_sumOf_24 ?_
        refine lv_iload hx hb dX0_sumOf_25 (lv_at hl 0 rfl) ?_
        refine lv_bipush (v := 23) hx hb dX0_sumOf_27 (by decide) ?_
        refine lv_iushr hx hb dX0_sumOf_29 rfl ?_
        refine lv_ior hx hb dX0_sumOf_30 ?_
        refine lv_ldc (v := 668265263) hx hb hown hk0 dX0_sumOf_31 ?_
        refine lv_imul hx hb dX0_sumOf_33 ?_
        refine lv_istore_n (lv' := [(2, .int ((((x ^^^ (f (q * 48 + i))) <<< (9 &&& 31)) ||| ((Int32.toUInt32 (x ^^^ (f (q * 48 + i))) >>> (Int32.toUInt32 23 &&& Int32.toUInt32 31)).toInt32)) * 668265263)), (4, .int (x ^^^ (f (q * 48 + i)))), (3, .int (nI i)), (0, .ref hd), (1, .int (nI q))]) hx hb dX0_sumOf_34 rfl hl (by decide) rfl (fun ls hl => ?_)
        refine lv_iinc (v := nI (i + 1)) (lv' := [(3, .int (nI (i + 1))), (2, .int ((((x ^^^ (f (q * 48 + i))) <<< (9 &&& 31)) ||| ((Int32.toUInt32 (x ^^^ (f (q * 48 + i))) >>> (Int32.toUInt32 23 &&& Int32.toUInt32 31)).toInt32)) * 668265263)), (4, .int (x ^^^ (f (q * 48 + i)))), (0, .ref hd), (1, .int (nI q))]) hx hb dX0_sumOf_35 hl (k := 2) rfl (nI_add i 1) (by decide) rfl (fun ls hl => ?_)
        refine lv_goto (tgt := 4) hx hb dX0_sumOf_38 (by decide) ?_
        exact ih4 (i + 1) ((((x ^^^ (f (q * 48 + i))) <<< (9 &&& 31)) ||| ((Int32.toUInt32 (x ^^^ (f (q * 48 + i))) >>> (Int32.toUInt32 23 &&& Int32.toUInt32 31)).toInt32)) * 668265263) (by omega) (by subst ex; rfl) (by omega) _ _ hP hD hS ls (lv_sub hl [0, 1, 3, 4] rfl)
  exact loop4 _ 0 0 (by omega) (rfl) (Nat.lt_succ_self _) _ _ hP hD hS ls (lv_sub hl [0, 1, 2, 3] rfl)
set_option maxHeartbeats 4000000 in
set_option maxRecDepth 100000 in
theorem c_X0_pagesTold (l : Launch) (D : va_G) (cI cZ : ClassId) (hd hB a q st n : Nat) (f : Nat → Int32) (h1 : q < a) (h2 : st + n ≤ 48) (ha : a ≤ 120) : CtI l yX0_pagesTold wsX0_pagesTold ({ frames := 1, cells := 0, slots := 0, locals := 22 }) D vwCl (ct_T cI cZ) [.ref hd, .int (nI q), .int (nI st), .int (nI n)] [(hd, .inr (0, [.int (nI a), .ref hB])), (hB, .inl (cI, a * 48, .inl f))] [(hd, .inr (0, [.int (nI a), .ref hB])), (hB, .inl (cI, a * 48, .inl f))] (nI (pg_told f (q * 48 + st) n)) := by
  refine ct_of (Qf := ct_Qi D vwCl [(hd, .inr (0, [.int (nI a), .ref hB])), (hB, .inl (cI, a * 48, .inl f))] (nI (pg_told f (q * 48 + st) n))) (cc := cX0_pagesTold) (maxL := 6) (ret := (some .int)) [(0, .ref hd), (1, .int (nI q)), (2, .int (nI st)), (3, .int (nI n))] (by decide) rfl (Nat.le_of_ble_eq_true rfl) rfl ?_
  intro p e s m below meth c hx hb hr hts hown hlocks hml hnm A hA hK hN hP hD hS ls hl
  have hown : s.vm.findClass RX0 = some m.cls := hown
  refine lv_iconst (v := 0) hx hb dX0_pagesTold_0 (by decide) ?_
  refine lv_istore (lv' := [(4, .int 0), (0, .ref hd), (1, .int (nI q)), (2, .int (nI st)), (3, .int (nI n))]) hx hb dX0_pagesTold_1 hl (by decide) rfl (fun ls hl => ?_)
  refine lv_iconst (v := 0) hx hb dX0_pagesTold_3 (by decide) ?_
  refine lv_istore (lv' := [(5, .int 0), (4, .int 0), (0, .ref hd), (1, .int (nI q)), (2, .int (nI st)), (3, .int (nI n))]) hx hb dX0_pagesTold_4 hl (by decide) rfl (fun ls hl => ?_)
  have loop6 : ∀ (n6 : Nat) (i k : Nat), i ≤ n → k = pg_told f (q * 48 + st) i → n - i < n6 → ∀ (H : Heap) (locs : List Loc), va_P D vwCl [(hd, .inr (0, [.int (nI a), .ref hB])), (hB, .inl (cI, a * 48, .inl f))] H → va_D A [(hd, .inr (0, [.int (nI a), .ref hB])), (hB, .inl (cI, a * 48, .inl f))] → va_S A s.heap H locs → ∀ (ls : Array Slot), lv_has ls 6 [(5, .int (nI i)), (4, .int (nI k)), (0, .ref hd), (1, .int (nI q)), (2, .int (nI st)), (3, .int (nI n))] → W p l e ({ frames := 1, cells := 0, slots := 0, locals := 22 }) s m ([.ref hd, .int (nI q), .int (nI st), .int (nI n)] : List Value).toArray below meth c H locs 0 0 (MQ below (ct_Qi D vwCl [(hd, .inr (0, [.int (nI a), .ref hB])), (hB, .inl (cI, a * 48, .inl f))] (nI (pg_told f (q * 48 + st) n)) A) ([.ref hd, .int (nI q), .int (nI st), .int (nI n)] : List Value).toArray s 0 0 A) (F0 m 6 ls []) := by
    intro n6
    induction n6 with
    | zero =>
      intro i k _ _ hm
      exact absurd hm (Nat.not_lt_zero _)
    | succ n6 ih6 =>
      intro i k hi ex hm6 H locs hP hD hS ls hl
      refine lv_iload hx hb dX0_pagesTold_6 (lv_at hl 0 rfl) ?_
      refine lv_iload_n hx hb dX0_pagesTold_8 rfl (lv_at hl 5 rfl) ?_
      refine lv_icmp_ge (tgt := 33) hx hb dX0_pagesTold_9 (by decide) (fun c9 => ?_) (fun c9 => ?_)
      · skip
        have c9 : n ≤ i := (nI_leI (a := n) (b := i) (by omega) (by omega)).mp c9
        refine lv_iload hx hb dX0_pagesTold_33 (lv_at hl 1 rfl) ?_
        exact ct_iret hx hb hr hlocks (by have e1 : i = n := (by omega); subst e1; rw [ex]) (rfl) hP hD hS dX0_pagesTold_35
      · skip
        have c9 : ¬ n ≤ i := fun h => c9 ((nI_leI (a := n) (b := i) (by omega) (by omega)).mpr h)
        refine lv_aload_n hx hb dX0_pagesTold_12 rfl (lv_at hl 2 rfl) ?_
        refine lv_iload_n hx hb dX0_pagesTold_13 rfl (lv_at hl 3 rfl) ?_
        refine lv_iload_n hx hb dX0_pagesTold_14 rfl (lv_at hl 4 rfl) ?_
        refine lv_iload hx hb dX0_pagesTold_15 (lv_at hl 0 rfl) ?_
        refine lv_iadd hx hb dX0_pagesTold_17 ?_
        refine ct_top (y := nI (st + i)) (nI_add st i) ?_
        refine ct_calli (w := [(hd, .inr (0, [.int (nI a), .ref hB])), (hB, .inl (cI, a * 48, .inl f))]) (w' := [(hd, .inr (0, [.int (nI a), .ref hB])), (hB, .inl (cI, a * 48, .inl f))]) (va_runV (As := [.int (nI q), .int (nI (st + i))]) (rest := []) ⟨hx, hb, hml, hown, hts⟩ (c_X0_at l D cI cZ hd hB a q (st + i) f (by omega) (by omega) (by omega) _) (cwV 2 hts gX0_pagesTold_X0_at rfl rfl rfl (by decide +kernel) ⟨Nat.le_of_ble_eq_true rfl, Nat.le_of_ble_eq_true rfl⟩) (ct_preV (w := [(hd, .inr (0, [.int (nI a), .ref hB])), (hB, .inl (cI, a * 48, .inl f))]) (ci := 0) (i0 := 0) hK hN hP hD [0, 1] (by decide) rfl rfl rfl) rfl rfl hl.1 rfl (lv_room (Nat.le_of_ble_eq_true rfl)) dX0_pagesTold_18 ⟨Nat.le_of_ble_eq_true rfl, Nat.le_of_ble_eq_true rfl⟩) hP hD hS hA [0, 1] rfl [hd, hB] rfl rfl (fun H locs hP hD hS => ?_)
        have hP : va_P D vwCl [(hd, .inr (0, [.int (nI a), .ref hB])), (hB, .inl (cI, a * 48, .inl f))] _ := hP
        have hD : va_D A [(hd, .inr (0, [.int (nI a), .ref hB])), (hB, .inl (cI, a * 48, .inl f))] := hD
        refine lv_if_eq (tgt := 27) hx hb dX0_pagesTold_21 (by decide) (fun c21 => ?_) (fun c21 => ?_)
        · skip
          refine lv_iinc (v := nI (i + 1)) (lv' := [(5, .int (nI (i + 1))), (4, .int (nI k)), (0, .ref hd), (1, .int (nI q)), (2, .int (nI st)), (3, .int (nI n))]) hx hb dX0_pagesTold_27 hl (k := 0) rfl (nI_add i 1) (by decide) rfl (fun ls hl => ?_)
          refine lv_goto (tgt := 6) hx hb dX0_pagesTold_30 (by decide) ?_
          exact ih6 (i + 1) k (by omega) (by rw [← Nat.add_assoc] at c21; rw [pg_told_0 c21]; exact ex) (by omega) _ _ hP hD hS ls (lv_sub hl [0, 1, 2, 3, 4, 5] rfl)
        · skip
          refine lv_iinc (v := nI (k + 1)) (lv' := [(4, .int (nI (k + 1))), (5, .int (nI i)), (0, .ref hd), (1, .int (nI q)), (2, .int (nI st)), (3, .int (nI n))]) hx hb dX0_pagesTold_24 hl (k := 1) rfl (nI_add k 1) (by decide) rfl (fun ls hl => ?_)
          refine lv_iinc (v := nI (i + 1)) (lv' := [(5, .int (nI (i + 1))), (4, .int (nI (k + 1))), (0, .ref hd), (1, .int (nI q)), (2, .int (nI st)), (3, .int (nI n))]) hx hb dX0_pagesTold_27 hl (k := 1) rfl (nI_add i 1) (by decide) rfl (fun ls hl => ?_)
          refine lv_goto (tgt := 6) hx hb dX0_pagesTold_30 (by decide) ?_
          exact ih6 (i + 1) (k + 1) (by omega) (by rw [← Nat.add_assoc] at c21; rw [pg_told_1 c21, ← ex]) (by omega) _ _ hP hD hS ls (lv_sub hl [0, 1, 2, 3, 4, 5] rfl)
  exact loop6 _ 0 0 (by omega) (rfl) (Nat.lt_succ_self _) _ _ hP hD hS ls (lv_sub hl [0, 1, 2, 3, 4, 5] rfl)
set_option maxHeartbeats 4000000 in
set_option maxRecDepth 100000 in
theorem c_X0_tellsRightPages (l : Launch) (D : va_G) (cI cZ : ClassId) (hd hB a q st n : Nat) (f : Nat → Int32) (h1 : q < a) (h2 : st + n ≤ 48) (ha : a ≤ 120) : CtI l yX0_tellsRightPages wsX0_tellsRightPages ({ frames := 1, cells := 0, slots := 0, locals := 22 }) D vwCl (ct_T cI cZ) [.ref hd, .int (nI q), .int (nI st), .int (nI n)] [(hd, .inr (0, [.int (nI a), .ref hB])), (hB, .inl (cI, a * 48, .inl f))] [(hd, .inr (0, [.int (nI a), .ref hB])), (hB, .inl (cI, a * 48, .inl f))] (b2i (pg_ok f a (q * 48 + st) n)) := by
  refine ct_of (Qf := ct_Qi D vwCl [(hd, .inr (0, [.int (nI a), .ref hB])), (hB, .inl (cI, a * 48, .inl f))] (b2i (pg_ok f a (q * 48 + st) n))) (cc := cX0_tellsRightPages) (maxL := 6) (ret := (some .boolean)) [(0, .ref hd), (1, .int (nI q)), (2, .int (nI st)), (3, .int (nI n))] (by decide) rfl (Nat.le_of_ble_eq_true rfl) rfl ?_
  intro p e s m below meth c hx hb hr hts hown hlocks hml hnm A hA hK hN hP hD hS ls hl
  have hown : s.vm.findClass RX0 = some m.cls := hown
  have hk0 := hts (.fieldLink RX0 9 "DesignPages$Pages" "amount" "I") (by decide +kernel)
  have hiX0 : ∀ w ∈ wsX00, w ∈ wsX0_tellsRightPages := by decide +kernel
  refine lv_iconst (v := 0) hx hb dX0_tellsRightPages_0 (by decide) ?_
  refine lv_istore (lv' := [(4, .int 0), (0, .ref hd), (1, .int (nI q)), (2, .int (nI st)), (3, .int (nI n))]) hx hb dX0_tellsRightPages_1 hl (by decide) rfl (fun ls hl => ?_)
  have loop3 : ∀ (n3 : Nat) (i : Nat), i ≤ n → pg_ok f a (q * 48 + st) i → n - i < n3 → ∀ (H : Heap) (locs : List Loc), va_P D vwCl [(hd, .inr (0, [.int (nI a), .ref hB])), (hB, .inl (cI, a * 48, .inl f))] H → va_D A [(hd, .inr (0, [.int (nI a), .ref hB])), (hB, .inl (cI, a * 48, .inl f))] → va_S A s.heap H locs → ∀ (ls : Array Slot), lv_has ls 6 [(4, .int (nI i)), (0, .ref hd), (1, .int (nI q)), (2, .int (nI st)), (3, .int (nI n))] → W p l e ({ frames := 1, cells := 0, slots := 0, locals := 22 }) s m ([.ref hd, .int (nI q), .int (nI st), .int (nI n)] : List Value).toArray below meth c H locs 0 0 (MQ below (ct_Qi D vwCl [(hd, .inr (0, [.int (nI a), .ref hB])), (hB, .inl (cI, a * 48, .inl f))] (b2i (pg_ok f a (q * 48 + st) n)) A) ([.ref hd, .int (nI q), .int (nI st), .int (nI n)] : List Value).toArray s 0 0 A) (F0 m 3 ls []) := by
    intro n3
    induction n3 with
    | zero =>
      intro i _ _ hm
      exact absurd hm (Nat.not_lt_zero _)
    | succ n3 ih3 =>
      intro i hi ho hm3 H locs hP hD hS ls hl
      refine lv_iload hx hb dX0_tellsRightPages_3 (lv_at hl 0 rfl) ?_
      refine lv_iload_n hx hb dX0_tellsRightPages_5 rfl (lv_at hl 4 rfl) ?_
      refine lv_icmp_ge (tgt := 49) hx hb dX0_tellsRightPages_6 (by decide) (fun c6 => ?_) (fun c6 => ?_)
      · skip
        have c6 : n ≤ i := (nI_leI (a := n) (b := i) (by omega) (by omega)).mp c6
        refine lv_iconst (v := 1) hx hb dX0_tellsRightPages_49 (by decide) ?_
        exact ct_zret hx hb hr hlocks (rfl) ((b2i_t (by have e1 : i = n := (by omega); subst e1; exact ho)).symm) (rfl) hP hD hS dX0_tellsRightPages_50
      · skip
        have c6 : ¬ n ≤ i := fun h => c6 ((nI_leI (a := n) (b := i) (by omega) (by omega)).mpr h)
        refine lv_aload_n hx hb dX0_tellsRightPages_9 rfl (lv_at hl 1 rfl) ?_
        refine lv_iload_n hx hb dX0_tellsRightPages_10 rfl (lv_at hl 2 rfl) ?_
        refine lv_iload_n hx hb dX0_tellsRightPages_11 rfl (lv_at hl 3 rfl) ?_
        refine lv_iload hx hb dX0_tellsRightPages_12 (lv_at hl 0 rfl) ?_
        refine lv_iadd hx hb dX0_tellsRightPages_14 ?_
        refine ct_top (y := nI (st + i)) (nI_add st i) ?_
        refine ct_calli (w := [(hd, .inr (0, [.int (nI a), .ref hB])), (hB, .inl (cI, a * 48, .inl f))]) (w' := [(hd, .inr (0, [.int (nI a), .ref hB])), (hB, .inl (cI, a * 48, .inl f))]) (va_runV (As := [.int (nI q), .int (nI (st + i))]) (rest := []) ⟨hx, hb, hml, hown, hts⟩ (c_X0_at l D cI cZ hd hB a q (st + i) f (by omega) (by omega) (by omega) _) (cwV 2 hts gX0_tellsRightPages_X0_at rfl rfl rfl (by decide +kernel) ⟨Nat.le_of_ble_eq_true rfl, Nat.le_of_ble_eq_true rfl⟩) (ct_preV (w := [(hd, .inr (0, [.int (nI a), .ref hB])), (hB, .inl (cI, a * 48, .inl f))]) (ci := 0) (i0 := 0) hK hN hP hD [0, 1] (by decide) rfl rfl rfl) rfl rfl hl.1 rfl (lv_room (Nat.le_of_ble_eq_true rfl)) dX0_tellsRightPages_15 ⟨Nat.le_of_ble_eq_true rfl, Nat.le_of_ble_eq_true rfl⟩) hP hD hS hA [0, 1] rfl [hd, hB] rfl rfl (fun H locs hP hD hS => ?_)
        have hP : va_P D vwCl [(hd, .inr (0, [.int (nI a), .ref hB])), (hB, .inl (cI, a * 48, .inl f))] _ := hP
        have hD : va_D A [(hd, .inr (0, [.int (nI a), .ref hB])), (hB, .inl (cI, a * 48, .inl f))] := hD
        refine lv_istore (lv' := [(5, .int (f (q * 48 + (st + i)))), (4, .int (nI i)), (0, .ref hd), (1, .int (nI q)), (2, .int (nI st)), (3, .int (nI n))]) hx hb dX0_tellsRightPages_18 hl (by decide) rfl (fun ls hl => ?_)
        refine lv_iload hx hb dX0_tellsRightPages_20 (lv_at hl 0 rfl) ?_
        refine lv_if_eq (tgt := 43) hx hb dX0_tellsRightPages_22 (by decide) (fun c22 => ?_) (fun c22 => ?_)
        · skip
          refine lv_iinc (v := nI (i + 1)) (lv' := [(4, .int (nI (i + 1))), (5, .int (f (q * 48 + (st + i)))), (0, .ref hd), (1, .int (nI q)), (2, .int (nI st)), (3, .int (nI n))]) hx hb dX0_tellsRightPages_43 hl (k := 1) rfl (nI_add i 1) (by decide) rfl (fun ls hl => ?_)
          refine lv_goto (tgt := 3) hx hb dX0_tellsRightPages_46 (by decide) ?_
          exact ih3 (i + 1) (by omega) (fun j hj => by rcases Nat.lt_or_ge j i with e1 | e1; { exact ho j e1 }; have e2 : j = i := (by omega); subst e2; rw [Nat.add_assoc]; exact Or.inl c22) (by omega) _ _ hP hD hS ls (lv_sub hl [0, 2, 3, 4, 5] rfl)
        · skip
          refine lv_iload hx hb dX0_tellsRightPages_25 (lv_at hl 0 rfl) ?_
          refine lv_bipush (v := 8) hx hb dX0_tellsRightPages_27 (by decide) ?_
          refine lv_icmp_lt (tgt := 41) hx hb dX0_tellsRightPages_29 (by decide) (fun c29 => ?_) (fun c29 => ?_)
          · skip
            refine lv_iconst (v := 0) hx hb dX0_tellsRightPages_41 (by decide) ?_
            exact ct_zret hx hb hr hlocks (rfl) ((b2i_f (fun h => by have h2 := h i (by omega); rw [Nat.add_assoc] at h2; rcases h2 with h2 | h3; { exact c22 h2 }; exact h3.1 c29)).symm) (rfl) hP hD hS dX0_tellsRightPages_42
          · skip
            refine lv_iload hx hb dX0_tellsRightPages_32 (lv_at hl 0 rfl) ?_
            refine lv_aload_n hx hb dX0_tellsRightPages_34 rfl (lv_at hl 2 rfl) ?_
            refine va_get (D := D) (cl := vwCl) (ci := 0) (v := .int (nI a)) (C := RX0) (T := TX0) (N := 2) hx hb hts hiX0 hown hK hP 0 rfl rfl 0 (by decide) hk0 (fun _ h9 => h9) rfl dX0_tellsRightPages_35 ?_
            refine lv_icmp_lt (tgt := 43) hx hb dX0_tellsRightPages_38 (by decide) (fun c38 => ?_) (fun c38 => ?_)
            · skip
              refine lv_iinc (v := nI (i + 1)) (lv' := [(4, .int (nI (i + 1))), (5, .int (f (q * 48 + (st + i)))), (0, .ref hd), (1, .int (nI q)), (2, .int (nI st)), (3, .int (nI n))]) hx hb dX0_tellsRightPages_43 hl (k := 1) rfl (nI_add i 1) (by decide) rfl (fun ls hl => ?_)
              refine lv_goto (tgt := 3) hx hb dX0_tellsRightPages_46 (by decide) ?_
              exact ih3 (i + 1) (by omega) (fun j hj => by rcases Nat.lt_or_ge j i with e1 | e1; { exact ho j e1 }; have e2 : j = i := (by omega); subst e2; rw [Nat.add_assoc]; exact Or.inr ⟨c29, Int32.not_le.mpr c38⟩) (by omega) _ _ hP hD hS ls (lv_sub hl [0, 2, 3, 4, 5] rfl)
            · skip
              refine lv_iconst (v := 0) hx hb dX0_tellsRightPages_41 (by decide) ?_
              exact ct_zret hx hb hr hlocks (rfl) ((b2i_f (fun h => by have h2 := h i (by omega); rw [Nat.add_assoc] at h2; rcases h2 with h2 | h3; { exact c22 h2 }; exact h3.2 (Int32.not_lt.mp c38))).symm) (rfl) hP hD hS dX0_tellsRightPages_42
  exact loop3 _ 0 (by omega) (fun j hj => absurd hj (Nat.not_lt_zero j)) (Nat.lt_succ_self _) _ _ hP hD hS ls (lv_sub hl [0, 1, 2, 3, 4] rfl)
set_option maxHeartbeats 4000000 in
set_option maxRecDepth 100000 in
theorem c_X3_pageOfRoot (l : Launch) (D : va_G) (cI cZ : ClassId) (x : Int32)  : CtI l yX3_pageOfRoot wsX3_pageOfRoot ({ frames := 0, cells := 0, slots := 0, locals := 0 }) D vwCl (ct_T cI cZ) [.int x] [] [] (x - x / 8 * 8) := by
  refine ct_of (Qf := ct_Qi D vwCl [] (x - x / 8 * 8)) (cc := cX3_pageOfRoot) (maxL := 1) (ret := (some .int)) [(0, .int x)] (by decide) rfl (Nat.le_of_ble_eq_true rfl) rfl ?_
  intro p e s m below meth c hx hb hr hts hown hlocks hml hnm A hA hK hN hP hD hS ls hl
  have hown : s.vm.findClass RX3 = some m.cls := hown
  refine lv_iload_n hx hb dX3_pageOfRoot_0 rfl (lv_at hl 0 rfl) ?_
  refine lv_bipush (v := 8) hx hb dX3_pageOfRoot_1 (by decide) ?_
  refine lv_irem hx hb dX3_pageOfRoot_3 (by decide) ?_
  exact ct_iret hx hb hr hlocks (rfl) (rfl) hP hD hS dX3_pageOfRoot_4
set_option maxHeartbeats 4000000 in
set_option maxRecDepth 100000 in
theorem c_X0_tellsVersions (l : Launch) (D : va_G) (cI cZ : ClassId) (hd hB a q : Nat) (f : Nat → Int32) (h1 : q < a) (ha : a ≤ 120) : CtI l yX0_tellsVersions wsX0_tellsVersions ({ frames := 1, cells := 0, slots := 0, locals := 23 }) D vwCl (ct_T cI cZ) [.ref hd, .int (nI q)] [(hd, .inr (0, [.int (nI a), .ref hB])), (hB, .inl (cI, a * 48, .inl f))] [(hd, .inr (0, [.int (nI a), .ref hB])), (hB, .inl (cI, a * 48, .inl f))] (b2i (pg_vers f q)) := by
  refine ct_of (Qf := ct_Qi D vwCl [(hd, .inr (0, [.int (nI a), .ref hB])), (hB, .inl (cI, a * 48, .inl f))] (b2i (pg_vers f q))) (cc := cX0_tellsVersions) (maxL := 4) (ret := (some .boolean)) [(0, .ref hd), (1, .int (nI q))] (by decide) rfl (Nat.le_of_ble_eq_true rfl) rfl ?_
  intro p e s m below meth c hx hb hr hts hown hlocks hml hnm A hA hK hN hP hD hS ls hl
  have hown : s.vm.findClass RX0 = some m.cls := hown
  have hk0 := hts (.constant RX0 58 (1000000)) (by decide +kernel)
  have hk1 := hts (.static yX3_pageOfRoot) (by decide +kernel)
  have hk2 := hts (.initialized RX3) (by decide +kernel)
  refine lv_aload_n hx hb dX0_tellsVersions_0 rfl (lv_at hl 0 rfl) ?_
  refine lv_iload_n hx hb dX0_tellsVersions_1 rfl (lv_at hl 1 rfl) ?_
  refine lv_iconst (v := 1) hx hb dX0_tellsVersions_2 (by decide) ?_
  refine ct_calli (w := [(hd, .inr (0, [.int (nI a), .ref hB])), (hB, .inl (cI, a * 48, .inl f))]) (w' := [(hd, .inr (0, [.int (nI a), .ref hB])), (hB, .inl (cI, a * 48, .inl f))]) (va_runV (As := [.int (nI q), .int 1]) (rest := []) ⟨hx, hb, hml, hown, hts⟩ (c_X0_numberAt l D cI cZ hd hB a q 1 f (by omega) (by omega) (by omega) _) (cwV 2 hts gX0_tellsVersions_X0_numberAt rfl rfl rfl (by decide +kernel) ⟨Nat.le_of_ble_eq_true rfl, Nat.le_of_ble_eq_true rfl⟩) (ct_preV (w := [(hd, .inr (0, [.int (nI a), .ref hB])), (hB, .inl (cI, a * 48, .inl f))]) (ci := 0) (i0 := 0) hK hN hP hD [0, 1] (by decide) rfl rfl rfl) rfl rfl hl.1 rfl (lv_room (Nat.le_of_ble_eq_true rfl)) dX0_tellsVersions_3 ⟨Nat.le_of_ble_eq_true rfl, Nat.le_of_ble_eq_true rfl⟩) hP hD hS hA [0, 1] rfl [hd, hB] rfl rfl (fun H locs hP hD hS => ?_)
  have hP : va_P D vwCl [(hd, .inr (0, [.int (nI a), .ref hB])), (hB, .inl (cI, a * 48, .inl f))] _ := hP
  have hD : va_D A [(hd, .inr (0, [.int (nI a), .ref hB])), (hB, .inl (cI, a * 48, .inl f))] := hD
  refine lv_istore_n (lv' := [(2, .int (pg_num f (q * 48 + 1))), (0, .ref hd), (1, .int (nI q))]) hx hb dX0_tellsVersions_6 rfl hl (by decide) rfl (fun ls hl => ?_)
  refine lv_aload_n hx hb dX0_tellsVersions_7 rfl (lv_at hl 1 rfl) ?_
  refine lv_iload_n hx hb dX0_tellsVersions_8 rfl (lv_at hl 2 rfl) ?_
  refine lv_iconst (v := 5) hx hb dX0_tellsVersions_9 (by decide) ?_
  refine ct_calli (w := [(hd, .inr (0, [.int (nI a), .ref hB])), (hB, .inl (cI, a * 48, .inl f))]) (w' := [(hd, .inr (0, [.int (nI a), .ref hB])), (hB, .inl (cI, a * 48, .inl f))]) (va_runV (As := [.int (nI q), .int 5]) (rest := []) ⟨hx, hb, hml, hown, hts⟩ (c_X0_numberAt l D cI cZ hd hB a q 5 f (by omega) (by omega) (by omega) _) (cwV 2 hts gX0_tellsVersions_X0_numberAt rfl rfl rfl (by decide +kernel) ⟨Nat.le_of_ble_eq_true rfl, Nat.le_of_ble_eq_true rfl⟩) (ct_preV (w := [(hd, .inr (0, [.int (nI a), .ref hB])), (hB, .inl (cI, a * 48, .inl f))]) (ci := 0) (i0 := 0) hK hN hP hD [0, 1] (by decide) rfl rfl rfl) rfl rfl hl.1 rfl (lv_room (Nat.le_of_ble_eq_true rfl)) dX0_tellsVersions_10 ⟨Nat.le_of_ble_eq_true rfl, Nat.le_of_ble_eq_true rfl⟩) hP hD hS hA [0, 1] rfl [hd, hB] rfl rfl (fun H locs hP hD hS => ?_)
  have hP : va_P D vwCl [(hd, .inr (0, [.int (nI a), .ref hB])), (hB, .inl (cI, a * 48, .inl f))] _ := hP
  have hD : va_D A [(hd, .inr (0, [.int (nI a), .ref hB])), (hB, .inl (cI, a * 48, .inl f))] := hD
  refine lv_istore_n (lv' := [(3, .int (pg_num f (q * 48 + 5))), (2, .int (pg_num f (q * 48 + 1))), (0, .ref hd), (1, .int (nI q))]) hx hb dX0_tellsVersions_13 rfl hl (by decide) rfl (fun ls hl => ?_)
  refine lv_iload_n hx hb dX0_tellsVersions_14 rfl (lv_at hl 1 rfl) ?_
  refine lv_iconst (v := 1) hx hb dX0_tellsVersions_15 (by decide) ?_
  refine lv_icmp_lt (tgt := 55) hx hb dX0_tellsVersions_16 (by decide) (fun c16 => ?_) (fun c16 => ?_)
  · skip
    refine lv_iconst (v := 0) hx hb dX0_tellsVersions_55 (by decide) ?_
    exact ct_zret hx hb hr hlocks (rfl) ((b2i_f (fun h => by first | exact h.1 c16 | exact c16 h.1)).symm) (rfl) hP hD hS dX0_tellsVersions_56
  · skip
    refine lv_iload_n hx hb dX0_tellsVersions_19 rfl (lv_at hl 1 rfl) ?_
    refine lv_ldc (v := 1000000) hx hb hown hk0 dX0_tellsVersions_20 ?_
    refine lv_icmp_gt (tgt := 55) hx hb dX0_tellsVersions_22 (by decide) (fun c22 => ?_) (fun c22 => ?_)
    · skip
      refine lv_iconst (v := 0) hx hb dX0_tellsVersions_55 (by decide) ?_
      exact ct_zret hx hb hr hlocks (rfl) ((b2i_f (fun h => by first | exact h.2.1 c22 | exact c22 h.2.1)).symm) (rfl) hP hD hS dX0_tellsVersions_56
    · skip
      refine lv_iload_n hx hb dX0_tellsVersions_25 rfl (lv_at hl 1 rfl) ?_
      refine ct_calli (w := []) (w' := []) (va_runSN (As := [.int (pg_num f (q * 48 + 1))]) (rest := []) ⟨hx, hb, hml, hown, hts⟩ (c_X3_pageOfRoot l D cI cZ (pg_num f (q * 48 + 1)) _) ⟨va_cnB 1 hts gX0_tellsVersions_X3_pageOfRoot_n59 rfl rfl rfl hN.1 hk2 (by decide +kernel) ⟨Nat.le_of_ble_eq_true rfl, Nat.le_of_ble_eq_true rfl⟩, hk1, trivial⟩ (ct_preS (w := []) hK hN hP hD [] (by decide) rfl) rfl rfl hl.1 rfl (lv_room (Nat.le_of_ble_eq_true rfl)) dX0_tellsVersions_26 ⟨Nat.le_of_ble_eq_true rfl, Nat.le_of_ble_eq_true rfl⟩) hP hD hS hA [] rfl [] rfl rfl (fun H locs hP hD hS => ?_)
      have hP : va_P D vwCl [(hd, .inr (0, [.int (nI a), .ref hB])), (hB, .inl (cI, a * 48, .inl f))] _ := hP
      have hD : va_D A [(hd, .inr (0, [.int (nI a), .ref hB])), (hB, .inl (cI, a * 48, .inl f))] := hD
      refine lv_iload_n hx hb dX0_tellsVersions_29 rfl (lv_at hl 3 rfl) ?_
      refine lv_icmp_ne (tgt := 55) hx hb dX0_tellsVersions_30 (by decide) (fun c30 => ?_) (fun c30 => ?_)
      · skip
        refine lv_iconst (v := 0) hx hb dX0_tellsVersions_55 (by decide) ?_
        exact ct_zret hx hb hr hlocks (rfl) ((b2i_f (fun h => by first | exact h.2.2.1 c30 | exact c30 h.2.2.1)).symm) (rfl) hP hD hS dX0_tellsVersions_56
      · skip
        refine lv_iload_n hx hb dX0_tellsVersions_33 rfl (lv_at hl 0 rfl) ?_
        refine lv_iconst (v := 1) hx hb dX0_tellsVersions_34 (by decide) ?_
        refine lv_icmp_lt (tgt := 55) hx hb dX0_tellsVersions_35 (by decide) (fun c35 => ?_) (fun c35 => ?_)
        · skip
          refine lv_iconst (v := 0) hx hb dX0_tellsVersions_55 (by decide) ?_
          exact ct_zret hx hb hr hlocks (rfl) ((b2i_f (fun h => by first | exact h.2.2.2.1 c35 | exact c35 h.2.2.2.1)).symm) (rfl) hP hD hS dX0_tellsVersions_56
        · skip
          refine lv_iload_n hx hb dX0_tellsVersions_38 rfl (lv_at hl 0 rfl) ?_
          refine lv_iload_n hx hb dX0_tellsVersions_39 rfl (lv_at hl 1 rfl) ?_
          refine lv_icmp_gt (tgt := 55) hx hb dX0_tellsVersions_40 (by decide) (fun c40 => ?_) (fun c40 => ?_)
          · skip
            refine lv_iconst (v := 0) hx hb dX0_tellsVersions_55 (by decide) ?_
            exact ct_zret hx hb hr hlocks (rfl) ((b2i_f (fun h => by first | exact h.2.2.2.2.1 c40 | exact c40 h.2.2.2.2.1)).symm) (rfl) hP hD hS dX0_tellsVersions_56
          · skip
            refine lv_iload_n hx hb dX0_tellsVersions_43 rfl (lv_at hl 0 rfl) ?_
            refine lv_iload_n hx hb dX0_tellsVersions_44 rfl (lv_at hl 1 rfl) ?_
            refine lv_bipush (v := 7) hx hb dX0_tellsVersions_45 (by decide) ?_
            refine lv_isub hx hb dX0_tellsVersions_47 ?_
            refine lv_icmp_lt (tgt := 55) hx hb dX0_tellsVersions_48 (by decide) (fun c48 => ?_) (fun c48 => ?_)
            · skip
              refine lv_iconst (v := 0) hx hb dX0_tellsVersions_55 (by decide) ?_
              exact ct_zret hx hb hr hlocks (rfl) ((b2i_f (fun h => by first | exact h.2.2.2.2.2 c48 | exact c48 h.2.2.2.2.2)).symm) (rfl) hP hD hS dX0_tellsVersions_56
            · skip
              refine lv_iconst (v := 1) hx hb dX0_tellsVersions_51 (by decide) ?_
              refine lv_goto (tgt := 56) hx hb dX0_tellsVersions_52 (by decide) ?_
              exact ct_zret hx hb hr hlocks (rfl) ((b2i_t ⟨c16, c22, c30, c35, c40, c48⟩).symm) (rfl) hP hD hS dX0_tellsVersions_56
set_option maxHeartbeats 4000000 in
set_option maxRecDepth 100000 in
theorem c_X0_isRight (l : Launch) (D : va_G) (cI cZ : ClassId) (hd hB a q : Nat) (k : Int32) (f : Nat → Int32) (h1 : q < a) (ha : a ≤ 120) : CtI l yX0_isRight wsX0_isRight ({ frames := 2, cells := 0, slots := 0, locals := 47 }) D vwCl (ct_T cI cZ) [.ref hd, .int (nI q), .int k] [(hd, .inr (0, [.int (nI a), .ref hB])), (hB, .inl (cI, a * 48, .inl f))] [(hd, .inr (0, [.int (nI a), .ref hB])), (hB, .inl (cI, a * 48, .inl f))] (b2i (pg_right f a q k)) := by
  refine ct_of (Qf := ct_Qi D vwCl [(hd, .inr (0, [.int (nI a), .ref hB])), (hB, .inl (cI, a * 48, .inl f))] (b2i (pg_right f a q k))) (cc := cX0_isRight) (maxL := 3) (ret := (some .boolean)) [(0, .ref hd), (1, .int (nI q)), (2, .int k)] (by decide) rfl (Nat.le_of_ble_eq_true rfl) rfl ?_
  intro p e s m below meth c hx hb hr hts hown hlocks hml hnm A hA hK hN hP hD hS ls hl
  have hown : s.vm.findClass RX0 = some m.cls := hown
  refine lv_aload_n hx hb dX0_isRight_0 rfl (lv_at hl 0 rfl) ?_
  refine lv_iload_n hx hb dX0_isRight_1 rfl (lv_at hl 1 rfl) ?_
  refine lv_iconst (v := 0) hx hb dX0_isRight_2 (by decide) ?_
  refine ct_calli (w := [(hd, .inr (0, [.int (nI a), .ref hB])), (hB, .inl (cI, a * 48, .inl f))]) (w' := [(hd, .inr (0, [.int (nI a), .ref hB])), (hB, .inl (cI, a * 48, .inl f))]) (va_runV (As := [.int (nI q), .int 0]) (rest := []) ⟨hx, hb, hml, hown, hts⟩ (c_X0_at l D cI cZ hd hB a q 0 f (by omega) (by omega) (by omega) _) (cwV 2 hts gX0_isRight_X0_at rfl rfl rfl (by decide +kernel) ⟨Nat.le_of_ble_eq_true rfl, Nat.le_of_ble_eq_true rfl⟩) (ct_preV (w := [(hd, .inr (0, [.int (nI a), .ref hB])), (hB, .inl (cI, a * 48, .inl f))]) (ci := 0) (i0 := 0) hK hN hP hD [0, 1] (by decide) rfl rfl rfl) rfl rfl hl.1 rfl (lv_room (Nat.le_of_ble_eq_true rfl)) dX0_isRight_3 ⟨Nat.le_of_ble_eq_true rfl, Nat.le_of_ble_eq_true rfl⟩) hP hD hS hA [0, 1] rfl [hd, hB] rfl rfl (fun H locs hP hD hS => ?_)
  have hP : va_P D vwCl [(hd, .inr (0, [.int (nI a), .ref hB])), (hB, .inl (cI, a * 48, .inl f))] _ := hP
  have hD : va_D A [(hd, .inr (0, [.int (nI a), .ref hB])), (hB, .inl (cI, a * 48, .inl f))] := hD
  refine lv_iload_n hx hb dX0_isRight_6 rfl (lv_at hl 2 rfl) ?_
  refine lv_icmp_ne (tgt := 25) hx hb dX0_isRight_7 (by decide) (fun c7 => ?_) (fun c7 => ?_)
  · skip
    refine lv_iconst (v := 0) hx hb dX0_isRight_25 (by decide) ?_
    exact ct_zret hx hb hr hlocks (rfl) ((b2i_f (fun h => c7 h.1)).symm) (rfl) hP hD hS dX0_isRight_26
  · skip
    refine lv_aload_n hx hb dX0_isRight_10 rfl (lv_at hl 0 rfl) ?_
    refine lv_iload_n hx hb dX0_isRight_11 rfl (lv_at hl 1 rfl) ?_
    refine lv_bipush (v := 44) hx hb dX0_isRight_12 (by decide) ?_
    refine ct_calli (w := [(hd, .inr (0, [.int (nI a), .ref hB])), (hB, .inl (cI, a * 48, .inl f))]) (w' := [(hd, .inr (0, [.int (nI a), .ref hB])), (hB, .inl (cI, a * 48, .inl f))]) (va_runV (As := [.int (nI q), .int 44]) (rest := []) ⟨hx, hb, hml, hown, hts⟩ (c_X0_numberAt l D cI cZ hd hB a q 44 f (by omega) (by omega) (by omega) _) (cwV 2 hts gX0_isRight_X0_numberAt rfl rfl rfl (by decide +kernel) ⟨Nat.le_of_ble_eq_true rfl, Nat.le_of_ble_eq_true rfl⟩) (ct_preV (w := [(hd, .inr (0, [.int (nI a), .ref hB])), (hB, .inl (cI, a * 48, .inl f))]) (ci := 0) (i0 := 0) hK hN hP hD [0, 1] (by decide) rfl rfl rfl) rfl rfl hl.1 rfl (lv_room (Nat.le_of_ble_eq_true rfl)) dX0_isRight_14 ⟨Nat.le_of_ble_eq_true rfl, Nat.le_of_ble_eq_true rfl⟩) hP hD hS hA [0, 1] rfl [hd, hB] rfl rfl (fun H locs hP hD hS => ?_)
    have hP : va_P D vwCl [(hd, .inr (0, [.int (nI a), .ref hB])), (hB, .inl (cI, a * 48, .inl f))] _ := hP
    have hD : va_D A [(hd, .inr (0, [.int (nI a), .ref hB])), (hB, .inl (cI, a * 48, .inl f))] := hD
    refine lv_aload_n hx hb dX0_isRight_17 rfl (lv_at hl 0 rfl) ?_
    refine lv_iload_n hx hb dX0_isRight_18 rfl (lv_at hl 1 rfl) ?_
    refine ct_calli (w := [(hd, .inr (0, [.int (nI a), .ref hB])), (hB, .inl (cI, a * 48, .inl f))]) (w' := [(hd, .inr (0, [.int (nI a), .ref hB])), (hB, .inl (cI, a * 48, .inl f))]) (va_runV (As := [.int (nI q)]) (rest := [.int (pg_num f (q * 48 + 44))]) ⟨hx, hb, hml, hown, hts⟩ (c_X0_sumOf l D cI cZ hd hB a q f (by omega) (by omega) _) (cwV 1 hts gX0_isRight_X0_sumOf rfl rfl rfl (by decide +kernel) ⟨Nat.le_of_ble_eq_true rfl, Nat.le_of_ble_eq_true rfl⟩) (ct_preV (w := [(hd, .inr (0, [.int (nI a), .ref hB])), (hB, .inl (cI, a * 48, .inl f))]) (ci := 0) (i0 := 0) hK hN hP hD [0, 1] (by decide) rfl rfl rfl) rfl rfl hl.1 rfl (lv_room (Nat.le_of_ble_eq_true rfl)) dX0_isRight_19 ⟨Nat.le_of_ble_eq_true rfl, Nat.le_of_ble_eq_true rfl⟩) hP hD hS hA [0, 1] rfl [hd, hB] rfl rfl (fun H locs hP hD hS => ?_)
    have hP : va_P D vwCl [(hd, .inr (0, [.int (nI a), .ref hB])), (hB, .inl (cI, a * 48, .inl f))] _ := hP
    have hD : va_D A [(hd, .inr (0, [.int (nI a), .ref hB])), (hB, .inl (cI, a * 48, .inl f))] := hD
    refine lv_icmp_eq (tgt := 27) hx hb dX0_isRight_22 (by decide) (fun c22 => ?_) (fun c22 => ?_)
    · skip
      refine lv_iload_n hx hb dX0_isRight_27 rfl (lv_at hl 2 rfl) ?_
      refine lv_iconst (v := 1) hx hb dX0_isRight_28 (by decide) ?_
      refine lv_icmp_ne (tgt := 58) hx hb dX0_isRight_29 (by decide) (fun c29 => ?_) (fun c29 => ?_)
      · skip
        refine lv_iload_n hx hb dX0_isRight_58 rfl (lv_at hl 2 rfl) ?_
        refine lv_iconst (v := 2) hx hb dX0_isRight_59 (by decide) ?_
        refine lv_icmp_ne (tgt := 72) hx hb dX0_isRight_60 (by decide) (fun c60 => ?_) (fun c60 => ?_)
        · skip
          refine lv_aload_n hx hb dX0_isRight_72 rfl (lv_at hl 0 rfl) ?_
          refine lv_iload_n hx hb dX0_isRight_73 rfl (lv_at hl 1 rfl) ?_
          refine lv_iconst (v := 3) hx hb dX0_isRight_74 (by decide) ?_
          refine ct_calli (w := [(hd, .inr (0, [.int (nI a), .ref hB])), (hB, .inl (cI, a * 48, .inl f))]) (w' := [(hd, .inr (0, [.int (nI a), .ref hB])), (hB, .inl (cI, a * 48, .inl f))]) (va_runV (As := [.int (nI q), .int 3]) (rest := []) ⟨hx, hb, hml, hown, hts⟩ (c_X0_at l D cI cZ hd hB a q 3 f (by omega) (by omega) (by omega) _) (cwV 2 hts gX0_isRight_X0_at rfl rfl rfl (by decide +kernel) ⟨Nat.le_of_ble_eq_true rfl, Nat.le_of_ble_eq_true rfl⟩) (ct_preV (w := [(hd, .inr (0, [.int (nI a), .ref hB])), (hB, .inl (cI, a * 48, .inl f))]) (ci := 0) (i0 := 0) hK hN hP hD [0, 1] (by decide) rfl rfl rfl) rfl rfl hl.1 rfl (lv_room (Nat.le_of_ble_eq_true rfl)) dX0_isRight_75 ⟨Nat.le_of_ble_eq_true rfl, Nat.le_of_ble_eq_true rfl⟩) hP hD hS hA [0, 1] rfl [hd, hB] rfl rfl (fun H locs hP hD hS => ?_)
          have hP : va_P D vwCl [(hd, .inr (0, [.int (nI a), .ref hB])), (hB, .inl (cI, a * 48, .inl f))] _ := hP
          have hD : va_D A [(hd, .inr (0, [.int (nI a), .ref hB])), (hB, .inl (cI, a * 48, .inl f))] := hD
          refine lv_bipush (v := 32) hx hb dX0_isRight_78 (by decide) ?_
          refine lv_icmp_gt (tgt := 87) hx hb dX0_isRight_80 (by decide) (fun c80 => ?_) (fun c80 => ?_)
          · skip
            refine lv_iconst (v := 0) hx hb dX0_isRight_87 (by decide) ?_
            exact ct_zret hx hb hr hlocks (rfl) ((b2i_f (fun h => h.2.2.2.2 c29 c60 c80)).symm) (rfl) hP hD hS dX0_isRight_88
          · skip
            refine lv_iconst (v := 1) hx hb dX0_isRight_83 (by decide) ?_
            refine lv_goto (tgt := 88) hx hb dX0_isRight_84 (by decide) ?_
            exact ct_zret hx hb hr hlocks (rfl) ((b2i_t ⟨c7, c22, fun e1 => absurd e1 c29, fun e1 => absurd e1 c60, fun _ _ => c80⟩).symm) (rfl) hP hD hS dX0_isRight_88
        · skip
          refine lv_aload_n hx hb dX0_isRight_63 rfl (lv_at hl 0 rfl) ?_
          refine lv_iload_n hx hb dX0_isRight_64 rfl (lv_at hl 1 rfl) ?_
          refine lv_iconst (v := 2) hx hb dX0_isRight_65 (by decide) ?_
          refine lv_bipush (v := 32) hx hb dX0_isRight_66 (by decide) ?_
          refine ct_calli (w := [(hd, .inr (0, [.int (nI a), .ref hB])), (hB, .inl (cI, a * 48, .inl f))]) (w' := [(hd, .inr (0, [.int (nI a), .ref hB])), (hB, .inl (cI, a * 48, .inl f))]) (va_runV (As := [.int (nI q), .int 2, .int 32]) (rest := []) ⟨hx, hb, hml, hown, hts⟩ (c_X0_tellsRightPages l D cI cZ hd hB a q 2 32 f (by omega) (by omega) (by omega) _) (cwV 3 hts gX0_isRight_X0_tellsRightPages rfl rfl rfl (by decide +kernel) ⟨Nat.le_of_ble_eq_true rfl, Nat.le_of_ble_eq_true rfl⟩) (ct_preV (w := [(hd, .inr (0, [.int (nI a), .ref hB])), (hB, .inl (cI, a * 48, .inl f))]) (ci := 0) (i0 := 0) hK hN hP hD [0, 1] (by decide) rfl rfl rfl) rfl rfl hl.1 rfl (lv_room (Nat.le_of_ble_eq_true rfl)) dX0_isRight_68 ⟨Nat.le_of_ble_eq_true rfl, Nat.le_of_ble_eq_true rfl⟩) hP hD hS hA [0, 1] rfl [hd, hB] rfl rfl (fun H locs hP hD hS => ?_)
          have hP : va_P D vwCl [(hd, .inr (0, [.int (nI a), .ref hB])), (hB, .inl (cI, a * 48, .inl f))] _ := hP
          have hD : va_D A [(hd, .inr (0, [.int (nI a), .ref hB])), (hB, .inl (cI, a * 48, .inl f))] := hD
          exact ct_zret hx hb hr hlocks (b2i_nar _) (b2i_congr ⟨fun h => ⟨c7, c22, fun e1 => absurd e1 c29, fun _ => h, fun _ e1 => absurd c60 e1⟩, fun h => h.2.2.2.1 c60⟩) (rfl) hP hD hS dX0_isRight_71
      · skip
        refine lv_aload_n hx hb dX0_isRight_32 rfl (lv_at hl 0 rfl) ?_
        refine lv_iload_n hx hb dX0_isRight_33 rfl (lv_at hl 1 rfl) ?_
        refine ct_calli (w := [(hd, .inr (0, [.int (nI a), .ref hB])), (hB, .inl (cI, a * 48, .inl f))]) (w' := [(hd, .inr (0, [.int (nI a), .ref hB])), (hB, .inl (cI, a * 48, .inl f))]) (va_runV (As := [.int (nI q)]) (rest := []) ⟨hx, hb, hml, hown, hts⟩ (c_X0_tellsVersions l D cI cZ hd hB a q f (by omega) (by omega) _) (cwV 1 hts gX0_isRight_X0_tellsVersions rfl rfl rfl (by decide +kernel) ⟨Nat.le_of_ble_eq_true rfl, Nat.le_of_ble_eq_true rfl⟩) (ct_preV (w := [(hd, .inr (0, [.int (nI a), .ref hB])), (hB, .inl (cI, a * 48, .inl f))]) (ci := 0) (i0 := 0) hK hN hP hD [0, 1] (by decide) rfl rfl rfl) rfl rfl hl.1 rfl (lv_room (Nat.le_of_ble_eq_true rfl)) dX0_isRight_34 ⟨Nat.le_of_ble_eq_true rfl, Nat.le_of_ble_eq_true rfl⟩) hP hD hS hA [0, 1] rfl [hd, hB] rfl rfl (fun H locs hP hD hS => ?_)
        have hP : va_P D vwCl [(hd, .inr (0, [.int (nI a), .ref hB])), (hB, .inl (cI, a * 48, .inl f))] _ := hP
        have hD : va_D A [(hd, .inr (0, [.int (nI a), .ref hB])), (hB, .inl (cI, a * 48, .inl f))] := hD
        refine lv_if_eq (tgt := 56) hx hb dX0_isRight_37 (by decide) (fun c37 => ?_) (fun c37 => ?_)
        · skip
          refine lv_iconst (v := 0) hx hb dX0_isRight_56 (by decide) ?_
          exact ct_zret hx hb hr hlocks (rfl) ((b2i_f (fun h => b2i_0.mp c37 (h.2.2.1 c29).1)).symm) (rfl) hP hD hS dX0_isRight_57
        · skip
          refine lv_aload_n hx hb dX0_isRight_40 rfl (lv_at hl 0 rfl) ?_
          refine lv_iload_n hx hb dX0_isRight_41 rfl (lv_at hl 1 rfl) ?_
          refine lv_bipush (v := 9) hx hb dX0_isRight_42 (by decide) ?_
          refine lv_bipush (v := 32) hx hb dX0_isRight_44 (by decide) ?_
          refine ct_calli (w := [(hd, .inr (0, [.int (nI a), .ref hB])), (hB, .inl (cI, a * 48, .inl f))]) (w' := [(hd, .inr (0, [.int (nI a), .ref hB])), (hB, .inl (cI, a * 48, .inl f))]) (va_runV (As := [.int (nI q), .int 9, .int 32]) (rest := []) ⟨hx, hb, hml, hown, hts⟩ (c_X0_tellsRightPages l D cI cZ hd hB a q 9 32 f (by omega) (by omega) (by omega) _) (cwV 3 hts gX0_isRight_X0_tellsRightPages rfl rfl rfl (by decide +kernel) ⟨Nat.le_of_ble_eq_true rfl, Nat.le_of_ble_eq_true rfl⟩) (ct_preV (w := [(hd, .inr (0, [.int (nI a), .ref hB])), (hB, .inl (cI, a * 48, .inl f))]) (ci := 0) (i0 := 0) hK hN hP hD [0, 1] (by decide) rfl rfl rfl) rfl rfl hl.1 rfl (lv_room (Nat.le_of_ble_eq_true rfl)) dX0_isRight_46 ⟨Nat.le_of_ble_eq_true rfl, Nat.le_of_ble_eq_true rfl⟩) hP hD hS hA [0, 1] rfl [hd, hB] rfl rfl (fun H locs hP hD hS => ?_)
          have hP : va_P D vwCl [(hd, .inr (0, [.int (nI a), .ref hB])), (hB, .inl (cI, a * 48, .inl f))] _ := hP
          have hD : va_D A [(hd, .inr (0, [.int (nI a), .ref hB])), (hB, .inl (cI, a * 48, .inl f))] := hD
          refine lv_if_eq (tgt := 56) hx hb dX0_isRight_49 (by decide) (fun c49 => ?_) (fun c49 => ?_)
          · skip
            refine lv_iconst (v := 0) hx hb dX0_isRight_56 (by decide) ?_
            exact ct_zret hx hb hr hlocks (rfl) ((b2i_f (fun h => b2i_0.mp c49 (h.2.2.1 c29).2)).symm) (rfl) hP hD hS dX0_isRight_57
          · skip
            refine lv_iconst (v := 1) hx hb dX0_isRight_52 (by decide) ?_
            refine lv_goto (tgt := 57) hx hb dX0_isRight_53 (by decide) ?_
            exact ct_zret hx hb hr hlocks (rfl) ((b2i_t ⟨c7, c22, fun _ => ⟨b2i_n0 c37, b2i_n0 c49⟩, fun e1 => absurd (c29.symm.trans e1) (by decide), fun e1 => absurd c29 e1⟩).symm) (rfl) hP hD hS dX0_isRight_57
    · skip
      refine lv_iconst (v := 0) hx hb dX0_isRight_25 (by decide) ?_
      exact ct_zret hx hb hr hlocks (rfl) ((b2i_f (fun h => c22 h.2.1)).symm) (rfl) hP hD hS dX0_isRight_26
set_option maxHeartbeats 4000000 in
set_option maxRecDepth 100000 in
theorem c_X0_seal (l : Launch) (D : va_G) (cI cZ : ClassId) (hd hB a q : Nat) (f : Nat → Int32) (h1 : q < a) (ha : a ≤ 120) : CtV l yX0_seal wsX0_seal ({ frames := 2, cells := 0, slots := 0, locals := 46 }) D vwCl (ct_T cI cZ) [.ref hd, .int (nI q)] [(hd, .inr (0, [.int (nI a), .ref hB])), (hB, .inl (cI, a * 48, .inl f))] [(hd, .inr (0, [.int (nI a), .ref hB])), (hB, .inl (cI, a * 48, .inl (pg_setn f (q * 48 + 44) (pg_sum f (q * 48) 44))))] := by
  refine ct_of (Qf := ct_Qv D vwCl [(hd, .inr (0, [.int (nI a), .ref hB])), (hB, .inl (cI, a * 48, .inl (pg_setn f (q * 48 + 44) (pg_sum f (q * 48) 44))))]) (cc := cX0_seal) (maxL := 2) (ret := none) [(0, .ref hd), (1, .int (nI q))] (by decide) rfl (Nat.le_of_ble_eq_true rfl) rfl ?_
  intro p e s m below meth c hx hb hr hts hown hlocks hml hnm A hA hK hN hP hD hS ls hl
  have hown : s.vm.findClass RX0 = some m.cls := hown
  refine lv_aload_n hx hb dX0_seal_0 rfl (lv_at hl 0 rfl) ?_
  refine lv_iload_n hx hb dX0_seal_1 rfl (lv_at hl 1 rfl) ?_
  refine lv_bipush (v := 44) hx hb dX0_seal_2 (by decide) ?_
  refine lv_aload_n hx hb dX0_seal_4 rfl (lv_at hl 0 rfl) ?_
  refine lv_iload_n hx hb dX0_seal_5 rfl (lv_at hl 1 rfl) ?_
  refine ct_calli (w := [(hd, .inr (0, [.int (nI a), .ref hB])), (hB, .inl (cI, a * 48, .inl f))]) (w' := [(hd, .inr (0, [.int (nI a), .ref hB])), (hB, .inl (cI, a * 48, .inl f))]) (va_runV (As := [.int (nI q)]) (rest := [.int 44, .int (nI q), .ref hd]) ⟨hx, hb, hml, hown, hts⟩ (c_X0_sumOf l D cI cZ hd hB a q f (by omega) (by omega) _) (cwV 1 hts gX0_seal_X0_sumOf rfl rfl rfl (by decide +kernel) ⟨Nat.le_of_ble_eq_true rfl, Nat.le_of_ble_eq_true rfl⟩) (ct_preV (w := [(hd, .inr (0, [.int (nI a), .ref hB])), (hB, .inl (cI, a * 48, .inl f))]) (ci := 0) (i0 := 0) hK hN hP hD [0, 1] (by decide) rfl rfl rfl) rfl rfl hl.1 rfl (lv_room (Nat.le_of_ble_eq_true rfl)) dX0_seal_6 ⟨Nat.le_of_ble_eq_true rfl, Nat.le_of_ble_eq_true rfl⟩) hP hD hS hA [0, 1] rfl [hd, hB] rfl rfl (fun H locs hP hD hS => ?_)
  have hP : va_P D vwCl [(hd, .inr (0, [.int (nI a), .ref hB])), (hB, .inl (cI, a * 48, .inl f))] _ := hP
  have hD : va_D A [(hd, .inr (0, [.int (nI a), .ref hB])), (hB, .inl (cI, a * 48, .inl f))] := hD
  refine ct_callv (w := [(hd, .inr (0, [.int (nI a), .ref hB])), (hB, .inl (cI, a * 48, .inl f))]) (w' := [(hd, .inr (0, [.int (nI a), .ref hB])), (hB, .inl (cI, a * 48, .inl (pg_setn f (q * 48 + 44) (pg_sum f (q * 48) 44))))]) (va_runV (As := [.int (nI q), .int 44, .int (pg_sum f (q * 48) 44)]) (rest := []) ⟨hx, hb, hml, hown, hts⟩ (c_X0_setNumber l D cI cZ hd hB a q 44 (pg_sum f (q * 48) 44) f (by omega) (by omega) (by omega) _) (cwV 3 hts gX0_seal_X0_setNumber rfl rfl rfl (by decide +kernel) ⟨Nat.le_of_ble_eq_true rfl, Nat.le_of_ble_eq_true rfl⟩) (ct_preV (w := [(hd, .inr (0, [.int (nI a), .ref hB])), (hB, .inl (cI, a * 48, .inl f))]) (ci := 0) (i0 := 0) hK hN hP hD [0, 1] (by decide) rfl rfl rfl) rfl rfl hl.1 rfl (lv_room (Nat.le_of_ble_eq_true rfl)) dX0_seal_9 ⟨Nat.le_of_ble_eq_true rfl, Nat.le_of_ble_eq_true rfl⟩) hP hD hS hA [0, 1] rfl [hd, hB] rfl rfl (fun H locs hP hD hS => ?_)
  have hP : va_P D vwCl [(hd, .inr (0, [.int (nI a), .ref hB])), (hB, .inl (cI, a * 48, .inl (pg_setn f (q * 48 + 44) (pg_sum f (q * 48) 44))))] _ := hP
  have hD : va_D A [(hd, .inr (0, [.int (nI a), .ref hB])), (hB, .inl (cI, a * 48, .inl (pg_setn f (q * 48 + 44) (pg_sum f (q * 48) 44))))] := hD
  exact ct_vret hx hb hr hlocks (rfl) hP hD hS dX0_seal_12
end
section
set_option maxHeartbeats 4000000 in
set_option maxRecDepth 100000 in
theorem c_J7_rangeCheck_23922 (l : Launch) (D : va_G) (cI cZ : ClassId) (n lo hi : Nat) (h1 : lo ≤ hi) (h2 : hi ≤ n) (h3 : n < 2 ^ 31) : CtV l yJ7_rangeCheck_23922 wsJ7_rangeCheck_23922 ({ frames := 0, cells := 0, slots := 0, locals := 0 }) D vwCl (ct_T cI cZ) [.int (nI n), .int (nI lo), .int (nI hi)] [] [] := by
  refine ct_of (Qf := ct_Qv D vwCl []) (cc := cJ7_rangeCheck_23922) (maxL := 3) (ret := none) [(0, .int (nI n)), (1, .int (nI lo)), (2, .int (nI hi))] (by decide) rfl (Nat.le_of_ble_eq_true rfl) rfl ?_
  intro p e s m below meth c hx hb hr hts hown hlocks hml hnm A hA hK hN hP hD hS ls hl
  have hown : s.vm.findClass RJ7 = some m.cls := hown
  refine lv_iload_n hx hb dJ7_rangeCheck_23922_0 rfl (lv_at hl 1 rfl) ?_
  refine lv_iload_n hx hb dJ7_rangeCheck_23922_1 rfl (lv_at hl 2 rfl) ?_
  refine lv_icmp_le (tgt := 46) hx hb dJ7_rangeCheck_23922_2 (by decide) (fun c2 => ?_) (fun c2 => ?_)
  · skip
    have c2 : lo ≤ hi := (nI_leI (a := lo) (b := hi) (by omega) (by omega)).mp c2
    refine lv_iload_n hx hb dJ7_rangeCheck_23922_46 rfl (lv_at hl 1 rfl) ?_
    refine lv_if_ge (tgt := 59) hx hb dJ7_rangeCheck_23922_47 (by decide) (fun c47 => ?_) (fun c47 => ?_)
    · skip
      have c47 : 0 ≤ lo := (nI_leI (a := 0) (b := lo) (by omega) (by omega)).mp c47
      refine lv_iload_n hx hb dJ7_rangeCheck_23922_59 rfl (lv_at hl 2 rfl) ?_
      refine lv_iload_n hx hb dJ7_rangeCheck_23922_60 rfl (lv_at hl 0 rfl) ?_
      refine lv_icmp_le (tgt := 73) hx hb dJ7_rangeCheck_23922_61 (by decide) (fun c61 => ?_) (fun c61 => ?_)
      · skip
        have c61 : hi ≤ n := (nI_leI (a := hi) (b := n) (by omega) (by omega)).mp c61
        exact ct_vret hx hb hr hlocks (rfl) hP hD hS dJ7_rangeCheck_23922_73
      · skip
        have c61 : ¬ hi ≤ n := fun h => c61 ((nI_leI (a := hi) (b := n) (by omega) (by omega)).mpr h)
        exfalso; omega
    · skip
      have c47 : ¬ 0 ≤ lo := fun h => c47 ((nI_leI (a := 0) (b := lo) (by omega) (by omega)).mpr h)
      exfalso; omega
  · skip
    have c2 : ¬ lo ≤ hi := fun h => c2 ((nI_leI (a := lo) (b := hi) (by omega) (by omega)).mpr h)
    exfalso; omega
set_option maxHeartbeats 4000000 in
set_option maxRecDepth 100000 in
theorem c_J7_fill_fda19 (l : Launch) (D : va_G) (cI cZ : ClassId) (hB n lo hi : Nat) (x : Int32) (f : Nat → Int32) (h1 : lo ≤ hi) (h2 : hi ≤ n) (h3 : n < 2 ^ 31) : CtV l yJ7_fill_fda19 wsJ7_fill_fda19 ({ frames := 1, cells := 0, slots := 0, locals := 22 }) D vwCl (ct_T cI cZ) [.ref hB, .int (nI lo), .int (nI hi), .int x] [(hB, .inl (cI, n, .inl f))] [(hB, .inl (cI, n, .inl (pg_fill f lo hi x)))] := by
  refine ct_of (Qf := ct_Qv D vwCl [(hB, .inl (cI, n, .inl (pg_fill f lo hi x)))]) (cc := cJ7_fill_fda19) (maxL := 5) (ret := none) [(0, .ref hB), (1, .int (nI lo)), (2, .int (nI hi)), (3, .int x)] (by decide) rfl (Nat.le_of_ble_eq_true rfl) rfl ?_
  intro p e s m below meth c hx hb hr hts hown hlocks hml hnm A hA hK hN hP hD hS ls hl
  have hown : s.vm.findClass RJ7 = some m.cls := hown
  refine lv_aload_n hx hb dJ7_fill_fda19_0 rfl (lv_at hl 0 rfl) ?_
  refine va_alen (v := nI n) hx hb hK hP 0 0 rfl rfl rfl dJ7_fill_fda19_1 ?_
  refine lv_iload_n hx hb dJ7_fill_fda19_2 rfl (lv_at hl 1 rfl) ?_
  refine lv_iload_n hx hb dJ7_fill_fda19_3 rfl (lv_at hl 2 rfl) ?_
  refine ct_callv (w := []) (w' := []) (va_runS (As := [.int (nI n), .int (nI lo), .int (nI hi)]) (rest := []) ⟨hx, hb, hml, hown, hts⟩ (c_J7_rangeCheck_23922 l D cI cZ n lo hi (by omega) (by omega) (by omega) _) (va_cwS 3 hts gJ7_fill_fda19_J7_rangeCheck_23922 rfl rfl rfl (by decide +kernel) ⟨Nat.le_of_ble_eq_true rfl, Nat.le_of_ble_eq_true rfl⟩) (ct_preS (w := []) hK hN hP hD [] (by decide) rfl) rfl rfl hl.1 rfl (lv_room (Nat.le_of_ble_eq_true rfl)) dJ7_fill_fda19_4 ⟨Nat.le_of_ble_eq_true rfl, Nat.le_of_ble_eq_true rfl⟩) hP hD hS hA [] rfl [] rfl rfl (fun H locs hP hD hS => ?_)
  have hP : va_P D vwCl [(hB, .inl (cI, n, .inl f))] _ := hP
  have hD : va_D A [(hB, .inl (cI, n, .inl f))] := hD
  refine lv_iload_n hx hb dJ7_fill_fda19_7 rfl (lv_at hl 1 rfl) ?_
  refine lv_istore (lv' := [(4, .int (nI lo)), (0, .ref hB), (1, .int (nI lo)), (2, .int (nI hi)), (3, .int x)]) hx hb dJ7_fill_fda19_8 hl (by decide) rfl (fun ls hl => ?_)
  have loop10 : ∀ (n10 : Nat) (i : Nat) (g : Nat → Int32), lo ≤ i → i ≤ hi → g = pg_fill f lo i x → hi - i < n10 → ∀ (H : Heap) (locs : List Loc), va_P D vwCl [(hB, .inl (cI, n, .inl g))] H → va_D A [(hB, .inl (cI, n, .inl g))] → va_S A s.heap H locs → ∀ (ls : Array Slot), lv_has ls 5 [(4, .int (nI i)), (0, .ref hB), (1, .int (nI lo)), (2, .int (nI hi)), (3, .int x)] → W p l e ({ frames := 1, cells := 0, slots := 0, locals := 22 }) s m ([.ref hB, .int (nI lo), .int (nI hi), .int x] : List Value).toArray below meth c H locs 0 0 (MQ below (ct_Qv D vwCl [(hB, .inl (cI, n, .inl (pg_fill f lo hi x)))] A) ([.ref hB, .int (nI lo), .int (nI hi), .int x] : List Value).toArray s 0 0 A) (F0 m 10 ls []) := by
    intro n10
    induction n10 with
    | zero =>
      intro i g _ _ _ hm
      exact absurd hm (Nat.not_lt_zero _)
    | succ n10 ih10 =>
      intro i g hi0 hi1 ex hm10 H locs hP hD hS ls hl
      refine lv_iload hx hb dJ7_fill_fda19_10 (lv_at hl 0 rfl) ?_
      refine lv_iload_n hx hb dJ7_fill_fda19_12 rfl (lv_at hl 3 rfl) ?_
      refine lv_icmp_ge (tgt := 27) hx hb dJ7_fill_fda19_13 (by decide) (fun c13 => ?_) (fun c13 => ?_)
      · skip
        have c13 : hi ≤ i := (nI_leI (a := hi) (b := i) (by omega) (by omega)).mp c13
        exact ct_vret hx hb hr hlocks (by have e1 : i = hi := (by omega); rw [ex, e1]) hP hD hS dJ7_fill_fda19_27
      · skip
        have c13 : ¬ hi ≤ i := fun h => c13 ((nI_leI (a := hi) (b := i) (by omega) (by omega)).mpr h)
        refine lv_aload_n hx hb dJ7_fill_fda19_16 rfl (lv_at hl 1 rfl) ?_
        refine lv_iload hx hb dJ7_fill_fda19_17 (lv_at hl 0 rfl) ?_
        refine lv_iload_n hx hb dJ7_fill_fda19_19 rfl (lv_at hl 4 rfl) ?_
        refine ct_iast hx hb hK hP hD hS 0 0 (k := i) (x := x) rfl rfl (by omega) (by omega) dJ7_fill_fda19_20 (fun H locs hP hD hS => ?_)
        have hP : va_P D vwCl [(hB, .inl (cI, n, .inl (upd g i x)))] _ := hP
        have hD : va_D A [(hB, .inl (cI, n, .inl (upd g i x)))] := hD
        refine lv_iinc (v := nI (i + 1)) (lv' := [(4, .int (nI (i + 1))), (0, .ref hB), (1, .int (nI lo)), (2, .int (nI hi)), (3, .int x)]) hx hb dJ7_fill_fda19_21 hl (k := 0) rfl (nI_add i 1) (by decide) rfl (fun ls hl => ?_)
        refine lv_goto (tgt := 10) hx hb dJ7_fill_fda19_24 (by decide) ?_
        exact ih10 (i + 1) (upd g i x) (by omega) (by omega) (by rw [ex]; exact pg_fill_s f x hi0) (by omega) _ _ hP hD hS ls (lv_sub hl [0, 1, 2, 3, 4] rfl)
  exact loop10 _ lo f (Nat.le_refl _) (h1) (pg_fill_0 f lo x) (Nat.lt_succ_self _) _ _ hP hD hS ls (lv_sub hl [0, 1, 2, 3, 4] rfl)
set_option maxHeartbeats 4000000 in
set_option maxRecDepth 100000 in
theorem c_J7_fill_53178 (l : Launch) (D : va_G) (cI cZ : ClassId) (hB n : Nat) (x : Int32) (f : Nat → Int32) (h3 : n < 2 ^ 31) : CtV l yJ7_fill_53178 wsJ7_fill_53178 ({ frames := 0, cells := 0, slots := 0, locals := 0 }) D vwCl (ct_T cI cZ) [.ref hB, .int x] [(hB, .inl (cI, n, .inl f))] [(hB, .inl (cI, n, .inl (pg_fill f 0 n x)))] := by
  refine ct_of (Qf := ct_Qv D vwCl [(hB, .inl (cI, n, .inl (pg_fill f 0 n x)))]) (cc := cJ7_fill_53178) (maxL := 4) (ret := none) [(0, .ref hB), (1, .int x)] (by decide) rfl (Nat.le_of_ble_eq_true rfl) rfl ?_
  intro p e s m below meth c hx hb hr hts hown hlocks hml hnm A hA hK hN hP hD hS ls hl
  have hown : s.vm.findClass RJ7 = some m.cls := hown
  refine lv_iconst (v := 0) hx hb dJ7_fill_53178_0 (by decide) ?_
  refine lv_istore_n (lv' := [(2, .int 0), (0, .ref hB), (1, .int x)]) hx hb dJ7_fill_53178_1 rfl hl (by decide) rfl (fun ls hl => ?_)
  refine lv_aload_n hx hb dJ7_fill_53178_2 rfl (lv_at hl 1 rfl) ?_
  refine va_alen (v := nI n) hx hb hK hP 0 0 rfl rfl rfl dJ7_fill_53178_3 ?_
  refine lv_istore_n (lv' := [(3, .int (nI n)), (2, .int 0), (0, .ref hB), (1, .int x)]) hx hb dJ7_fill_53178_4 rfl hl (by decide) rfl (fun ls hl => ?_)
  have loop5 : ∀ (n5 : Nat) (i : Nat) (g : Nat → Int32), i ≤ n → g = pg_fill f 0 i x → n - i < n5 → ∀ (H : Heap) (locs : List Loc), va_P D vwCl [(hB, .inl (cI, n, .inl g))] H → va_D A [(hB, .inl (cI, n, .inl g))] → va_S A s.heap H locs → ∀ (ls : Array Slot), lv_has ls 4 [(3, .int (nI n)), (2, .int (nI i)), (0, .ref hB), (1, .int x)] → W p l e ({ frames := 0, cells := 0, slots := 0, locals := 0 }) s m ([.ref hB, .int x] : List Value).toArray below meth c H locs 0 0 (MQ below (ct_Qv D vwCl [(hB, .inl (cI, n, .inl (pg_fill f 0 n x)))] A) ([.ref hB, .int x] : List Value).toArray s 0 0 A) (F0 m 5 ls []) := by
    intro n5
    induction n5 with
    | zero =>
      intro i g _ _ hm
      exact absurd hm (Nat.not_lt_zero _)
    | succ n5 ih5 =>
      intro i g hi1 ex hm5 H locs hP hD hS ls hl
      refine lv_iload_n hx hb dJ7_fill_53178_5 rfl (lv_at hl 1 rfl) ?_
      refine lv_iload_n hx hb dJ7_fill_53178_6 rfl (lv_at hl 0 rfl) ?_
      refine lv_icmp_ge (tgt := 20) hx hb dJ7_fill_53178_7 (by decide) (fun c7 => ?_) (fun c7 => ?_)
      · skip
        have c7 : n ≤ i := (nI_leI (a := n) (b := i) (by omega) (by omega)).mp c7
        exact ct_vret hx hb hr hlocks (by have e1 : i = n := (by omega); rw [ex, e1]) hP hD hS dJ7_fill_53178_20
      · skip
        have c7 : ¬ n ≤ i := fun h => c7 ((nI_leI (a := n) (b := i) (by omega) (by omega)).mpr h)
        refine lv_aload_n hx hb dJ7_fill_53178_10 rfl (lv_at hl 2 rfl) ?_
        refine lv_iload_n hx hb dJ7_fill_53178_11 rfl (lv_at hl 1 rfl) ?_
        refine lv_iload_n hx hb dJ7_fill_53178_12 rfl (lv_at hl 3 rfl) ?_
        refine ct_iast hx hb hK hP hD hS 0 0 (k := i) (x := x) rfl rfl (by omega) (by omega) dJ7_fill_53178_13 (fun H locs hP hD hS => ?_)
        have hP : va_P D vwCl [(hB, .inl (cI, n, .inl (upd g i x)))] _ := hP
        have hD : va_D A [(hB, .inl (cI, n, .inl (upd g i x)))] := hD
        refine lv_iinc (v := nI (i + 1)) (lv' := [(2, .int (nI (i + 1))), (3, .int (nI n)), (0, .ref hB), (1, .int x)]) hx hb dJ7_fill_53178_14 hl (k := 1) rfl (nI_add i 1) (by decide) rfl (fun ls hl => ?_)
        refine lv_goto (tgt := 5) hx hb dJ7_fill_53178_17 (by decide) ?_
        exact ih5 (i + 1) (upd g i x) (by omega) (by rw [ex]; exact pg_fill_s f x (Nat.zero_le _)) (by omega) _ _ hP hD hS ls (lv_sub hl [1, 0, 2, 3] rfl)
  exact loop5 _ 0 f (Nat.zero_le _) (pg_fill_0 f 0 x) (Nat.lt_succ_self _) _ _ hP hD hS ls (lv_sub hl [0, 1, 2, 3] rfl)
set_option maxHeartbeats 4000000 in
set_option maxRecDepth 100000 in
theorem c_X0_begin (l : Launch) (D : va_G) (cI cZ : ClassId) (hd hB a q : Nat) (k : Int32) (f : Nat → Int32) (h1 : q < a) (ha : a ≤ 120) : CtV l yX0_begin wsX0_begin ({ frames := 2, cells := 0, slots := 0, locals := 46 }) D vwCl (ct_T cI cZ) [.ref hd, .int (nI q), .int k] [(hd, .inr (0, [.int (nI a), .ref hB])), (hB, .inl (cI, a * 48, .inl f))] [(hd, .inr (0, [.int (nI a), .ref hB])), (hB, .inl (cI, a * 48, .inl (pg_begin f q k)))] := by
  refine ct_of (Qf := ct_Qv D vwCl [(hd, .inr (0, [.int (nI a), .ref hB])), (hB, .inl (cI, a * 48, .inl (pg_begin f q k)))]) (cc := cX0_begin) (maxL := 4) (ret := none) [(0, .ref hd), (1, .int (nI q)), (2, .int k)] (by decide) rfl (Nat.le_of_ble_eq_true rfl) rfl ?_
  intro p e s m below meth c hx hb hr hts hown hlocks hml hnm A hA hK hN hP hD hS ls hl
  have hown : s.vm.findClass RX0 = some m.cls := hown
  have hk0 := hts (.fieldLink RX0 15 "DesignPages$Pages" "bytes" "[I") (by decide +kernel)
  have hiX0 : ∀ w ∈ wsX00, w ∈ wsX0_begin := by decide +kernel
  refine lv_iload_n hx hb dX0_begin_0 rfl (lv_at hl 1 rfl) ?_
  refine lv_bipush (v := 48) hx hb dX0_begin_1 (by decide) ?_
  refine lv_imul hx hb dX0_begin_3 ?_
  refine ct_top (y := nI (q * 48)) (pk_mul q 48) ?_
  refine lv_istore_n (lv' := [(3, .int (nI (q * 48))), (0, .ref hd), (1, .int (nI q)), (2, .int k)]) hx hb dX0_begin_4 rfl hl (by decide) rfl (fun ls hl => ?_)
  refine lv_aload_n hx hb dX0_begin_5 rfl (lv_at hl 1 rfl) ?_
  refine va_get (D := D) (cl := vwCl) (ci := 0) (v := .ref hB) (C := RX0) (T := TX0) (N := 2) hx hb hts hiX0 hown hK hP 0 rfl rfl 1 (by decide) hk0 (fun _ h9 => h9) rfl dX0_begin_6 ?_
  refine lv_iload_n hx hb dX0_begin_9 rfl (lv_at hl 0 rfl) ?_
  refine lv_iload_n hx hb dX0_begin_10 rfl (lv_at hl 0 rfl) ?_
  refine lv_bipush (v := 48) hx hb dX0_begin_11 (by decide) ?_
  refine lv_iadd hx hb dX0_begin_13 ?_
  refine ct_top (y := nI ((q * 48) + 48)) (nI_add (q * 48) 48) ?_
  refine lv_iconst (v := 0) hx hb dX0_begin_14 (by decide) ?_
  refine ct_callv (w := [(hB, .inl (cI, a * 48, .inl f))]) (w' := [(hB, .inl (cI, a * 48, .inl (pg_fill f (q * 48) ((q * 48) + 48) 0)))]) (va_runS (As := [.ref hB, .int (nI (q * 48)), .int (nI ((q * 48) + 48)), .int 0]) (rest := []) ⟨hx, hb, hml, hown, hts⟩ (c_J7_fill_fda19 l D cI cZ hB (a * 48) (q * 48) ((q * 48) + 48) 0 f (by omega) (by omega) (by omega) _) (va_cwS 4 hts gX0_begin_J7_fill_fda19 rfl rfl rfl (by decide +kernel) ⟨Nat.le_of_ble_eq_true rfl, Nat.le_of_ble_eq_true rfl⟩) (ct_preS (w := [(hB, .inl (cI, a * 48, .inl f))]) hK hN hP hD [1] (by decide) rfl) rfl rfl hl.1 rfl (lv_room (Nat.le_of_ble_eq_true rfl)) dX0_begin_15 ⟨Nat.le_of_ble_eq_true rfl, Nat.le_of_ble_eq_true rfl⟩) hP hD hS hA [1] rfl [hB] rfl rfl (fun H locs hP hD hS => ?_)
  have hP : va_P D vwCl [(hd, .inr (0, [.int (nI a), .ref hB])), (hB, .inl (cI, a * 48, .inl (pg_fill f (q * 48) ((q * 48) + 48) 0)))] _ := hP
  have hD : va_D A [(hd, .inr (0, [.int (nI a), .ref hB])), (hB, .inl (cI, a * 48, .inl (pg_fill f (q * 48) ((q * 48) + 48) 0)))] := hD
  refine lv_aload_n hx hb dX0_begin_18 rfl (lv_at hl 1 rfl) ?_
  refine lv_iload_n hx hb dX0_begin_19 rfl (lv_at hl 2 rfl) ?_
  refine lv_iconst (v := 0) hx hb dX0_begin_20 (by decide) ?_
  refine lv_iload_n hx hb dX0_begin_21 rfl (lv_at hl 3 rfl) ?_
  refine ct_callv (w := [(hd, .inr (0, [.int (nI a), .ref hB])), (hB, .inl (cI, a * 48, .inl (pg_fill f (q * 48) ((q * 48) + 48) 0)))]) (w' := [(hd, .inr (0, [.int (nI a), .ref hB])), (hB, .inl (cI, a * 48, .inl (upd (pg_fill f (q * 48) ((q * 48) + 48) 0) (q * 48 + 0) k)))]) (va_runV (As := [.int (nI q), .int 0, .int k]) (rest := []) ⟨hx, hb, hml, hown, hts⟩ (c_X0_set l D cI cZ hd hB a q 0 k (pg_fill f (q * 48) ((q * 48) + 48) 0) (by omega) (by omega) (by omega) _) (cwV 3 hts gX0_begin_X0_set rfl rfl rfl (by decide +kernel) ⟨Nat.le_of_ble_eq_true rfl, Nat.le_of_ble_eq_true rfl⟩) (ct_preV (w := [(hd, .inr (0, [.int (nI a), .ref hB])), (hB, .inl (cI, a * 48, .inl (pg_fill f (q * 48) ((q * 48) + 48) 0)))]) (ci := 0) (i0 := 0) hK hN hP hD [0, 1] (by decide) rfl rfl rfl) rfl rfl hl.1 rfl (lv_room (Nat.le_of_ble_eq_true rfl)) dX0_begin_22 ⟨Nat.le_of_ble_eq_true rfl, Nat.le_of_ble_eq_true rfl⟩) hP hD hS hA [0, 1] rfl [hd, hB] rfl rfl (fun H locs hP hD hS => ?_)
  have hP : va_P D vwCl [(hd, .inr (0, [.int (nI a), .ref hB])), (hB, .inl (cI, a * 48, .inl (upd (pg_fill f (q * 48) ((q * 48) + 48) 0) (q * 48 + 0) k)))] _ := hP
  have hD : va_D A [(hd, .inr (0, [.int (nI a), .ref hB])), (hB, .inl (cI, a * 48, .inl (upd (pg_fill f (q * 48) ((q * 48) + 48) 0) (q * 48 + 0) k)))] := hD
  exact ct_vret hx hb hr hlocks (rfl) hP hD hS dX0_begin_25
set_option maxHeartbeats 4000000 in
set_option maxRecDepth 100000 in
theorem c_X0_copy (l : Launch) (D : va_G) (cI cZ : ClassId) (hd hB a q r : Nat) (f : Nat → Int32) (h1 : q < a) (h2 : r < a) (ha : a ≤ 120) : CtV l yX0_copy wsX0_copy ({ frames := 1, cells := 0, slots := 0, locals := 18 }) D vwCl (ct_T cI cZ) [.ref hd, .int (nI q), .int (nI r)] [(hd, .inr (0, [.int (nI a), .ref hB])), (hB, .inl (cI, a * 48, .inl f))] [(hd, .inr (0, [.int (nI a), .ref hB])), (hB, .inl (cI, a * 48, .inl (va_cpy f f (q * 48) (r * 48) 48)))] := by
  refine ct_of (Qf := ct_Qv D vwCl [(hd, .inr (0, [.int (nI a), .ref hB])), (hB, .inl (cI, a * 48, .inl (va_cpy f f (q * 48) (r * 48) 48)))]) (cc := cX0_copy) (maxL := 3) (ret := none) [(0, .ref hd), (1, .int (nI q)), (2, .int (nI r))] (by decide) rfl (Nat.le_of_ble_eq_true rfl) rfl ?_
  intro p e s m below meth c hx hb hr hts hown hlocks hml hnm A hA hK hN hP hD hS ls hl
  have hown : s.vm.findClass RX0 = some m.cls := hown
  have hk0 := hts (.fieldLink RX0 15 "DesignPages$Pages" "bytes" "[I") (by decide +kernel)
  have hk1 := hts (.methodLink RX0 29 arraycopyName) (by decide +kernel)
  have hk2 := hts (.native arraycopyName) (by decide +kernel)
  have hk3 := hts (.static arraycopyName) (by decide +kernel)
  have hk4 := hts (.initialized "java/lang/System") (by decide +kernel)
  have hiX0 : ∀ w ∈ wsX00, w ∈ wsX0_copy := by decide +kernel
  refine lv_aload_n hx hb dX0_copy_0 rfl (lv_at hl 0 rfl) ?_
  refine va_get (D := D) (cl := vwCl) (ci := 0) (v := .ref hB) (C := RX0) (T := TX0) (N := 2) hx hb hts hiX0 hown hK hP 0 rfl rfl 1 (by decide) hk0 (fun _ h9 => h9) rfl dX0_copy_1 ?_
  refine lv_iload_n hx hb dX0_copy_4 rfl (lv_at hl 1 rfl) ?_
  refine lv_bipush (v := 48) hx hb dX0_copy_5 (by decide) ?_
  refine lv_imul hx hb dX0_copy_7 ?_
  refine ct_top (y := nI (q * 48)) (pk_mul q 48) ?_
  refine lv_aload_n hx hb dX0_copy_8 rfl (lv_at hl 0 rfl) ?_
  refine va_get (D := D) (cl := vwCl) (ci := 0) (v := .ref hB) (C := RX0) (T := TX0) (N := 2) hx hb hts hiX0 hown hK hP 0 rfl rfl 1 (by decide) hk0 (fun _ h9 => h9) rfl dX0_copy_9 ?_
  refine lv_iload_n hx hb dX0_copy_12 rfl (lv_at hl 2 rfl) ?_
  refine lv_bipush (v := 48) hx hb dX0_copy_13 (by decide) ?_
  refine lv_imul hx hb dX0_copy_15 ?_
  refine ct_top (y := nI (r * 48)) (pk_mul r 48) ?_
  refine lv_bipush (v := 48) hx hb dX0_copy_16 (by decide) ?_
  refine ct_copyi hx hb (hml.trans hl.1.symm) hown hk1 hk2 hk3 hk4 hK hP hD hS 1 1 0 0 (sp := (q * 48)) (dp := (r * 48)) (n := 48) rfl rfl rfl rfl (by omega) (by omega) (by omega) (by omega) (Nat.le_of_ble_eq_true rfl) (Nat.le_of_ble_eq_true rfl) dX0_copy_18 (fun H locs hP hD hS => ?_)
  have hP : va_P D vwCl [(hd, .inr (0, [.int (nI a), .ref hB])), (hB, .inl (cI, a * 48, .inl (va_cpy f f (q * 48) (r * 48) 48)))] _ := hP
  have hD : va_D A [(hd, .inr (0, [.int (nI a), .ref hB])), (hB, .inl (cI, a * 48, .inl (va_cpy f f (q * 48) (r * 48) 48)))] := hD
  exact ct_vret hx hb hr hlocks (rfl) hP hD hS dX0_copy_21
end
section
set_option maxHeartbeats 4000000 in
set_option maxRecDepth 100000 in
theorem c_X1_isOff (l : Launch) (D : va_G) (cI cZ : ClassId) (hw : Nat) (O : Prop) (lf us : Int32)  : CtI l yX1_isOff wsX1_isOff ({ frames := 0, cells := 0, slots := 0, locals := 0 }) D vwCl (ct_T cI cZ) [.ref hw] [(hw, .inr (1, [.int (b2i O), .int lf, .int us]))] [(hw, .inr (1, [.int (b2i O), .int lf, .int us]))] (b2i O) := by
  refine ct_of (Qf := ct_Qi D vwCl [(hw, .inr (1, [.int (b2i O), .int lf, .int us]))] (b2i O)) (cc := cX1_isOff) (maxL := 1) (ret := (some .boolean)) [(0, .ref hw)] (by decide) rfl (Nat.le_of_ble_eq_true rfl) rfl ?_
  intro p e s m below meth c hx hb hr hts hown hlocks hml hnm A hA hK hN hP hD hS ls hl
  have hown : s.vm.findClass RX1 = some m.cls := hown
  have hk0 := hts (.fieldLink RX1 9 "DesignPages$Power" "off" "Z") (by decide +kernel)
  have hiX1 : ∀ w ∈ wsX10, w ∈ wsX1_isOff := by decide +kernel
  refine lv_aload_n hx hb dX1_isOff_0 rfl (lv_at hl 0 rfl) ?_
  refine va_get (D := D) (cl := vwCl) (ci := 1) (v := .int (b2i O)) (C := RX1) (T := TX1) (N := 3) hx hb hts hiX1 hown hK hP 0 rfl rfl 0 (by decide) hk0 (fun _ h9 => h9) rfl dX1_isOff_1 ?_
  exact ct_zret hx hb hr hlocks (b2i_nar _) (rfl) (rfl) hP hD hS dX1_isOff_4
set_option maxHeartbeats 4000000 in
set_option maxRecDepth 100000 in
theorem c_X1_pagesWritten (l : Launch) (D : va_G) (cI cZ : ClassId) (hw : Nat) (O : Prop) (lf us : Int32)  : CtI l yX1_pagesWritten wsX1_pagesWritten ({ frames := 0, cells := 0, slots := 0, locals := 0 }) D vwCl (ct_T cI cZ) [.ref hw] [(hw, .inr (1, [.int (b2i O), .int lf, .int us]))] [(hw, .inr (1, [.int (b2i O), .int lf, .int us]))] us := by
  refine ct_of (Qf := ct_Qi D vwCl [(hw, .inr (1, [.int (b2i O), .int lf, .int us]))] us) (cc := cX1_pagesWritten) (maxL := 1) (ret := (some .int)) [(0, .ref hw)] (by decide) rfl (Nat.le_of_ble_eq_true rfl) rfl ?_
  intro p e s m below meth c hx hb hr hts hown hlocks hml hnm A hA hK hN hP hD hS ls hl
  have hown : s.vm.findClass RX1 = some m.cls := hown
  have hk0 := hts (.fieldLink RX1 19 "DesignPages$Power" "used" "I") (by decide +kernel)
  have hiX1 : ∀ w ∈ wsX10, w ∈ wsX1_pagesWritten := by decide +kernel
  refine lv_aload_n hx hb dX1_pagesWritten_0 rfl (lv_at hl 0 rfl) ?_
  refine va_get (D := D) (cl := vwCl) (ci := 1) (v := .int us) (C := RX1) (T := TX1) (N := 3) hx hb hts hiX1 hown hK hP 0 rfl rfl 2 (by decide) hk0 (fun _ h9 => h9) rfl dX1_pagesWritten_1 ?_
  exact ct_iret hx hb hr hlocks (rfl) (rfl) hP hD hS dX1_pagesWritten_4
set_option maxHeartbeats 4000000 in
set_option maxRecDepth 100000 in
theorem c_X1_failAfter (l : Launch) (D : va_G) (cI cZ : ClassId) (hw : Nat) (O : Prop) (lf us : Int32) (x : Int32)  : CtV l yX1_failAfter wsX1_failAfter ({ frames := 0, cells := 0, slots := 0, locals := 0 }) D vwCl (ct_T cI cZ) [.ref hw, .int x] [(hw, .inr (1, [.int (b2i O), .int lf, .int us]))] [(hw, .inr (1, [.int (b2i (x = 0)), .int x, .int us]))] := by
  refine ct_of (Qf := ct_Qv D vwCl [(hw, .inr (1, [.int (b2i (x = 0)), .int x, .int us]))]) (cc := cX1_failAfter) (maxL := 2) (ret := none) [(0, .ref hw), (1, .int x)] (by decide) rfl (Nat.le_of_ble_eq_true rfl) rfl ?_
  intro p e s m below meth c hx hb hr hts hown hlocks hml hnm A hA hK hN hP hD hS ls hl
  have hown : s.vm.findClass RX1 = some m.cls := hown
  have hk0 := hts (.fieldLink RX1 15 "DesignPages$Power" "pagesLeft" "I") (by decide +kernel)
  have hk1 := hts (.fieldLink RX1 9 "DesignPages$Power" "off" "Z") (by decide +kernel)
  have hiX1 : ∀ w ∈ wsX10, w ∈ wsX1_failAfter := by decide +kernel
  refine lv_aload_n hx hb dX1_failAfter_0 rfl (lv_at hl 0 rfl) ?_
  refine lv_iload_n hx hb dX1_failAfter_1 rfl (lv_at hl 1 rfl) ?_
  refine va_put (D := D) (cl := vwCl) (ci := 1) (v := .int x) (ty := .int) (C := RX1) (T := TX1) (N := 3) hx hb hts hiX1 tyX1 tyX1_ok nmX1 hown hK hP hD hS 0 rfl rfl 1 (by decide) hk0 (fun _ h9 => h9) rfl (by decide +kernel) rfl rfl (Nat.le_of_ble_eq_true rfl) dX1_failAfter_2 (fun H locs hP hD hS => ?_)
  have hP : va_P D vwCl [(hw, .inr (1, [.int (b2i O), .int x, .int us]))] _ := hP
  have hD : va_D A [(hw, .inr (1, [.int (b2i O), .int x, .int us]))] := hD
  refine lv_aload_n hx hb dX1_failAfter_5 rfl (lv_at hl 0 rfl) ?_
  refine lv_iload_n hx hb dX1_failAfter_6 rfl (lv_at hl 1 rfl) ?_
  refine lv_if_ne (tgt := 14) hx hb dX1_failAfter_7 (by decide) (fun c7 => ?_) (fun c7 => ?_)
  · skip
    refine lv_iconst (v := 0) hx hb dX1_failAfter_14 (by decide) ?_
    refine va_put (D := D) (cl := vwCl) (ci := 1) (v := .int 0) (ty := .boolean) (C := RX1) (T := TX1) (N := 3) hx hb hts hiX1 tyX1 tyX1_ok nmX1 hown hK hP hD hS 0 rfl rfl 0 (by decide) hk1 (fun _ h9 => h9) rfl (by decide +kernel) rfl rfl (Nat.le_of_ble_eq_true rfl) dX1_failAfter_15 (fun H locs hP hD hS => ?_)
    have hP : va_P D vwCl [(hw, .inr (1, [.int 0, .int x, .int us]))] _ := hP
    have hD : va_D A [(hw, .inr (1, [.int 0, .int x, .int us]))] := hD
    exact ct_vret hx hb hr hlocks (by rw [b2i_f c7]) hP hD hS dX1_failAfter_18
  · skip
    refine lv_iconst (v := 1) hx hb dX1_failAfter_10 (by decide) ?_
    refine lv_goto (tgt := 15) hx hb dX1_failAfter_11 (by decide) ?_
    refine va_put (D := D) (cl := vwCl) (ci := 1) (v := .int 1) (ty := .boolean) (C := RX1) (T := TX1) (N := 3) hx hb hts hiX1 tyX1 tyX1_ok nmX1 hown hK hP hD hS 0 rfl rfl 0 (by decide) hk1 (fun _ h9 => h9) rfl (by decide +kernel) rfl rfl (Nat.le_of_ble_eq_true rfl) dX1_failAfter_15 (fun H locs hP hD hS => ?_)
    have hP : va_P D vwCl [(hw, .inr (1, [.int 1, .int x, .int us]))] _ := hP
    have hD : va_D A [(hw, .inr (1, [.int 1, .int x, .int us]))] := hD
    exact ct_vret hx hb hr hlocks (by rw [b2i_t c7]) hP hD hS dX1_failAfter_18
set_option maxHeartbeats 4000000 in
set_option maxRecDepth 100000 in
theorem c_X1_usePage (l : Launch) (D : va_G) (cI cZ : ClassId) (hw : Nat) (O : Prop) (lf us : Int32)  : CtV l yX1_usePage wsX1_usePage ({ frames := 0, cells := 0, slots := 0, locals := 0 }) D vwCl (ct_T cI cZ) [.ref hw] [(hw, .inr (1, [.int (b2i O), .int lf, .int us]))] [(hw, .inr (1, [.int (b2i (pw_off O lf)), .int (pw_left lf), .int (us + 1)]))] := by
  refine ct_of (Qf := ct_Qv D vwCl [(hw, .inr (1, [.int (b2i (pw_off O lf)), .int (pw_left lf), .int (us + 1)]))]) (cc := cX1_usePage) (maxL := 1) (ret := none) [(0, .ref hw)] (by decide) rfl (Nat.le_of_ble_eq_true rfl) rfl ?_
  intro p e s m below meth c hx hb hr hts hown hlocks hml hnm A hA hK hN hP hD hS ls hl
  have hown : s.vm.findClass RX1 = some m.cls := hown
  have hk0 := hts (.fieldLink RX1 19 "DesignPages$Power" "used" "I") (by decide +kernel)
  have hk1 := hts (.fieldLink RX1 15 "DesignPages$Power" "pagesLeft" "I") (by decide +kernel)
  have hk2 := hts (.fieldLink RX1 9 "DesignPages$Power" "off" "Z") (by decide +kernel)
  have hiX1 : ∀ w ∈ wsX10, w ∈ wsX1_usePage := by decide +kernel
  refine lv_aload_n hx hb dX1_usePage_0 rfl (lv_at hl 0 rfl) ?_
  refine lv_dup hx hb dX1_usePage_1 rfl ?_
  refine va_get (D := D) (cl := vwCl) (ci := 1) (v := .int us) (C := RX1) (T := TX1) (N := 3) hx hb hts hiX1 hown hK hP 0 rfl rfl 2 (by decide) hk0 (fun _ h9 => h9) rfl dX1_usePage_2 ?_
  refine lv_iconst (v := 1) hx hb dX1_usePage_5 (by decide) ?_
  refine lv_iadd hx hb dX1_usePage_6 ?_
  refine va_put (D := D) (cl := vwCl) (ci := 1) (v := .int (us + 1)) (ty := .int) (C := RX1) (T := TX1) (N := 3) hx hb hts hiX1 tyX1 tyX1_ok nmX1 hown hK hP hD hS 0 rfl rfl 2 (by decide) hk0 (fun _ h9 => h9) rfl (by decide +kernel) rfl rfl (Nat.le_of_ble_eq_true rfl) dX1_usePage_7 (fun H locs hP hD hS => ?_)
  have hP : va_P D vwCl [(hw, .inr (1, [.int (b2i O), .int lf, .int (us + 1)]))] _ := hP
  have hD : va_D A [(hw, .inr (1, [.int (b2i O), .int lf, .int (us + 1)]))] := hD
  refine lv_aload_n hx hb dX1_usePage_10 rfl (lv_at hl 0 rfl) ?_
  refine va_get (D := D) (cl := vwCl) (ci := 1) (v := .int lf) (C := RX1) (T := TX1) (N := 3) hx hb hts hiX1 hown hK hP 0 rfl rfl 1 (by decide) hk1 (fun _ h9 => h9) rfl dX1_usePage_11 ?_
  refine lv_if_le (tgt := 43) hx hb dX1_usePage_14 (by decide) (fun c14 => ?_) (fun c14 => ?_)
  · skip
    exact ct_vret hx hb hr hlocks (by have e1 : ¬ 0 < lf := Int32.not_lt.mpr c14; rw [show pw_left lf = lf from if_neg e1, b2i_congr (P := pw_off O lf) (Q := O) ⟨fun h => h.elim (fun h => absurd h.1 e1) (fun h => h.2), fun h => Or.inr ⟨e1, h⟩⟩]) hP hD hS dX1_usePage_43
  · skip
    refine lv_aload_n hx hb dX1_usePage_17 rfl (lv_at hl 0 rfl) ?_
    refine lv_dup hx hb dX1_usePage_18 rfl ?_
    refine va_get (D := D) (cl := vwCl) (ci := 1) (v := .int lf) (C := RX1) (T := TX1) (N := 3) hx hb hts hiX1 hown hK hP 0 rfl rfl 1 (by decide) hk1 (fun _ h9 => h9) rfl dX1_usePage_19 ?_
    refine lv_iconst (v := 1) hx hb dX1_usePage_22 (by decide) ?_
    refine lv_isub hx hb dX1_usePage_23 ?_
    refine va_put (D := D) (cl := vwCl) (ci := 1) (v := .int (lf - 1)) (ty := .int) (C := RX1) (T := TX1) (N := 3) hx hb hts hiX1 tyX1 tyX1_ok nmX1 hown hK hP hD hS 0 rfl rfl 1 (by decide) hk1 (fun _ h9 => h9) rfl (by decide +kernel) rfl rfl (Nat.le_of_ble_eq_true rfl) dX1_usePage_24 (fun H locs hP hD hS => ?_)
    have hP : va_P D vwCl [(hw, .inr (1, [.int (b2i O), .int (lf - 1), .int (us + 1)]))] _ := hP
    have hD : va_D A [(hw, .inr (1, [.int (b2i O), .int (lf - 1), .int (us + 1)]))] := hD
    refine lv_aload_n hx hb dX1_usePage_27 rfl (lv_at hl 0 rfl) ?_
    refine lv_aload_n hx hb dX1_usePage_28 rfl (lv_at hl 0 rfl) ?_
    refine va_get (D := D) (cl := vwCl) (ci := 1) (v := .int (lf - 1)) (C := RX1) (T := TX1) (N := 3) hx hb hts hiX1 hown hK hP 0 rfl rfl 1 (by decide) hk1 (fun _ h9 => h9) rfl dX1_usePage_29 ?_
    refine lv_if_ne (tgt := 39) hx hb dX1_usePage_32 (by decide) (fun c32 => ?_) (fun c32 => ?_)
    · skip
      refine lv_iconst (v := 0) hx hb dX1_usePage_39 (by decide) ?_
      refine va_put (D := D) (cl := vwCl) (ci := 1) (v := .int 0) (ty := .boolean) (C := RX1) (T := TX1) (N := 3) hx hb hts hiX1 tyX1 tyX1_ok nmX1 hown hK hP hD hS 0 rfl rfl 0 (by decide) hk2 (fun _ h9 => h9) rfl (by decide +kernel) rfl rfl (Nat.le_of_ble_eq_true rfl) dX1_usePage_40 (fun H locs hP hD hS => ?_)
      have hP : va_P D vwCl [(hw, .inr (1, [.int 0, .int (lf - 1), .int (us + 1)]))] _ := hP
      have hD : va_D A [(hw, .inr (1, [.int 0, .int (lf - 1), .int (us + 1)]))] := hD
      exact ct_vret hx hb hr hlocks (by have e1 : 0 < lf := Int32.not_le.mp c14; rw [show pw_left lf = lf - 1 from if_pos e1, b2i_f (P := pw_off O lf) (fun h => h.elim (fun h => c32 h.2) (fun h => h.1 e1))]) hP hD hS dX1_usePage_43
    · skip
      refine lv_iconst (v := 1) hx hb dX1_usePage_35 (by decide) ?_
      refine lv_goto (tgt := 40) hx hb dX1_usePage_36 (by decide) ?_
      refine va_put (D := D) (cl := vwCl) (ci := 1) (v := .int 1) (ty := .boolean) (C := RX1) (T := TX1) (N := 3) hx hb hts hiX1 tyX1 tyX1_ok nmX1 hown hK hP hD hS 0 rfl rfl 0 (by decide) hk2 (fun _ h9 => h9) rfl (by decide +kernel) rfl rfl (Nat.le_of_ble_eq_true rfl) dX1_usePage_40 (fun H locs hP hD hS => ?_)
      have hP : va_P D vwCl [(hw, .inr (1, [.int 1, .int (lf - 1), .int (us + 1)]))] _ := hP
      have hD : va_D A [(hw, .inr (1, [.int 1, .int (lf - 1), .int (us + 1)]))] := hD
      exact ct_vret hx hb hr hlocks (by have e1 : 0 < lf := Int32.not_le.mp c14; rw [show pw_left lf = lf - 1 from if_pos e1, b2i_t (P := pw_off O lf) (Or.inl ⟨e1, c32⟩)]) hP hD hS dX1_usePage_43
set_option maxHeartbeats 4000000 in
set_option maxRecDepth 100000 in
theorem c_X1_restore (l : Launch) (D : va_G) (cI cZ : ClassId) (hw : Nat) (O : Prop) (lf us : Int32)  : CtV l yX1_restore wsX1_restore ({ frames := 0, cells := 0, slots := 0, locals := 0 }) D vwCl (ct_T cI cZ) [.ref hw] [(hw, .inr (1, [.int (b2i O), .int lf, .int us]))] [(hw, .inr (1, [.int (b2i False), .int (-1), .int us]))] := by
  refine ct_of (Qf := ct_Qv D vwCl [(hw, .inr (1, [.int (b2i False), .int (-1), .int us]))]) (cc := cX1_restore) (maxL := 1) (ret := none) [(0, .ref hw)] (by decide) rfl (Nat.le_of_ble_eq_true rfl) rfl ?_
  intro p e s m below meth c hx hb hr hts hown hlocks hml hnm A hA hK hN hP hD hS ls hl
  have hown : s.vm.findClass RX1 = some m.cls := hown
  have hk0 := hts (.fieldLink RX1 9 "DesignPages$Power" "off" "Z") (by decide +kernel)
  have hk1 := hts (.fieldLink RX1 15 "DesignPages$Power" "pagesLeft" "I") (by decide +kernel)
  have hiX1 : ∀ w ∈ wsX10, w ∈ wsX1_restore := by decide +kernel
  refine lv_aload_n hx hb dX1_restore_0 rfl (lv_at hl 0 rfl) ?_
  refine lv_iconst (v := 0) hx hb dX1_restore_1 (by decide) ?_
  refine va_put (D := D) (cl := vwCl) (ci := 1) (v := .int 0) (ty := .boolean) (C := RX1) (T := TX1) (N := 3) hx hb hts hiX1 tyX1 tyX1_ok nmX1 hown hK hP hD hS 0 rfl rfl 0 (by decide) hk0 (fun _ h9 => h9) rfl (by decide +kernel) rfl rfl (Nat.le_of_ble_eq_true rfl) dX1_restore_2 (fun H locs hP hD hS => ?_)
  have hP : va_P D vwCl [(hw, .inr (1, [.int 0, .int lf, .int us]))] _ := hP
  have hD : va_D A [(hw, .inr (1, [.int 0, .int lf, .int us]))] := hD
  refine lv_aload_n hx hb dX1_restore_5 rfl (lv_at hl 0 rfl) ?_
  refine lv_iconst (v := (-1)) hx hb dX1_restore_6 (by decide) ?_
  refine va_put (D := D) (cl := vwCl) (ci := 1) (v := .int (-1)) (ty := .int) (C := RX1) (T := TX1) (N := 3) hx hb hts hiX1 tyX1 tyX1_ok nmX1 hown hK hP hD hS 0 rfl rfl 1 (by decide) hk1 (fun _ h9 => h9) rfl (by decide +kernel) rfl rfl (Nat.le_of_ble_eq_true rfl) dX1_restore_7 (fun H locs hP hD hS => ?_)
  have hP : va_P D vwCl [(hw, .inr (1, [.int 0, .int (-1), .int us]))] _ := hP
  have hD : va_D A [(hw, .inr (1, [.int 0, .int (-1), .int us]))] := hD
  exact ct_vret hx hb hr hlocks (by rw [b2i_f (fun h => h)]) hP hD hS dX1_restore_10
end
section
set_option maxHeartbeats 4000000 in
set_option maxRecDepth 100000 in
theorem c_X2_markOf (l : Launch) (D : va_G) (cI cZ : ClassId) (x : Int32)  : CtI l yX2_markOf wsX2_markOf ({ frames := 0, cells := 0, slots := 0, locals := 0 }) D vwCl (ct_T cI cZ) [.int x] [] [] (mk_bit x) := by
  refine ct_of (Qf := ct_Qi D vwCl [] (mk_bit x)) (cc := cX2_markOf) (maxL := 1) (ret := (some .int)) [(0, .int x)] (by decide) rfl (Nat.le_of_ble_eq_true rfl) rfl ?_
  intro p e s m below meth c hx hb hr hts hown hlocks hml hnm A hA hK hN hP hD hS ls hl
  have hown : s.vm.findClass RX2 = some m.cls := hown
  refine lv_iconst (v := 1) hx hb dX2_markOf_0 (by decide) ?_
  refine lv_iload_n hx hb dX2_markOf_1 rfl (lv_at hl 0 rfl) ?_
  refine lv_ishl hx hb dX2_markOf_2 ?_
  exact ct_iret hx hb hr hlocks (rfl) (rfl) hP hD hS dX2_markOf_3
set_option maxHeartbeats 4000000 in
set_option maxRecDepth 100000 in
theorem c_X2_leastBad (l : Launch) (D : va_G) (cI cZ : ClassId) (hR hM a : Nat) (M : Nat → Int32) (ha : a ≤ 120) : CtI l yX2_leastBad wsX2_leastBad ({ frames := 0, cells := 0, slots := 0, locals := 0 }) D vwCl (ct_T cI cZ) [.ref hR] [(hR, .inr (2, [.ref hM])), (hM, .inl (cI, a, .inl M))] [(hR, .inr (2, [.ref hM])), (hM, .inl (cI, a, .inl M))] (fd (fun p => ¬ M p &&& 1 = 0) a 0) := by
  refine ct_of (Qf := ct_Qi D vwCl [(hR, .inr (2, [.ref hM])), (hM, .inl (cI, a, .inl M))] (fd (fun p => ¬ M p &&& 1 = 0) a 0)) (cc := cX2_leastBad) (maxL := 2) (ret := (some .int)) [(0, .ref hR)] (by decide) rfl (Nat.le_of_ble_eq_true rfl) rfl ?_
  intro p e s m below meth c hx hb hr hts hown hlocks hml hnm A hA hK hN hP hD hS ls hl
  have hown : s.vm.findClass RX2 = some m.cls := hown
  have hk0 := hts (.fieldLink RX2 9 "DesignPages$Reach" "marks" "[I") (by decide +kernel)
  have hiX2 : ∀ w ∈ wsX20, w ∈ wsX2_leastBad := by decide +kernel
  refine lv_iconst (v := 0) hx hb dX2_leastBad_0 (by decide) ?_
  refine lv_istore_n (lv' := [(1, .int 0), (0, .ref hR)]) hx hb dX2_leastBad_1 rfl hl (by decide) rfl (fun ls hl => ?_)
  have loop2 : ∀ (n2 : Nat) (i : Nat), i ≤ a → fd (fun p => ¬ M p &&& 1 = 0) a 0 = fd (fun p => ¬ M p &&& 1 = 0) (a - i) i → a - i < n2 → ∀ (H : Heap) (locs : List Loc), va_P D vwCl [(hR, .inr (2, [.ref hM])), (hM, .inl (cI, a, .inl M))] H → va_D A [(hR, .inr (2, [.ref hM])), (hM, .inl (cI, a, .inl M))] → va_S A s.heap H locs → ∀ (ls : Array Slot), lv_has ls 2 [(1, .int (nI i)), (0, .ref hR)] → W p l e ({ frames := 0, cells := 0, slots := 0, locals := 0 }) s m ([.ref hR] : List Value).toArray below meth c H locs 0 0 (MQ below (ct_Qi D vwCl [(hR, .inr (2, [.ref hM])), (hM, .inl (cI, a, .inl M))] (fd (fun p => ¬ M p &&& 1 = 0) a 0) A) ([.ref hR] : List Value).toArray s 0 0 A) (F0 m 2 ls []) := by
    intro n2
    induction n2 with
    | zero =>
      intro i _ _ hm
      exact absurd hm (Nat.not_lt_zero _)
    | succ n2 ih2 =>
      intro i hi ex hm2 H locs hP hD hS ls hl
      refine lv_iload_n hx hb dX2_leastBad_2 rfl (lv_at hl 0 rfl) ?_
      refine lv_aload_n hx hb dX2_leastBad_3 rfl (lv_at hl 1 rfl) ?_
      refine va_get (D := D) (cl := vwCl) (ci := 2) (v := .ref hM) (C := RX2) (T := TX2) (N := 1) hx hb hts hiX2 hown hK hP 0 rfl rfl 0 (by decide) hk0 (fun _ h9 => h9) rfl dX2_leastBad_4 ?_
      refine va_alen (v := nI a) hx hb hK hP 1 0 rfl rfl rfl dX2_leastBad_7 ?_
      refine lv_icmp_ge (tgt := 30) hx hb dX2_leastBad_8 (by decide) (fun c8 => ?_) (fun c8 => ?_)
      · skip
        have c8 : a ≤ i := (nI_leI (a := a) (b := i) (by omega) (by omega)).mp c8
        refine lv_iconst (v := (-1)) hx hb dX2_leastBad_30 (by decide) ?_
        exact ct_iret hx hb hr hlocks (by rw [ex]; exact (fd_0' (by omega)).symm) (rfl) hP hD hS dX2_leastBad_31
      · skip
        have c8 : ¬ a ≤ i := fun h => c8 ((nI_leI (a := a) (b := i) (by omega) (by omega)).mpr h)
        refine lv_aload_n hx hb dX2_leastBad_11 rfl (lv_at hl 1 rfl) ?_
        refine va_get (D := D) (cl := vwCl) (ci := 2) (v := .ref hM) (C := RX2) (T := TX2) (N := 1) hx hb hts hiX2 hown hK hP 0 rfl rfl 0 (by decide) hk0 (fun _ h9 => h9) rfl dX2_leastBad_12 ?_
        refine lv_iload_n hx hb dX2_leastBad_15 rfl (lv_at hl 0 rfl) ?_
        refine ct_iald hx hb hK hP 1 0 (k := i) rfl rfl (by omega) (by omega) dX2_leastBad_16 ?_
        refine lv_iconst (v := 1) hx hb dX2_leastBad_17 (by decide) ?_
        refine lv_iand hx hb dX2_leastBad_18 ?_
        refine lv_if_eq (tgt := 24) hx hb dX2_leastBad_19 (by decide) (fun c19 => ?_) (fun c19 => ?_)
        · skip
          refine lv_iinc (v := nI (i + 1)) (lv' := [(1, .int (nI (i + 1))), (0, .ref hR)]) hx hb dX2_leastBad_24 hl (k := 0) rfl (nI_add i 1) (by decide) rfl (fun ls hl => ?_)
          refine lv_goto (tgt := 2) hx hb dX2_leastBad_27 (by decide) ?_
          exact ih2 (i + 1) (by omega) (by rw [ex]; exact fd_n' (P := fun p => ¬ M p &&& 1 = 0) (fun h => h c19) (by omega)) (by omega) _ _ hP hD hS ls (lv_sub hl [0, 1] rfl)
        · skip
          refine lv_iload_n hx hb dX2_leastBad_22 rfl (lv_at hl 0 rfl) ?_
          exact ct_iret hx hb hr hlocks (by rw [ex]; exact (fd_t' (P := fun p => ¬ M p &&& 1 = 0) c19 (by omega)).symm) (rfl) hP hD hS dX2_leastBad_23
  exact loop2 _ 0 (Nat.zero_le _) (rfl) (Nat.lt_succ_self _) _ _ hP hD hS ls (lv_sub hl [0, 1] rfl)
set_option maxHeartbeats 4000000 in
set_option maxRecDepth 100000 in
theorem c_X2_freePages (l : Launch) (D : va_G) (cI cZ : ClassId) (hR hM a : Nat) (M : Nat → Int32) (ha : a ≤ 120) (h8 : 8 ≤ a) : CtI l yX2_freePages wsX2_freePages ({ frames := 0, cells := 0, slots := 0, locals := 0 }) D vwCl (ct_T cI cZ) [.ref hR] [(hR, .inr (2, [.ref hM])), (hM, .inl (cI, a, .inl M))] [(hR, .inr (2, [.ref hM])), (hM, .inl (cI, a, .inl M))] (nI (ct_of_P (fun p => M p = 0) 8 (a - 8))) := by
  refine ct_of (Qf := ct_Qi D vwCl [(hR, .inr (2, [.ref hM])), (hM, .inl (cI, a, .inl M))] (nI (ct_of_P (fun p => M p = 0) 8 (a - 8)))) (cc := cX2_freePages) (maxL := 3) (ret := (some .int)) [(0, .ref hR)] (by decide) rfl (Nat.le_of_ble_eq_true rfl) rfl ?_
  intro p e s m below meth c hx hb hr hts hown hlocks hml hnm A hA hK hN hP hD hS ls hl
  have hown : s.vm.findClass RX2 = some m.cls := hown
  have hk0 := hts (.fieldLink RX2 9 "DesignPages$Reach" "marks" "[I") (by decide +kernel)
  have hiX2 : ∀ w ∈ wsX20, w ∈ wsX2_freePages := by decide +kernel
  have hkb : ∀ j : Nat, ct_of_P (fun p => M p = 0) 8 j ≤ 8 + j := fun j => Nat.le_trans (ct_P_le _ _ j) (by omega)
  refine lv_iconst (v := 0) hx hb dX2_freePages_0 (by decide) ?_
  refine lv_istore_n (lv' := [(1, .int 0), (0, .ref hR)]) hx hb dX2_freePages_1 rfl hl (by decide) rfl (fun ls hl => ?_)
  refine lv_bipush (v := 8) hx hb dX2_freePages_2 (by decide) ?_
  refine lv_istore_n (lv' := [(2, .int 8), (1, .int 0), (0, .ref hR)]) hx hb dX2_freePages_4 rfl hl (by decide) rfl (fun ls hl => ?_)
  have loop5 : ∀ (n5 : Nat) (i k : Nat), 8 + i ≤ a → k = ct_of_P (fun p => M p = 0) 8 i → a - i < n5 → ∀ (H : Heap) (locs : List Loc), va_P D vwCl [(hR, .inr (2, [.ref hM])), (hM, .inl (cI, a, .inl M))] H → va_D A [(hR, .inr (2, [.ref hM])), (hM, .inl (cI, a, .inl M))] → va_S A s.heap H locs → ∀ (ls : Array Slot), lv_has ls 3 [(2, .int (nI (8 + i))), (1, .int (nI k)), (0, .ref hR)] → W p l e ({ frames := 0, cells := 0, slots := 0, locals := 0 }) s m ([.ref hR] : List Value).toArray below meth c H locs 0 0 (MQ below (ct_Qi D vwCl [(hR, .inr (2, [.ref hM])), (hM, .inl (cI, a, .inl M))] (nI (ct_of_P (fun p => M p = 0) 8 (a - 8))) A) ([.ref hR] : List Value).toArray s 0 0 A) (F0 m 5 ls []) := by
    intro n5
    induction n5 with
    | zero =>
      intro i k _ _ hm
      exact absurd hm (Nat.not_lt_zero _)
    | succ n5 ih5 =>
      intro i k hi ex hm5 H locs hP hD hS ls hl
      refine lv_iload_n hx hb dX2_freePages_5 rfl (lv_at hl 0 rfl) ?_
      refine lv_aload_n hx hb dX2_freePages_6 rfl (lv_at hl 2 rfl) ?_
      refine va_get (D := D) (cl := vwCl) (ci := 2) (v := .ref hM) (C := RX2) (T := TX2) (N := 1) hx hb hts hiX2 hown hK hP 0 rfl rfl 0 (by decide) hk0 (fun _ h9 => h9) rfl dX2_freePages_7 ?_
      refine va_alen (v := nI a) hx hb hK hP 1 0 rfl rfl rfl dX2_freePages_10 ?_
      have hk8 : ct_of_P (fun p => M p = 0) 8 i ≤ 8 + i := hkb i
      refine lv_icmp_ge (tgt := 32) hx hb dX2_freePages_11 (by decide) (fun c11 => ?_) (fun c11 => ?_)
      · skip
        have c11 : a ≤ (8 + i) := (nI_leI (a := a) (b := (8 + i)) (by omega) (by omega)).mp c11
        refine lv_iload_n hx hb dX2_freePages_32 rfl (lv_at hl 1 rfl) ?_
        exact ct_iret hx hb hr hlocks (by have e1 : a - 8 = i := (by omega); rw [e1, ex]) (rfl) hP hD hS dX2_freePages_33
      · skip
        have c11 : ¬ a ≤ (8 + i) := fun h => c11 ((nI_leI (a := a) (b := (8 + i)) (by omega) (by omega)).mpr h)
        refine lv_aload_n hx hb dX2_freePages_14 rfl (lv_at hl 2 rfl) ?_
        refine va_get (D := D) (cl := vwCl) (ci := 2) (v := .ref hM) (C := RX2) (T := TX2) (N := 1) hx hb hts hiX2 hown hK hP 0 rfl rfl 0 (by decide) hk0 (fun _ h9 => h9) rfl dX2_freePages_15 ?_
        refine lv_iload_n hx hb dX2_freePages_18 rfl (lv_at hl 0 rfl) ?_
        refine ct_iald hx hb hK hP 1 0 (k := (8 + i)) rfl rfl (by omega) (by omega) dX2_freePages_19 ?_
        refine lv_if_ne (tgt := 26) hx hb dX2_freePages_20 (by decide) (fun c20 => ?_) (fun c20 => ?_)
        · skip
          refine lv_iinc (v := nI ((8 + i) + 1)) (lv' := [(2, .int (nI ((8 + i) + 1))), (1, .int (nI k)), (0, .ref hR)]) hx hb dX2_freePages_26 hl (k := 0) rfl (nI_add (8 + i) 1) (by decide) rfl (fun ls hl => ?_)
          refine lv_goto (tgt := 5) hx hb dX2_freePages_29 (by decide) ?_
          exact ih5 (i + 1) k (by omega) (by rw [ct_P0 (P := fun p => M p = 0) c20]; exact ex) (by omega) _ _ hP hD hS ls (lv_sub hl [0, 1, 2] rfl)
        · skip
          refine lv_iinc (v := nI (k + 1)) (lv' := [(1, .int (nI (k + 1))), (2, .int (nI (8 + i))), (0, .ref hR)]) hx hb dX2_freePages_23 hl (k := 1) rfl (nI_add k 1) (by decide) rfl (fun ls hl => ?_)
          refine lv_iinc (v := nI ((8 + i) + 1)) (lv' := [(2, .int (nI ((8 + i) + 1))), (1, .int (nI (k + 1))), (0, .ref hR)]) hx hb dX2_freePages_26 hl (k := 1) rfl (nI_add (8 + i) 1) (by decide) rfl (fun ls hl => ?_)
          refine lv_goto (tgt := 5) hx hb dX2_freePages_29 (by decide) ?_
          exact ih5 (i + 1) (k + 1) (by omega) (by rw [ct_P1 (P := fun p => M p = 0) c20, ← ex]) (by omega) _ _ hP hD hS ls (lv_sub hl [0, 1, 2] rfl)
  exact loop5 _ 0 0 (by omega) (rfl) (Nat.lt_succ_self _) _ _ hP hD hS ls (lv_sub hl [0, 1, 2] rfl)
set_option maxHeartbeats 4000000 in
set_option maxRecDepth 100000 in
theorem c_X2_freeFrom (l : Launch) (D : va_G) (cI cZ : ClassId) (hR hM a : Nat) (M : Nat → Int32) (n : Nat) (ha : a ≤ 120) (hn : n < 2 ^ 30) : CtI l yX2_freeFrom wsX2_freeFrom ({ frames := 0, cells := 0, slots := 0, locals := 0 }) D vwCl (ct_T cI cZ) [.ref hR, .int (nI n)] [(hR, .inr (2, [.ref hM])), (hM, .inl (cI, a, .inl M))] [(hR, .inr (2, [.ref hM])), (hM, .inl (cI, a, .inl M))] (fd (fun p => M p = 0) (a - n) n) := by
  refine ct_of (Qf := ct_Qi D vwCl [(hR, .inr (2, [.ref hM])), (hM, .inl (cI, a, .inl M))] (fd (fun p => M p = 0) (a - n) n)) (cc := cX2_freeFrom) (maxL := 3) (ret := (some .int)) [(0, .ref hR), (1, .int (nI n))] (by decide) rfl (Nat.le_of_ble_eq_true rfl) rfl ?_
  intro p e s m below meth c hx hb hr hts hown hlocks hml hnm A hA hK hN hP hD hS ls hl
  have hown : s.vm.findClass RX2 = some m.cls := hown
  have hk0 := hts (.fieldLink RX2 9 "DesignPages$Reach" "marks" "[I") (by decide +kernel)
  have hiX2 : ∀ w ∈ wsX20, w ∈ wsX2_freeFrom := by decide +kernel
  refine lv_iload_n hx hb dX2_freeFrom_0 rfl (lv_at hl 1 rfl) ?_
  refine lv_istore_n (lv' := [(2, .int (nI n)), (0, .ref hR), (1, .int (nI n))]) hx hb dX2_freeFrom_1 rfl hl (by decide) rfl (fun ls hl => ?_)
  have loop2 : ∀ (n2 : Nat) (i : Nat), i < 2 ^ 31 → fd (fun p => M p = 0) (a - n) n = fd (fun p => M p = 0) (a - i) i → a - i < n2 → ∀ (H : Heap) (locs : List Loc), va_P D vwCl [(hR, .inr (2, [.ref hM])), (hM, .inl (cI, a, .inl M))] H → va_D A [(hR, .inr (2, [.ref hM])), (hM, .inl (cI, a, .inl M))] → va_S A s.heap H locs → ∀ (ls : Array Slot), lv_has ls 3 [(2, .int (nI i)), (0, .ref hR), (1, .int (nI n))] → W p l e ({ frames := 0, cells := 0, slots := 0, locals := 0 }) s m ([.ref hR, .int (nI n)] : List Value).toArray below meth c H locs 0 0 (MQ below (ct_Qi D vwCl [(hR, .inr (2, [.ref hM])), (hM, .inl (cI, a, .inl M))] (fd (fun p => M p = 0) (a - n) n) A) ([.ref hR, .int (nI n)] : List Value).toArray s 0 0 A) (F0 m 2 ls []) := by
    intro n2
    induction n2 with
    | zero =>
      intro i _ _ hm
      exact absurd hm (Nat.not_lt_zero _)
    | succ n2 ih2 =>
      intro i hi ex hm2 H locs hP hD hS ls hl
      refine lv_iload_n hx hb dX2_freeFrom_2 rfl (lv_at hl 0 rfl) ?_
      refine lv_aload_n hx hb dX2_freeFrom_3 rfl (lv_at hl 1 rfl) ?_
      refine va_get (D := D) (cl := vwCl) (ci := 2) (v := .ref hM) (C := RX2) (T := TX2) (N := 1) hx hb hts hiX2 hown hK hP 0 rfl rfl 0 (by decide) hk0 (fun _ h9 => h9) rfl dX2_freeFrom_4 ?_
      refine va_alen (v := nI a) hx hb hK hP 1 0 rfl rfl rfl dX2_freeFrom_7 ?_
      refine lv_icmp_ge (tgt := 28) hx hb dX2_freeFrom_8 (by decide) (fun c8 => ?_) (fun c8 => ?_)
      · skip
        have c8 : a ≤ i := (nI_leI (a := a) (b := i) (by omega) (by omega)).mp c8
        refine lv_iconst (v := (-1)) hx hb dX2_freeFrom_28 (by decide) ?_
        exact ct_iret hx hb hr hlocks (by rw [ex]; exact (fd_0' (by omega)).symm) (rfl) hP hD hS dX2_freeFrom_29
      · skip
        have c8 : ¬ a ≤ i := fun h => c8 ((nI_leI (a := a) (b := i) (by omega) (by omega)).mpr h)
        refine lv_aload_n hx hb dX2_freeFrom_11 rfl (lv_at hl 1 rfl) ?_
        refine va_get (D := D) (cl := vwCl) (ci := 2) (v := .ref hM) (C := RX2) (T := TX2) (N := 1) hx hb hts hiX2 hown hK hP 0 rfl rfl 0 (by decide) hk0 (fun _ h9 => h9) rfl dX2_freeFrom_12 ?_
        refine lv_iload_n hx hb dX2_freeFrom_15 rfl (lv_at hl 0 rfl) ?_
        refine ct_iald hx hb hK hP 1 0 (k := i) rfl rfl (by omega) (by omega) dX2_freeFrom_16 ?_
        refine lv_if_ne (tgt := 22) hx hb dX2_freeFrom_17 (by decide) (fun c17 => ?_) (fun c17 => ?_)
        · skip
          refine lv_iinc (v := nI (i + 1)) (lv' := [(2, .int (nI (i + 1))), (0, .ref hR), (1, .int (nI n))]) hx hb dX2_freeFrom_22 hl (k := 0) rfl (nI_add i 1) (by decide) rfl (fun ls hl => ?_)
          refine lv_goto (tgt := 2) hx hb dX2_freeFrom_25 (by decide) ?_
          exact ih2 (i + 1) (by omega) (by rw [ex]; exact fd_n' (P := fun p => M p = 0) c17 (by omega)) (by omega) _ _ hP hD hS ls (lv_sub hl [0, 1, 2] rfl)
        · skip
          refine lv_iload_n hx hb dX2_freeFrom_20 rfl (lv_at hl 0 rfl) ?_
          exact ct_iret hx hb hr hlocks (by rw [ex]; exact (fd_t' (P := fun p => M p = 0) c17 (by omega)).symm) (rfl) hP hD hS dX2_freeFrom_21
  exact loop2 _ n (by omega) (rfl) (Nat.lt_succ_self _) _ _ hP hD hS ls (lv_sub hl [0, 1, 2] rfl)
set_option maxHeartbeats 4000000 in
set_option maxRecDepth 100000 in
theorem c_X2_markTold (l : Launch) (D : va_G) (cI cZ : ClassId) (hR hM hd hB a q st n : Nat) (k : Int32) (M f : Nat → Int32) (h1 : q < a) (h2 : st + n ≤ 48) (ha : a ≤ 120) (hok : pg_ok f a (q * 48 + st) n) : CtV l yX2_markTold wsX2_markTold ({ frames := 1, cells := 0, slots := 0, locals := 22 }) D vwCl (ct_T cI cZ) [.ref hR, .ref hd, .int (nI q), .int (nI st), .int (nI n), .int k] [(hR, .inr (2, [.ref hM])), (hM, .inl (cI, a, .inl M)), (hd, .inr (0, [.int (nI a), .ref hB])), (hB, .inl (cI, a * 48, .inl f))] [(hR, .inr (2, [.ref hM])), (hM, .inl (cI, a, .inl (mt_fold f (q * 48 + st) (mk_bit k) M n))), (hd, .inr (0, [.int (nI a), .ref hB])), (hB, .inl (cI, a * 48, .inl f))] := by
  refine ct_of (Qf := ct_Qv D vwCl [(hR, .inr (2, [.ref hM])), (hM, .inl (cI, a, .inl (mt_fold f (q * 48 + st) (mk_bit k) M n))), (hd, .inr (0, [.int (nI a), .ref hB])), (hB, .inl (cI, a * 48, .inl f))]) (cc := cX2_markTold) (maxL := 8) (ret := none) [(0, .ref hR), (1, .ref hd), (2, .int (nI q)), (3, .int (nI st)), (4, .int (nI n)), (5, .int k)] (by decide) rfl (Nat.le_of_ble_eq_true rfl) rfl ?_
  intro p e s m below meth c hx hb hr hts hown hlocks hml hnm A hA hK hN hP hD hS ls hl
  have hown : s.vm.findClass RX2 = some m.cls := hown
  have hk0 := hts (.fieldLink RX2 9 "DesignPages$Reach" "marks" "[I") (by decide +kernel)
  have hiX2 : ∀ w ∈ wsX20, w ∈ wsX2_markTold := by decide +kernel
  refine lv_iconst (v := 0) hx hb dX2_markTold_0 (by decide) ?_
  refine lv_istore (lv' := [(6, .int 0), (0, .ref hR), (1, .ref hd), (2, .int (nI q)), (3, .int (nI st)), (4, .int (nI n)), (5, .int k)]) hx hb dX2_markTold_1 hl (by decide) rfl (fun ls hl => ?_)
  have loop3 : ∀ (n3 : Nat) (i : Nat) (G : Nat → Int32), i ≤ n → G = mt_fold f (q * 48 + st) (mk_bit k) M i → n - i < n3 → ∀ (H : Heap) (locs : List Loc), va_P D vwCl [(hR, .inr (2, [.ref hM])), (hM, .inl (cI, a, .inl G)), (hd, .inr (0, [.int (nI a), .ref hB])), (hB, .inl (cI, a * 48, .inl f))] H → va_D A [(hR, .inr (2, [.ref hM])), (hM, .inl (cI, a, .inl G)), (hd, .inr (0, [.int (nI a), .ref hB])), (hB, .inl (cI, a * 48, .inl f))] → va_S A s.heap H locs → ∀ (ls : Array Slot), lv_has ls 8 [(6, .int (nI i)), (0, .ref hR), (1, .ref hd), (2, .int (nI q)), (3, .int (nI st)), (4, .int (nI n)), (5, .int k)] → W p l e ({ frames := 1, cells := 0, slots := 0, locals := 22 }) s m ([.ref hR, .ref hd, .int (nI q), .int (nI st), .int (nI n), .int k] : List Value).toArray below meth c H locs 0 0 (MQ below (ct_Qv D vwCl [(hR, .inr (2, [.ref hM])), (hM, .inl (cI, a, .inl (mt_fold f (q * 48 + st) (mk_bit k) M n))), (hd, .inr (0, [.int (nI a), .ref hB])), (hB, .inl (cI, a * 48, .inl f))] A) ([.ref hR, .ref hd, .int (nI q), .int (nI st), .int (nI n), .int k] : List Value).toArray s 0 0 A) (F0 m 3 ls []) := by
    intro n3
    induction n3 with
    | zero =>
      intro i G _ _ hm
      exact absurd hm (Nat.not_lt_zero _)
    | succ n3 ih3 =>
      intro i G hi ex hm3 H locs hP hD hS ls hl
      refine lv_iload hx hb dX2_markTold_3 (lv_at hl 0 rfl) ?_
      refine lv_iload hx hb dX2_markTold_5 (lv_at hl 5 rfl) ?_
      refine lv_icmp_ge (tgt := 47) hx hb dX2_markTold_7 (by decide) (fun c7 => ?_) (fun c7 => ?_)
      · skip
        have c7 : n ≤ i := (nI_leI (a := n) (b := i) (by omega) (by omega)).mp c7
        exact ct_vret hx hb hr hlocks (by have e1 : i = n := (by omega); rw [ex, e1]) hP hD hS dX2_markTold_47
      · skip
        have c7 : ¬ n ≤ i := fun h => c7 ((nI_leI (a := n) (b := i) (by omega) (by omega)).mpr h)
        refine lv_aload_n hx hb dX2_markTold_10 rfl (lv_at hl 2 rfl) ?_
        refine lv_iload_n hx hb dX2_markTold_11 rfl (lv_at hl 3 rfl) ?_
        refine lv_iload_n hx hb dX2_markTold_12 rfl (lv_at hl 4 rfl) ?_
        refine lv_iload hx hb dX2_markTold_13 (lv_at hl 0 rfl) ?_
        refine lv_iadd hx hb dX2_markTold_15 ?_
        refine ct_top (y := nI (st + i)) (nI_add st i) ?_
        refine ct_calli (w := [(hd, .inr (0, [.int (nI a), .ref hB])), (hB, .inl (cI, a * 48, .inl f))]) (w' := [(hd, .inr (0, [.int (nI a), .ref hB])), (hB, .inl (cI, a * 48, .inl f))]) (va_runV (As := [.int (nI q), .int (nI (st + i))]) (rest := []) ⟨hx, hb, hml, hown, hts⟩ (c_X0_at l D cI cZ hd hB a q (st + i) f (by omega) (by omega) (by omega) _) (cwV 2 hts gX2_markTold_X0_at rfl rfl rfl (by decide +kernel) ⟨Nat.le_of_ble_eq_true rfl, Nat.le_of_ble_eq_true rfl⟩) (ct_preV (w := [(hd, .inr (0, [.int (nI a), .ref hB])), (hB, .inl (cI, a * 48, .inl f))]) (ci := 0) (i0 := 2) hK hN hP hD [2, 3] (by decide) rfl rfl rfl) rfl rfl hl.1 rfl (lv_room (Nat.le_of_ble_eq_true rfl)) dX2_markTold_16 ⟨Nat.le_of_ble_eq_true rfl, Nat.le_of_ble_eq_true rfl⟩) hP hD hS hA [2, 3] rfl [hd, hB] rfl rfl (fun H locs hP hD hS => ?_)
        have hP : va_P D vwCl [(hR, .inr (2, [.ref hM])), (hM, .inl (cI, a, .inl G)), (hd, .inr (0, [.int (nI a), .ref hB])), (hB, .inl (cI, a * 48, .inl f))] _ := hP
        have hD : va_D A [(hR, .inr (2, [.ref hM])), (hM, .inl (cI, a, .inl G)), (hd, .inr (0, [.int (nI a), .ref hB])), (hB, .inl (cI, a * 48, .inl f))] := hD
        have hnv := pg_one_nv (hok i (by omega)) ha (by omega)
        have e19 : q * 48 + (st + i) = q * 48 + st + i := by omega
        refine ct_top (y := nI (nv (f (q * 48 + st + i)))) (by rw [e19]; exact hnv.1) ?_
        have hnv2 := hnv.2.1
        refine lv_istore (lv' := [(7, .int (nI (nv (f (q * 48 + st + i))))), (6, .int (nI i)), (0, .ref hR), (1, .ref hd), (2, .int (nI q)), (3, .int (nI st)), (4, .int (nI n)), (5, .int k)]) hx hb dX2_markTold_19 hl (by decide) rfl (fun ls hl => ?_)
        refine lv_iload hx hb dX2_markTold_21 (lv_at hl 0 rfl) ?_
        refine lv_if_eq (tgt := 41) hx hb dX2_markTold_23 (by decide) (fun c23 => ?_) (fun c23 => ?_)
        · skip
          have c23 : (nv (f (q * 48 + st + i))) = 0 := (nI_eq (a := (nv (f (q * 48 + st + i)))) (b := 0) (by omega) (by omega)).mp c23
          refine lv_iinc (v := nI (i + 1)) (lv' := [(6, .int (nI (i + 1))), (7, .int (nI (nv (f (q * 48 + st + i))))), (0, .ref hR), (1, .ref hd), (2, .int (nI q)), (3, .int (nI st)), (4, .int (nI n)), (5, .int k)]) hx hb dX2_markTold_41 hl (k := 1) rfl (nI_add i 1) (by decide) rfl (fun ls hl => ?_)
          refine lv_goto (tgt := 3) hx hb dX2_markTold_44 (by decide) ?_
          exact ih3 (i + 1) G (by omega) (by rw [mt_s0 ((nv_0 hnv.1).mp c23)]; exact ex) (by omega) _ _ hP hD hS ls (lv_sub hl [0, 2, 3, 4, 5, 6, 7] rfl)
        · skip
          have c23 : ¬ (nv (f (q * 48 + st + i))) = 0 := fun h => c23 ((nI_eq (a := (nv (f (q * 48 + st + i)))) (b := 0) (by omega) (by omega)).mpr h)
          refine lv_aload_n hx hb dX2_markTold_26 rfl (lv_at hl 2 rfl) ?_
          refine va_get (D := D) (cl := vwCl) (ci := 2) (v := .ref hM) (C := RX2) (T := TX2) (N := 1) hx hb hts hiX2 hown hK hP 0 rfl rfl 0 (by decide) hk0 (fun _ h9 => h9) rfl dX2_markTold_27 ?_
          refine lv_iload hx hb dX2_markTold_30 (lv_at hl 0 rfl) ?_
          refine lv_dup2_11 hx hb dX2_markTold_32 rfl rfl ?_
          refine ct_iald hx hb hK hP 1 0 (k := (nv (f (q * 48 + st + i)))) rfl rfl (by omega) (by omega) dX2_markTold_33 ?_
          refine lv_iload hx hb dX2_markTold_34 (lv_at hl 7 rfl) ?_
          refine ct_calli (w := []) (w' := []) (va_runS (As := [.int k]) (rest := [.int (G (nv (f (q * 48 + st + i)))), .int (nI (nv (f (q * 48 + st + i)))), .ref hM]) ⟨hx, hb, hml, hown, hts⟩ (c_X2_markOf l D cI cZ k _) (va_cwS 1 hts gX2_markTold_X2_markOf rfl rfl rfl (by decide +kernel) ⟨Nat.le_of_ble_eq_true rfl, Nat.le_of_ble_eq_true rfl⟩) (ct_preS (w := []) hK hN hP hD [] (by decide) rfl) rfl rfl hl.1 rfl (lv_room (Nat.le_of_ble_eq_true rfl)) dX2_markTold_36 ⟨Nat.le_of_ble_eq_true rfl, Nat.le_of_ble_eq_true rfl⟩) hP hD hS hA [] rfl [] rfl rfl (fun H locs hP hD hS => ?_)
          have hP : va_P D vwCl [(hR, .inr (2, [.ref hM])), (hM, .inl (cI, a, .inl G)), (hd, .inr (0, [.int (nI a), .ref hB])), (hB, .inl (cI, a * 48, .inl f))] _ := hP
          have hD : va_D A [(hR, .inr (2, [.ref hM])), (hM, .inl (cI, a, .inl G)), (hd, .inr (0, [.int (nI a), .ref hB])), (hB, .inl (cI, a * 48, .inl f))] := hD
          refine lv_ior hx hb dX2_markTold_39 ?_
          refine ct_iast hx hb hK hP hD hS 1 0 (k := (nv (f (q * 48 + st + i)))) (x := ((G (nv (f (q * 48 + st + i)))) ||| (mk_bit k))) rfl rfl (by omega) (by omega) dX2_markTold_40 (fun H locs hP hD hS => ?_)
          have hP : va_P D vwCl [(hR, .inr (2, [.ref hM])), (hM, .inl (cI, a, .inl (upd G (nv (f (q * 48 + st + i))) ((G (nv (f (q * 48 + st + i)))) ||| (mk_bit k))))), (hd, .inr (0, [.int (nI a), .ref hB])), (hB, .inl (cI, a * 48, .inl f))] _ := hP
          have hD : va_D A [(hR, .inr (2, [.ref hM])), (hM, .inl (cI, a, .inl (upd G (nv (f (q * 48 + st + i))) ((G (nv (f (q * 48 + st + i)))) ||| (mk_bit k))))), (hd, .inr (0, [.int (nI a), .ref hB])), (hB, .inl (cI, a * 48, .inl f))] := hD
          refine lv_iinc (v := nI (i + 1)) (lv' := [(6, .int (nI (i + 1))), (7, .int (nI (nv (f (q * 48 + st + i))))), (0, .ref hR), (1, .ref hd), (2, .int (nI q)), (3, .int (nI st)), (4, .int (nI n)), (5, .int k)]) hx hb dX2_markTold_41 hl (k := 1) rfl (nI_add i 1) (by decide) rfl (fun ls hl => ?_)
          refine lv_goto (tgt := 3) hx hb dX2_markTold_44 (by decide) ?_
          exact ih3 (i + 1) (upd G (nv (f (q * 48 + st + i))) ((G (nv (f (q * 48 + st + i)))) ||| (mk_bit k))) (by omega) (by rw [mt_s1 (fun h => c23 ((nv_0 hnv.1).mpr h)), ← ex]) (by omega) _ _ hP hD hS ls (lv_sub hl [0, 2, 3, 4, 5, 6, 7] rfl)
  exact loop3 _ 0 M (Nat.zero_le _) (rfl) (Nat.lt_succ_self _) _ _ hP hD hS ls (lv_sub hl [0, 1, 2, 3, 4, 5, 6] rfl)
set_option maxHeartbeats 4000000 in
set_option maxRecDepth 100000 in
theorem c_X2_lookAtAll (l : Launch) (D : va_G) (cI cZ : ClassId) (hR hM hd hB a : Nat) (k : Int32) (M f : Nat → Int32) (ha : a ≤ 120) : CtV l yX2_lookAtAll wsX2_lookAtAll ({ frames := 3, cells := 0, slots := 0, locals := 69 }) D vwCl (ct_T cI cZ) [.ref hR, .ref hd, .int k] [(hR, .inr (2, [.ref hM])), (hM, .inl (cI, a, .inl M)), (hd, .inr (0, [.int (nI a), .ref hB])), (hB, .inl (cI, a * 48, .inl f))] [(hR, .inr (2, [.ref hM])), (hM, .inl (cI, a, .inl (la_fold f a k M a))), (hd, .inr (0, [.int (nI a), .ref hB])), (hB, .inl (cI, a * 48, .inl f))] := by
  refine ct_of (Qf := ct_Qv D vwCl [(hR, .inr (2, [.ref hM])), (hM, .inl (cI, a, .inl (la_fold f a k M a))), (hd, .inr (0, [.int (nI a), .ref hB])), (hB, .inl (cI, a * 48, .inl f))]) (cc := cX2_lookAtAll) (maxL := 4) (ret := none) [(0, .ref hR), (1, .ref hd), (2, .int k)] (by decide) rfl (Nat.le_of_ble_eq_true rfl) rfl ?_
  intro p e s m below meth c hx hb hr hts hown hlocks hml hnm A hA hK hN hP hD hS ls hl
  have hown : s.vm.findClass RX2 = some m.cls := hown
  have hk0 := hts (.fieldLink RX2 9 "DesignPages$Reach" "marks" "[I") (by decide +kernel)
  have hiX2 : ∀ w ∈ wsX20, w ∈ wsX2_lookAtAll := by decide +kernel
  refine lv_iconst (v := 0) hx hb dX2_lookAtAll_0 (by decide) ?_
  refine lv_istore_n (lv' := [(3, .int 0), (0, .ref hR), (1, .ref hd), (2, .int k)]) hx hb dX2_lookAtAll_1 rfl hl (by decide) rfl (fun ls hl => ?_)
  have loop2 : ∀ (n2 : Nat) (i : Nat) (G : Nat → Int32), i ≤ a → G = la_fold f a k M i → a - i < n2 → ∀ (H : Heap) (locs : List Loc), va_P D vwCl [(hR, .inr (2, [.ref hM])), (hM, .inl (cI, a, .inl G)), (hd, .inr (0, [.int (nI a), .ref hB])), (hB, .inl (cI, a * 48, .inl f))] H → va_D A [(hR, .inr (2, [.ref hM])), (hM, .inl (cI, a, .inl G)), (hd, .inr (0, [.int (nI a), .ref hB])), (hB, .inl (cI, a * 48, .inl f))] → va_S A s.heap H locs → ∀ (ls : Array Slot), lv_has ls 4 [(3, .int (nI i)), (0, .ref hR), (1, .ref hd), (2, .int k)] → W p l e ({ frames := 3, cells := 0, slots := 0, locals := 69 }) s m ([.ref hR, .ref hd, .int k] : List Value).toArray below meth c H locs 0 0 (MQ below (ct_Qv D vwCl [(hR, .inr (2, [.ref hM])), (hM, .inl (cI, a, .inl (la_fold f a k M a))), (hd, .inr (0, [.int (nI a), .ref hB])), (hB, .inl (cI, a * 48, .inl f))] A) ([.ref hR, .ref hd, .int k] : List Value).toArray s 0 0 A) (F0 m 2 ls []) := by
    intro n2
    induction n2 with
    | zero =>
      intro i G _ _ hm
      exact absurd hm (Nat.not_lt_zero _)
    | succ n2 ih2 =>
      intro i G hi ex hm2 H locs hP hD hS ls hl
      refine lv_iload_n hx hb dX2_lookAtAll_2 rfl (lv_at hl 0 rfl) ?_
      refine lv_aload_n hx hb dX2_lookAtAll_3 rfl (lv_at hl 1 rfl) ?_
      refine va_get (D := D) (cl := vwCl) (ci := 2) (v := .ref hM) (C := RX2) (T := TX2) (N := 1) hx hb hts hiX2 hown hK hP 0 rfl rfl 0 (by decide) hk0 (fun _ h9 => h9) rfl dX2_lookAtAll_4 ?_
      refine va_alen (v := nI a) hx hb hK hP 1 0 rfl rfl rfl dX2_lookAtAll_7 ?_
      refine lv_icmp_ge (tgt := 90) hx hb dX2_lookAtAll_8 (by decide) (fun c8 => ?_) (fun c8 => ?_)
      · skip
        have c8 : a ≤ i := (nI_leI (a := a) (b := i) (by omega) (by omega)).mp c8
        exact ct_vret hx hb hr hlocks (by have e1 : i = a := (by omega); rw [ex, e1]) hP hD hS dX2_lookAtAll_90
      · skip
        have c8 : ¬ a ≤ i := fun h => c8 ((nI_leI (a := a) (b := i) (by omega) (by omega)).mpr h)
        refine lv_aload_n hx hb dX2_lookAtAll_11 rfl (lv_at hl 1 rfl) ?_
        refine va_get (D := D) (cl := vwCl) (ci := 2) (v := .ref hM) (C := RX2) (T := TX2) (N := 1) hx hb hts hiX2 hown hK hP 0 rfl rfl 0 (by decide) hk0 (fun _ h9 => h9) rfl dX2_lookAtAll_12 ?_
        refine lv_iload_n hx hb dX2_lookAtAll_15 rfl (lv_at hl 0 rfl) ?_
        refine ct_iald hx hb hK hP 1 0 (k := i) rfl rfl (by omega) (by omega) dX2_lookAtAll_16 ?_
        refine lv_iload_n hx hb dX2_lookAtAll_17 rfl (lv_at hl 3 rfl) ?_
        refine ct_calli (w := []) (w' := []) (va_runS (As := [.int k]) (rest := [.int (G i)]) ⟨hx, hb, hml, hown, hts⟩ (c_X2_markOf l D cI cZ k _) (va_cwS 1 hts gX2_lookAtAll_X2_markOf rfl rfl rfl (by decide +kernel) ⟨Nat.le_of_ble_eq_true rfl, Nat.le_of_ble_eq_true rfl⟩) (ct_preS (w := []) hK hN hP hD [] (by decide) rfl) rfl rfl hl.1 rfl (lv_room (Nat.le_of_ble_eq_true rfl)) dX2_lookAtAll_18 ⟨Nat.le_of_ble_eq_true rfl, Nat.le_of_ble_eq_true rfl⟩) hP hD hS hA [] rfl [] rfl rfl (fun H locs hP hD hS => ?_)
        have hP : va_P D vwCl [(hR, .inr (2, [.ref hM])), (hM, .inl (cI, a, .inl G)), (hd, .inr (0, [.int (nI a), .ref hB])), (hB, .inl (cI, a * 48, .inl f))] _ := hP
        have hD : va_D A [(hR, .inr (2, [.ref hM])), (hM, .inl (cI, a, .inl G)), (hd, .inr (0, [.int (nI a), .ref hB])), (hB, .inl (cI, a * 48, .inl f))] := hD
        refine lv_iand hx hb dX2_lookAtAll_21 ?_
        refine lv_if_ne (tgt := 28) hx hb dX2_lookAtAll_22 (by decide) (fun c22 => ?_) (fun c22 => ?_)
        · skip
          refine lv_aload_n hx hb dX2_lookAtAll_28 rfl (lv_at hl 2 rfl) ?_
          refine lv_iload_n hx hb dX2_lookAtAll_29 rfl (lv_at hl 0 rfl) ?_
          refine lv_iload_n hx hb dX2_lookAtAll_30 rfl (lv_at hl 3 rfl) ?_
          refine ct_calli (w := [(hd, .inr (0, [.int (nI a), .ref hB])), (hB, .inl (cI, a * 48, .inl f))]) (w' := [(hd, .inr (0, [.int (nI a), .ref hB])), (hB, .inl (cI, a * 48, .inl f))]) (va_runV (As := [.int (nI i), .int k]) (rest := []) ⟨hx, hb, hml, hown, hts⟩ (c_X0_isRight l D cI cZ hd hB a i k f (by omega) (by omega) _) (cwV 2 hts gX2_lookAtAll_X0_isRight rfl rfl rfl (by decide +kernel) ⟨Nat.le_of_ble_eq_true rfl, Nat.le_of_ble_eq_true rfl⟩) (ct_preV (w := [(hd, .inr (0, [.int (nI a), .ref hB])), (hB, .inl (cI, a * 48, .inl f))]) (ci := 0) (i0 := 2) hK hN hP hD [2, 3] (by decide) rfl rfl rfl) rfl rfl hl.1 rfl (lv_room (Nat.le_of_ble_eq_true rfl)) dX2_lookAtAll_31 ⟨Nat.le_of_ble_eq_true rfl, Nat.le_of_ble_eq_true rfl⟩) hP hD hS hA [2, 3] rfl [hd, hB] rfl rfl (fun H locs hP hD hS => ?_)
          have hP : va_P D vwCl [(hR, .inr (2, [.ref hM])), (hM, .inl (cI, a, .inl G)), (hd, .inr (0, [.int (nI a), .ref hB])), (hB, .inl (cI, a * 48, .inl f))] _ := hP
          have hD : va_D A [(hR, .inr (2, [.ref hM])), (hM, .inl (cI, a, .inl G)), (hd, .inr (0, [.int (nI a), .ref hB])), (hB, .inl (cI, a * 48, .inl f))] := hD
          refine lv_if_ne (tgt := 50) hx hb dX2_lookAtAll_34 (by decide) (fun c34 => ?_) (fun c34 => ?_)
          · skip
            refine lv_iload_n hx hb dX2_lookAtAll_50 rfl (lv_at hl 3 rfl) ?_
            refine lv_iconst (v := 1) hx hb dX2_lookAtAll_51 (by decide) ?_
            refine lv_icmp_ne (tgt := 69) hx hb dX2_lookAtAll_52 (by decide) (fun c52 => ?_) (fun c52 => ?_)
            · skip
              refine lv_iload_n hx hb dX2_lookAtAll_69 rfl (lv_at hl 3 rfl) ?_
              refine lv_iconst (v := 2) hx hb dX2_lookAtAll_70 (by decide) ?_
              refine lv_icmp_ne (tgt := 84) hx hb dX2_lookAtAll_71 (by decide) (fun c71 => ?_) (fun c71 => ?_)
              · skip
                refine lv_iinc (v := nI (i + 1)) (lv' := [(3, .int (nI (i + 1))), (0, .ref hR), (1, .ref hd), (2, .int k)]) hx hb dX2_lookAtAll_84 hl (k := 0) rfl (nI_add i 1) (by decide) rfl (fun ls hl => ?_)
                refine lv_goto (tgt := 2) hx hb dX2_lookAtAll_87 (by decide) ?_
                exact ih2 (i + 1) G (by omega) (by subst ex; exact (la_3 c22 (b2i_n0 c34) c52 c71).symm) (by omega) _ _ hP hD hS ls (lv_sub hl [0, 1, 2, 3] rfl)
              · skip
                refine lv_aload_n hx hb dX2_lookAtAll_74 rfl (lv_at hl 1 rfl) ?_
                refine lv_aload_n hx hb dX2_lookAtAll_75 rfl (lv_at hl 2 rfl) ?_
                refine lv_iload_n hx hb dX2_lookAtAll_76 rfl (lv_at hl 0 rfl) ?_
                refine lv_iconst (v := 2) hx hb dX2_lookAtAll_77 (by decide) ?_
                refine lv_bipush (v := 32) hx hb dX2_lookAtAll_78 (by decide) ?_
                refine lv_iconst (v := 3) hx hb dX2_lookAtAll_80 (by decide) ?_
                refine ct_callv (w := [(hR, .inr (2, [.ref hM])), (hM, .inl (cI, a, .inl G)), (hd, .inr (0, [.int (nI a), .ref hB])), (hB, .inl (cI, a * 48, .inl f))]) (w' := [(hR, .inr (2, [.ref hM])), (hM, .inl (cI, a, .inl (mt_fold f (i * 48 + 2) (mk_bit 3) G 32))), (hd, .inr (0, [.int (nI a), .ref hB])), (hB, .inl (cI, a * 48, .inl f))]) (va_runV (As := [.ref hd, .int (nI i), .int 2, .int 32, .int 3]) (rest := []) ⟨hx, hb, hml, hown, hts⟩ (c_X2_markTold l D cI cZ hR hM hd hB a i 2 32 3 G f (by omega) (by omega) (by omega) ((b2i_n0 c34).2.2.2.1 c71) _) (cwV 5 hts gX2_lookAtAll_X2_markTold rfl rfl rfl (by decide +kernel) ⟨Nat.le_of_ble_eq_true rfl, Nat.le_of_ble_eq_true rfl⟩) (ct_preV (w := [(hR, .inr (2, [.ref hM])), (hM, .inl (cI, a, .inl G)), (hd, .inr (0, [.int (nI a), .ref hB])), (hB, .inl (cI, a * 48, .inl f))]) (ci := 2) (i0 := 0) hK hN hP hD [0, 1, 2, 3] (by decide) rfl rfl rfl) rfl rfl hl.1 rfl (lv_room (Nat.le_of_ble_eq_true rfl)) dX2_lookAtAll_81 ⟨Nat.le_of_ble_eq_true rfl, Nat.le_of_ble_eq_true rfl⟩) hP hD hS hA [0, 1, 2, 3] rfl [hR, hM, hd, hB] rfl rfl (fun H locs hP hD hS => ?_)
                have hP : va_P D vwCl [(hR, .inr (2, [.ref hM])), (hM, .inl (cI, a, .inl (mt_fold f (i * 48 + 2) (mk_bit 3) G 32))), (hd, .inr (0, [.int (nI a), .ref hB])), (hB, .inl (cI, a * 48, .inl f))] _ := hP
                have hD : va_D A [(hR, .inr (2, [.ref hM])), (hM, .inl (cI, a, .inl (mt_fold f (i * 48 + 2) (mk_bit 3) G 32))), (hd, .inr (0, [.int (nI a), .ref hB])), (hB, .inl (cI, a * 48, .inl f))] := hD
                refine lv_iinc (v := nI (i + 1)) (lv' := [(3, .int (nI (i + 1))), (0, .ref hR), (1, .ref hd), (2, .int k)]) hx hb dX2_lookAtAll_84 hl (k := 0) rfl (nI_add i 1) (by decide) rfl (fun ls hl => ?_)
                refine lv_goto (tgt := 2) hx hb dX2_lookAtAll_87 (by decide) ?_
                exact ih2 (i + 1) (mt_fold f (i * 48 + 2) (mk_bit 3) G 32) (by omega) (by subst ex; exact (la_2 c22 (b2i_n0 c34) c52 c71).symm) (by omega) _ _ hP hD hS ls (lv_sub hl [0, 1, 2, 3] rfl)
            · skip
              refine lv_aload_n hx hb dX2_lookAtAll_55 rfl (lv_at hl 1 rfl) ?_
              refine lv_aload_n hx hb dX2_lookAtAll_56 rfl (lv_at hl 2 rfl) ?_
              refine lv_iload_n hx hb dX2_lookAtAll_57 rfl (lv_at hl 0 rfl) ?_
              refine lv_bipush (v := 9) hx hb dX2_lookAtAll_58 (by decide) ?_
              refine lv_bipush (v := 32) hx hb dX2_lookAtAll_60 (by decide) ?_
              refine lv_iconst (v := 2) hx hb dX2_lookAtAll_62 (by decide) ?_
              refine ct_callv (w := [(hR, .inr (2, [.ref hM])), (hM, .inl (cI, a, .inl G)), (hd, .inr (0, [.int (nI a), .ref hB])), (hB, .inl (cI, a * 48, .inl f))]) (w' := [(hR, .inr (2, [.ref hM])), (hM, .inl (cI, a, .inl (mt_fold f (i * 48 + 9) (mk_bit 2) G 32))), (hd, .inr (0, [.int (nI a), .ref hB])), (hB, .inl (cI, a * 48, .inl f))]) (va_runV (As := [.ref hd, .int (nI i), .int 9, .int 32, .int 2]) (rest := []) ⟨hx, hb, hml, hown, hts⟩ (c_X2_markTold l D cI cZ hR hM hd hB a i 9 32 2 G f (by omega) (by omega) (by omega) (((b2i_n0 c34).2.2.1 c52).2) _) (cwV 5 hts gX2_lookAtAll_X2_markTold rfl rfl rfl (by decide +kernel) ⟨Nat.le_of_ble_eq_true rfl, Nat.le_of_ble_eq_true rfl⟩) (ct_preV (w := [(hR, .inr (2, [.ref hM])), (hM, .inl (cI, a, .inl G)), (hd, .inr (0, [.int (nI a), .ref hB])), (hB, .inl (cI, a * 48, .inl f))]) (ci := 2) (i0 := 0) hK hN hP hD [0, 1, 2, 3] (by decide) rfl rfl rfl) rfl rfl hl.1 rfl (lv_room (Nat.le_of_ble_eq_true rfl)) dX2_lookAtAll_63 ⟨Nat.le_of_ble_eq_true rfl, Nat.le_of_ble_eq_true rfl⟩) hP hD hS hA [0, 1, 2, 3] rfl [hR, hM, hd, hB] rfl rfl (fun H locs hP hD hS => ?_)
              have hP : va_P D vwCl [(hR, .inr (2, [.ref hM])), (hM, .inl (cI, a, .inl (mt_fold f (i * 48 + 9) (mk_bit 2) G 32))), (hd, .inr (0, [.int (nI a), .ref hB])), (hB, .inl (cI, a * 48, .inl f))] _ := hP
              have hD : va_D A [(hR, .inr (2, [.ref hM])), (hM, .inl (cI, a, .inl (mt_fold f (i * 48 + 9) (mk_bit 2) G 32))), (hd, .inr (0, [.int (nI a), .ref hB])), (hB, .inl (cI, a * 48, .inl f))] := hD
              refine lv_goto (tgt := 84) hx hb dX2_lookAtAll_66 (by decide) ?_
              refine lv_iinc (v := nI (i + 1)) (lv' := [(3, .int (nI (i + 1))), (0, .ref hR), (1, .ref hd), (2, .int k)]) hx hb dX2_lookAtAll_84 hl (k := 0) rfl (nI_add i 1) (by decide) rfl (fun ls hl => ?_)
              refine lv_goto (tgt := 2) hx hb dX2_lookAtAll_87 (by decide) ?_
              exact ih2 (i + 1) (mt_fold f (i * 48 + 9) (mk_bit 2) G 32) (by omega) (by subst ex; exact (la_1 c22 (b2i_n0 c34) c52).symm) (by omega) _ _ hP hD hS ls (lv_sub hl [0, 1, 2, 3] rfl)
          · skip
            refine lv_aload_n hx hb dX2_lookAtAll_37 rfl (lv_at hl 1 rfl) ?_
            refine va_get (D := D) (cl := vwCl) (ci := 2) (v := .ref hM) (C := RX2) (T := TX2) (N := 1) hx hb hts hiX2 hown hK hP 0 rfl rfl 0 (by decide) hk0 (fun _ h9 => h9) rfl dX2_lookAtAll_38 ?_
            refine lv_iload_n hx hb dX2_lookAtAll_41 rfl (lv_at hl 0 rfl) ?_
            refine lv_dup2_11 hx hb dX2_lookAtAll_42 rfl rfl ?_
            refine ct_iald hx hb hK hP 1 0 (k := i) rfl rfl (by omega) (by omega) dX2_lookAtAll_43 ?_
            refine lv_iconst (v := 1) hx hb dX2_lookAtAll_44 (by decide) ?_
            refine lv_ior hx hb dX2_lookAtAll_45 ?_
            refine ct_iast hx hb hK hP hD hS 1 0 (k := i) (x := ((G i) ||| 1)) rfl rfl (by omega) (by omega) dX2_lookAtAll_46 (fun H locs hP hD hS => ?_)
            have hP : va_P D vwCl [(hR, .inr (2, [.ref hM])), (hM, .inl (cI, a, .inl (upd G i ((G i) ||| 1)))), (hd, .inr (0, [.int (nI a), .ref hB])), (hB, .inl (cI, a * 48, .inl f))] _ := hP
            have hD : va_D A [(hR, .inr (2, [.ref hM])), (hM, .inl (cI, a, .inl (upd G i ((G i) ||| 1)))), (hd, .inr (0, [.int (nI a), .ref hB])), (hB, .inl (cI, a * 48, .inl f))] := hD
            refine lv_goto (tgt := 84) hx hb dX2_lookAtAll_47 (by decide) ?_
            refine lv_iinc (v := nI (i + 1)) (lv' := [(3, .int (nI (i + 1))), (0, .ref hR), (1, .ref hd), (2, .int k)]) hx hb dX2_lookAtAll_84 hl (k := 0) rfl (nI_add i 1) (by decide) rfl (fun ls hl => ?_)
            refine lv_goto (tgt := 2) hx hb dX2_lookAtAll_87 (by decide) ?_
            exact ih2 (i + 1) (upd G i ((G i) ||| 1)) (by omega) (by subst ex; exact (la_bad c22 (b2i_0.mp c34)).symm) (by omega) _ _ hP hD hS ls (lv_sub hl [0, 1, 2, 3] rfl)
        · skip
          refine lv_goto (tgt := 84) hx hb dX2_lookAtAll_25 (by decide) ?_
          refine lv_iinc (v := nI (i + 1)) (lv' := [(3, .int (nI (i + 1))), (0, .ref hR), (1, .ref hd), (2, .int k)]) hx hb dX2_lookAtAll_84 hl (k := 0) rfl (nI_add i 1) (by decide) rfl (fun ls hl => ?_)
          refine lv_goto (tgt := 2) hx hb dX2_lookAtAll_87 (by decide) ?_
          exact ih2 (i + 1) G (by omega) (by subst ex; exact (la_none c22).symm) (by omega) _ _ hP hD hS ls (lv_sub hl [0, 1, 2, 3] rfl)
  exact loop2 _ 0 M (Nat.zero_le _) (rfl) (Nat.lt_succ_self _) _ _ hP hD hS ls (lv_sub hl [0, 1, 2, 3] rfl)
set_option maxHeartbeats 4000000 in
set_option maxRecDepth 100000 in
theorem c_X2_walk (l : Launch) (D : va_G) (cI cZ : ClassId) (hR hM hd hB a o n : Nat) (M f : Nat → Int32) (ha : a ≤ 120) (h8 : 12 ≤ a) (ho : o ≤ n + 1) (hn : n ≤ 1000000) : CtV l yX2_walk wsX2_walk ({ frames := 4, cells := 0, slots := 0, locals := 92 }) D vwCl (ct_T cI cZ) [.ref hR, .ref hd, .int (nI o), .int (nI n)] [(hR, .inr (2, [.ref hM])), (hM, .inl (cI, a, .inl M)), (hd, .inr (0, [.int (nI a), .ref hB])), (hB, .inl (cI, a * 48, .inl f))] [(hR, .inr (2, [.ref hM])), (hM, .inl (cI, a, .inl (wk_marks f a o (n + 1 - o)))), (hd, .inr (0, [.int (nI a), .ref hB])), (hB, .inl (cI, a * 48, .inl f))] := by
  refine ct_of (Qf := ct_Qv D vwCl [(hR, .inr (2, [.ref hM])), (hM, .inl (cI, a, .inl (wk_marks f a o (n + 1 - o)))), (hd, .inr (0, [.int (nI a), .ref hB])), (hB, .inl (cI, a * 48, .inl f))]) (cc := cX2_walk) (maxL := 5) (ret := none) [(0, .ref hR), (1, .ref hd), (2, .int (nI o)), (3, .int (nI n))] (by decide) rfl (Nat.le_of_ble_eq_true rfl) rfl ?_
  intro p e s m below meth c hx hb hr hts hown hlocks hml hnm A hA hK hN hP hD hS ls hl
  have hown : s.vm.findClass RX2 = some m.cls := hown
  have hk0 := hts (.fieldLink RX2 9 "DesignPages$Reach" "marks" "[I") (by decide +kernel)
  have hk1 := hts (.static yX3_pageOfRoot) (by decide +kernel)
  have hk2 := hts (.initialized RX3) (by decide +kernel)
  have hiX2 : ∀ w ∈ wsX20, w ∈ wsX2_walk := by decide +kernel
  refine lv_aload_n hx hb dX2_walk_0 rfl (lv_at hl 0 rfl) ?_
  refine va_get (D := D) (cl := vwCl) (ci := 2) (v := .ref hM) (C := RX2) (T := TX2) (N := 1) hx hb hts hiX2 hown hK hP 0 rfl rfl 0 (by decide) hk0 (fun _ h9 => h9) rfl dX2_walk_1 ?_
  refine lv_iconst (v := 0) hx hb dX2_walk_4 (by decide) ?_
  refine ct_callv (w := [(hM, .inl (cI, a, .inl M))]) (w' := [(hM, .inl (cI, a, .inl (pg_fill M 0 a 0)))]) (va_runS (As := [.ref hM, .int 0]) (rest := []) ⟨hx, hb, hml, hown, hts⟩ (c_J7_fill_53178 l D cI cZ hM a 0 M (by omega) _) (va_cwS 2 hts gX2_walk_J7_fill_53178 rfl rfl rfl (by decide +kernel) ⟨Nat.le_of_ble_eq_true rfl, Nat.le_of_ble_eq_true rfl⟩) (ct_preS (w := [(hM, .inl (cI, a, .inl M))]) hK hN hP hD [1] (by decide) rfl) rfl rfl hl.1 rfl (lv_room (Nat.le_of_ble_eq_true rfl)) dX2_walk_5 ⟨Nat.le_of_ble_eq_true rfl, Nat.le_of_ble_eq_true rfl⟩) hP hD hS hA [1] rfl [hM] rfl rfl (fun H locs hP hD hS => ?_)
  have hP : va_P D vwCl [(hR, .inr (2, [.ref hM])), (hM, .inl (cI, a, .inl (pg_fill M 0 a 0))), (hd, .inr (0, [.int (nI a), .ref hB])), (hB, .inl (cI, a * 48, .inl f))] _ := hP
  have hD : va_D A [(hR, .inr (2, [.ref hM])), (hM, .inl (cI, a, .inl (pg_fill M 0 a 0))), (hd, .inr (0, [.int (nI a), .ref hB])), (hB, .inl (cI, a * 48, .inl f))] := hD
  obtain ⟨hP, hD⟩ := ct_refun (q0 := 1) (g := fun _ => 0) hP hD rfl (fun k hk => by unfold pg_fill; rw [if_pos ⟨Nat.zero_le _, hk⟩])
  have hP : va_P D vwCl [(hR, .inr (2, [.ref hM])), (hM, .inl (cI, a, .inl (fun _ => 0))), (hd, .inr (0, [.int (nI a), .ref hB])), (hB, .inl (cI, a * 48, .inl f))] _ := hP
  have hD : va_D A [(hR, .inr (2, [.ref hM])), (hM, .inl (cI, a, .inl (fun _ => 0))), (hd, .inr (0, [.int (nI a), .ref hB])), (hB, .inl (cI, a * 48, .inl f))] := hD
  refine lv_iload_n hx hb dX2_walk_8 rfl (lv_at hl 2 rfl) ?_
  refine lv_istore (lv' := [(4, .int (nI o)), (0, .ref hR), (1, .ref hd), (2, .int (nI o)), (3, .int (nI n))]) hx hb dX2_walk_9 hl (by decide) rfl (fun ls hl => ?_)
  have loop11 : ∀ (n11 : Nat) (j : Nat) (G : Nat → Int32), o + j ≤ n + 1 → G = rt_fold (fun _ => 0) o j → n + 1 - j < n11 → ∀ (H : Heap) (locs : List Loc), va_P D vwCl [(hR, .inr (2, [.ref hM])), (hM, .inl (cI, a, .inl G)), (hd, .inr (0, [.int (nI a), .ref hB])), (hB, .inl (cI, a * 48, .inl f))] H → va_D A [(hR, .inr (2, [.ref hM])), (hM, .inl (cI, a, .inl G)), (hd, .inr (0, [.int (nI a), .ref hB])), (hB, .inl (cI, a * 48, .inl f))] → va_S A s.heap H locs → ∀ (ls : Array Slot), lv_has ls 5 [(4, .int (nI (o + j))), (0, .ref hR), (1, .ref hd), (2, .int (nI o)), (3, .int (nI n))] → W p l e ({ frames := 4, cells := 0, slots := 0, locals := 92 }) s m ([.ref hR, .ref hd, .int (nI o), .int (nI n)] : List Value).toArray below meth c H locs 0 0 (MQ below (ct_Qv D vwCl [(hR, .inr (2, [.ref hM])), (hM, .inl (cI, a, .inl (wk_marks f a o (n + 1 - o)))), (hd, .inr (0, [.int (nI a), .ref hB])), (hB, .inl (cI, a * 48, .inl f))] A) ([.ref hR, .ref hd, .int (nI o), .int (nI n)] : List Value).toArray s 0 0 A) (F0 m 11 ls []) := by
    intro n11
    induction n11 with
    | zero =>
      intro j G _ _ hm
      exact absurd hm (Nat.not_lt_zero _)
    | succ n11 ih11 =>
      intro j G hj ex hm11 H locs hP hD hS ls hl
      refine lv_iload hx hb dX2_walk_11 (lv_at hl 0 rfl) ?_
      refine lv_iload_n hx hb dX2_walk_13 rfl (lv_at hl 4 rfl) ?_
      refine lv_icmp_gt (tgt := 40) hx hb dX2_walk_14 (by decide) (fun c14 => ?_) (fun c14 => ?_)
      · skip
        have c14 : n < (o + j) := (nI_ltI (a := n) (b := (o + j)) (by omega) (by omega)).mp c14
        refine lv_iconst (v := 1) hx hb dX2_walk_40 (by decide) ?_
        refine lv_istore (lv' := [(4, .int 1), (0, .ref hR), (1, .ref hd), (2, .int (nI o)), (3, .int (nI n))]) hx hb dX2_walk_41 hl (by decide) rfl (fun ls hl => ?_)
        refine lv_iload hx hb dX2_walk_43 (lv_at hl 0 rfl) ?_
        refine lv_iconst (v := 3) hx hb dX2_walk_45 (by decide) ?_
        refine lv_icmp_gt (tgt := 62) hx hb dX2_walk_46 (by decide) (fun c9 => absurd c9 (by decide)) (fun _ => ?_)
        refine lv_aload_n hx hb dX2_walk_49 rfl (lv_at hl 1 rfl) ?_
        refine lv_aload_n hx hb dX2_walk_50 rfl (lv_at hl 2 rfl) ?_
        refine lv_iload hx hb dX2_walk_51 (lv_at hl 0 rfl) ?_
        refine ct_callv (w := [(hR, .inr (2, [.ref hM])), (hM, .inl (cI, a, .inl G)), (hd, .inr (0, [.int (nI a), .ref hB])), (hB, .inl (cI, a * 48, .inl f))]) (w' := [(hR, .inr (2, [.ref hM])), (hM, .inl (cI, a, .inl (la_fold f a 1 G a))), (hd, .inr (0, [.int (nI a), .ref hB])), (hB, .inl (cI, a * 48, .inl f))]) (va_runV (As := [.ref hd, .int 1]) (rest := []) ⟨hx, hb, hml, hown, hts⟩ (c_X2_lookAtAll l D cI cZ hR hM hd hB a 1 G f (by omega) _) (cwV 2 hts gX2_walk_X2_lookAtAll rfl rfl rfl (by decide +kernel) ⟨Nat.le_of_ble_eq_true rfl, Nat.le_of_ble_eq_true rfl⟩) (ct_preV (w := [(hR, .inr (2, [.ref hM])), (hM, .inl (cI, a, .inl G)), (hd, .inr (0, [.int (nI a), .ref hB])), (hB, .inl (cI, a * 48, .inl f))]) (ci := 2) (i0 := 0) hK hN hP hD [0, 1, 2, 3] (by decide) rfl rfl rfl) rfl rfl hl.1 rfl (lv_room (Nat.le_of_ble_eq_true rfl)) dX2_walk_53 ⟨Nat.le_of_ble_eq_true rfl, Nat.le_of_ble_eq_true rfl⟩) hP hD hS hA [0, 1, 2, 3] rfl [hR, hM, hd, hB] rfl rfl (fun H locs hP hD hS => ?_)
        have hP : va_P D vwCl [(hR, .inr (2, [.ref hM])), (hM, .inl (cI, a, .inl (la_fold f a 1 G a))), (hd, .inr (0, [.int (nI a), .ref hB])), (hB, .inl (cI, a * 48, .inl f))] _ := hP
        have hD : va_D A [(hR, .inr (2, [.ref hM])), (hM, .inl (cI, a, .inl (la_fold f a 1 G a))), (hd, .inr (0, [.int (nI a), .ref hB])), (hB, .inl (cI, a * 48, .inl f))] := hD
        refine lv_iinc (v := 2) (lv' := [(4, .int 2), (0, .ref hR), (1, .ref hd), (2, .int (nI o)), (3, .int (nI n))]) hx hb dX2_walk_56 hl (k := 0) rfl (by decide) (by decide) rfl (fun ls hl => ?_)
        refine lv_goto (tgt := 43) hx hb dX2_walk_59 (by decide) ?_
        refine lv_iload hx hb dX2_walk_43 (lv_at hl 0 rfl) ?_
        refine lv_iconst (v := 3) hx hb dX2_walk_45 (by decide) ?_
        refine lv_icmp_gt (tgt := 62) hx hb dX2_walk_46 (by decide) (fun c9 => absurd c9 (by decide)) (fun _ => ?_)
        refine lv_aload_n hx hb dX2_walk_49 rfl (lv_at hl 1 rfl) ?_
        refine lv_aload_n hx hb dX2_walk_50 rfl (lv_at hl 2 rfl) ?_
        refine lv_iload hx hb dX2_walk_51 (lv_at hl 0 rfl) ?_
        refine ct_callv (w := [(hR, .inr (2, [.ref hM])), (hM, .inl (cI, a, .inl (la_fold f a 1 G a))), (hd, .inr (0, [.int (nI a), .ref hB])), (hB, .inl (cI, a * 48, .inl f))]) (w' := [(hR, .inr (2, [.ref hM])), (hM, .inl (cI, a, .inl (la_fold f a 2 (la_fold f a 1 G a) a))), (hd, .inr (0, [.int (nI a), .ref hB])), (hB, .inl (cI, a * 48, .inl f))]) (va_runV (As := [.ref hd, .int 2]) (rest := []) ⟨hx, hb, hml, hown, hts⟩ (c_X2_lookAtAll l D cI cZ hR hM hd hB a 2 (la_fold f a 1 G a) f (by omega) _) (cwV 2 hts gX2_walk_X2_lookAtAll rfl rfl rfl (by decide +kernel) ⟨Nat.le_of_ble_eq_true rfl, Nat.le_of_ble_eq_true rfl⟩) (ct_preV (w := [(hR, .inr (2, [.ref hM])), (hM, .inl (cI, a, .inl (la_fold f a 1 G a))), (hd, .inr (0, [.int (nI a), .ref hB])), (hB, .inl (cI, a * 48, .inl f))]) (ci := 2) (i0 := 0) hK hN hP hD [0, 1, 2, 3] (by decide) rfl rfl rfl) rfl rfl hl.1 rfl (lv_room (Nat.le_of_ble_eq_true rfl)) dX2_walk_53 ⟨Nat.le_of_ble_eq_true rfl, Nat.le_of_ble_eq_true rfl⟩) hP hD hS hA [0, 1, 2, 3] rfl [hR, hM, hd, hB] rfl rfl (fun H locs hP hD hS => ?_)
        have hP : va_P D vwCl [(hR, .inr (2, [.ref hM])), (hM, .inl (cI, a, .inl (la_fold f a 2 (la_fold f a 1 G a) a))), (hd, .inr (0, [.int (nI a), .ref hB])), (hB, .inl (cI, a * 48, .inl f))] _ := hP
        have hD : va_D A [(hR, .inr (2, [.ref hM])), (hM, .inl (cI, a, .inl (la_fold f a 2 (la_fold f a 1 G a) a))), (hd, .inr (0, [.int (nI a), .ref hB])), (hB, .inl (cI, a * 48, .inl f))] := hD
        refine lv_iinc (v := 3) (lv' := [(4, .int 3), (0, .ref hR), (1, .ref hd), (2, .int (nI o)), (3, .int (nI n))]) hx hb dX2_walk_56 hl (k := 0) rfl (by decide) (by decide) rfl (fun ls hl => ?_)
        refine lv_goto (tgt := 43) hx hb dX2_walk_59 (by decide) ?_
        refine lv_iload hx hb dX2_walk_43 (lv_at hl 0 rfl) ?_
        refine lv_iconst (v := 3) hx hb dX2_walk_45 (by decide) ?_
        refine lv_icmp_gt (tgt := 62) hx hb dX2_walk_46 (by decide) (fun c9 => absurd c9 (by decide)) (fun _ => ?_)
        refine lv_aload_n hx hb dX2_walk_49 rfl (lv_at hl 1 rfl) ?_
        refine lv_aload_n hx hb dX2_walk_50 rfl (lv_at hl 2 rfl) ?_
        refine lv_iload hx hb dX2_walk_51 (lv_at hl 0 rfl) ?_
        refine ct_callv (w := [(hR, .inr (2, [.ref hM])), (hM, .inl (cI, a, .inl (la_fold f a 2 (la_fold f a 1 G a) a))), (hd, .inr (0, [.int (nI a), .ref hB])), (hB, .inl (cI, a * 48, .inl f))]) (w' := [(hR, .inr (2, [.ref hM])), (hM, .inl (cI, a, .inl (la_fold f a 3 (la_fold f a 2 (la_fold f a 1 G a) a) a))), (hd, .inr (0, [.int (nI a), .ref hB])), (hB, .inl (cI, a * 48, .inl f))]) (va_runV (As := [.ref hd, .int 3]) (rest := []) ⟨hx, hb, hml, hown, hts⟩ (c_X2_lookAtAll l D cI cZ hR hM hd hB a 3 (la_fold f a 2 (la_fold f a 1 G a) a) f (by omega) _) (cwV 2 hts gX2_walk_X2_lookAtAll rfl rfl rfl (by decide +kernel) ⟨Nat.le_of_ble_eq_true rfl, Nat.le_of_ble_eq_true rfl⟩) (ct_preV (w := [(hR, .inr (2, [.ref hM])), (hM, .inl (cI, a, .inl (la_fold f a 2 (la_fold f a 1 G a) a))), (hd, .inr (0, [.int (nI a), .ref hB])), (hB, .inl (cI, a * 48, .inl f))]) (ci := 2) (i0 := 0) hK hN hP hD [0, 1, 2, 3] (by decide) rfl rfl rfl) rfl rfl hl.1 rfl (lv_room (Nat.le_of_ble_eq_true rfl)) dX2_walk_53 ⟨Nat.le_of_ble_eq_true rfl, Nat.le_of_ble_eq_true rfl⟩) hP hD hS hA [0, 1, 2, 3] rfl [hR, hM, hd, hB] rfl rfl (fun H locs hP hD hS => ?_)
        have hP : va_P D vwCl [(hR, .inr (2, [.ref hM])), (hM, .inl (cI, a, .inl (la_fold f a 3 (la_fold f a 2 (la_fold f a 1 G a) a) a))), (hd, .inr (0, [.int (nI a), .ref hB])), (hB, .inl (cI, a * 48, .inl f))] _ := hP
        have hD : va_D A [(hR, .inr (2, [.ref hM])), (hM, .inl (cI, a, .inl (la_fold f a 3 (la_fold f a 2 (la_fold f a 1 G a) a) a))), (hd, .inr (0, [.int (nI a), .ref hB])), (hB, .inl (cI, a * 48, .inl f))] := hD
        refine lv_iinc (v := 4) (lv' := [(4, .int 4), (0, .ref hR), (1, .ref hd), (2, .int (nI o)), (3, .int (nI n))]) hx hb dX2_walk_56 hl (k := 0) rfl (by decide) (by decide) rfl (fun ls hl => ?_)
        refine lv_goto (tgt := 43) hx hb dX2_walk_59 (by decide) ?_
        refine lv_iload hx hb dX2_walk_43 (lv_at hl 0 rfl) ?_
        refine lv_iconst (v := 3) hx hb dX2_walk_45 (by decide) ?_
        refine lv_icmp_gt (tgt := 62) hx hb dX2_walk_46 (by decide) (fun _ => ?_) (fun c9 => absurd c9 (by decide))
        exact ct_vret hx hb hr hlocks (by have e1 : n + 1 - o = j := (by omega); rw [ex]; unfold wk_marks; rw [e1]) hP hD hS dX2_walk_62
      · skip
        have c14 : ¬ n < (o + j) := fun h => c14 ((nI_ltI (a := n) (b := (o + j)) (by omega) (by omega)).mpr h)
        refine lv_aload_n hx hb dX2_walk_17 rfl (lv_at hl 1 rfl) ?_
        refine va_get (D := D) (cl := vwCl) (ci := 2) (v := .ref hM) (C := RX2) (T := TX2) (N := 1) hx hb hts hiX2 hown hK hP 0 rfl rfl 0 (by decide) hk0 (fun _ h9 => h9) rfl dX2_walk_18 ?_
        refine lv_iload hx hb dX2_walk_21 (lv_at hl 0 rfl) ?_
        refine ct_calli (w := []) (w' := []) (va_runSN (As := [.int (nI (o + j))]) (rest := [.ref hM]) ⟨hx, hb, hml, hown, hts⟩ (c_X3_pageOfRoot l D cI cZ (nI (o + j)) _) ⟨va_cnB 1 hts gX2_walk_X3_pageOfRoot_n21 rfl rfl rfl hN.2 hk2 (by decide +kernel) ⟨Nat.le_of_ble_eq_true rfl, Nat.le_of_ble_eq_true rfl⟩, hk1, trivial⟩ (ct_preS (w := []) hK hN hP hD [] (by decide) rfl) rfl rfl hl.1 rfl (lv_room (Nat.le_of_ble_eq_true rfl)) dX2_walk_23 ⟨Nat.le_of_ble_eq_true rfl, Nat.le_of_ble_eq_true rfl⟩) hP hD hS hA [] rfl [] rfl rfl (fun H locs hP hD hS => ?_)
        have hP : va_P D vwCl [(hR, .inr (2, [.ref hM])), (hM, .inl (cI, a, .inl G)), (hd, .inr (0, [.int (nI a), .ref hB])), (hB, .inl (cI, a * 48, .inl f))] _ := hP
        have hD : va_D A [(hR, .inr (2, [.ref hM])), (hM, .inl (cI, a, .inl G)), (hd, .inr (0, [.int (nI a), .ref hB])), (hB, .inl (cI, a * 48, .inl f))] := hD
        refine ct_top (y := nI ((o + j) % 8)) (pk_rem (by omega) (by decide) (by decide)) ?_
        refine lv_dup2_11 hx hb dX2_walk_26 rfl rfl ?_
        refine ct_iald hx hb hK hP 1 0 (k := ((o + j) % 8)) rfl rfl (by omega) (by omega) dX2_walk_27 ?_
        refine lv_iconst (v := 1) hx hb dX2_walk_28 (by decide) ?_
        refine ct_calli (w := []) (w' := []) (va_runS (As := [.int 1]) (rest := [.int (G ((o + j) % 8)), .int (nI ((o + j) % 8)), .ref hM]) ⟨hx, hb, hml, hown, hts⟩ (c_X2_markOf l D cI cZ 1 _) (va_cwS 1 hts gX2_walk_X2_markOf rfl rfl rfl (by decide +kernel) ⟨Nat.le_of_ble_eq_true rfl, Nat.le_of_ble_eq_true rfl⟩) (ct_preS (w := []) hK hN hP hD [] (by decide) rfl) rfl rfl hl.1 rfl (lv_room (Nat.le_of_ble_eq_true rfl)) dX2_walk_29 ⟨Nat.le_of_ble_eq_true rfl, Nat.le_of_ble_eq_true rfl⟩) hP hD hS hA [] rfl [] rfl rfl (fun H locs hP hD hS => ?_)
        have hP : va_P D vwCl [(hR, .inr (2, [.ref hM])), (hM, .inl (cI, a, .inl G)), (hd, .inr (0, [.int (nI a), .ref hB])), (hB, .inl (cI, a * 48, .inl f))] _ := hP
        have hD : va_D A [(hR, .inr (2, [.ref hM])), (hM, .inl (cI, a, .inl G)), (hd, .inr (0, [.int (nI a), .ref hB])), (hB, .inl (cI, a * 48, .inl f))] := hD
        refine lv_ior hx hb dX2_walk_32 ?_
        refine ct_iast hx hb hK hP hD hS 1 0 (k := ((o + j) % 8)) (x := ((G ((o + j) % 8)) ||| (mk_bit 1))) rfl rfl (by omega) (by omega) dX2_walk_33 (fun H locs hP hD hS => ?_)
        have hP : va_P D vwCl [(hR, .inr (2, [.ref hM])), (hM, .inl (cI, a, .inl (upd G ((o + j) % 8) ((G ((o + j) % 8)) ||| (mk_bit 1))))), (hd, .inr (0, [.int (nI a), .ref hB])), (hB, .inl (cI, a * 48, .inl f))] _ := hP
        have hD : va_D A [(hR, .inr (2, [.ref hM])), (hM, .inl (cI, a, .inl (upd G ((o + j) % 8) ((G ((o + j) % 8)) ||| (mk_bit 1))))), (hd, .inr (0, [.int (nI a), .ref hB])), (hB, .inl (cI, a * 48, .inl f))] := hD
        refine lv_iinc (v := nI ((o + j) + 1)) (lv' := [(4, .int (nI ((o + j) + 1))), (0, .ref hR), (1, .ref hd), (2, .int (nI o)), (3, .int (nI n))]) hx hb dX2_walk_34 hl (k := 0) rfl (nI_add (o + j) 1) (by decide) rfl (fun ls hl => ?_)
        refine lv_goto (tgt := 11) hx hb dX2_walk_37 (by decide) ?_
        exact ih11 (j + 1) (upd G ((o + j) % 8) ((G ((o + j) % 8)) ||| (mk_bit 1))) (by omega) (by subst ex; rfl) (by omega) _ _ hP hD hS ls (lv_sub hl [0, 1, 2, 3, 4] rfl)
  exact loop11 _ 0 (fun _ => 0) (by omega) (rfl) (Nat.lt_succ_self _) _ _ hP hD hS ls (lv_sub hl [0, 1, 2, 3, 4] rfl)
end
section
set_option maxHeartbeats 4000000 in
set_option maxRecDepth 100000 in
theorem c_X3_isKey (l : Launch) (D : va_G) (cI cZ : ClassId) (x : Int32)  : CtI l yX3_isKey wsX3_isKey ({ frames := 0, cells := 0, slots := 0, locals := 0 }) D vwCl (ct_T cI cZ) [.int x] [] [] (b2i (ky x)) := by
  refine ct_of (Qf := ct_Qi D vwCl [] (b2i (ky x))) (cc := cX3_isKey) (maxL := 1) (ret := (some .boolean)) [(0, .int x)] (by decide) rfl (Nat.le_of_ble_eq_true rfl) rfl ?_
  intro p e s m below meth c hx hb hr hts hown hlocks hml hnm A hA hK hN hP hD hS ls hl
  have hown : s.vm.findClass RX3 = some m.cls := hown
  refine lv_iload_n hx hb dX3_isKey_0 rfl (lv_at hl 0 rfl) ?_
  refine lv_if_lt (tgt := 15) hx hb dX3_isKey_1 (by decide) (fun c1 => ?_) (fun c1 => ?_)
  · skip
    refine lv_iconst (v := 0) hx hb dX3_isKey_15 (by decide) ?_
    exact ct_zret hx hb hr hlocks (rfl) ((b2i_f (fun h => by first | exact h.1 c1 | exact c1 h.1)).symm) (rfl) hP hD hS dX3_isKey_16
  · skip
    refine lv_iload_n hx hb dX3_isKey_4 rfl (lv_at hl 0 rfl) ?_
    refine lv_sipush (v := 1024) hx hb dX3_isKey_5 (by decide) ?_
    refine lv_icmp_ge (tgt := 15) hx hb dX3_isKey_8 (by decide) (fun c8 => ?_) (fun c8 => ?_)
    · skip
      refine lv_iconst (v := 0) hx hb dX3_isKey_15 (by decide) ?_
      exact ct_zret hx hb hr hlocks (rfl) ((b2i_f (fun h => by first | exact h.2 c8 | exact c8 h.2)).symm) (rfl) hP hD hS dX3_isKey_16
    · skip
      refine lv_iconst (v := 1) hx hb dX3_isKey_11 (by decide) ?_
      refine lv_goto (tgt := 16) hx hb dX3_isKey_12 (by decide) ?_
      exact ct_zret hx hb hr hlocks (rfl) ((b2i_t ⟨c1, c8⟩).symm) (rfl) hP hD hS dX3_isKey_16
set_option maxHeartbeats 4000000 in
set_option maxRecDepth 100000 in
theorem c_X3_isKept (l : Launch) (D : va_G) (cI cZ : ClassId) (h0 hd hB hR hM hw hT a tc nw ol : Nat) (f M t : Nat → Int32) (O : Prop) (lf us : Int32) (x : Int32) (ha : a ≤ 120) (h12 : 12 ≤ a) (htc : tc ≤ 32) (hnw : nw ≤ 1000000) (hol : ol ≤ nw + 1) : CtI l yX3_isKept wsX3_isKept ({ frames := 0, cells := 0, slots := 0, locals := 0 }) D vwCl (ct_T cI cZ) [.ref h0, .int x] [(h0, .inr (3, [.ref hd, .ref hR, .ref hw, .ref hT, .int (nI tc), .int (nI nw), .int (nI ol)])), (hd, .inr (0, [.int (nI a), .ref hB])), (hB, .inl (cI, a * 48, .inl f)), (hR, .inr (2, [.ref hM])), (hM, .inl (cI, a, .inl M)), (hw, .inr (1, [.int (b2i O), .int lf, .int us])), (hT, .inl (cI, 32, .inl t))] [(h0, .inr (3, [.ref hd, .ref hR, .ref hw, .ref hT, .int (nI tc), .int (nI nw), .int (nI ol)])), (hd, .inr (0, [.int (nI a), .ref hB])), (hB, .inl (cI, a * 48, .inl f)), (hR, .inr (2, [.ref hM])), (hM, .inl (cI, a, .inl M)), (hw, .inr (1, [.int (b2i O), .int lf, .int us])), (hT, .inl (cI, 32, .inl t))] (b2i (kp ol nw x)) := by
  refine ct_of (Qf := ct_Qi D vwCl [(h0, .inr (3, [.ref hd, .ref hR, .ref hw, .ref hT, .int (nI tc), .int (nI nw), .int (nI ol)])), (hd, .inr (0, [.int (nI a), .ref hB])), (hB, .inl (cI, a * 48, .inl f)), (hR, .inr (2, [.ref hM])), (hM, .inl (cI, a, .inl M)), (hw, .inr (1, [.int (b2i O), .int lf, .int us])), (hT, .inl (cI, 32, .inl t))] (b2i (kp ol nw x))) (cc := cX3_isKept) (maxL := 2) (ret := (some .boolean)) [(0, .ref h0), (1, .int x)] (by decide) rfl (Nat.le_of_ble_eq_true rfl) rfl ?_
  intro p e s m below meth c hx hb hr hts hown hlocks hml hnm A hA hK hN hP hD hS ls hl
  have hown : s.vm.findClass RX3 = some m.cls := hown
  have hk0 := hts (.fieldLink RX3 52 "DesignPages" "oldest" "I") (by decide +kernel)
  have hk1 := hts (.fieldLink RX3 49 "DesignPages" "newest" "I") (by decide +kernel)
  have hiX3 : ∀ w ∈ wsX30, w ∈ wsX3_isKept := by decide +kernel
  refine lv_iload_n hx hb dX3_isKept_0 rfl (lv_at hl 1 rfl) ?_
  refine lv_aload_n hx hb dX3_isKept_1 rfl (lv_at hl 0 rfl) ?_
  refine va_get (D := D) (cl := vwCl) (ci := 3) (v := .int (nI ol)) (C := RX3) (T := TX3) (N := 7) hx hb hts hiX3 hown hK hP 0 rfl rfl 6 (by decide) hk0 (fun _ h9 => h9) rfl dX3_isKept_2 ?_
  refine lv_icmp_lt (tgt := 20) hx hb dX3_isKept_5 (by decide) (fun c5 => ?_) (fun c5 => ?_)
  · skip
    refine lv_iconst (v := 0) hx hb dX3_isKept_20 (by decide) ?_
    exact ct_zret hx hb hr hlocks (rfl) ((b2i_f (fun h => by first | exact h.1 c5 | exact c5 h.1)).symm) (rfl) hP hD hS dX3_isKept_21
  · skip
    refine lv_iload_n hx hb dX3_isKept_8 rfl (lv_at hl 1 rfl) ?_
    refine lv_aload_n hx hb dX3_isKept_9 rfl (lv_at hl 0 rfl) ?_
    refine va_get (D := D) (cl := vwCl) (ci := 3) (v := .int (nI nw)) (C := RX3) (T := TX3) (N := 7) hx hb hts hiX3 hown hK hP 0 rfl rfl 5 (by decide) hk1 (fun _ h9 => h9) rfl dX3_isKept_10 ?_
    refine lv_icmp_gt (tgt := 20) hx hb dX3_isKept_13 (by decide) (fun c13 => ?_) (fun c13 => ?_)
    · skip
      refine lv_iconst (v := 0) hx hb dX3_isKept_20 (by decide) ?_
      exact ct_zret hx hb hr hlocks (rfl) ((b2i_f (fun h => by first | exact h.2 c13 | exact c13 h.2)).symm) (rfl) hP hD hS dX3_isKept_21
    · skip
      refine lv_iconst (v := 1) hx hb dX3_isKept_16 (by decide) ?_
      refine lv_goto (tgt := 21) hx hb dX3_isKept_17 (by decide) ?_
      exact ct_zret hx hb hr hlocks (rfl) ((b2i_t ⟨c5, c13⟩).symm) (rfl) hP hD hS dX3_isKept_21
set_option maxHeartbeats 4000000 in
set_option maxRecDepth 100000 in
theorem c_X3_refusalOfWriting (l : Launch) (D : va_G) (cI cZ : ClassId) (h0 hd hB hR hM hw hT a tc nw ol : Nat) (f M t : Nat → Int32) (O : Prop) (lf us : Int32) (B : Prop) (ha : a ≤ 120) (h12 : 12 ≤ a) (htc : tc ≤ 32) (hnw : nw ≤ 1000000) (hol : ol ≤ nw + 1) : CtI l yX3_refusalOfWriting wsX3_refusalOfWriting ({ frames := 5, cells := 0, slots := 0, locals := 116 }) D vwCl (ct_T cI cZ) [.ref h0, .int (b2i B)] [(h0, .inr (3, [.ref hd, .ref hR, .ref hw, .ref hT, .int (nI tc), .int (nI nw), .int (nI ol)])), (hd, .inr (0, [.int (nI a), .ref hB])), (hB, .inl (cI, a * 48, .inl f)), (hR, .inr (2, [.ref hM])), (hM, .inl (cI, a, .inl M)), (hw, .inr (1, [.int (b2i O), .int lf, .int us])), (hT, .inl (cI, 32, .inl t))] [(h0, .inr (3, [.ref hd, .ref hR, .ref hw, .ref hT, .int (nI tc), .int (nI nw), .int (nI ol)])), (hd, .inr (0, [.int (nI a), .ref hB])), (hB, .inl (cI, a * 48, .inl f)), (hR, .inr (2, [.ref hM])), (hM, .inl (cI, a, .inl (rwm O B M f a ol nw))), (hw, .inr (1, [.int (b2i O), .int lf, .int us])), (hT, .inl (cI, 32, .inl t))] (rwr O B f a ol nw) := by
  refine ct_of (Qf := ct_Qi D vwCl [(h0, .inr (3, [.ref hd, .ref hR, .ref hw, .ref hT, .int (nI tc), .int (nI nw), .int (nI ol)])), (hd, .inr (0, [.int (nI a), .ref hB])), (hB, .inl (cI, a * 48, .inl f)), (hR, .inr (2, [.ref hM])), (hM, .inl (cI, a, .inl (rwm O B M f a ol nw))), (hw, .inr (1, [.int (b2i O), .int lf, .int us])), (hT, .inl (cI, 32, .inl t))] (rwr O B f a ol nw)) (cc := cX3_refusalOfWriting) (maxL := 2) (ret := (some .int)) [(0, .ref h0), (1, .int (b2i B))] (by decide) rfl (Nat.le_of_ble_eq_true rfl) rfl ?_
  intro p e s m below meth c hx hb hr hts hown hlocks hml hnm A hA hK hN hP hD hS ls hl
  have hown : s.vm.findClass RX3 = some m.cls := hown
  have hk0 := hts (.fieldLink RX3 37 "DesignPages" "power" "LDesignPages$Power;") (by decide +kernel)
  have hk1 := hts (.fieldLink RX3 30 "DesignPages" "reach" "LDesignPages$Reach;") (by decide +kernel)
  have hk2 := hts (.fieldLink RX3 23 "DesignPages" "disk" "LDesignPages$Pages;") (by decide +kernel)
  have hk3 := hts (.fieldLink RX3 52 "DesignPages" "oldest" "I") (by decide +kernel)
  have hk4 := hts (.fieldLink RX3 49 "DesignPages" "newest" "I") (by decide +kernel)
  have hiX3 : ∀ w ∈ wsX30, w ∈ wsX3_refusalOfWriting := by decide +kernel
  refine lv_aload_n hx hb dX3_refusalOfWriting_0 rfl (lv_at hl 0 rfl) ?_
  refine va_get (D := D) (cl := vwCl) (ci := 3) (v := .ref hw) (C := RX3) (T := TX3) (N := 7) hx hb hts hiX3 hown hK hP 0 rfl rfl 2 (by decide) hk0 (fun _ h9 => h9) rfl dX3_refusalOfWriting_1 ?_
  refine ct_calli (w := [(hw, .inr (1, [.int (b2i O), .int lf, .int us]))]) (w' := [(hw, .inr (1, [.int (b2i O), .int lf, .int us]))]) (va_runV (As := []) (rest := []) ⟨hx, hb, hml, hown, hts⟩ (c_X1_isOff l D cI cZ hw O lf us  _) (cwV 0 hts gX3_refusalOfWriting_X1_isOff rfl rfl rfl (by decide +kernel) ⟨Nat.le_of_ble_eq_true rfl, Nat.le_of_ble_eq_true rfl⟩) (ct_preV (w := [(hw, .inr (1, [.int (b2i O), .int lf, .int us]))]) (ci := 1) (i0 := 5) hK hN hP hD [5] (by decide) rfl rfl rfl) rfl rfl hl.1 rfl (lv_room (Nat.le_of_ble_eq_true rfl)) dX3_refusalOfWriting_4 ⟨Nat.le_of_ble_eq_true rfl, Nat.le_of_ble_eq_true rfl⟩) hP hD hS hA [5] rfl [hw] rfl rfl (fun H locs hP hD hS => ?_)
  have hP : va_P D vwCl [(h0, .inr (3, [.ref hd, .ref hR, .ref hw, .ref hT, .int (nI tc), .int (nI nw), .int (nI ol)])), (hd, .inr (0, [.int (nI a), .ref hB])), (hB, .inl (cI, a * 48, .inl f)), (hR, .inr (2, [.ref hM])), (hM, .inl (cI, a, .inl M)), (hw, .inr (1, [.int (b2i O), .int lf, .int us])), (hT, .inl (cI, 32, .inl t))] _ := hP
  have hD : va_D A [(h0, .inr (3, [.ref hd, .ref hR, .ref hw, .ref hT, .int (nI tc), .int (nI nw), .int (nI ol)])), (hd, .inr (0, [.int (nI a), .ref hB])), (hB, .inl (cI, a * 48, .inl f)), (hR, .inr (2, [.ref hM])), (hM, .inl (cI, a, .inl M)), (hw, .inr (1, [.int (b2i O), .int lf, .int us])), (hT, .inl (cI, 32, .inl t))] := hD
  refine lv_if_eq (tgt := 13) hx hb dX3_refusalOfWriting_7 (by decide) (fun c7 => ?_) (fun c7 => ?_)
  · skip
    refine lv_iload_n hx hb dX3_refusalOfWriting_13 rfl (lv_at hl 1 rfl) ?_
    refine lv_if_ne (tgt := 20) hx hb dX3_refusalOfWriting_14 (by decide) (fun c14 => ?_) (fun c14 => ?_)
    · skip
      refine lv_aload_n hx hb dX3_refusalOfWriting_20 rfl (lv_at hl 0 rfl) ?_
      refine va_get (D := D) (cl := vwCl) (ci := 3) (v := .ref hR) (C := RX3) (T := TX3) (N := 7) hx hb hts hiX3 hown hK hP 0 rfl rfl 1 (by decide) hk1 (fun _ h9 => h9) rfl dX3_refusalOfWriting_21 ?_
      refine lv_aload_n hx hb dX3_refusalOfWriting_24 rfl (lv_at hl 0 rfl) ?_
      refine va_get (D := D) (cl := vwCl) (ci := 3) (v := .ref hd) (C := RX3) (T := TX3) (N := 7) hx hb hts hiX3 hown hK hP 0 rfl rfl 0 (by decide) hk2 (fun _ h9 => h9) rfl dX3_refusalOfWriting_25 ?_
      refine lv_aload_n hx hb dX3_refusalOfWriting_28 rfl (lv_at hl 0 rfl) ?_
      refine va_get (D := D) (cl := vwCl) (ci := 3) (v := .int (nI ol)) (C := RX3) (T := TX3) (N := 7) hx hb hts hiX3 hown hK hP 0 rfl rfl 6 (by decide) hk3 (fun _ h9 => h9) rfl dX3_refusalOfWriting_29 ?_
      refine lv_aload_n hx hb dX3_refusalOfWriting_32 rfl (lv_at hl 0 rfl) ?_
      refine va_get (D := D) (cl := vwCl) (ci := 3) (v := .int (nI nw)) (C := RX3) (T := TX3) (N := 7) hx hb hts hiX3 hown hK hP 0 rfl rfl 5 (by decide) hk4 (fun _ h9 => h9) rfl dX3_refusalOfWriting_33 ?_
      refine ct_callv (w := [(hR, .inr (2, [.ref hM])), (hM, .inl (cI, a, .inl M)), (hd, .inr (0, [.int (nI a), .ref hB])), (hB, .inl (cI, a * 48, .inl f))]) (w' := [(hR, .inr (2, [.ref hM])), (hM, .inl (cI, a, .inl (wk_marks f a ol (nw + 1 - ol)))), (hd, .inr (0, [.int (nI a), .ref hB])), (hB, .inl (cI, a * 48, .inl f))]) (va_runV (As := [.ref hd, .int (nI ol), .int (nI nw)]) (rest := []) ⟨hx, hb, hml, hown, hts⟩ (c_X2_walk l D cI cZ hR hM hd hB a ol nw M f (by omega) (by omega) (by omega) (by omega) _) (cwV 3 hts gX3_refusalOfWriting_X2_walk rfl rfl rfl (by decide +kernel) ⟨Nat.le_of_ble_eq_true rfl, Nat.le_of_ble_eq_true rfl⟩) (ct_preV (w := [(hR, .inr (2, [.ref hM])), (hM, .inl (cI, a, .inl M)), (hd, .inr (0, [.int (nI a), .ref hB])), (hB, .inl (cI, a * 48, .inl f))]) (ci := 2) (i0 := 3) hK hN hP hD [3, 4, 1, 2] (by decide) rfl rfl rfl) rfl rfl hl.1 rfl (lv_room (Nat.le_of_ble_eq_true rfl)) dX3_refusalOfWriting_36 ⟨Nat.le_of_ble_eq_true rfl, Nat.le_of_ble_eq_true rfl⟩) hP hD hS hA [3, 4, 1, 2] rfl [hR, hM, hd, hB] rfl rfl (fun H locs hP hD hS => ?_)
      have hP : va_P D vwCl [(h0, .inr (3, [.ref hd, .ref hR, .ref hw, .ref hT, .int (nI tc), .int (nI nw), .int (nI ol)])), (hd, .inr (0, [.int (nI a), .ref hB])), (hB, .inl (cI, a * 48, .inl f)), (hR, .inr (2, [.ref hM])), (hM, .inl (cI, a, .inl (wk_marks f a ol (nw + 1 - ol)))), (hw, .inr (1, [.int (b2i O), .int lf, .int us])), (hT, .inl (cI, 32, .inl t))] _ := hP
      have hD : va_D A [(h0, .inr (3, [.ref hd, .ref hR, .ref hw, .ref hT, .int (nI tc), .int (nI nw), .int (nI ol)])), (hd, .inr (0, [.int (nI a), .ref hB])), (hB, .inl (cI, a * 48, .inl f)), (hR, .inr (2, [.ref hM])), (hM, .inl (cI, a, .inl (wk_marks f a ol (nw + 1 - ol)))), (hw, .inr (1, [.int (b2i O), .int lf, .int us])), (hT, .inl (cI, 32, .inl t))] := hD
      refine lv_aload_n hx hb dX3_refusalOfWriting_39 rfl (lv_at hl 0 rfl) ?_
      refine va_get (D := D) (cl := vwCl) (ci := 3) (v := .ref hR) (C := RX3) (T := TX3) (N := 7) hx hb hts hiX3 hown hK hP 0 rfl rfl 1 (by decide) hk1 (fun _ h9 => h9) rfl dX3_refusalOfWriting_40 ?_
      refine ct_calli (w := [(hR, .inr (2, [.ref hM])), (hM, .inl (cI, a, .inl (wk_marks f a ol (nw + 1 - ol))))]) (w' := [(hR, .inr (2, [.ref hM])), (hM, .inl (cI, a, .inl (wk_marks f a ol (nw + 1 - ol))))]) (va_runV (As := []) (rest := []) ⟨hx, hb, hml, hown, hts⟩ (c_X2_leastBad l D cI cZ hR hM a (wk_marks f a ol (nw + 1 - ol))  (by omega) _) (cwV 0 hts gX3_refusalOfWriting_X2_leastBad rfl rfl rfl (by decide +kernel) ⟨Nat.le_of_ble_eq_true rfl, Nat.le_of_ble_eq_true rfl⟩) (ct_preV (w := [(hR, .inr (2, [.ref hM])), (hM, .inl (cI, a, .inl (wk_marks f a ol (nw + 1 - ol))))]) (ci := 2) (i0 := 3) hK hN hP hD [3, 4] (by decide) rfl rfl rfl) rfl rfl hl.1 rfl (lv_room (Nat.le_of_ble_eq_true rfl)) dX3_refusalOfWriting_43 ⟨Nat.le_of_ble_eq_true rfl, Nat.le_of_ble_eq_true rfl⟩) hP hD hS hA [3, 4] rfl [hR, hM] rfl rfl (fun H locs hP hD hS => ?_)
      have hP : va_P D vwCl [(h0, .inr (3, [.ref hd, .ref hR, .ref hw, .ref hT, .int (nI tc), .int (nI nw), .int (nI ol)])), (hd, .inr (0, [.int (nI a), .ref hB])), (hB, .inl (cI, a * 48, .inl f)), (hR, .inr (2, [.ref hM])), (hM, .inl (cI, a, .inl (wk_marks f a ol (nw + 1 - ol)))), (hw, .inr (1, [.int (b2i O), .int lf, .int us])), (hT, .inl (cI, 32, .inl t))] _ := hP
      have hD : va_D A [(h0, .inr (3, [.ref hd, .ref hR, .ref hw, .ref hT, .int (nI tc), .int (nI nw), .int (nI ol)])), (hd, .inr (0, [.int (nI a), .ref hB])), (hB, .inl (cI, a * 48, .inl f)), (hR, .inr (2, [.ref hM])), (hM, .inl (cI, a, .inl (wk_marks f a ol (nw + 1 - ol)))), (hw, .inr (1, [.int (b2i O), .int lf, .int us])), (hT, .inl (cI, 32, .inl t))] := hD
      refine lv_iconst (v := (-1)) hx hb dX3_refusalOfWriting_46 (by decide) ?_
      refine lv_icmp_ne (tgt := 54) hx hb dX3_refusalOfWriting_47 (by decide) (fun c47 => ?_) (fun c47 => ?_)
      · skip
        refine lv_bipush (v := (-4)) hx hb dX3_refusalOfWriting_54 (by decide) ?_
        have e10 : rwm O B M f a ol nw = wk_marks f a ol (nw + 1 - ol) := by unfold rwm; rw [ifp_t ⟨b2i_0.mp c7, b2i_n0 c14⟩]
        have e9 : rwr O B f a ol nw = -4 := by unfold rwr; rw [ifp_f (b2i_0.mp c7), ifp_t (b2i_n0 c14), ifp_f c47]
        exact ct_iret hx hb hr hlocks (e9.symm) (by rw [e10]) hP hD hS dX3_refusalOfWriting_56
      · skip
        refine lv_iconst (v := 0) hx hb dX3_refusalOfWriting_50 (by decide) ?_
        refine lv_goto (tgt := 56) hx hb dX3_refusalOfWriting_51 (by decide) ?_
        have e10 : rwm O B M f a ol nw = wk_marks f a ol (nw + 1 - ol) := by unfold rwm; rw [ifp_t ⟨b2i_0.mp c7, b2i_n0 c14⟩]
        have e9 : rwr O B f a ol nw = 0 := by unfold rwr; rw [ifp_f (b2i_0.mp c7), ifp_t (b2i_n0 c14), ifp_t c47]
        exact ct_iret hx hb hr hlocks (e9.symm) (by rw [e10]) hP hD hS dX3_refusalOfWriting_56
    · skip
      refine lv_bipush (v := (-2)) hx hb dX3_refusalOfWriting_17 (by decide) ?_
      have e8 := b2i_0.mp c14
      have e9 : rwr O B f a ol nw = -2 := by unfold rwr; rw [ifp_f (b2i_0.mp c7), ifp_f e8]
      have e10 : rwm O B M f a ol nw = M := by unfold rwm; rw [ifp_f (fun h => e8 h.2)]
      exact ct_iret hx hb hr hlocks (e9.symm) (by rw [e10]) hP hD hS dX3_refusalOfWriting_19
  · skip
    refine lv_bipush (v := (-5)) hx hb dX3_refusalOfWriting_10 (by decide) ?_
    have e8 := b2i_n0 c7
    have e9 : rwr O B f a ol nw = -5 := by unfold rwr; rw [ifp_t e8]
    have e10 : rwm O B M f a ol nw = M := by unfold rwm; rw [ifp_f (fun h => h.1 e8)]
    exact ct_iret hx hb hr hlocks (e9.symm) (by rw [e10]) hP hD hS dX3_refusalOfWriting_12
set_option maxHeartbeats 4000000 in
set_option maxRecDepth 100000 in
theorem c_X3_refusalOfReading (l : Launch) (D : va_G) (cI cZ : ClassId) (h0 hd hB hR hM hw hT a tc nw ol : Nat) (f M t : Nat → Int32) (O : Prop) (lf us : Int32) (x y : Int32) (ha : a ≤ 120) (h12 : 12 ≤ a) (htc : tc ≤ 32) (hnw : nw ≤ 1000000) (hol : ol ≤ nw + 1) : CtI l yX3_refusalOfReading wsX3_refusalOfReading ({ frames := 1, cells := 0, slots := 0, locals := 21 }) D vwCl (ct_T cI cZ) [.ref h0, .int x, .int y] [(h0, .inr (3, [.ref hd, .ref hR, .ref hw, .ref hT, .int (nI tc), .int (nI nw), .int (nI ol)])), (hd, .inr (0, [.int (nI a), .ref hB])), (hB, .inl (cI, a * 48, .inl f)), (hR, .inr (2, [.ref hM])), (hM, .inl (cI, a, .inl M)), (hw, .inr (1, [.int (b2i O), .int lf, .int us])), (hT, .inl (cI, 32, .inl t))] [(h0, .inr (3, [.ref hd, .ref hR, .ref hw, .ref hT, .int (nI tc), .int (nI nw), .int (nI ol)])), (hd, .inr (0, [.int (nI a), .ref hB])), (hB, .inl (cI, a * 48, .inl f)), (hR, .inr (2, [.ref hM])), (hM, .inl (cI, a, .inl M)), (hw, .inr (1, [.int (b2i O), .int lf, .int us])), (hT, .inl (cI, 32, .inl t))] (rrd O ol nw x y) := by
  refine ct_of (Qf := ct_Qi D vwCl [(h0, .inr (3, [.ref hd, .ref hR, .ref hw, .ref hT, .int (nI tc), .int (nI nw), .int (nI ol)])), (hd, .inr (0, [.int (nI a), .ref hB])), (hB, .inl (cI, a * 48, .inl f)), (hR, .inr (2, [.ref hM])), (hM, .inl (cI, a, .inl M)), (hw, .inr (1, [.int (b2i O), .int lf, .int us])), (hT, .inl (cI, 32, .inl t))] (rrd O ol nw x y)) (cc := cX3_refusalOfReading) (maxL := 3) (ret := (some .int)) [(0, .ref h0), (1, .int x), (2, .int y)] (by decide) rfl (Nat.le_of_ble_eq_true rfl) rfl ?_
  intro p e s m below meth c hx hb hr hts hown hlocks hml hnm A hA hK hN hP hD hS ls hl
  have hown : s.vm.findClass RX3 = some m.cls := hown
  have hk0 := hts (.fieldLink RX3 37 "DesignPages" "power" "LDesignPages$Power;") (by decide +kernel)
  have hiX3 : ∀ w ∈ wsX30, w ∈ wsX3_refusalOfReading := by decide +kernel
  refine lv_aload_n hx hb dX3_refusalOfReading_0 rfl (lv_at hl 0 rfl) ?_
  refine va_get (D := D) (cl := vwCl) (ci := 3) (v := .ref hw) (C := RX3) (T := TX3) (N := 7) hx hb hts hiX3 hown hK hP 0 rfl rfl 2 (by decide) hk0 (fun _ h9 => h9) rfl dX3_refusalOfReading_1 ?_
  refine ct_calli (w := [(hw, .inr (1, [.int (b2i O), .int lf, .int us]))]) (w' := [(hw, .inr (1, [.int (b2i O), .int lf, .int us]))]) (va_runV (As := []) (rest := []) ⟨hx, hb, hml, hown, hts⟩ (c_X1_isOff l D cI cZ hw O lf us  _) (cwV 0 hts gX3_refusalOfReading_X1_isOff rfl rfl rfl (by decide +kernel) ⟨Nat.le_of_ble_eq_true rfl, Nat.le_of_ble_eq_true rfl⟩) (ct_preV (w := [(hw, .inr (1, [.int (b2i O), .int lf, .int us]))]) (ci := 1) (i0 := 5) hK hN hP hD [5] (by decide) rfl rfl rfl) rfl rfl hl.1 rfl (lv_room (Nat.le_of_ble_eq_true rfl)) dX3_refusalOfReading_4 ⟨Nat.le_of_ble_eq_true rfl, Nat.le_of_ble_eq_true rfl⟩) hP hD hS hA [5] rfl [hw] rfl rfl (fun H locs hP hD hS => ?_)
  have hP : va_P D vwCl [(h0, .inr (3, [.ref hd, .ref hR, .ref hw, .ref hT, .int (nI tc), .int (nI nw), .int (nI ol)])), (hd, .inr (0, [.int (nI a), .ref hB])), (hB, .inl (cI, a * 48, .inl f)), (hR, .inr (2, [.ref hM])), (hM, .inl (cI, a, .inl M)), (hw, .inr (1, [.int (b2i O), .int lf, .int us])), (hT, .inl (cI, 32, .inl t))] _ := hP
  have hD : va_D A [(h0, .inr (3, [.ref hd, .ref hR, .ref hw, .ref hT, .int (nI tc), .int (nI nw), .int (nI ol)])), (hd, .inr (0, [.int (nI a), .ref hB])), (hB, .inl (cI, a * 48, .inl f)), (hR, .inr (2, [.ref hM])), (hM, .inl (cI, a, .inl M)), (hw, .inr (1, [.int (b2i O), .int lf, .int us])), (hT, .inl (cI, 32, .inl t))] := hD
  refine lv_if_eq (tgt := 13) hx hb dX3_refusalOfReading_7 (by decide) (fun c7 => ?_) (fun c7 => ?_)
  · skip
    refine lv_aload_n hx hb dX3_refusalOfReading_13 rfl (lv_at hl 0 rfl) ?_
    refine lv_iload_n hx hb dX3_refusalOfReading_14 rfl (lv_at hl 1 rfl) ?_
    refine ct_calli (w := [(h0, .inr (3, [.ref hd, .ref hR, .ref hw, .ref hT, .int (nI tc), .int (nI nw), .int (nI ol)])), (hd, .inr (0, [.int (nI a), .ref hB])), (hB, .inl (cI, a * 48, .inl f)), (hR, .inr (2, [.ref hM])), (hM, .inl (cI, a, .inl M)), (hw, .inr (1, [.int (b2i O), .int lf, .int us])), (hT, .inl (cI, 32, .inl t))]) (w' := [(h0, .inr (3, [.ref hd, .ref hR, .ref hw, .ref hT, .int (nI tc), .int (nI nw), .int (nI ol)])), (hd, .inr (0, [.int (nI a), .ref hB])), (hB, .inl (cI, a * 48, .inl f)), (hR, .inr (2, [.ref hM])), (hM, .inl (cI, a, .inl M)), (hw, .inr (1, [.int (b2i O), .int lf, .int us])), (hT, .inl (cI, 32, .inl t))]) (va_runV (As := [.int x]) (rest := []) ⟨hx, hb, hml, hown, hts⟩ (c_X3_isKept l D cI cZ h0 hd hB hR hM hw hT a tc nw ol f M t O lf us x (by omega) (by omega) (by omega) (by omega) (by omega)  _) (cwV 1 hts gX3_refusalOfReading_X3_isKept rfl rfl rfl (by decide +kernel) ⟨Nat.le_of_ble_eq_true rfl, Nat.le_of_ble_eq_true rfl⟩) (ct_preV (w := [(h0, .inr (3, [.ref hd, .ref hR, .ref hw, .ref hT, .int (nI tc), .int (nI nw), .int (nI ol)])), (hd, .inr (0, [.int (nI a), .ref hB])), (hB, .inl (cI, a * 48, .inl f)), (hR, .inr (2, [.ref hM])), (hM, .inl (cI, a, .inl M)), (hw, .inr (1, [.int (b2i O), .int lf, .int us])), (hT, .inl (cI, 32, .inl t))]) (ci := 3) (i0 := 0) hK hN hP hD [0, 1, 2, 3, 4, 5, 6] (by decide) rfl rfl rfl) rfl rfl hl.1 rfl (lv_room (Nat.le_of_ble_eq_true rfl)) dX3_refusalOfReading_15 ⟨Nat.le_of_ble_eq_true rfl, Nat.le_of_ble_eq_true rfl⟩) hP hD hS hA [0, 1, 2, 3, 4, 5, 6] rfl [h0, hd, hB, hR, hM, hw, hT] rfl rfl (fun H locs hP hD hS => ?_)
    have hP : va_P D vwCl [(h0, .inr (3, [.ref hd, .ref hR, .ref hw, .ref hT, .int (nI tc), .int (nI nw), .int (nI ol)])), (hd, .inr (0, [.int (nI a), .ref hB])), (hB, .inl (cI, a * 48, .inl f)), (hR, .inr (2, [.ref hM])), (hM, .inl (cI, a, .inl M)), (hw, .inr (1, [.int (b2i O), .int lf, .int us])), (hT, .inl (cI, 32, .inl t))] _ := hP
    have hD : va_D A [(h0, .inr (3, [.ref hd, .ref hR, .ref hw, .ref hT, .int (nI tc), .int (nI nw), .int (nI ol)])), (hd, .inr (0, [.int (nI a), .ref hB])), (hB, .inl (cI, a * 48, .inl f)), (hR, .inr (2, [.ref hM])), (hM, .inl (cI, a, .inl M)), (hw, .inr (1, [.int (b2i O), .int lf, .int us])), (hT, .inl (cI, 32, .inl t))] := hD
    refine lv_if_eq (tgt := 32) hx hb dX3_refusalOfReading_18 (by decide) (fun c18 => ?_) (fun c18 => ?_)
    · skip
      refine lv_bipush (v := (-2)) hx hb dX3_refusalOfReading_32 (by decide) ?_
      exact ct_iret hx hb hr hlocks (by unfold rrd; rw [ifp_f (b2i_0.mp c7), ifp_f (fun h => b2i_0.mp c18 h.1)]) (rfl) hP hD hS dX3_refusalOfReading_34
    · skip
      refine lv_iload_n hx hb dX3_refusalOfReading_21 rfl (lv_at hl 2 rfl) ?_
      refine ct_calli (w := []) (w' := []) (va_runS (As := [.int y]) (rest := []) ⟨hx, hb, hml, hown, hts⟩ (c_X3_isKey l D cI cZ y _) (va_cwS 1 hts gX3_refusalOfReading_X3_isKey rfl rfl rfl (by decide +kernel) ⟨Nat.le_of_ble_eq_true rfl, Nat.le_of_ble_eq_true rfl⟩) (ct_preS (w := []) hK hN hP hD [] (by decide) rfl) rfl rfl hl.1 rfl (lv_room (Nat.le_of_ble_eq_true rfl)) dX3_refusalOfReading_22 ⟨Nat.le_of_ble_eq_true rfl, Nat.le_of_ble_eq_true rfl⟩) hP hD hS hA [] rfl [] rfl rfl (fun H locs hP hD hS => ?_)
      have hP : va_P D vwCl [(h0, .inr (3, [.ref hd, .ref hR, .ref hw, .ref hT, .int (nI tc), .int (nI nw), .int (nI ol)])), (hd, .inr (0, [.int (nI a), .ref hB])), (hB, .inl (cI, a * 48, .inl f)), (hR, .inr (2, [.ref hM])), (hM, .inl (cI, a, .inl M)), (hw, .inr (1, [.int (b2i O), .int lf, .int us])), (hT, .inl (cI, 32, .inl t))] _ := hP
      have hD : va_D A [(h0, .inr (3, [.ref hd, .ref hR, .ref hw, .ref hT, .int (nI tc), .int (nI nw), .int (nI ol)])), (hd, .inr (0, [.int (nI a), .ref hB])), (hB, .inl (cI, a * 48, .inl f)), (hR, .inr (2, [.ref hM])), (hM, .inl (cI, a, .inl M)), (hw, .inr (1, [.int (b2i O), .int lf, .int us])), (hT, .inl (cI, 32, .inl t))] := hD
      refine lv_if_eq (tgt := 32) hx hb dX3_refusalOfReading_25 (by decide) (fun c25 => ?_) (fun c25 => ?_)
      · skip
        refine lv_bipush (v := (-2)) hx hb dX3_refusalOfReading_32 (by decide) ?_
        exact ct_iret hx hb hr hlocks (by unfold rrd; rw [ifp_f (b2i_0.mp c7), ifp_f (fun h => b2i_0.mp c25 h.2)]) (rfl) hP hD hS dX3_refusalOfReading_34
      · skip
        refine lv_iconst (v := 0) hx hb dX3_refusalOfReading_28 (by decide) ?_
        refine lv_goto (tgt := 34) hx hb dX3_refusalOfReading_29 (by decide) ?_
        exact ct_iret hx hb hr hlocks (by unfold rrd; rw [ifp_f (b2i_0.mp c7), ifp_t ⟨b2i_n0 c18, b2i_n0 c25⟩]) (rfl) hP hD hS dX3_refusalOfReading_34
  · skip
    refine lv_bipush (v := (-5)) hx hb dX3_refusalOfReading_10 (by decide) ?_
    exact ct_iret hx hb hr hlocks (by unfold rrd; rw [ifp_t (b2i_n0 c7)]) (rfl) hP hD hS dX3_refusalOfReading_12
set_option maxHeartbeats 4000000 in
set_option maxRecDepth 100000 in
theorem c_X3_pageOfThing (l : Launch) (D : va_G) (cI cZ : ClassId) (h0 hd hB hR hM hw hT a tc nw ol : Nat) (f M t : Nat → Int32) (O : Prop) (lf us : Int32) (v k : Nat) (ha : a ≤ 120) (h12 : 12 ≤ a) (htc : tc ≤ 32) (hnw : nw ≤ 1000000) (hol : ol ≤ nw + 1) (hv : v < 2 ^ 31) (hk : k < 1024) : CtI l yX3_pageOfThing wsX3_pageOfThing ({ frames := 3, cells := 0, slots := 0, locals := 69 }) D vwCl (ct_T cI cZ) [.ref h0, .int (nI v), .int (nI k)] [(h0, .inr (3, [.ref hd, .ref hR, .ref hw, .ref hT, .int (nI tc), .int (nI nw), .int (nI ol)])), (hd, .inr (0, [.int (nI a), .ref hB])), (hB, .inl (cI, a * 48, .inl f)), (hR, .inr (2, [.ref hM])), (hM, .inl (cI, a, .inl M)), (hw, .inr (1, [.int (b2i O), .int lf, .int us])), (hT, .inl (cI, 32, .inl t))] [(h0, .inr (3, [.ref hd, .ref hR, .ref hw, .ref hT, .int (nI tc), .int (nI nw), .int (nI ol)])), (hd, .inr (0, [.int (nI a), .ref hB])), (hB, .inl (cI, a * 48, .inl f)), (hR, .inr (2, [.ref hM])), (hM, .inl (cI, a, .inl M)), (hw, .inr (1, [.int (b2i O), .int lf, .int us])), (hT, .inl (cI, 32, .inl t))] (ptg f a v k) := by
  refine ct_of (Qf := ct_Qi D vwCl [(h0, .inr (3, [.ref hd, .ref hR, .ref hw, .ref hT, .int (nI tc), .int (nI nw), .int (nI ol)])), (hd, .inr (0, [.int (nI a), .ref hB])), (hB, .inl (cI, a * 48, .inl f)), (hR, .inr (2, [.ref hM])), (hM, .inl (cI, a, .inl M)), (hw, .inr (1, [.int (b2i O), .int lf, .int us])), (hT, .inl (cI, 32, .inl t))] (ptg f a v k)) (cc := cX3_pageOfThing) (maxL := 6) (ret := (some .int)) [(0, .ref h0), (1, .int (nI v)), (2, .int (nI k))] (by decide) rfl (Nat.le_of_ble_eq_true rfl) rfl ?_
  intro p e s m below meth c hx hb hr hts hown hlocks hml hnm A hA hK hN hP hD hS ls hl
  have hown : s.vm.findClass RX3 = some m.cls := hown
  have hk0 := hts (.fieldLink RX3 23 "DesignPages" "disk" "LDesignPages$Pages;") (by decide +kernel)
  have hiX3 : ∀ w ∈ wsX30, w ∈ wsX3_pageOfThing := by decide +kernel
  refine lv_iload_n hx hb dX3_pageOfThing_0 rfl (lv_at hl 1 rfl) ?_
  refine ct_calli (w := []) (w' := []) (va_runS (As := [.int (nI v)]) (rest := []) ⟨hx, hb, hml, hown, hts⟩ (c_X3_pageOfRoot l D cI cZ (nI v) _) (va_cwS 1 hts gX3_pageOfThing_X3_pageOfRoot rfl rfl rfl (by decide +kernel) ⟨Nat.le_of_ble_eq_true rfl, Nat.le_of_ble_eq_true rfl⟩) (ct_preS (w := []) hK hN hP hD [] (by decide) rfl) rfl rfl hl.1 rfl (lv_room (Nat.le_of_ble_eq_true rfl)) dX3_pageOfThing_1 ⟨Nat.le_of_ble_eq_true rfl, Nat.le_of_ble_eq_true rfl⟩) hP hD hS hA [] rfl [] rfl rfl (fun H locs hP hD hS => ?_)
  have hP : va_P D vwCl [(h0, .inr (3, [.ref hd, .ref hR, .ref hw, .ref hT, .int (nI tc), .int (nI nw), .int (nI ol)])), (hd, .inr (0, [.int (nI a), .ref hB])), (hB, .inl (cI, a * 48, .inl f)), (hR, .inr (2, [.ref hM])), (hM, .inl (cI, a, .inl M)), (hw, .inr (1, [.int (b2i O), .int lf, .int us])), (hT, .inl (cI, 32, .inl t))] _ := hP
  have hD : va_D A [(h0, .inr (3, [.ref hd, .ref hR, .ref hw, .ref hT, .int (nI tc), .int (nI nw), .int (nI ol)])), (hd, .inr (0, [.int (nI a), .ref hB])), (hB, .inl (cI, a * 48, .inl f)), (hR, .inr (2, [.ref hM])), (hM, .inl (cI, a, .inl M)), (hw, .inr (1, [.int (b2i O), .int lf, .int us])), (hT, .inl (cI, 32, .inl t))] := hD
  refine ct_top (y := nI (v % 8)) (pk_rem (by omega) (by decide) (by decide)) ?_
  refine lv_istore_n (lv' := [(3, .int (nI (v % 8))), (0, .ref h0), (1, .int (nI v)), (2, .int (nI k))]) hx hb dX3_pageOfThing_4 rfl hl (by decide) rfl (fun ls hl => ?_)
  refine lv_aload_n hx hb dX3_pageOfThing_5 rfl (lv_at hl 1 rfl) ?_
  refine va_get (D := D) (cl := vwCl) (ci := 3) (v := .ref hd) (C := RX3) (T := TX3) (N := 7) hx hb hts hiX3 hown hK hP 0 rfl rfl 0 (by decide) hk0 (fun _ h9 => h9) rfl dX3_pageOfThing_6 ?_
  refine lv_iload_n hx hb dX3_pageOfThing_9 rfl (lv_at hl 0 rfl) ?_
  refine lv_iconst (v := 1) hx hb dX3_pageOfThing_10 (by decide) ?_
  refine ct_calli (w := [(hd, .inr (0, [.int (nI a), .ref hB])), (hB, .inl (cI, a * 48, .inl f))]) (w' := [(hd, .inr (0, [.int (nI a), .ref hB])), (hB, .inl (cI, a * 48, .inl f))]) (va_runV (As := [.int (nI (v % 8)), .int 1]) (rest := []) ⟨hx, hb, hml, hown, hts⟩ (c_X0_isRight l D cI cZ hd hB a (v % 8) 1 f (by omega) (by omega) _) (cwV 2 hts gX3_pageOfThing_X0_isRight rfl rfl rfl (by decide +kernel) ⟨Nat.le_of_ble_eq_true rfl, Nat.le_of_ble_eq_true rfl⟩) (ct_preV (w := [(hd, .inr (0, [.int (nI a), .ref hB])), (hB, .inl (cI, a * 48, .inl f))]) (ci := 0) (i0 := 1) hK hN hP hD [1, 2] (by decide) rfl rfl rfl) rfl rfl hl.1 rfl (lv_room (Nat.le_of_ble_eq_true rfl)) dX3_pageOfThing_11 ⟨Nat.le_of_ble_eq_true rfl, Nat.le_of_ble_eq_true rfl⟩) hP hD hS hA [1, 2] rfl [hd, hB] rfl rfl (fun H locs hP hD hS => ?_)
  have hP : va_P D vwCl [(h0, .inr (3, [.ref hd, .ref hR, .ref hw, .ref hT, .int (nI tc), .int (nI nw), .int (nI ol)])), (hd, .inr (0, [.int (nI a), .ref hB])), (hB, .inl (cI, a * 48, .inl f)), (hR, .inr (2, [.ref hM])), (hM, .inl (cI, a, .inl M)), (hw, .inr (1, [.int (b2i O), .int lf, .int us])), (hT, .inl (cI, 32, .inl t))] _ := hP
  have hD : va_D A [(h0, .inr (3, [.ref hd, .ref hR, .ref hw, .ref hT, .int (nI tc), .int (nI nw), .int (nI ol)])), (hd, .inr (0, [.int (nI a), .ref hB])), (hB, .inl (cI, a * 48, .inl f)), (hR, .inr (2, [.ref hM])), (hM, .inl (cI, a, .inl M)), (hw, .inr (1, [.int (b2i O), .int lf, .int us])), (hT, .inl (cI, 32, .inl t))] := hD
  refine lv_if_ne (tgt := 20) hx hb dX3_pageOfThing_14 (by decide) (fun c14 => ?_) (fun c14 => ?_)
  · skip
    refine lv_aload_n hx hb dX3_pageOfThing_20 rfl (lv_at hl 1 rfl) ?_
    refine va_get (D := D) (cl := vwCl) (ci := 3) (v := .ref hd) (C := RX3) (T := TX3) (N := 7) hx hb hts hiX3 hown hK hP 0 rfl rfl 0 (by decide) hk0 (fun _ h9 => h9) rfl dX3_pageOfThing_21 ?_
    refine lv_iload_n hx hb dX3_pageOfThing_24 rfl (lv_at hl 0 rfl) ?_
    refine lv_bipush (v := 9) hx hb dX3_pageOfThing_25 (by decide) ?_
    refine lv_iload_n hx hb dX3_pageOfThing_27 rfl (lv_at hl 3 rfl) ?_
    refine lv_bipush (v := 32) hx hb dX3_pageOfThing_28 (by decide) ?_
    refine lv_idiv hx hb dX3_pageOfThing_30 (by decide) ?_
    refine ct_top (y := nI (k / 32)) (pk_div (by omega) (by decide) (by decide)) ?_
    refine lv_iadd hx hb dX3_pageOfThing_31 ?_
    refine ct_top (y := nI (9 + (k / 32))) (nI_add 9 (k / 32)) ?_
    refine ct_calli (w := [(hd, .inr (0, [.int (nI a), .ref hB])), (hB, .inl (cI, a * 48, .inl f))]) (w' := [(hd, .inr (0, [.int (nI a), .ref hB])), (hB, .inl (cI, a * 48, .inl f))]) (va_runV (As := [.int (nI (v % 8)), .int (nI (9 + (k / 32)))]) (rest := []) ⟨hx, hb, hml, hown, hts⟩ (c_X0_at l D cI cZ hd hB a (v % 8) (9 + (k / 32)) f (by omega) (by omega) (by omega) _) (cwV 2 hts gX3_pageOfThing_X0_at rfl rfl rfl (by decide +kernel) ⟨Nat.le_of_ble_eq_true rfl, Nat.le_of_ble_eq_true rfl⟩) (ct_preV (w := [(hd, .inr (0, [.int (nI a), .ref hB])), (hB, .inl (cI, a * 48, .inl f))]) (ci := 0) (i0 := 1) hK hN hP hD [1, 2] (by decide) rfl rfl rfl) rfl rfl hl.1 rfl (lv_room (Nat.le_of_ble_eq_true rfl)) dX3_pageOfThing_32 ⟨Nat.le_of_ble_eq_true rfl, Nat.le_of_ble_eq_true rfl⟩) hP hD hS hA [1, 2] rfl [hd, hB] rfl rfl (fun H locs hP hD hS => ?_)
    have hP : va_P D vwCl [(h0, .inr (3, [.ref hd, .ref hR, .ref hw, .ref hT, .int (nI tc), .int (nI nw), .int (nI ol)])), (hd, .inr (0, [.int (nI a), .ref hB])), (hB, .inl (cI, a * 48, .inl f)), (hR, .inr (2, [.ref hM])), (hM, .inl (cI, a, .inl M)), (hw, .inr (1, [.int (b2i O), .int lf, .int us])), (hT, .inl (cI, 32, .inl t))] _ := hP
    have hD : va_D A [(h0, .inr (3, [.ref hd, .ref hR, .ref hw, .ref hT, .int (nI tc), .int (nI nw), .int (nI ol)])), (hd, .inr (0, [.int (nI a), .ref hB])), (hB, .inl (cI, a * 48, .inl f)), (hR, .inr (2, [.ref hM])), (hM, .inl (cI, a, .inl M)), (hw, .inr (1, [.int (b2i O), .int lf, .int us])), (hT, .inl (cI, 32, .inl t))] := hD
    have hn1 := rt_nv (i := k / 32) (b2i_n0 c14) ha (by omega) (by omega)
    have hn2 := hn1.2.1
    refine ct_top (y := nI (nv (f (v % 8 * 48 + (9 + k / 32))))) (hn1.1) ?_
    refine lv_istore (lv' := [(4, .int (nI (nv (f (v % 8 * 48 + (9 + k / 32)))))), (3, .int (nI (v % 8))), (0, .ref h0), (1, .int (nI v)), (2, .int (nI k))]) hx hb dX3_pageOfThing_35 hl (by decide) rfl (fun ls hl => ?_)
    refine lv_iload hx hb dX3_pageOfThing_37 (lv_at hl 0 rfl) ?_
    refine lv_if_ne (tgt := 44) hx hb dX3_pageOfThing_39 (by decide) (fun c39 => ?_) (fun c39 => ?_)
    · skip
      have c39 : ¬ (nv (f (v % 8 * 48 + (9 + k / 32)))) = 0 := fun h => c39 ((nI_eq (a := (nv (f (v % 8 * 48 + (9 + k / 32))))) (b := 0) (by omega) (by omega)).mpr h)
      refine lv_aload_n hx hb dX3_pageOfThing_44 rfl (lv_at hl 2 rfl) ?_
      refine va_get (D := D) (cl := vwCl) (ci := 3) (v := .ref hd) (C := RX3) (T := TX3) (N := 7) hx hb hts hiX3 hown hK hP 0 rfl rfl 0 (by decide) hk0 (fun _ h9 => h9) rfl dX3_pageOfThing_45 ?_
      refine lv_iload hx hb dX3_pageOfThing_48 (lv_at hl 0 rfl) ?_
      refine lv_iconst (v := 2) hx hb dX3_pageOfThing_50 (by decide) ?_
      refine ct_calli (w := [(hd, .inr (0, [.int (nI a), .ref hB])), (hB, .inl (cI, a * 48, .inl f))]) (w' := [(hd, .inr (0, [.int (nI a), .ref hB])), (hB, .inl (cI, a * 48, .inl f))]) (va_runV (As := [.int (nI (nv (f (v % 8 * 48 + (9 + k / 32))))), .int 2]) (rest := []) ⟨hx, hb, hml, hown, hts⟩ (c_X0_isRight l D cI cZ hd hB a (nv (f (v % 8 * 48 + (9 + k / 32)))) 2 f (by omega) (by omega) _) (cwV 2 hts gX3_pageOfThing_X0_isRight rfl rfl rfl (by decide +kernel) ⟨Nat.le_of_ble_eq_true rfl, Nat.le_of_ble_eq_true rfl⟩) (ct_preV (w := [(hd, .inr (0, [.int (nI a), .ref hB])), (hB, .inl (cI, a * 48, .inl f))]) (ci := 0) (i0 := 1) hK hN hP hD [1, 2] (by decide) rfl rfl rfl) rfl rfl hl.1 rfl (lv_room (Nat.le_of_ble_eq_true rfl)) dX3_pageOfThing_51 ⟨Nat.le_of_ble_eq_true rfl, Nat.le_of_ble_eq_true rfl⟩) hP hD hS hA [1, 2] rfl [hd, hB] rfl rfl (fun H locs hP hD hS => ?_)
      have hP : va_P D vwCl [(h0, .inr (3, [.ref hd, .ref hR, .ref hw, .ref hT, .int (nI tc), .int (nI nw), .int (nI ol)])), (hd, .inr (0, [.int (nI a), .ref hB])), (hB, .inl (cI, a * 48, .inl f)), (hR, .inr (2, [.ref hM])), (hM, .inl (cI, a, .inl M)), (hw, .inr (1, [.int (b2i O), .int lf, .int us])), (hT, .inl (cI, 32, .inl t))] _ := hP
      have hD : va_D A [(h0, .inr (3, [.ref hd, .ref hR, .ref hw, .ref hT, .int (nI tc), .int (nI nw), .int (nI ol)])), (hd, .inr (0, [.int (nI a), .ref hB])), (hB, .inl (cI, a * 48, .inl f)), (hR, .inr (2, [.ref hM])), (hM, .inl (cI, a, .inl M)), (hw, .inr (1, [.int (b2i O), .int lf, .int us])), (hT, .inl (cI, 32, .inl t))] := hD
      refine lv_if_ne (tgt := 60) hx hb dX3_pageOfThing_54 (by decide) (fun c54 => ?_) (fun c54 => ?_)
      · skip
        refine lv_aload_n hx hb dX3_pageOfThing_60 rfl (lv_at hl 2 rfl) ?_
        refine va_get (D := D) (cl := vwCl) (ci := 3) (v := .ref hd) (C := RX3) (T := TX3) (N := 7) hx hb hts hiX3 hown hK hP 0 rfl rfl 0 (by decide) hk0 (fun _ h9 => h9) rfl dX3_pageOfThing_61 ?_
        refine lv_iload hx hb dX3_pageOfThing_64 (lv_at hl 0 rfl) ?_
        refine lv_iconst (v := 2) hx hb dX3_pageOfThing_66 (by decide) ?_
        refine lv_iload_n hx hb dX3_pageOfThing_67 rfl (lv_at hl 4 rfl) ?_
        refine lv_bipush (v := 32) hx hb dX3_pageOfThing_68 (by decide) ?_
        refine lv_irem hx hb dX3_pageOfThing_70 (by decide) ?_
        refine ct_top (y := nI (k % 32)) (pk_rem (by omega) (by decide) (by decide)) ?_
        refine lv_iadd hx hb dX3_pageOfThing_71 ?_
        refine ct_top (y := nI (2 + (k % 32))) (nI_add 2 (k % 32)) ?_
        refine ct_calli (w := [(hd, .inr (0, [.int (nI a), .ref hB])), (hB, .inl (cI, a * 48, .inl f))]) (w' := [(hd, .inr (0, [.int (nI a), .ref hB])), (hB, .inl (cI, a * 48, .inl f))]) (va_runV (As := [.int (nI (nv (f (v % 8 * 48 + (9 + k / 32))))), .int (nI (2 + (k % 32)))]) (rest := []) ⟨hx, hb, hml, hown, hts⟩ (c_X0_at l D cI cZ hd hB a (nv (f (v % 8 * 48 + (9 + k / 32)))) (2 + (k % 32)) f (by omega) (by omega) (by omega) _) (cwV 2 hts gX3_pageOfThing_X0_at rfl rfl rfl (by decide +kernel) ⟨Nat.le_of_ble_eq_true rfl, Nat.le_of_ble_eq_true rfl⟩) (ct_preV (w := [(hd, .inr (0, [.int (nI a), .ref hB])), (hB, .inl (cI, a * 48, .inl f))]) (ci := 0) (i0 := 1) hK hN hP hD [1, 2] (by decide) rfl rfl rfl) rfl rfl hl.1 rfl (lv_room (Nat.le_of_ble_eq_true rfl)) dX3_pageOfThing_72 ⟨Nat.le_of_ble_eq_true rfl, Nat.le_of_ble_eq_true rfl⟩) hP hD hS hA [1, 2] rfl [hd, hB] rfl rfl (fun H locs hP hD hS => ?_)
        have hP : va_P D vwCl [(h0, .inr (3, [.ref hd, .ref hR, .ref hw, .ref hT, .int (nI tc), .int (nI nw), .int (nI ol)])), (hd, .inr (0, [.int (nI a), .ref hB])), (hB, .inl (cI, a * 48, .inl f)), (hR, .inr (2, [.ref hM])), (hM, .inl (cI, a, .inl M)), (hw, .inr (1, [.int (b2i O), .int lf, .int us])), (hT, .inl (cI, 32, .inl t))] _ := hP
        have hD : va_D A [(h0, .inr (3, [.ref hd, .ref hR, .ref hw, .ref hT, .int (nI tc), .int (nI nw), .int (nI ol)])), (hd, .inr (0, [.int (nI a), .ref hB])), (hB, .inl (cI, a * 48, .inl f)), (hR, .inr (2, [.ref hM])), (hM, .inl (cI, a, .inl M)), (hw, .inr (1, [.int (b2i O), .int lf, .int us])), (hT, .inl (cI, 32, .inl t))] := hD
        have hn3 := nd_nv (i := k % 32) (b2i_n0 c54) ha (by omega) (by omega)
        have hn4 := hn3.2.1
        refine ct_top (y := nI (nv (f (nv (f (v % 8 * 48 + (9 + k / 32))) * 48 + (2 + k % 32))))) (hn3.1) ?_
        refine lv_istore (lv' := [(5, .int (nI (nv (f (nv (f (v % 8 * 48 + (9 + k / 32))) * 48 + (2 + k % 32)))))), (4, .int (nI (nv (f (v % 8 * 48 + (9 + k / 32)))))), (3, .int (nI (v % 8))), (0, .ref h0), (1, .int (nI v)), (2, .int (nI k))]) hx hb dX3_pageOfThing_75 hl (by decide) rfl (fun ls hl => ?_)
        refine lv_iload hx hb dX3_pageOfThing_77 (lv_at hl 0 rfl) ?_
        refine lv_if_ne (tgt := 84) hx hb dX3_pageOfThing_79 (by decide) (fun c79 => ?_) (fun c79 => ?_)
        · skip
          have c79 : ¬ (nv (f (nv (f (v % 8 * 48 + (9 + k / 32))) * 48 + (2 + k % 32)))) = 0 := fun h => c79 ((nI_eq (a := (nv (f (nv (f (v % 8 * 48 + (9 + k / 32))) * 48 + (2 + k % 32))))) (b := 0) (by omega) (by omega)).mpr h)
          refine lv_aload_n hx hb dX3_pageOfThing_84 rfl (lv_at hl 3 rfl) ?_
          refine va_get (D := D) (cl := vwCl) (ci := 3) (v := .ref hd) (C := RX3) (T := TX3) (N := 7) hx hb hts hiX3 hown hK hP 0 rfl rfl 0 (by decide) hk0 (fun _ h9 => h9) rfl dX3_pageOfThing_85 ?_
          refine lv_iload hx hb dX3_pageOfThing_88 (lv_at hl 0 rfl) ?_
          refine lv_iconst (v := 3) hx hb dX3_pageOfThing_90 (by decide) ?_
          refine ct_calli (w := [(hd, .inr (0, [.int (nI a), .ref hB])), (hB, .inl (cI, a * 48, .inl f))]) (w' := [(hd, .inr (0, [.int (nI a), .ref hB])), (hB, .inl (cI, a * 48, .inl f))]) (va_runV (As := [.int (nI (nv (f (nv (f (v % 8 * 48 + (9 + k / 32))) * 48 + (2 + k % 32))))), .int 3]) (rest := []) ⟨hx, hb, hml, hown, hts⟩ (c_X0_isRight l D cI cZ hd hB a (nv (f (nv (f (v % 8 * 48 + (9 + k / 32))) * 48 + (2 + k % 32)))) 3 f (by omega) (by omega) _) (cwV 2 hts gX3_pageOfThing_X0_isRight rfl rfl rfl (by decide +kernel) ⟨Nat.le_of_ble_eq_true rfl, Nat.le_of_ble_eq_true rfl⟩) (ct_preV (w := [(hd, .inr (0, [.int (nI a), .ref hB])), (hB, .inl (cI, a * 48, .inl f))]) (ci := 0) (i0 := 1) hK hN hP hD [1, 2] (by decide) rfl rfl rfl) rfl rfl hl.1 rfl (lv_room (Nat.le_of_ble_eq_true rfl)) dX3_pageOfThing_91 ⟨Nat.le_of_ble_eq_true rfl, Nat.le_of_ble_eq_true rfl⟩) hP hD hS hA [1, 2] rfl [hd, hB] rfl rfl (fun H locs hP hD hS => ?_)
          have hP : va_P D vwCl [(h0, .inr (3, [.ref hd, .ref hR, .ref hw, .ref hT, .int (nI tc), .int (nI nw), .int (nI ol)])), (hd, .inr (0, [.int (nI a), .ref hB])), (hB, .inl (cI, a * 48, .inl f)), (hR, .inr (2, [.ref hM])), (hM, .inl (cI, a, .inl M)), (hw, .inr (1, [.int (b2i O), .int lf, .int us])), (hT, .inl (cI, 32, .inl t))] _ := hP
          have hD : va_D A [(h0, .inr (3, [.ref hd, .ref hR, .ref hw, .ref hT, .int (nI tc), .int (nI nw), .int (nI ol)])), (hd, .inr (0, [.int (nI a), .ref hB])), (hB, .inl (cI, a * 48, .inl f)), (hR, .inr (2, [.ref hM])), (hM, .inl (cI, a, .inl M)), (hw, .inr (1, [.int (b2i O), .int lf, .int us])), (hT, .inl (cI, 32, .inl t))] := hD
          refine lv_if_eq (tgt := 102) hx hb dX3_pageOfThing_94 (by decide) (fun c94 => ?_) (fun c94 => ?_)
          · skip
            refine lv_bipush (v := (-4)) hx hb dX3_pageOfThing_102 (by decide) ?_
            exact ct_iret hx hb hr hlocks (by unfold ptg; rw [ifp_t (b2i_n0 c14), ifp_f (fun h => c39 ((nv_0 hn1.1).mpr h)), ifp_t (b2i_n0 c54), ifp_f (fun h => c79 ((nv_0 hn3.1).mpr h)), ifp_f (b2i_0.mp c94)]) (rfl) hP hD hS dX3_pageOfThing_104
          · skip
            refine lv_iload hx hb dX3_pageOfThing_97 (lv_at hl 0 rfl) ?_
            refine lv_goto (tgt := 104) hx hb dX3_pageOfThing_99 (by decide) ?_
            exact ct_iret hx hb hr hlocks (by unfold ptg; rw [ifp_t (b2i_n0 c14), ifp_f (fun h => c39 ((nv_0 hn1.1).mpr h)), ifp_t (b2i_n0 c54), ifp_f (fun h => c79 ((nv_0 hn3.1).mpr h)), ifp_t (b2i_n0 c94)]; exact hn3.1.symm) (rfl) hP hD hS dX3_pageOfThing_104
        · skip
          have c79 : (nv (f (nv (f (v % 8 * 48 + (9 + k / 32))) * 48 + (2 + k % 32)))) = 0 := (nI_eq (a := (nv (f (nv (f (v % 8 * 48 + (9 + k / 32))) * 48 + (2 + k % 32))))) (b := 0) (by omega) (by omega)).mp c79
          refine lv_iconst (v := (-1)) hx hb dX3_pageOfThing_82 (by decide) ?_
          exact ct_iret hx hb hr hlocks (by unfold ptg; rw [ifp_t (b2i_n0 c14), ifp_f (fun h => c39 ((nv_0 hn1.1).mpr h)), ifp_t (b2i_n0 c54), ifp_t ((nv_0 hn3.1).mp c79)]) (rfl) hP hD hS dX3_pageOfThing_83
      · skip
        refine lv_bipush (v := (-4)) hx hb dX3_pageOfThing_57 (by decide) ?_
        exact ct_iret hx hb hr hlocks (by unfold ptg; rw [ifp_t (b2i_n0 c14), ifp_f (fun h => c39 ((nv_0 hn1.1).mpr h)), ifp_f (b2i_0.mp c54)]) (rfl) hP hD hS dX3_pageOfThing_59
    · skip
      have c39 : (nv (f (v % 8 * 48 + (9 + k / 32)))) = 0 := (nI_eq (a := (nv (f (v % 8 * 48 + (9 + k / 32))))) (b := 0) (by omega) (by omega)).mp c39
      refine lv_iconst (v := (-1)) hx hb dX3_pageOfThing_42 (by decide) ?_
      exact ct_iret hx hb hr hlocks (by unfold ptg; rw [ifp_t (b2i_n0 c14), ifp_t ((nv_0 hn1.1).mp c39)]) (rfl) hP hD hS dX3_pageOfThing_43
  · skip
    refine lv_bipush (v := (-4)) hx hb dX3_pageOfThing_17 (by decide) ?_
    exact ct_iret hx hb hr hlocks (by unfold ptg; rw [ifp_f (b2i_0.mp c14)]) (rfl) hP hD hS dX3_pageOfThing_19
set_option maxHeartbeats 4000000 in
set_option maxRecDepth 100000 in
theorem c_X3_lookUp (l : Launch) (D : va_G) (cI cZ : ClassId) (h0 hd hB hR hM hw hT a tc nw ol : Nat) (f M t : Nat → Int32) (O : Prop) (lf us : Int32) (x y : Int32) (ha : a ≤ 120) (h12 : 12 ≤ a) (htc : tc ≤ 32) (hnw : nw ≤ 1000000) (hol : ol ≤ nw + 1) : CtI l yX3_lookUp wsX3_lookUp ({ frames := 4, cells := 0, slots := 0, locals := 94 }) D vwCl (ct_T cI cZ) [.ref h0, .int x, .int y] [(h0, .inr (3, [.ref hd, .ref hR, .ref hw, .ref hT, .int (nI tc), .int (nI nw), .int (nI ol)])), (hd, .inr (0, [.int (nI a), .ref hB])), (hB, .inl (cI, a * 48, .inl f)), (hR, .inr (2, [.ref hM])), (hM, .inl (cI, a, .inl M)), (hw, .inr (1, [.int (b2i O), .int lf, .int us])), (hT, .inl (cI, 32, .inl t))] [(h0, .inr (3, [.ref hd, .ref hR, .ref hw, .ref hT, .int (nI tc), .int (nI nw), .int (nI ol)])), (hd, .inr (0, [.int (nI a), .ref hB])), (hB, .inl (cI, a * 48, .inl f)), (hR, .inr (2, [.ref hM])), (hM, .inl (cI, a, .inl M)), (hw, .inr (1, [.int (b2i O), .int lf, .int us])), (hT, .inl (cI, 32, .inl t))] (lku O f a ol nw x y) := by
  refine ct_of (Qf := ct_Qi D vwCl [(h0, .inr (3, [.ref hd, .ref hR, .ref hw, .ref hT, .int (nI tc), .int (nI nw), .int (nI ol)])), (hd, .inr (0, [.int (nI a), .ref hB])), (hB, .inl (cI, a * 48, .inl f)), (hR, .inr (2, [.ref hM])), (hM, .inl (cI, a, .inl M)), (hw, .inr (1, [.int (b2i O), .int lf, .int us])), (hT, .inl (cI, 32, .inl t))] (lku O f a ol nw x y)) (cc := cX3_lookUp) (maxL := 4) (ret := (some .int)) [(0, .ref h0), (1, .int x), (2, .int y)] (by decide) rfl (Nat.le_of_ble_eq_true rfl) rfl ?_
  intro p e s m below meth c hx hb hr hts hown hlocks hml hnm A hA hK hN hP hD hS ls hl
  have hown : s.vm.findClass RX3 = some m.cls := hown
  refine lv_aload_n hx hb dX3_lookUp_0 rfl (lv_at hl 0 rfl) ?_
  refine lv_iload_n hx hb dX3_lookUp_1 rfl (lv_at hl 1 rfl) ?_
  refine lv_iload_n hx hb dX3_lookUp_2 rfl (lv_at hl 2 rfl) ?_
  refine ct_calli (w := [(h0, .inr (3, [.ref hd, .ref hR, .ref hw, .ref hT, .int (nI tc), .int (nI nw), .int (nI ol)])), (hd, .inr (0, [.int (nI a), .ref hB])), (hB, .inl (cI, a * 48, .inl f)), (hR, .inr (2, [.ref hM])), (hM, .inl (cI, a, .inl M)), (hw, .inr (1, [.int (b2i O), .int lf, .int us])), (hT, .inl (cI, 32, .inl t))]) (w' := [(h0, .inr (3, [.ref hd, .ref hR, .ref hw, .ref hT, .int (nI tc), .int (nI nw), .int (nI ol)])), (hd, .inr (0, [.int (nI a), .ref hB])), (hB, .inl (cI, a * 48, .inl f)), (hR, .inr (2, [.ref hM])), (hM, .inl (cI, a, .inl M)), (hw, .inr (1, [.int (b2i O), .int lf, .int us])), (hT, .inl (cI, 32, .inl t))]) (va_runV (As := [.int x, .int y]) (rest := []) ⟨hx, hb, hml, hown, hts⟩ (c_X3_refusalOfReading l D cI cZ h0 hd hB hR hM hw hT a tc nw ol f M t O lf us x y (by omega) (by omega) (by omega) (by omega) (by omega)  _) (cwV 2 hts gX3_lookUp_X3_refusalOfReading rfl rfl rfl (by decide +kernel) ⟨Nat.le_of_ble_eq_true rfl, Nat.le_of_ble_eq_true rfl⟩) (ct_preV (w := [(h0, .inr (3, [.ref hd, .ref hR, .ref hw, .ref hT, .int (nI tc), .int (nI nw), .int (nI ol)])), (hd, .inr (0, [.int (nI a), .ref hB])), (hB, .inl (cI, a * 48, .inl f)), (hR, .inr (2, [.ref hM])), (hM, .inl (cI, a, .inl M)), (hw, .inr (1, [.int (b2i O), .int lf, .int us])), (hT, .inl (cI, 32, .inl t))]) (ci := 3) (i0 := 0) hK hN hP hD [0, 1, 2, 3, 4, 5, 6] (by decide) rfl rfl rfl) rfl rfl hl.1 rfl (lv_room (Nat.le_of_ble_eq_true rfl)) dX3_lookUp_3 ⟨Nat.le_of_ble_eq_true rfl, Nat.le_of_ble_eq_true rfl⟩) hP hD hS hA [0, 1, 2, 3, 4, 5, 6] rfl [h0, hd, hB, hR, hM, hw, hT] rfl rfl (fun H locs hP hD hS => ?_)
  have hP : va_P D vwCl [(h0, .inr (3, [.ref hd, .ref hR, .ref hw, .ref hT, .int (nI tc), .int (nI nw), .int (nI ol)])), (hd, .inr (0, [.int (nI a), .ref hB])), (hB, .inl (cI, a * 48, .inl f)), (hR, .inr (2, [.ref hM])), (hM, .inl (cI, a, .inl M)), (hw, .inr (1, [.int (b2i O), .int lf, .int us])), (hT, .inl (cI, 32, .inl t))] _ := hP
  have hD : va_D A [(h0, .inr (3, [.ref hd, .ref hR, .ref hw, .ref hT, .int (nI tc), .int (nI nw), .int (nI ol)])), (hd, .inr (0, [.int (nI a), .ref hB])), (hB, .inl (cI, a * 48, .inl f)), (hR, .inr (2, [.ref hM])), (hM, .inl (cI, a, .inl M)), (hw, .inr (1, [.int (b2i O), .int lf, .int us])), (hT, .inl (cI, 32, .inl t))] := hD
  refine lv_istore_n (lv' := [(3, .int (rrd O ol nw x y)), (0, .ref h0), (1, .int x), (2, .int y)]) hx hb dX3_lookUp_6 rfl hl (by decide) rfl (fun ls hl => ?_)
  refine lv_iload_n hx hb dX3_lookUp_7 rfl (lv_at hl 0 rfl) ?_
  refine lv_if_eq (tgt := 15) hx hb dX3_lookUp_8 (by decide) (fun c8 => ?_) (fun c8 => ?_)
  · skip
    obtain ⟨e1, e2, e3⟩ := rrd_0 c8
    obtain ⟨v, hv1, hv2, rfl⟩ := kp_nat e2 (by omega) (by omega)
    obtain ⟨k, hk1, rfl⟩ := ky_nat e3
    refine lv_aload_n hx hb dX3_lookUp_15 rfl (lv_at hl 1 rfl) ?_
    refine lv_iload_n hx hb dX3_lookUp_16 rfl (lv_at hl 2 rfl) ?_
    refine lv_iload_n hx hb dX3_lookUp_17 rfl (lv_at hl 3 rfl) ?_
    refine ct_calli (w := [(h0, .inr (3, [.ref hd, .ref hR, .ref hw, .ref hT, .int (nI tc), .int (nI nw), .int (nI ol)])), (hd, .inr (0, [.int (nI a), .ref hB])), (hB, .inl (cI, a * 48, .inl f)), (hR, .inr (2, [.ref hM])), (hM, .inl (cI, a, .inl M)), (hw, .inr (1, [.int (b2i O), .int lf, .int us])), (hT, .inl (cI, 32, .inl t))]) (w' := [(h0, .inr (3, [.ref hd, .ref hR, .ref hw, .ref hT, .int (nI tc), .int (nI nw), .int (nI ol)])), (hd, .inr (0, [.int (nI a), .ref hB])), (hB, .inl (cI, a * 48, .inl f)), (hR, .inr (2, [.ref hM])), (hM, .inl (cI, a, .inl M)), (hw, .inr (1, [.int (b2i O), .int lf, .int us])), (hT, .inl (cI, 32, .inl t))]) (va_runV (As := [.int (nI v), .int (nI k)]) (rest := []) ⟨hx, hb, hml, hown, hts⟩ (c_X3_pageOfThing l D cI cZ h0 hd hB hR hM hw hT a tc nw ol f M t O lf us v k (by omega) (by omega) (by omega) (by omega) (by omega) (by omega) (by omega) _) (cwV 2 hts gX3_lookUp_X3_pageOfThing rfl rfl rfl (by decide +kernel) ⟨Nat.le_of_ble_eq_true rfl, Nat.le_of_ble_eq_true rfl⟩) (ct_preV (w := [(h0, .inr (3, [.ref hd, .ref hR, .ref hw, .ref hT, .int (nI tc), .int (nI nw), .int (nI ol)])), (hd, .inr (0, [.int (nI a), .ref hB])), (hB, .inl (cI, a * 48, .inl f)), (hR, .inr (2, [.ref hM])), (hM, .inl (cI, a, .inl M)), (hw, .inr (1, [.int (b2i O), .int lf, .int us])), (hT, .inl (cI, 32, .inl t))]) (ci := 3) (i0 := 0) hK hN hP hD [0, 1, 2, 3, 4, 5, 6] (by decide) rfl rfl rfl) rfl rfl hl.1 rfl (lv_room (Nat.le_of_ble_eq_true rfl)) dX3_lookUp_18 ⟨Nat.le_of_ble_eq_true rfl, Nat.le_of_ble_eq_true rfl⟩) hP hD hS hA [0, 1, 2, 3, 4, 5, 6] rfl [h0, hd, hB, hR, hM, hw, hT] rfl rfl (fun H locs hP hD hS => ?_)
    have hP : va_P D vwCl [(h0, .inr (3, [.ref hd, .ref hR, .ref hw, .ref hT, .int (nI tc), .int (nI nw), .int (nI ol)])), (hd, .inr (0, [.int (nI a), .ref hB])), (hB, .inl (cI, a * 48, .inl f)), (hR, .inr (2, [.ref hM])), (hM, .inl (cI, a, .inl M)), (hw, .inr (1, [.int (b2i O), .int lf, .int us])), (hT, .inl (cI, 32, .inl t))] _ := hP
    have hD : va_D A [(h0, .inr (3, [.ref hd, .ref hR, .ref hw, .ref hT, .int (nI tc), .int (nI nw), .int (nI ol)])), (hd, .inr (0, [.int (nI a), .ref hB])), (hB, .inl (cI, a * 48, .inl f)), (hR, .inr (2, [.ref hM])), (hM, .inl (cI, a, .inl M)), (hw, .inr (1, [.int (b2i O), .int lf, .int us])), (hT, .inl (cI, 32, .inl t))] := hD
    exact ct_iret hx hb hr hlocks (by unfold lku; rw [ifp_f e1, ifp_t ⟨e2, e3⟩, nv_nI (by omega), nv_nI (by omega)]) (rfl) hP hD hS dX3_lookUp_21
  · skip
    refine lv_iload_n hx hb dX3_lookUp_11 rfl (lv_at hl 0 rfl) ?_
    refine lv_goto (tgt := 21) hx hb dX3_lookUp_12 (by decide) ?_
    exact ct_iret hx hb hr hlocks (lku_n c8) (rfl) hP hD hS dX3_lookUp_21
set_option maxHeartbeats 4000000 in
set_option maxRecDepth 100000 in
theorem c_X3_finishPage (l : Launch) (D : va_G) (cI cZ : ClassId) (h0 hd hB hR hM hw hT a tc nw ol : Nat) (f M t : Nat → Int32) (O : Prop) (lf us : Int32) (q : Nat) (ha : a ≤ 120) (h12 : 12 ≤ a) (htc : tc ≤ 32) (hnw : nw ≤ 1000000) (hol : ol ≤ nw + 1) (hq : q < a) : CtI l yX3_finishPage wsX3_finishPage ({ frames := 3, cells := 0, slots := 0, locals := 67 }) D vwCl (ct_T cI cZ) [.ref h0, .int (nI q)] [(h0, .inr (3, [.ref hd, .ref hR, .ref hw, .ref hT, .int (nI tc), .int (nI nw), .int (nI ol)])), (hd, .inr (0, [.int (nI a), .ref hB])), (hB, .inl (cI, a * 48, .inl f)), (hR, .inr (2, [.ref hM])), (hM, .inl (cI, a, .inl M)), (hw, .inr (1, [.int (b2i O), .int lf, .int us])), (hT, .inl (cI, 32, .inl t))] [(h0, .inr (3, [.ref hd, .ref hR, .ref hw, .ref hT, .int (nI tc), .int (nI nw), .int (nI ol)])), (hd, .inr (0, [.int (nI a), .ref hB])), (hB, .inl (cI, a * 48, .inl (pg_seal f q))), (hR, .inr (2, [.ref hM])), (hM, .inl (cI, a, .inl M)), (hw, .inr (1, [.int (b2i (pw_off O lf)), .int (pw_left lf), .int (us + 1)])), (hT, .inl (cI, 32, .inl t))] (b2i (¬ pw_off O lf)) := by
  refine ct_of (Qf := ct_Qi D vwCl [(h0, .inr (3, [.ref hd, .ref hR, .ref hw, .ref hT, .int (nI tc), .int (nI nw), .int (nI ol)])), (hd, .inr (0, [.int (nI a), .ref hB])), (hB, .inl (cI, a * 48, .inl (pg_seal f q))), (hR, .inr (2, [.ref hM])), (hM, .inl (cI, a, .inl M)), (hw, .inr (1, [.int (b2i (pw_off O lf)), .int (pw_left lf), .int (us + 1)])), (hT, .inl (cI, 32, .inl t))] (b2i (¬ pw_off O lf))) (cc := cX3_finishPage) (maxL := 2) (ret := (some .boolean)) [(0, .ref h0), (1, .int (nI q))] (by decide) rfl (Nat.le_of_ble_eq_true rfl) rfl ?_
  intro p e s m below meth c hx hb hr hts hown hlocks hml hnm A hA hK hN hP hD hS ls hl
  have hown : s.vm.findClass RX3 = some m.cls := hown
  have hk0 := hts (.fieldLink RX3 23 "DesignPages" "disk" "LDesignPages$Pages;") (by decide +kernel)
  have hk1 := hts (.fieldLink RX3 37 "DesignPages" "power" "LDesignPages$Power;") (by decide +kernel)
  have hiX3 : ∀ w ∈ wsX30, w ∈ wsX3_finishPage := by decide +kernel
  refine lv_aload_n hx hb dX3_finishPage_0 rfl (lv_at hl 0 rfl) ?_
  refine va_get (D := D) (cl := vwCl) (ci := 3) (v := .ref hd) (C := RX3) (T := TX3) (N := 7) hx hb hts hiX3 hown hK hP 0 rfl rfl 0 (by decide) hk0 (fun _ h9 => h9) rfl dX3_finishPage_1 ?_
  refine lv_iload_n hx hb dX3_finishPage_4 rfl (lv_at hl 1 rfl) ?_
  refine ct_callv (w := [(hd, .inr (0, [.int (nI a), .ref hB])), (hB, .inl (cI, a * 48, .inl f))]) (w' := [(hd, .inr (0, [.int (nI a), .ref hB])), (hB, .inl (cI, a * 48, .inl (pg_setn f (q * 48 + 44) (pg_sum f (q * 48) 44))))]) (va_runV (As := [.int (nI q)]) (rest := []) ⟨hx, hb, hml, hown, hts⟩ (c_X0_seal l D cI cZ hd hB a q f (by omega) (by omega) _) (cwV 1 hts gX3_finishPage_X0_seal rfl rfl rfl (by decide +kernel) ⟨Nat.le_of_ble_eq_true rfl, Nat.le_of_ble_eq_true rfl⟩) (ct_preV (w := [(hd, .inr (0, [.int (nI a), .ref hB])), (hB, .inl (cI, a * 48, .inl f))]) (ci := 0) (i0 := 1) hK hN hP hD [1, 2] (by decide) rfl rfl rfl) rfl rfl hl.1 rfl (lv_room (Nat.le_of_ble_eq_true rfl)) dX3_finishPage_5 ⟨Nat.le_of_ble_eq_true rfl, Nat.le_of_ble_eq_true rfl⟩) hP hD hS hA [1, 2] rfl [hd, hB] rfl rfl (fun H locs hP hD hS => ?_)
  have hP : va_P D vwCl [(h0, .inr (3, [.ref hd, .ref hR, .ref hw, .ref hT, .int (nI tc), .int (nI nw), .int (nI ol)])), (hd, .inr (0, [.int (nI a), .ref hB])), (hB, .inl (cI, a * 48, .inl (pg_setn f (q * 48 + 44) (pg_sum f (q * 48) 44)))), (hR, .inr (2, [.ref hM])), (hM, .inl (cI, a, .inl M)), (hw, .inr (1, [.int (b2i O), .int lf, .int us])), (hT, .inl (cI, 32, .inl t))] _ := hP
  have hD : va_D A [(h0, .inr (3, [.ref hd, .ref hR, .ref hw, .ref hT, .int (nI tc), .int (nI nw), .int (nI ol)])), (hd, .inr (0, [.int (nI a), .ref hB])), (hB, .inl (cI, a * 48, .inl (pg_setn f (q * 48 + 44) (pg_sum f (q * 48) 44)))), (hR, .inr (2, [.ref hM])), (hM, .inl (cI, a, .inl M)), (hw, .inr (1, [.int (b2i O), .int lf, .int us])), (hT, .inl (cI, 32, .inl t))] := hD
  refine lv_aload_n hx hb dX3_finishPage_8 rfl (lv_at hl 0 rfl) ?_
  refine va_get (D := D) (cl := vwCl) (ci := 3) (v := .ref hw) (C := RX3) (T := TX3) (N := 7) hx hb hts hiX3 hown hK hP 0 rfl rfl 2 (by decide) hk1 (fun _ h9 => h9) rfl dX3_finishPage_9 ?_
  refine ct_callv (w := [(hw, .inr (1, [.int (b2i O), .int lf, .int us]))]) (w' := [(hw, .inr (1, [.int (b2i (pw_off O lf)), .int (pw_left lf), .int (us + 1)]))]) (va_runV (As := []) (rest := []) ⟨hx, hb, hml, hown, hts⟩ (c_X1_usePage l D cI cZ hw O lf us  _) (cwV 0 hts gX3_finishPage_X1_usePage rfl rfl rfl (by decide +kernel) ⟨Nat.le_of_ble_eq_true rfl, Nat.le_of_ble_eq_true rfl⟩) (ct_preV (w := [(hw, .inr (1, [.int (b2i O), .int lf, .int us]))]) (ci := 1) (i0 := 5) hK hN hP hD [5] (by decide) rfl rfl rfl) rfl rfl hl.1 rfl (lv_room (Nat.le_of_ble_eq_true rfl)) dX3_finishPage_12 ⟨Nat.le_of_ble_eq_true rfl, Nat.le_of_ble_eq_true rfl⟩) hP hD hS hA [5] rfl [hw] rfl rfl (fun H locs hP hD hS => ?_)
  have hP : va_P D vwCl [(h0, .inr (3, [.ref hd, .ref hR, .ref hw, .ref hT, .int (nI tc), .int (nI nw), .int (nI ol)])), (hd, .inr (0, [.int (nI a), .ref hB])), (hB, .inl (cI, a * 48, .inl (pg_setn f (q * 48 + 44) (pg_sum f (q * 48) 44)))), (hR, .inr (2, [.ref hM])), (hM, .inl (cI, a, .inl M)), (hw, .inr (1, [.int (b2i (pw_off O lf)), .int (pw_left lf), .int (us + 1)])), (hT, .inl (cI, 32, .inl t))] _ := hP
  have hD : va_D A [(h0, .inr (3, [.ref hd, .ref hR, .ref hw, .ref hT, .int (nI tc), .int (nI nw), .int (nI ol)])), (hd, .inr (0, [.int (nI a), .ref hB])), (hB, .inl (cI, a * 48, .inl (pg_setn f (q * 48 + 44) (pg_sum f (q * 48) 44)))), (hR, .inr (2, [.ref hM])), (hM, .inl (cI, a, .inl M)), (hw, .inr (1, [.int (b2i (pw_off O lf)), .int (pw_left lf), .int (us + 1)])), (hT, .inl (cI, 32, .inl t))] := hD
  refine lv_aload_n hx hb dX3_finishPage_15 rfl (lv_at hl 0 rfl) ?_
  refine va_get (D := D) (cl := vwCl) (ci := 3) (v := .ref hw) (C := RX3) (T := TX3) (N := 7) hx hb hts hiX3 hown hK hP 0 rfl rfl 2 (by decide) hk1 (fun _ h9 => h9) rfl dX3_finishPage_16 ?_
  refine ct_calli (w := [(hw, .inr (1, [.int (b2i (pw_off O lf)), .int (pw_left lf), .int (us + 1)]))]) (w' := [(hw, .inr (1, [.int (b2i (pw_off O lf)), .int (pw_left lf), .int (us + 1)]))]) (va_runV (As := []) (rest := []) ⟨hx, hb, hml, hown, hts⟩ (c_X1_isOff l D cI cZ hw (pw_off O lf) (pw_left lf) (us + 1)  _) (cwV 0 hts gX3_finishPage_X1_isOff rfl rfl rfl (by decide +kernel) ⟨Nat.le_of_ble_eq_true rfl, Nat.le_of_ble_eq_true rfl⟩) (ct_preV (w := [(hw, .inr (1, [.int (b2i (pw_off O lf)), .int (pw_left lf), .int (us + 1)]))]) (ci := 1) (i0 := 5) hK hN hP hD [5] (by decide) rfl rfl rfl) rfl rfl hl.1 rfl (lv_room (Nat.le_of_ble_eq_true rfl)) dX3_finishPage_19 ⟨Nat.le_of_ble_eq_true rfl, Nat.le_of_ble_eq_true rfl⟩) hP hD hS hA [5] rfl [hw] rfl rfl (fun H locs hP hD hS => ?_)
  have hP : va_P D vwCl [(h0, .inr (3, [.ref hd, .ref hR, .ref hw, .ref hT, .int (nI tc), .int (nI nw), .int (nI ol)])), (hd, .inr (0, [.int (nI a), .ref hB])), (hB, .inl (cI, a * 48, .inl (pg_setn f (q * 48 + 44) (pg_sum f (q * 48) 44)))), (hR, .inr (2, [.ref hM])), (hM, .inl (cI, a, .inl M)), (hw, .inr (1, [.int (b2i (pw_off O lf)), .int (pw_left lf), .int (us + 1)])), (hT, .inl (cI, 32, .inl t))] _ := hP
  have hD : va_D A [(h0, .inr (3, [.ref hd, .ref hR, .ref hw, .ref hT, .int (nI tc), .int (nI nw), .int (nI ol)])), (hd, .inr (0, [.int (nI a), .ref hB])), (hB, .inl (cI, a * 48, .inl (pg_setn f (q * 48 + 44) (pg_sum f (q * 48) 44)))), (hR, .inr (2, [.ref hM])), (hM, .inl (cI, a, .inl M)), (hw, .inr (1, [.int (b2i (pw_off O lf)), .int (pw_left lf), .int (us + 1)])), (hT, .inl (cI, 32, .inl t))] := hD
  refine lv_if_ne (tgt := 29) hx hb dX3_finishPage_22 (by decide) (fun c22 => ?_) (fun c22 => ?_)
  · skip
    refine lv_iconst (v := 0) hx hb dX3_finishPage_29 (by decide) ?_
    exact ct_zret hx hb hr hlocks (rfl) ((b2i_f (fun h => h (b2i_n0 c22))).symm) (rfl) hP hD hS dX3_finishPage_30
  · skip
    refine lv_iconst (v := 1) hx hb dX3_finishPage_25 (by decide) ?_
    refine lv_goto (tgt := 30) hx hb dX3_finishPage_26 (by decide) ?_
    exact ct_zret hx hb hr hlocks (rfl) ((b2i_t (b2i_0.mp c22)).symm) (rfl) hP hD hS dX3_finishPage_30
end
section
theorem c_X3_writeNode (l : Launch) (D : va_G) (cI cZ : ClassId) (h0 hd hB hR hM hw hT a tc nw ol : Nat) (f M t : Nat → Int32) (O : Prop) (lf us : Int32) (q k : Nat) (x : Int32) (ha : a ≤ 120) (h12 : 12 ≤ a) (htc : tc ≤ 32) (hnw : nw ≤ 1000000) (hol : ol ≤ nw + 1) (hq : q < a) (hk : k < 1024) (hh : nw = 0 ∨ pg_right f a (nw % 8) 1) : CtI l yX3_writeNode wsX3_writeNode ({ frames := 4, cells := 0, slots := 0, locals := 88 }) D vwCl (ct_T cI cZ) [.ref h0, .int (nI q), .int (nI k), .int x] [(h0, .inr (3, [.ref hd, .ref hR, .ref hw, .ref hT, .int (nI tc), .int (nI nw), .int (nI ol)])), (hd, .inr (0, [.int (nI a), .ref hB])), (hB, .inl (cI, a * 48, .inl f)), (hR, .inr (2, [.ref hM])), (hM, .inl (cI, a, .inl M)), (hw, .inr (1, [.int (b2i O), .int lf, .int us])), (hT, .inl (cI, 32, .inl t))] [(h0, .inr (3, [.ref hd, .ref hR, .ref hw, .ref hT, .int (nI tc), .int (nI nw), .int (nI ol)])), (hd, .inr (0, [.int (nI a), .ref hB])), (hB, .inl (cI, a * 48, .inl (wn f q k x nw))), (hR, .inr (2, [.ref hM])), (hM, .inl (cI, a, .inl M)), (hw, .inr (1, [.int (b2i (pw_off O lf)), .int (pw_left lf), .int (us + 1)])), (hT, .inl (cI, 32, .inl t))] (b2i (¬ pw_off O lf)) := sorry
end
section
set_option maxHeartbeats 4000000 in
set_option maxRecDepth 100000 in
theorem c_X3_writeThing (l : Launch) (D : va_G) (cI cZ : ClassId) (h0 hd hB hR hM hw hT a tc nw ol : Nat) (f M t : Nat → Int32) (O : Prop) (lf us : Int32) (q k : Nat) (ha : a ≤ 120) (h12 : 12 ≤ a) (htc : tc ≤ 32) (hnw : nw ≤ 1000000) (hol : ol ≤ nw + 1) (hq : q < a) (hk : k < 1024) : CtI l yX3_writeThing wsX3_writeThing ({ frames := 4, cells := 0, slots := 0, locals := 88 }) D vwCl (ct_T cI cZ) [.ref h0, .int (nI q), .int (nI k)] [(h0, .inr (3, [.ref hd, .ref hR, .ref hw, .ref hT, .int (nI tc), .int (nI nw), .int (nI ol)])), (hd, .inr (0, [.int (nI a), .ref hB])), (hB, .inl (cI, a * 48, .inl f)), (hR, .inr (2, [.ref hM])), (hM, .inl (cI, a, .inl M)), (hw, .inr (1, [.int (b2i O), .int lf, .int us])), (hT, .inl (cI, 32, .inl t))] [(h0, .inr (3, [.ref hd, .ref hR, .ref hw, .ref hT, .int (nI 0), .int (nI nw), .int (nI ol)])), (hd, .inr (0, [.int (nI a), .ref hB])), (hB, .inl (cI, a * 48, .inl (wt f q k t tc))), (hR, .inr (2, [.ref hM])), (hM, .inl (cI, a, .inl M)), (hw, .inr (1, [.int (b2i (pw_off O lf)), .int (pw_left lf), .int (us + 1)])), (hT, .inl (cI, 32, .inl t))] (b2i (¬ pw_off O lf)) := by
  refine ct_of (Qf := ct_Qi D vwCl [(h0, .inr (3, [.ref hd, .ref hR, .ref hw, .ref hT, .int (nI 0), .int (nI nw), .int (nI ol)])), (hd, .inr (0, [.int (nI a), .ref hB])), (hB, .inl (cI, a * 48, .inl (wt f q k t tc))), (hR, .inr (2, [.ref hM])), (hM, .inl (cI, a, .inl M)), (hw, .inr (1, [.int (b2i (pw_off O lf)), .int (pw_left lf), .int (us + 1)])), (hT, .inl (cI, 32, .inl t))] (b2i (¬ pw_off O lf))) (cc := cX3_writeThing) (maxL := 4) (ret := (some .boolean)) [(0, .ref h0), (1, .int (nI q)), (2, .int (nI k))] (by decide) rfl (Nat.le_of_ble_eq_true rfl) rfl ?_
  intro p e s m below meth c hx hb hr hts hown hlocks hml hnm A hA hK hN hP hD hS ls hl
  have hown : s.vm.findClass RX3 = some m.cls := hown
  have hk0 := hts (.fieldLink RX3 23 "DesignPages" "disk" "LDesignPages$Pages;") (by decide +kernel)
  have hk1 := hts (.fieldLink RX3 45 "DesignPages" "typedCount" "I") (by decide +kernel)
  have hk2 := hts (.fieldLink RX3 41 "DesignPages" "typed" "[I") (by decide +kernel)
  have hiX3 : ∀ w ∈ wsX30, w ∈ wsX3_writeThing := by decide +kernel
  refine lv_aload_n hx hb dX3_writeThing_0 rfl (lv_at hl 0 rfl) ?_
  refine va_get (D := D) (cl := vwCl) (ci := 3) (v := .ref hd) (C := RX3) (T := TX3) (N := 7) hx hb hts hiX3 hown hK hP 0 rfl rfl 0 (by decide) hk0 (fun _ h9 => h9) rfl dX3_writeThing_1 ?_
  refine lv_iload_n hx hb dX3_writeThing_4 rfl (lv_at hl 1 rfl) ?_
  refine lv_iconst (v := 3) hx hb dX3_writeThing_5 (by decide) ?_
  refine ct_callv (w := [(hd, .inr (0, [.int (nI a), .ref hB])), (hB, .inl (cI, a * 48, .inl f))]) (w' := [(hd, .inr (0, [.int (nI a), .ref hB])), (hB, .inl (cI, a * 48, .inl (pg_begin f q 3)))]) (va_runV (As := [.int (nI q), .int 3]) (rest := []) ⟨hx, hb, hml, hown, hts⟩ (c_X0_begin l D cI cZ hd hB a q 3 f (by omega) (by omega) _) (cwV 2 hts gX3_writeThing_X0_begin rfl rfl rfl (by decide +kernel) ⟨Nat.le_of_ble_eq_true rfl, Nat.le_of_ble_eq_true rfl⟩) (ct_preV (w := [(hd, .inr (0, [.int (nI a), .ref hB])), (hB, .inl (cI, a * 48, .inl f))]) (ci := 0) (i0 := 1) hK hN hP hD [1, 2] (by decide) rfl rfl rfl) rfl rfl hl.1 rfl (lv_room (Nat.le_of_ble_eq_true rfl)) dX3_writeThing_6 ⟨Nat.le_of_ble_eq_true rfl, Nat.le_of_ble_eq_true rfl⟩) hP hD hS hA [1, 2] rfl [hd, hB] rfl rfl (fun H locs hP hD hS => ?_)
  have hP : va_P D vwCl [(h0, .inr (3, [.ref hd, .ref hR, .ref hw, .ref hT, .int (nI tc), .int (nI nw), .int (nI ol)])), (hd, .inr (0, [.int (nI a), .ref hB])), (hB, .inl (cI, a * 48, .inl (pg_begin f q 3))), (hR, .inr (2, [.ref hM])), (hM, .inl (cI, a, .inl M)), (hw, .inr (1, [.int (b2i O), .int lf, .int us])), (hT, .inl (cI, 32, .inl t))] _ := hP
  have hD : va_D A [(h0, .inr (3, [.ref hd, .ref hR, .ref hw, .ref hT, .int (nI tc), .int (nI nw), .int (nI ol)])), (hd, .inr (0, [.int (nI a), .ref hB])), (hB, .inl (cI, a * 48, .inl (pg_begin f q 3))), (hR, .inr (2, [.ref hM])), (hM, .inl (cI, a, .inl M)), (hw, .inr (1, [.int (b2i O), .int lf, .int us])), (hT, .inl (cI, 32, .inl t))] := hD
  refine lv_aload_n hx hb dX3_writeThing_9 rfl (lv_at hl 0 rfl) ?_
  refine va_get (D := D) (cl := vwCl) (ci := 3) (v := .ref hd) (C := RX3) (T := TX3) (N := 7) hx hb hts hiX3 hown hK hP 0 rfl rfl 0 (by decide) hk0 (fun _ h9 => h9) rfl dX3_writeThing_10 ?_
  refine lv_iload_n hx hb dX3_writeThing_13 rfl (lv_at hl 1 rfl) ?_
  refine lv_iconst (v := 1) hx hb dX3_writeThing_14 (by decide) ?_
  refine lv_iload_n hx hb dX3_writeThing_15 rfl (lv_at hl 2 rfl) ?_
  refine lv_sipush (v := 256) hx hb dX3_writeThing_16 (by decide) ?_
  refine lv_idiv hx hb dX3_writeThing_19 (by decide) ?_
  refine ct_top (y := nI (k / 256)) (pk_div (by omega) (by decide) (by decide)) ?_
  refine ct_callv (w := [(hd, .inr (0, [.int (nI a), .ref hB])), (hB, .inl (cI, a * 48, .inl (pg_begin f q 3)))]) (w' := [(hd, .inr (0, [.int (nI a), .ref hB])), (hB, .inl (cI, a * 48, .inl (upd (pg_begin f q 3) (q * 48 + 1) (nI (k / 256)))))]) (va_runV (As := [.int (nI q), .int 1, .int (nI (k / 256))]) (rest := []) ⟨hx, hb, hml, hown, hts⟩ (c_X0_set l D cI cZ hd hB a q 1 (nI (k / 256)) (pg_begin f q 3) (by omega) (by omega) (by omega) _) (cwV 3 hts gX3_writeThing_X0_set rfl rfl rfl (by decide +kernel) ⟨Nat.le_of_ble_eq_true rfl, Nat.le_of_ble_eq_true rfl⟩) (ct_preV (w := [(hd, .inr (0, [.int (nI a), .ref hB])), (hB, .inl (cI, a * 48, .inl (pg_begin f q 3)))]) (ci := 0) (i0 := 1) hK hN hP hD [1, 2] (by decide) rfl rfl rfl) rfl rfl hl.1 rfl (lv_room (Nat.le_of_ble_eq_true rfl)) dX3_writeThing_20 ⟨Nat.le_of_ble_eq_true rfl, Nat.le_of_ble_eq_true rfl⟩) hP hD hS hA [1, 2] rfl [hd, hB] rfl rfl (fun H locs hP hD hS => ?_)
  have hP : va_P D vwCl [(h0, .inr (3, [.ref hd, .ref hR, .ref hw, .ref hT, .int (nI tc), .int (nI nw), .int (nI ol)])), (hd, .inr (0, [.int (nI a), .ref hB])), (hB, .inl (cI, a * 48, .inl (upd (pg_begin f q 3) (q * 48 + 1) (nI (k / 256))))), (hR, .inr (2, [.ref hM])), (hM, .inl (cI, a, .inl M)), (hw, .inr (1, [.int (b2i O), .int lf, .int us])), (hT, .inl (cI, 32, .inl t))] _ := hP
  have hD : va_D A [(h0, .inr (3, [.ref hd, .ref hR, .ref hw, .ref hT, .int (nI tc), .int (nI nw), .int (nI ol)])), (hd, .inr (0, [.int (nI a), .ref hB])), (hB, .inl (cI, a * 48, .inl (upd (pg_begin f q 3) (q * 48 + 1) (nI (k / 256))))), (hR, .inr (2, [.ref hM])), (hM, .inl (cI, a, .inl M)), (hw, .inr (1, [.int (b2i O), .int lf, .int us])), (hT, .inl (cI, 32, .inl t))] := hD
  refine lv_aload_n hx hb dX3_writeThing_23 rfl (lv_at hl 0 rfl) ?_
  refine va_get (D := D) (cl := vwCl) (ci := 3) (v := .ref hd) (C := RX3) (T := TX3) (N := 7) hx hb hts hiX3 hown hK hP 0 rfl rfl 0 (by decide) hk0 (fun _ h9 => h9) rfl dX3_writeThing_24 ?_
  refine lv_iload_n hx hb dX3_writeThing_27 rfl (lv_at hl 1 rfl) ?_
  refine lv_iconst (v := 2) hx hb dX3_writeThing_28 (by decide) ?_
  refine lv_iload_n hx hb dX3_writeThing_29 rfl (lv_at hl 2 rfl) ?_
  refine lv_sipush (v := 256) hx hb dX3_writeThing_30 (by decide) ?_
  refine lv_irem hx hb dX3_writeThing_33 (by decide) ?_
  refine ct_top (y := nI (k % 256)) (pk_rem (by omega) (by decide) (by decide)) ?_
  refine ct_callv (w := [(hd, .inr (0, [.int (nI a), .ref hB])), (hB, .inl (cI, a * 48, .inl (upd (pg_begin f q 3) (q * 48 + 1) (nI (k / 256)))))]) (w' := [(hd, .inr (0, [.int (nI a), .ref hB])), (hB, .inl (cI, a * 48, .inl (upd (upd (pg_begin f q 3) (q * 48 + 1) (nI (k / 256))) (q * 48 + 2) (nI (k % 256)))))]) (va_runV (As := [.int (nI q), .int 2, .int (nI (k % 256))]) (rest := []) ⟨hx, hb, hml, hown, hts⟩ (c_X0_set l D cI cZ hd hB a q 2 (nI (k % 256)) (upd (pg_begin f q 3) (q * 48 + 1) (nI (k / 256))) (by omega) (by omega) (by omega) _) (cwV 3 hts gX3_writeThing_X0_set rfl rfl rfl (by decide +kernel) ⟨Nat.le_of_ble_eq_true rfl, Nat.le_of_ble_eq_true rfl⟩) (ct_preV (w := [(hd, .inr (0, [.int (nI a), .ref hB])), (hB, .inl (cI, a * 48, .inl (upd (pg_begin f q 3) (q * 48 + 1) (nI (k / 256)))))]) (ci := 0) (i0 := 1) hK hN hP hD [1, 2] (by decide) rfl rfl rfl) rfl rfl hl.1 rfl (lv_room (Nat.le_of_ble_eq_true rfl)) dX3_writeThing_34 ⟨Nat.le_of_ble_eq_true rfl, Nat.le_of_ble_eq_true rfl⟩) hP hD hS hA [1, 2] rfl [hd, hB] rfl rfl (fun H locs hP hD hS => ?_)
  have hP : va_P D vwCl [(h0, .inr (3, [.ref hd, .ref hR, .ref hw, .ref hT, .int (nI tc), .int (nI nw), .int (nI ol)])), (hd, .inr (0, [.int (nI a), .ref hB])), (hB, .inl (cI, a * 48, .inl (upd (upd (pg_begin f q 3) (q * 48 + 1) (nI (k / 256))) (q * 48 + 2) (nI (k % 256))))), (hR, .inr (2, [.ref hM])), (hM, .inl (cI, a, .inl M)), (hw, .inr (1, [.int (b2i O), .int lf, .int us])), (hT, .inl (cI, 32, .inl t))] _ := hP
  have hD : va_D A [(h0, .inr (3, [.ref hd, .ref hR, .ref hw, .ref hT, .int (nI tc), .int (nI nw), .int (nI ol)])), (hd, .inr (0, [.int (nI a), .ref hB])), (hB, .inl (cI, a * 48, .inl (upd (upd (pg_begin f q 3) (q * 48 + 1) (nI (k / 256))) (q * 48 + 2) (nI (k % 256))))), (hR, .inr (2, [.ref hM])), (hM, .inl (cI, a, .inl M)), (hw, .inr (1, [.int (b2i O), .int lf, .int us])), (hT, .inl (cI, 32, .inl t))] := hD
  refine lv_aload_n hx hb dX3_writeThing_37 rfl (lv_at hl 0 rfl) ?_
  refine va_get (D := D) (cl := vwCl) (ci := 3) (v := .ref hd) (C := RX3) (T := TX3) (N := 7) hx hb hts hiX3 hown hK hP 0 rfl rfl 0 (by decide) hk0 (fun _ h9 => h9) rfl dX3_writeThing_38 ?_
  refine lv_iload_n hx hb dX3_writeThing_41 rfl (lv_at hl 1 rfl) ?_
  refine lv_iconst (v := 3) hx hb dX3_writeThing_42 (by decide) ?_
  refine lv_aload_n hx hb dX3_writeThing_43 rfl (lv_at hl 0 rfl) ?_
  refine va_get (D := D) (cl := vwCl) (ci := 3) (v := .int (nI tc)) (C := RX3) (T := TX3) (N := 7) hx hb hts hiX3 hown hK hP 0 rfl rfl 4 (by decide) hk1 (fun _ h9 => h9) rfl dX3_writeThing_44 ?_
  refine ct_callv (w := [(hd, .inr (0, [.int (nI a), .ref hB])), (hB, .inl (cI, a * 48, .inl (upd (upd (pg_begin f q 3) (q * 48 + 1) (nI (k / 256))) (q * 48 + 2) (nI (k % 256)))))]) (w' := [(hd, .inr (0, [.int (nI a), .ref hB])), (hB, .inl (cI, a * 48, .inl (upd (upd (upd (pg_begin f q 3) (q * 48 + 1) (nI (k / 256))) (q * 48 + 2) (nI (k % 256))) (q * 48 + 3) (nI tc))))]) (va_runV (As := [.int (nI q), .int 3, .int (nI tc)]) (rest := []) ⟨hx, hb, hml, hown, hts⟩ (c_X0_set l D cI cZ hd hB a q 3 (nI tc) (upd (upd (pg_begin f q 3) (q * 48 + 1) (nI (k / 256))) (q * 48 + 2) (nI (k % 256))) (by omega) (by omega) (by omega) _) (cwV 3 hts gX3_writeThing_X0_set rfl rfl rfl (by decide +kernel) ⟨Nat.le_of_ble_eq_true rfl, Nat.le_of_ble_eq_true rfl⟩) (ct_preV (w := [(hd, .inr (0, [.int (nI a), .ref hB])), (hB, .inl (cI, a * 48, .inl (upd (upd (pg_begin f q 3) (q * 48 + 1) (nI (k / 256))) (q * 48 + 2) (nI (k % 256)))))]) (ci := 0) (i0 := 1) hK hN hP hD [1, 2] (by decide) rfl rfl rfl) rfl rfl hl.1 rfl (lv_room (Nat.le_of_ble_eq_true rfl)) dX3_writeThing_47 ⟨Nat.le_of_ble_eq_true rfl, Nat.le_of_ble_eq_true rfl⟩) hP hD hS hA [1, 2] rfl [hd, hB] rfl rfl (fun H locs hP hD hS => ?_)
  have hP : va_P D vwCl [(h0, .inr (3, [.ref hd, .ref hR, .ref hw, .ref hT, .int (nI tc), .int (nI nw), .int (nI ol)])), (hd, .inr (0, [.int (nI a), .ref hB])), (hB, .inl (cI, a * 48, .inl (upd (upd (upd (pg_begin f q 3) (q * 48 + 1) (nI (k / 256))) (q * 48 + 2) (nI (k % 256))) (q * 48 + 3) (nI tc)))), (hR, .inr (2, [.ref hM])), (hM, .inl (cI, a, .inl M)), (hw, .inr (1, [.int (b2i O), .int lf, .int us])), (hT, .inl (cI, 32, .inl t))] _ := hP
  have hD : va_D A [(h0, .inr (3, [.ref hd, .ref hR, .ref hw, .ref hT, .int (nI tc), .int (nI nw), .int (nI ol)])), (hd, .inr (0, [.int (nI a), .ref hB])), (hB, .inl (cI, a * 48, .inl (upd (upd (upd (pg_begin f q 3) (q * 48 + 1) (nI (k / 256))) (q * 48 + 2) (nI (k % 256))) (q * 48 + 3) (nI tc)))), (hR, .inr (2, [.ref hM])), (hM, .inl (cI, a, .inl M)), (hw, .inr (1, [.int (b2i O), .int lf, .int us])), (hT, .inl (cI, 32, .inl t))] := hD
  refine lv_iconst (v := 0) hx hb dX3_writeThing_50 (by decide) ?_
  refine lv_istore_n (lv' := [(3, .int 0), (0, .ref h0), (1, .int (nI q)), (2, .int (nI k))]) hx hb dX3_writeThing_51 rfl hl (by decide) rfl (fun ls hl => ?_)
  have loop52 : ∀ (n52 : Nat) (i : Nat) (g : Nat → Int32), i ≤ tc → g = wt_set (upd (upd (upd (pg_begin f q 3) (q * 48 + 1) (nI (k / 256))) (q * 48 + 2) (nI (k % 256))) (q * 48 + 3) (nI tc)) q t i → tc - i < n52 → ∀ (H : Heap) (locs : List Loc), va_P D vwCl [(h0, .inr (3, [.ref hd, .ref hR, .ref hw, .ref hT, .int (nI tc), .int (nI nw), .int (nI ol)])), (hd, .inr (0, [.int (nI a), .ref hB])), (hB, .inl (cI, a * 48, .inl g)), (hR, .inr (2, [.ref hM])), (hM, .inl (cI, a, .inl M)), (hw, .inr (1, [.int (b2i O), .int lf, .int us])), (hT, .inl (cI, 32, .inl t))] H → va_D A [(h0, .inr (3, [.ref hd, .ref hR, .ref hw, .ref hT, .int (nI tc), .int (nI nw), .int (nI ol)])), (hd, .inr (0, [.int (nI a), .ref hB])), (hB, .inl (cI, a * 48, .inl g)), (hR, .inr (2, [.ref hM])), (hM, .inl (cI, a, .inl M)), (hw, .inr (1, [.int (b2i O), .int lf, .int us])), (hT, .inl (cI, 32, .inl t))] → va_S A s.heap H locs → ∀ (ls : Array Slot), lv_has ls 4 [(3, .int (nI i)), (0, .ref h0), (1, .int (nI q)), (2, .int (nI k))] → W p l e ({ frames := 4, cells := 0, slots := 0, locals := 88 }) s m ([.ref h0, .int (nI q), .int (nI k)] : List Value).toArray below meth c H locs 0 0 (MQ below (ct_Qi D vwCl [(h0, .inr (3, [.ref hd, .ref hR, .ref hw, .ref hT, .int (nI 0), .int (nI nw), .int (nI ol)])), (hd, .inr (0, [.int (nI a), .ref hB])), (hB, .inl (cI, a * 48, .inl (wt f q k t tc))), (hR, .inr (2, [.ref hM])), (hM, .inl (cI, a, .inl M)), (hw, .inr (1, [.int (b2i (pw_off O lf)), .int (pw_left lf), .int (us + 1)])), (hT, .inl (cI, 32, .inl t))] (b2i (¬ pw_off O lf)) A) ([.ref h0, .int (nI q), .int (nI k)] : List Value).toArray s 0 0 A) (F0 m 52 ls []) := by
    intro n52
    induction n52 with
    | zero =>
      intro i g _ _ hm
      exact absurd hm (Nat.not_lt_zero _)
    | succ n52 ih52 =>
      intro i g hi ex hm52 H locs hP hD hS ls hl
      refine lv_iload_n hx hb dX3_writeThing_52 rfl (lv_at hl 0 rfl) ?_
      refine lv_aload_n hx hb dX3_writeThing_53 rfl (lv_at hl 1 rfl) ?_
      refine va_get (D := D) (cl := vwCl) (ci := 3) (v := .int (nI tc)) (C := RX3) (T := TX3) (N := 7) hx hb hts hiX3 hown hK hP 0 rfl rfl 4 (by decide) hk1 (fun _ h9 => h9) rfl dX3_writeThing_54 ?_
      refine lv_icmp_ge (tgt := 83) hx hb dX3_writeThing_57 (by decide) (fun c57 => ?_) (fun c57 => ?_)
      · skip
        have c57 : tc ≤ i := (nI_leI (a := tc) (b := i) (by omega) (by omega)).mp c57
        refine lv_aload_n hx hb dX3_writeThing_83 rfl (lv_at hl 1 rfl) ?_
        refine lv_iconst (v := 0) hx hb dX3_writeThing_84 (by decide) ?_
        refine va_put (D := D) (cl := vwCl) (ci := 3) (v := .int 0) (ty := .int) (C := RX3) (T := TX3) (N := 7) hx hb hts hiX3 tyX3 tyX3_ok nmX3 hown hK hP hD hS 0 rfl rfl 4 (by decide) hk1 (fun _ h9 => h9) rfl (by decide +kernel) rfl rfl (Nat.le_of_ble_eq_true rfl) dX3_writeThing_85 (fun H locs hP hD hS => ?_)
        have hP : va_P D vwCl [(h0, .inr (3, [.ref hd, .ref hR, .ref hw, .ref hT, .int 0, .int (nI nw), .int (nI ol)])), (hd, .inr (0, [.int (nI a), .ref hB])), (hB, .inl (cI, a * 48, .inl g)), (hR, .inr (2, [.ref hM])), (hM, .inl (cI, a, .inl M)), (hw, .inr (1, [.int (b2i O), .int lf, .int us])), (hT, .inl (cI, 32, .inl t))] _ := hP
        have hD : va_D A [(h0, .inr (3, [.ref hd, .ref hR, .ref hw, .ref hT, .int 0, .int (nI nw), .int (nI ol)])), (hd, .inr (0, [.int (nI a), .ref hB])), (hB, .inl (cI, a * 48, .inl g)), (hR, .inr (2, [.ref hM])), (hM, .inl (cI, a, .inl M)), (hw, .inr (1, [.int (b2i O), .int lf, .int us])), (hT, .inl (cI, 32, .inl t))] := hD
        refine lv_aload_n hx hb dX3_writeThing_88 rfl (lv_at hl 1 rfl) ?_
        refine lv_iload_n hx hb dX3_writeThing_89 rfl (lv_at hl 2 rfl) ?_
        refine ct_calli (w := [(h0, .inr (3, [.ref hd, .ref hR, .ref hw, .ref hT, .int 0, .int (nI nw), .int (nI ol)])), (hd, .inr (0, [.int (nI a), .ref hB])), (hB, .inl (cI, a * 48, .inl g)), (hR, .inr (2, [.ref hM])), (hM, .inl (cI, a, .inl M)), (hw, .inr (1, [.int (b2i O), .int lf, .int us])), (hT, .inl (cI, 32, .inl t))]) (w' := [(h0, .inr (3, [.ref hd, .ref hR, .ref hw, .ref hT, .int (nI 0), .int (nI nw), .int (nI ol)])), (hd, .inr (0, [.int (nI a), .ref hB])), (hB, .inl (cI, a * 48, .inl (pg_seal g q))), (hR, .inr (2, [.ref hM])), (hM, .inl (cI, a, .inl M)), (hw, .inr (1, [.int (b2i (pw_off O lf)), .int (pw_left lf), .int (us + 1)])), (hT, .inl (cI, 32, .inl t))]) (va_runV (As := [.int (nI q)]) (rest := []) ⟨hx, hb, hml, hown, hts⟩ (c_X3_finishPage l D cI cZ h0 hd hB hR hM hw hT a 0 nw ol g M t O lf us q (by omega) (by omega) (by omega) (by omega) (by omega) (by omega) _) (cwV 1 hts gX3_writeThing_X3_finishPage rfl rfl rfl (by decide +kernel) ⟨Nat.le_of_ble_eq_true rfl, Nat.le_of_ble_eq_true rfl⟩) (ct_preV (w := [(h0, .inr (3, [.ref hd, .ref hR, .ref hw, .ref hT, .int 0, .int (nI nw), .int (nI ol)])), (hd, .inr (0, [.int (nI a), .ref hB])), (hB, .inl (cI, a * 48, .inl g)), (hR, .inr (2, [.ref hM])), (hM, .inl (cI, a, .inl M)), (hw, .inr (1, [.int (b2i O), .int lf, .int us])), (hT, .inl (cI, 32, .inl t))]) (ci := 3) (i0 := 0) hK hN hP hD [0, 1, 2, 3, 4, 5, 6] (by decide) rfl rfl rfl) rfl rfl hl.1 rfl (lv_room (Nat.le_of_ble_eq_true rfl)) dX3_writeThing_90 ⟨Nat.le_of_ble_eq_true rfl, Nat.le_of_ble_eq_true rfl⟩) hP hD hS hA [0, 1, 2, 3, 4, 5, 6] rfl [h0, hd, hB, hR, hM, hw, hT] rfl rfl (fun H locs hP hD hS => ?_)
        have hP : va_P D vwCl [(h0, .inr (3, [.ref hd, .ref hR, .ref hw, .ref hT, .int (nI 0), .int (nI nw), .int (nI ol)])), (hd, .inr (0, [.int (nI a), .ref hB])), (hB, .inl (cI, a * 48, .inl (pg_seal g q))), (hR, .inr (2, [.ref hM])), (hM, .inl (cI, a, .inl M)), (hw, .inr (1, [.int (b2i (pw_off O lf)), .int (pw_left lf), .int (us + 1)])), (hT, .inl (cI, 32, .inl t))] _ := hP
        have hD : va_D A [(h0, .inr (3, [.ref hd, .ref hR, .ref hw, .ref hT, .int (nI 0), .int (nI nw), .int (nI ol)])), (hd, .inr (0, [.int (nI a), .ref hB])), (hB, .inl (cI, a * 48, .inl (pg_seal g q))), (hR, .inr (2, [.ref hM])), (hM, .inl (cI, a, .inl M)), (hw, .inr (1, [.int (b2i (pw_off O lf)), .int (pw_left lf), .int (us + 1)])), (hT, .inl (cI, 32, .inl t))] := hD
        exact ct_zret hx hb hr hlocks (b2i_nar _) (rfl) (by have e1 : i = tc := (by omega); rw [ex, e1]; rfl) hP hD hS dX3_writeThing_93
      · skip
        have c57 : ¬ tc ≤ i := fun h => c57 ((nI_leI (a := tc) (b := i) (by omega) (by omega)).mpr h)
        refine lv_aload_n hx hb dX3_writeThing_60 rfl (lv_at hl 1 rfl) ?_
        refine va_get (D := D) (cl := vwCl) (ci := 3) (v := .ref hd) (C := RX3) (T := TX3) (N := 7) hx hb hts hiX3 hown hK hP 0 rfl rfl 0 (by decide) hk0 (fun _ h9 => h9) rfl dX3_writeThing_61 ?_
        refine lv_iload_n hx hb dX3_writeThing_64 rfl (lv_at hl 2 rfl) ?_
        refine lv_iconst (v := 4) hx hb dX3_writeThing_65 (by decide) ?_
        refine lv_iload_n hx hb dX3_writeThing_66 rfl (lv_at hl 0 rfl) ?_
        refine lv_iadd hx hb dX3_writeThing_67 ?_
        refine ct_top (y := nI (4 + i)) (nI_add 4 i) ?_
        refine lv_aload_n hx hb dX3_writeThing_68 rfl (lv_at hl 1 rfl) ?_
        refine va_get (D := D) (cl := vwCl) (ci := 3) (v := .ref hT) (C := RX3) (T := TX3) (N := 7) hx hb hts hiX3 hown hK hP 0 rfl rfl 3 (by decide) hk2 (fun _ h9 => h9) rfl dX3_writeThing_69 ?_
        refine lv_iload_n hx hb dX3_writeThing_72 rfl (lv_at hl 0 rfl) ?_
        refine ct_iald hx hb hK hP 6 0 (k := i) rfl rfl (by omega) (by omega) dX3_writeThing_73 ?_
        refine ct_callv (w := [(hd, .inr (0, [.int (nI a), .ref hB])), (hB, .inl (cI, a * 48, .inl g))]) (w' := [(hd, .inr (0, [.int (nI a), .ref hB])), (hB, .inl (cI, a * 48, .inl (upd g (q * 48 + (4 + i)) (t i))))]) (va_runV (As := [.int (nI q), .int (nI (4 + i)), .int (t i)]) (rest := []) ⟨hx, hb, hml, hown, hts⟩ (c_X0_set l D cI cZ hd hB a q (4 + i) (t i) g (by omega) (by omega) (by omega) _) (cwV 3 hts gX3_writeThing_X0_set rfl rfl rfl (by decide +kernel) ⟨Nat.le_of_ble_eq_true rfl, Nat.le_of_ble_eq_true rfl⟩) (ct_preV (w := [(hd, .inr (0, [.int (nI a), .ref hB])), (hB, .inl (cI, a * 48, .inl g))]) (ci := 0) (i0 := 1) hK hN hP hD [1, 2] (by decide) rfl rfl rfl) rfl rfl hl.1 rfl (lv_room (Nat.le_of_ble_eq_true rfl)) dX3_writeThing_74 ⟨Nat.le_of_ble_eq_true rfl, Nat.le_of_ble_eq_true rfl⟩) hP hD hS hA [1, 2] rfl [hd, hB] rfl rfl (fun H locs hP hD hS => ?_)
        have hP : va_P D vwCl [(h0, .inr (3, [.ref hd, .ref hR, .ref hw, .ref hT, .int (nI tc), .int (nI nw), .int (nI ol)])), (hd, .inr (0, [.int (nI a), .ref hB])), (hB, .inl (cI, a * 48, .inl (upd g (q * 48 + (4 + i)) (t i)))), (hR, .inr (2, [.ref hM])), (hM, .inl (cI, a, .inl M)), (hw, .inr (1, [.int (b2i O), .int lf, .int us])), (hT, .inl (cI, 32, .inl t))] _ := hP
        have hD : va_D A [(h0, .inr (3, [.ref hd, .ref hR, .ref hw, .ref hT, .int (nI tc), .int (nI nw), .int (nI ol)])), (hd, .inr (0, [.int (nI a), .ref hB])), (hB, .inl (cI, a * 48, .inl (upd g (q * 48 + (4 + i)) (t i)))), (hR, .inr (2, [.ref hM])), (hM, .inl (cI, a, .inl M)), (hw, .inr (1, [.int (b2i O), .int lf, .int us])), (hT, .inl (cI, 32, .inl t))] := hD
        refine lv_iinc (v := nI (i + 1)) (lv' := [(3, .int (nI (i + 1))), (0, .ref h0), (1, .int (nI q)), (2, .int (nI k))]) hx hb dX3_writeThing_77 hl (k := 0) rfl (nI_add i 1) (by decide) rfl (fun ls hl => ?_)
        refine lv_goto (tgt := 52) hx hb dX3_writeThing_80 (by decide) ?_
        exact ih52 (i + 1) (upd g (q * 48 + (4 + i)) (t i)) (by omega) (by subst ex; rfl) (by omega) _ _ hP hD hS ls (lv_sub hl [0, 1, 2, 3] rfl)
  exact loop52 _ 0 _ (Nat.zero_le _) (rfl) (Nat.lt_succ_self _) _ _ hP hD hS ls (lv_sub hl [0, 1, 2, 3] rfl)
set_option maxHeartbeats 4000000 in
set_option maxRecDepth 100000 in
theorem c_X3_writeRoot (l : Launch) (D : va_G) (cI cZ : ClassId) (h0 hd hB hR hM hw hT a tc nw ol : Nat) (f M t : Nat → Int32) (O : Prop) (lf us : Int32) (v o n : Nat) (x : Int32) (ha : a ≤ 120) (h12 : 12 ≤ a) (htc : tc ≤ 32) (hnw : nw ≤ 1000000) (hol : ol ≤ nw + 1) (hv : v < 2 ^ 30) (hn : n < 32) : CtI l yX3_writeRoot wsX3_writeRoot ({ frames := 4, cells := 0, slots := 0, locals := 88 }) D vwCl (ct_T cI cZ) [.ref h0, .int (nI v), .int (nI o), .int (nI n), .int x] [(h0, .inr (3, [.ref hd, .ref hR, .ref hw, .ref hT, .int (nI tc), .int (nI nw), .int (nI ol)])), (hd, .inr (0, [.int (nI a), .ref hB])), (hB, .inl (cI, a * 48, .inl f)), (hR, .inr (2, [.ref hM])), (hM, .inl (cI, a, .inl M)), (hw, .inr (1, [.int (b2i O), .int lf, .int us])), (hT, .inl (cI, 32, .inl t))] [(h0, .inr (3, [.ref hd, .ref hR, .ref hw, .ref hT, .int (nI tc), .int (nI nw), .int (nI ol)])), (hd, .inr (0, [.int (nI a), .ref hB])), (hB, .inl (cI, a * 48, .inl (wr f v o n x nw))), (hR, .inr (2, [.ref hM])), (hM, .inl (cI, a, .inl M)), (hw, .inr (1, [.int (b2i (pw_off O lf)), .int (pw_left lf), .int (us + 1)])), (hT, .inl (cI, 32, .inl t))] (b2i (¬ pw_off O lf)) := by
  refine ct_of (Qf := ct_Qi D vwCl [(h0, .inr (3, [.ref hd, .ref hR, .ref hw, .ref hT, .int (nI tc), .int (nI nw), .int (nI ol)])), (hd, .inr (0, [.int (nI a), .ref hB])), (hB, .inl (cI, a * 48, .inl (wr f v o n x nw))), (hR, .inr (2, [.ref hM])), (hM, .inl (cI, a, .inl M)), (hw, .inr (1, [.int (b2i (pw_off O lf)), .int (pw_left lf), .int (us + 1)])), (hT, .inl (cI, 32, .inl t))] (b2i (¬ pw_off O lf))) (cc := cX3_writeRoot) (maxL := 6) (ret := (some .boolean)) [(0, .ref h0), (1, .int (nI v)), (2, .int (nI o)), (3, .int (nI n)), (4, .int x)] (by decide) rfl (Nat.le_of_ble_eq_true rfl) rfl ?_
  intro p e s m below meth c hx hb hr hts hown hlocks hml hnm A hA hK hN hP hD hS ls hl
  have hown : s.vm.findClass RX3 = some m.cls := hown
  have hk0 := hts (.fieldLink RX3 49 "DesignPages" "newest" "I") (by decide +kernel)
  have hk1 := hts (.fieldLink RX3 23 "DesignPages" "disk" "LDesignPages$Pages;") (by decide +kernel)
  have hiX3 : ∀ w ∈ wsX30, w ∈ wsX3_writeRoot := by decide +kernel
  refine lv_iload_n hx hb dX3_writeRoot_0 rfl (lv_at hl 1 rfl) ?_
  refine ct_calli (w := []) (w' := []) (va_runS (As := [.int (nI v)]) (rest := []) ⟨hx, hb, hml, hown, hts⟩ (c_X3_pageOfRoot l D cI cZ (nI v) _) (va_cwS 1 hts gX3_writeRoot_X3_pageOfRoot rfl rfl rfl (by decide +kernel) ⟨Nat.le_of_ble_eq_true rfl, Nat.le_of_ble_eq_true rfl⟩) (ct_preS (w := []) hK hN hP hD [] (by decide) rfl) rfl rfl hl.1 rfl (lv_room (Nat.le_of_ble_eq_true rfl)) dX3_writeRoot_1 ⟨Nat.le_of_ble_eq_true rfl, Nat.le_of_ble_eq_true rfl⟩) hP hD hS hA [] rfl [] rfl rfl (fun H locs hP hD hS => ?_)
  have hP : va_P D vwCl [(h0, .inr (3, [.ref hd, .ref hR, .ref hw, .ref hT, .int (nI tc), .int (nI nw), .int (nI ol)])), (hd, .inr (0, [.int (nI a), .ref hB])), (hB, .inl (cI, a * 48, .inl f)), (hR, .inr (2, [.ref hM])), (hM, .inl (cI, a, .inl M)), (hw, .inr (1, [.int (b2i O), .int lf, .int us])), (hT, .inl (cI, 32, .inl t))] _ := hP
  have hD : va_D A [(h0, .inr (3, [.ref hd, .ref hR, .ref hw, .ref hT, .int (nI tc), .int (nI nw), .int (nI ol)])), (hd, .inr (0, [.int (nI a), .ref hB])), (hB, .inl (cI, a * 48, .inl f)), (hR, .inr (2, [.ref hM])), (hM, .inl (cI, a, .inl M)), (hw, .inr (1, [.int (b2i O), .int lf, .int us])), (hT, .inl (cI, 32, .inl t))] := hD
  refine ct_top (y := nI (v % 8)) (pk_rem (by omega) (by decide) (by decide)) ?_
  refine lv_istore (lv' := [(5, .int (nI (v % 8))), (0, .ref h0), (1, .int (nI v)), (2, .int (nI o)), (3, .int (nI n)), (4, .int x)]) hx hb dX3_writeRoot_4 hl (by decide) rfl (fun ls hl => ?_)
  refine lv_aload_n hx hb dX3_writeRoot_6 rfl (lv_at hl 1 rfl) ?_
  refine va_get (D := D) (cl := vwCl) (ci := 3) (v := .int (nI nw)) (C := RX3) (T := TX3) (N := 7) hx hb hts hiX3 hown hK hP 0 rfl rfl 5 (by decide) hk0 (fun _ h9 => h9) rfl dX3_writeRoot_7 ?_
  refine lv_if_ne (tgt := 26) hx hb dX3_writeRoot_10 (by decide) (fun c10 => ?_) (fun c10 => ?_)
  · skip
    have c10 : ¬ nw = 0 := fun h => c10 ((nI_eq (a := nw) (b := 0) (by omega) (by omega)).mpr h)
    refine lv_aload_n hx hb dX3_writeRoot_26 rfl (lv_at hl 1 rfl) ?_
    refine va_get (D := D) (cl := vwCl) (ci := 3) (v := .ref hd) (C := RX3) (T := TX3) (N := 7) hx hb hts hiX3 hown hK hP 0 rfl rfl 0 (by decide) hk1 (fun _ h9 => h9) rfl dX3_writeRoot_27 ?_
    refine lv_aload_n hx hb dX3_writeRoot_30 rfl (lv_at hl 1 rfl) ?_
    refine va_get (D := D) (cl := vwCl) (ci := 3) (v := .int (nI nw)) (C := RX3) (T := TX3) (N := 7) hx hb hts hiX3 hown hK hP 0 rfl rfl 5 (by decide) hk0 (fun _ h9 => h9) rfl dX3_writeRoot_31 ?_
    refine ct_calli (w := []) (w' := []) (va_runS (As := [.int (nI nw)]) (rest := [.ref hd]) ⟨hx, hb, hml, hown, hts⟩ (c_X3_pageOfRoot l D cI cZ (nI nw) _) (va_cwS 1 hts gX3_writeRoot_X3_pageOfRoot rfl rfl rfl (by decide +kernel) ⟨Nat.le_of_ble_eq_true rfl, Nat.le_of_ble_eq_true rfl⟩) (ct_preS (w := []) hK hN hP hD [] (by decide) rfl) rfl rfl hl.1 rfl (lv_room (Nat.le_of_ble_eq_true rfl)) dX3_writeRoot_34 ⟨Nat.le_of_ble_eq_true rfl, Nat.le_of_ble_eq_true rfl⟩) hP hD hS hA [] rfl [] rfl rfl (fun H locs hP hD hS => ?_)
    have hP : va_P D vwCl [(h0, .inr (3, [.ref hd, .ref hR, .ref hw, .ref hT, .int (nI tc), .int (nI nw), .int (nI ol)])), (hd, .inr (0, [.int (nI a), .ref hB])), (hB, .inl (cI, a * 48, .inl f)), (hR, .inr (2, [.ref hM])), (hM, .inl (cI, a, .inl M)), (hw, .inr (1, [.int (b2i O), .int lf, .int us])), (hT, .inl (cI, 32, .inl t))] _ := hP
    have hD : va_D A [(h0, .inr (3, [.ref hd, .ref hR, .ref hw, .ref hT, .int (nI tc), .int (nI nw), .int (nI ol)])), (hd, .inr (0, [.int (nI a), .ref hB])), (hB, .inl (cI, a * 48, .inl f)), (hR, .inr (2, [.ref hM])), (hM, .inl (cI, a, .inl M)), (hw, .inr (1, [.int (b2i O), .int lf, .int us])), (hT, .inl (cI, 32, .inl t))] := hD
    refine ct_top (y := nI (nw % 8)) (pk_rem (by omega) (by decide) (by decide)) ?_
    refine lv_iload hx hb dX3_writeRoot_37 (lv_at hl 0 rfl) ?_
    refine ct_callv (w := [(hd, .inr (0, [.int (nI a), .ref hB])), (hB, .inl (cI, a * 48, .inl f))]) (w' := [(hd, .inr (0, [.int (nI a), .ref hB])), (hB, .inl (cI, a * 48, .inl (va_cpy f f ((nw % 8) * 48) ((v % 8) * 48) 48)))]) (va_runV (As := [.int (nI (nw % 8)), .int (nI (v % 8))]) (rest := []) ⟨hx, hb, hml, hown, hts⟩ (c_X0_copy l D cI cZ hd hB a (nw % 8) (v % 8) f (by omega) (by omega) (by omega) _) (cwV 2 hts gX3_writeRoot_X0_copy rfl rfl rfl (by decide +kernel) ⟨Nat.le_of_ble_eq_true rfl, Nat.le_of_ble_eq_true rfl⟩) (ct_preV (w := [(hd, .inr (0, [.int (nI a), .ref hB])), (hB, .inl (cI, a * 48, .inl f))]) (ci := 0) (i0 := 1) hK hN hP hD [1, 2] (by decide) rfl rfl rfl) rfl rfl hl.1 rfl (lv_room (Nat.le_of_ble_eq_true rfl)) dX3_writeRoot_39 ⟨Nat.le_of_ble_eq_true rfl, Nat.le_of_ble_eq_true rfl⟩) hP hD hS hA [1, 2] rfl [hd, hB] rfl rfl (fun H locs hP hD hS => ?_)
    have hP : va_P D vwCl [(h0, .inr (3, [.ref hd, .ref hR, .ref hw, .ref hT, .int (nI tc), .int (nI nw), .int (nI ol)])), (hd, .inr (0, [.int (nI a), .ref hB])), (hB, .inl (cI, a * 48, .inl (va_cpy f f ((nw % 8) * 48) ((v % 8) * 48) 48))), (hR, .inr (2, [.ref hM])), (hM, .inl (cI, a, .inl M)), (hw, .inr (1, [.int (b2i O), .int lf, .int us])), (hT, .inl (cI, 32, .inl t))] _ := hP
    have hD : va_D A [(h0, .inr (3, [.ref hd, .ref hR, .ref hw, .ref hT, .int (nI tc), .int (nI nw), .int (nI ol)])), (hd, .inr (0, [.int (nI a), .ref hB])), (hB, .inl (cI, a * 48, .inl (va_cpy f f ((nw % 8) * 48) ((v % 8) * 48) 48))), (hR, .inr (2, [.ref hM])), (hM, .inl (cI, a, .inl M)), (hw, .inr (1, [.int (b2i O), .int lf, .int us])), (hT, .inl (cI, 32, .inl t))] := hD
    refine lv_aload_n hx hb dX3_writeRoot_42 rfl (lv_at hl 1 rfl) ?_
    refine va_get (D := D) (cl := vwCl) (ci := 3) (v := .ref hd) (C := RX3) (T := TX3) (N := 7) hx hb hts hiX3 hown hK hP 0 rfl rfl 0 (by decide) hk1 (fun _ h9 => h9) rfl dX3_writeRoot_43 ?_
    refine lv_iload hx hb dX3_writeRoot_46 (lv_at hl 0 rfl) ?_
    refine lv_iconst (v := 1) hx hb dX3_writeRoot_48 (by decide) ?_
    refine lv_iload_n hx hb dX3_writeRoot_49 rfl (lv_at hl 2 rfl) ?_
    refine ct_callv (w := [(hd, .inr (0, [.int (nI a), .ref hB])), (hB, .inl (cI, a * 48, .inl (va_cpy f f ((nw % 8) * 48) ((v % 8) * 48) 48)))]) (w' := [(hd, .inr (0, [.int (nI a), .ref hB])), (hB, .inl (cI, a * 48, .inl (pg_setn (va_cpy f f ((nw % 8) * 48) ((v % 8) * 48) 48) ((v % 8) * 48 + 1) (nI v))))]) (va_runV (As := [.int (nI (v % 8)), .int 1, .int (nI v)]) (rest := []) ⟨hx, hb, hml, hown, hts⟩ (c_X0_setNumber l D cI cZ hd hB a (v % 8) 1 (nI v) (va_cpy f f ((nw % 8) * 48) ((v % 8) * 48) 48) (by omega) (by omega) (by omega) _) (cwV 3 hts gX3_writeRoot_X0_setNumber rfl rfl rfl (by decide +kernel) ⟨Nat.le_of_ble_eq_true rfl, Nat.le_of_ble_eq_true rfl⟩) (ct_preV (w := [(hd, .inr (0, [.int (nI a), .ref hB])), (hB, .inl (cI, a * 48, .inl (va_cpy f f ((nw % 8) * 48) ((v % 8) * 48) 48)))]) (ci := 0) (i0 := 1) hK hN hP hD [1, 2] (by decide) rfl rfl rfl) rfl rfl hl.1 rfl (lv_room (Nat.le_of_ble_eq_true rfl)) dX3_writeRoot_50 ⟨Nat.le_of_ble_eq_true rfl, Nat.le_of_ble_eq_true rfl⟩) hP hD hS hA [1, 2] rfl [hd, hB] rfl rfl (fun H locs hP hD hS => ?_)
    have hP : va_P D vwCl [(h0, .inr (3, [.ref hd, .ref hR, .ref hw, .ref hT, .int (nI tc), .int (nI nw), .int (nI ol)])), (hd, .inr (0, [.int (nI a), .ref hB])), (hB, .inl (cI, a * 48, .inl (pg_setn (va_cpy f f ((nw % 8) * 48) ((v % 8) * 48) 48) ((v % 8) * 48 + 1) (nI v)))), (hR, .inr (2, [.ref hM])), (hM, .inl (cI, a, .inl M)), (hw, .inr (1, [.int (b2i O), .int lf, .int us])), (hT, .inl (cI, 32, .inl t))] _ := hP
    have hD : va_D A [(h0, .inr (3, [.ref hd, .ref hR, .ref hw, .ref hT, .int (nI tc), .int (nI nw), .int (nI ol)])), (hd, .inr (0, [.int (nI a), .ref hB])), (hB, .inl (cI, a * 48, .inl (pg_setn (va_cpy f f ((nw % 8) * 48) ((v % 8) * 48) 48) ((v % 8) * 48 + 1) (nI v)))), (hR, .inr (2, [.ref hM])), (hM, .inl (cI, a, .inl M)), (hw, .inr (1, [.int (b2i O), .int lf, .int us])), (hT, .inl (cI, 32, .inl t))] := hD
    refine lv_aload_n hx hb dX3_writeRoot_53 rfl (lv_at hl 1 rfl) ?_
    refine va_get (D := D) (cl := vwCl) (ci := 3) (v := .ref hd) (C := RX3) (T := TX3) (N := 7) hx hb hts hiX3 hown hK hP 0 rfl rfl 0 (by decide) hk1 (fun _ h9 => h9) rfl dX3_writeRoot_54 ?_
    refine lv_iload hx hb dX3_writeRoot_57 (lv_at hl 0 rfl) ?_
    refine lv_iconst (v := 5) hx hb dX3_writeRoot_59 (by decide) ?_
    refine lv_iload_n hx hb dX3_writeRoot_60 rfl (lv_at hl 3 rfl) ?_
    refine ct_callv (w := [(hd, .inr (0, [.int (nI a), .ref hB])), (hB, .inl (cI, a * 48, .inl (pg_setn (va_cpy f f ((nw % 8) * 48) ((v % 8) * 48) 48) ((v % 8) * 48 + 1) (nI v))))]) (w' := [(hd, .inr (0, [.int (nI a), .ref hB])), (hB, .inl (cI, a * 48, .inl (pg_setn (pg_setn (va_cpy f f ((nw % 8) * 48) ((v % 8) * 48) 48) ((v % 8) * 48 + 1) (nI v)) ((v % 8) * 48 + 5) (nI o))))]) (va_runV (As := [.int (nI (v % 8)), .int 5, .int (nI o)]) (rest := []) ⟨hx, hb, hml, hown, hts⟩ (c_X0_setNumber l D cI cZ hd hB a (v % 8) 5 (nI o) (pg_setn (va_cpy f f ((nw % 8) * 48) ((v % 8) * 48) 48) ((v % 8) * 48 + 1) (nI v)) (by omega) (by omega) (by omega) _) (cwV 3 hts gX3_writeRoot_X0_setNumber rfl rfl rfl (by decide +kernel) ⟨Nat.le_of_ble_eq_true rfl, Nat.le_of_ble_eq_true rfl⟩) (ct_preV (w := [(hd, .inr (0, [.int (nI a), .ref hB])), (hB, .inl (cI, a * 48, .inl (pg_setn (va_cpy f f ((nw % 8) * 48) ((v % 8) * 48) 48) ((v % 8) * 48 + 1) (nI v))))]) (ci := 0) (i0 := 1) hK hN hP hD [1, 2] (by decide) rfl rfl rfl) rfl rfl hl.1 rfl (lv_room (Nat.le_of_ble_eq_true rfl)) dX3_writeRoot_61 ⟨Nat.le_of_ble_eq_true rfl, Nat.le_of_ble_eq_true rfl⟩) hP hD hS hA [1, 2] rfl [hd, hB] rfl rfl (fun H locs hP hD hS => ?_)
    have hP : va_P D vwCl [(h0, .inr (3, [.ref hd, .ref hR, .ref hw, .ref hT, .int (nI tc), .int (nI nw), .int (nI ol)])), (hd, .inr (0, [.int (nI a), .ref hB])), (hB, .inl (cI, a * 48, .inl (pg_setn (pg_setn (va_cpy f f ((nw % 8) * 48) ((v % 8) * 48) 48) ((v % 8) * 48 + 1) (nI v)) ((v % 8) * 48 + 5) (nI o)))), (hR, .inr (2, [.ref hM])), (hM, .inl (cI, a, .inl M)), (hw, .inr (1, [.int (b2i O), .int lf, .int us])), (hT, .inl (cI, 32, .inl t))] _ := hP
    have hD : va_D A [(h0, .inr (3, [.ref hd, .ref hR, .ref hw, .ref hT, .int (nI tc), .int (nI nw), .int (nI ol)])), (hd, .inr (0, [.int (nI a), .ref hB])), (hB, .inl (cI, a * 48, .inl (pg_setn (pg_setn (va_cpy f f ((nw % 8) * 48) ((v % 8) * 48) 48) ((v % 8) * 48 + 1) (nI v)) ((v % 8) * 48 + 5) (nI o)))), (hR, .inr (2, [.ref hM])), (hM, .inl (cI, a, .inl M)), (hw, .inr (1, [.int (b2i O), .int lf, .int us])), (hT, .inl (cI, 32, .inl t))] := hD
    refine lv_aload_n hx hb dX3_writeRoot_64 rfl (lv_at hl 1 rfl) ?_
    refine va_get (D := D) (cl := vwCl) (ci := 3) (v := .ref hd) (C := RX3) (T := TX3) (N := 7) hx hb hts hiX3 hown hK hP 0 rfl rfl 0 (by decide) hk1 (fun _ h9 => h9) rfl dX3_writeRoot_65 ?_
    refine lv_iload hx hb dX3_writeRoot_68 (lv_at hl 0 rfl) ?_
    refine lv_bipush (v := 9) hx hb dX3_writeRoot_70 (by decide) ?_
    refine lv_iload_n hx hb dX3_writeRoot_72 rfl (lv_at hl 4 rfl) ?_
    refine lv_iadd hx hb dX3_writeRoot_73 ?_
    refine ct_top (y := nI (9 + n)) (nI_add 9 n) ?_
    refine lv_iload hx hb dX3_writeRoot_74 (lv_at hl 5 rfl) ?_
    refine ct_callv (w := [(hd, .inr (0, [.int (nI a), .ref hB])), (hB, .inl (cI, a * 48, .inl (pg_setn (pg_setn (va_cpy f f ((nw % 8) * 48) ((v % 8) * 48) 48) ((v % 8) * 48 + 1) (nI v)) ((v % 8) * 48 + 5) (nI o))))]) (w' := [(hd, .inr (0, [.int (nI a), .ref hB])), (hB, .inl (cI, a * 48, .inl (upd (pg_setn (pg_setn (va_cpy f f ((nw % 8) * 48) ((v % 8) * 48) 48) ((v % 8) * 48 + 1) (nI v)) ((v % 8) * 48 + 5) (nI o)) ((v % 8) * 48 + (9 + n)) x)))]) (va_runV (As := [.int (nI (v % 8)), .int (nI (9 + n)), .int x]) (rest := []) ⟨hx, hb, hml, hown, hts⟩ (c_X0_set l D cI cZ hd hB a (v % 8) (9 + n) x (pg_setn (pg_setn (va_cpy f f ((nw % 8) * 48) ((v % 8) * 48) 48) ((v % 8) * 48 + 1) (nI v)) ((v % 8) * 48 + 5) (nI o)) (by omega) (by omega) (by omega) _) (cwV 3 hts gX3_writeRoot_X0_set rfl rfl rfl (by decide +kernel) ⟨Nat.le_of_ble_eq_true rfl, Nat.le_of_ble_eq_true rfl⟩) (ct_preV (w := [(hd, .inr (0, [.int (nI a), .ref hB])), (hB, .inl (cI, a * 48, .inl (pg_setn (pg_setn (va_cpy f f ((nw % 8) * 48) ((v % 8) * 48) 48) ((v % 8) * 48 + 1) (nI v)) ((v % 8) * 48 + 5) (nI o))))]) (ci := 0) (i0 := 1) hK hN hP hD [1, 2] (by decide) rfl rfl rfl) rfl rfl hl.1 rfl (lv_room (Nat.le_of_ble_eq_true rfl)) dX3_writeRoot_76 ⟨Nat.le_of_ble_eq_true rfl, Nat.le_of_ble_eq_true rfl⟩) hP hD hS hA [1, 2] rfl [hd, hB] rfl rfl (fun H locs hP hD hS => ?_)
    have hP : va_P D vwCl [(h0, .inr (3, [.ref hd, .ref hR, .ref hw, .ref hT, .int (nI tc), .int (nI nw), .int (nI ol)])), (hd, .inr (0, [.int (nI a), .ref hB])), (hB, .inl (cI, a * 48, .inl (upd (pg_setn (pg_setn (va_cpy f f ((nw % 8) * 48) ((v % 8) * 48) 48) ((v % 8) * 48 + 1) (nI v)) ((v % 8) * 48 + 5) (nI o)) ((v % 8) * 48 + (9 + n)) x))), (hR, .inr (2, [.ref hM])), (hM, .inl (cI, a, .inl M)), (hw, .inr (1, [.int (b2i O), .int lf, .int us])), (hT, .inl (cI, 32, .inl t))] _ := hP
    have hD : va_D A [(h0, .inr (3, [.ref hd, .ref hR, .ref hw, .ref hT, .int (nI tc), .int (nI nw), .int (nI ol)])), (hd, .inr (0, [.int (nI a), .ref hB])), (hB, .inl (cI, a * 48, .inl (upd (pg_setn (pg_setn (va_cpy f f ((nw % 8) * 48) ((v % 8) * 48) 48) ((v % 8) * 48 + 1) (nI v)) ((v % 8) * 48 + 5) (nI o)) ((v % 8) * 48 + (9 + n)) x))), (hR, .inr (2, [.ref hM])), (hM, .inl (cI, a, .inl M)), (hw, .inr (1, [.int (b2i O), .int lf, .int us])), (hT, .inl (cI, 32, .inl t))] := hD
    refine lv_aload_n hx hb dX3_writeRoot_79 rfl (lv_at hl 1 rfl) ?_
    refine lv_iload hx hb dX3_writeRoot_80 (lv_at hl 0 rfl) ?_
    refine ct_calli (w := [(h0, .inr (3, [.ref hd, .ref hR, .ref hw, .ref hT, .int (nI tc), .int (nI nw), .int (nI ol)])), (hd, .inr (0, [.int (nI a), .ref hB])), (hB, .inl (cI, a * 48, .inl (upd (pg_setn (pg_setn (va_cpy f f ((nw % 8) * 48) ((v % 8) * 48) 48) ((v % 8) * 48 + 1) (nI v)) ((v % 8) * 48 + 5) (nI o)) ((v % 8) * 48 + (9 + n)) x))), (hR, .inr (2, [.ref hM])), (hM, .inl (cI, a, .inl M)), (hw, .inr (1, [.int (b2i O), .int lf, .int us])), (hT, .inl (cI, 32, .inl t))]) (w' := [(h0, .inr (3, [.ref hd, .ref hR, .ref hw, .ref hT, .int (nI tc), .int (nI nw), .int (nI ol)])), (hd, .inr (0, [.int (nI a), .ref hB])), (hB, .inl (cI, a * 48, .inl (pg_seal (upd (pg_setn (pg_setn (va_cpy f f ((nw % 8) * 48) ((v % 8) * 48) 48) ((v % 8) * 48 + 1) (nI v)) ((v % 8) * 48 + 5) (nI o)) ((v % 8) * 48 + (9 + n)) x) (v % 8)))), (hR, .inr (2, [.ref hM])), (hM, .inl (cI, a, .inl M)), (hw, .inr (1, [.int (b2i (pw_off O lf)), .int (pw_left lf), .int (us + 1)])), (hT, .inl (cI, 32, .inl t))]) (va_runV (As := [.int (nI (v % 8))]) (rest := []) ⟨hx, hb, hml, hown, hts⟩ (c_X3_finishPage l D cI cZ h0 hd hB hR hM hw hT a tc nw ol (upd (pg_setn (pg_setn (va_cpy f f ((nw % 8) * 48) ((v % 8) * 48) 48) ((v % 8) * 48 + 1) (nI v)) ((v % 8) * 48 + 5) (nI o)) ((v % 8) * 48 + (9 + n)) x) M t O lf us (v % 8) (by omega) (by omega) (by omega) (by omega) (by omega) (by omega) _) (cwV 1 hts gX3_writeRoot_X3_finishPage rfl rfl rfl (by decide +kernel) ⟨Nat.le_of_ble_eq_true rfl, Nat.le_of_ble_eq_true rfl⟩) (ct_preV (w := [(h0, .inr (3, [.ref hd, .ref hR, .ref hw, .ref hT, .int (nI tc), .int (nI nw), .int (nI ol)])), (hd, .inr (0, [.int (nI a), .ref hB])), (hB, .inl (cI, a * 48, .inl (upd (pg_setn (pg_setn (va_cpy f f ((nw % 8) * 48) ((v % 8) * 48) 48) ((v % 8) * 48 + 1) (nI v)) ((v % 8) * 48 + 5) (nI o)) ((v % 8) * 48 + (9 + n)) x))), (hR, .inr (2, [.ref hM])), (hM, .inl (cI, a, .inl M)), (hw, .inr (1, [.int (b2i O), .int lf, .int us])), (hT, .inl (cI, 32, .inl t))]) (ci := 3) (i0 := 0) hK hN hP hD [0, 1, 2, 3, 4, 5, 6] (by decide) rfl rfl rfl) rfl rfl hl.1 rfl (lv_room (Nat.le_of_ble_eq_true rfl)) dX3_writeRoot_82 ⟨Nat.le_of_ble_eq_true rfl, Nat.le_of_ble_eq_true rfl⟩) hP hD hS hA [0, 1, 2, 3, 4, 5, 6] rfl [h0, hd, hB, hR, hM, hw, hT] rfl rfl (fun H locs hP hD hS => ?_)
    have hP : va_P D vwCl [(h0, .inr (3, [.ref hd, .ref hR, .ref hw, .ref hT, .int (nI tc), .int (nI nw), .int (nI ol)])), (hd, .inr (0, [.int (nI a), .ref hB])), (hB, .inl (cI, a * 48, .inl (pg_seal (upd (pg_setn (pg_setn (va_cpy f f ((nw % 8) * 48) ((v % 8) * 48) 48) ((v % 8) * 48 + 1) (nI v)) ((v % 8) * 48 + 5) (nI o)) ((v % 8) * 48 + (9 + n)) x) (v % 8)))), (hR, .inr (2, [.ref hM])), (hM, .inl (cI, a, .inl M)), (hw, .inr (1, [.int (b2i (pw_off O lf)), .int (pw_left lf), .int (us + 1)])), (hT, .inl (cI, 32, .inl t))] _ := hP
    have hD : va_D A [(h0, .inr (3, [.ref hd, .ref hR, .ref hw, .ref hT, .int (nI tc), .int (nI nw), .int (nI ol)])), (hd, .inr (0, [.int (nI a), .ref hB])), (hB, .inl (cI, a * 48, .inl (pg_seal (upd (pg_setn (pg_setn (va_cpy f f ((nw % 8) * 48) ((v % 8) * 48) 48) ((v % 8) * 48 + 1) (nI v)) ((v % 8) * 48 + 5) (nI o)) ((v % 8) * 48 + (9 + n)) x) (v % 8)))), (hR, .inr (2, [.ref hM])), (hM, .inl (cI, a, .inl M)), (hw, .inr (1, [.int (b2i (pw_off O lf)), .int (pw_left lf), .int (us + 1)])), (hT, .inl (cI, 32, .inl t))] := hD
    exact ct_zret hx hb hr hlocks (b2i_nar _) (rfl) (by unfold wr; rw [if_neg c10]) hP hD hS dX3_writeRoot_85
  · skip
    have c10 : nw = 0 := (nI_eq (a := nw) (b := 0) (by omega) (by omega)).mp c10
    refine lv_aload_n hx hb dX3_writeRoot_13 rfl (lv_at hl 1 rfl) ?_
    refine va_get (D := D) (cl := vwCl) (ci := 3) (v := .ref hd) (C := RX3) (T := TX3) (N := 7) hx hb hts hiX3 hown hK hP 0 rfl rfl 0 (by decide) hk1 (fun _ h9 => h9) rfl dX3_writeRoot_14 ?_
    refine lv_iload hx hb dX3_writeRoot_17 (lv_at hl 0 rfl) ?_
    refine lv_iconst (v := 1) hx hb dX3_writeRoot_19 (by decide) ?_
    refine ct_callv (w := [(hd, .inr (0, [.int (nI a), .ref hB])), (hB, .inl (cI, a * 48, .inl f))]) (w' := [(hd, .inr (0, [.int (nI a), .ref hB])), (hB, .inl (cI, a * 48, .inl (pg_begin f (v % 8) 1)))]) (va_runV (As := [.int (nI (v % 8)), .int 1]) (rest := []) ⟨hx, hb, hml, hown, hts⟩ (c_X0_begin l D cI cZ hd hB a (v % 8) 1 f (by omega) (by omega) _) (cwV 2 hts gX3_writeRoot_X0_begin rfl rfl rfl (by decide +kernel) ⟨Nat.le_of_ble_eq_true rfl, Nat.le_of_ble_eq_true rfl⟩) (ct_preV (w := [(hd, .inr (0, [.int (nI a), .ref hB])), (hB, .inl (cI, a * 48, .inl f))]) (ci := 0) (i0 := 1) hK hN hP hD [1, 2] (by decide) rfl rfl rfl) rfl rfl hl.1 rfl (lv_room (Nat.le_of_ble_eq_true rfl)) dX3_writeRoot_20 ⟨Nat.le_of_ble_eq_true rfl, Nat.le_of_ble_eq_true rfl⟩) hP hD hS hA [1, 2] rfl [hd, hB] rfl rfl (fun H locs hP hD hS => ?_)
    have hP : va_P D vwCl [(h0, .inr (3, [.ref hd, .ref hR, .ref hw, .ref hT, .int (nI tc), .int (nI nw), .int (nI ol)])), (hd, .inr (0, [.int (nI a), .ref hB])), (hB, .inl (cI, a * 48, .inl (pg_begin f (v % 8) 1))), (hR, .inr (2, [.ref hM])), (hM, .inl (cI, a, .inl M)), (hw, .inr (1, [.int (b2i O), .int lf, .int us])), (hT, .inl (cI, 32, .inl t))] _ := hP
    have hD : va_D A [(h0, .inr (3, [.ref hd, .ref hR, .ref hw, .ref hT, .int (nI tc), .int (nI nw), .int (nI ol)])), (hd, .inr (0, [.int (nI a), .ref hB])), (hB, .inl (cI, a * 48, .inl (pg_begin f (v % 8) 1))), (hR, .inr (2, [.ref hM])), (hM, .inl (cI, a, .inl M)), (hw, .inr (1, [.int (b2i O), .int lf, .int us])), (hT, .inl (cI, 32, .inl t))] := hD
    refine lv_goto (tgt := 42) hx hb dX3_writeRoot_23 (by decide) ?_
    refine lv_aload_n hx hb dX3_writeRoot_42 rfl (lv_at hl 1 rfl) ?_
    refine va_get (D := D) (cl := vwCl) (ci := 3) (v := .ref hd) (C := RX3) (T := TX3) (N := 7) hx hb hts hiX3 hown hK hP 0 rfl rfl 0 (by decide) hk1 (fun _ h9 => h9) rfl dX3_writeRoot_43 ?_
    refine lv_iload hx hb dX3_writeRoot_46 (lv_at hl 0 rfl) ?_
    refine lv_iconst (v := 1) hx hb dX3_writeRoot_48 (by decide) ?_
    refine lv_iload_n hx hb dX3_writeRoot_49 rfl (lv_at hl 2 rfl) ?_
    refine ct_callv (w := [(hd, .inr (0, [.int (nI a), .ref hB])), (hB, .inl (cI, a * 48, .inl (pg_begin f (v % 8) 1)))]) (w' := [(hd, .inr (0, [.int (nI a), .ref hB])), (hB, .inl (cI, a * 48, .inl (pg_setn (pg_begin f (v % 8) 1) ((v % 8) * 48 + 1) (nI v))))]) (va_runV (As := [.int (nI (v % 8)), .int 1, .int (nI v)]) (rest := []) ⟨hx, hb, hml, hown, hts⟩ (c_X0_setNumber l D cI cZ hd hB a (v % 8) 1 (nI v) (pg_begin f (v % 8) 1) (by omega) (by omega) (by omega) _) (cwV 3 hts gX3_writeRoot_X0_setNumber rfl rfl rfl (by decide +kernel) ⟨Nat.le_of_ble_eq_true rfl, Nat.le_of_ble_eq_true rfl⟩) (ct_preV (w := [(hd, .inr (0, [.int (nI a), .ref hB])), (hB, .inl (cI, a * 48, .inl (pg_begin f (v % 8) 1)))]) (ci := 0) (i0 := 1) hK hN hP hD [1, 2] (by decide) rfl rfl rfl) rfl rfl hl.1 rfl (lv_room (Nat.le_of_ble_eq_true rfl)) dX3_writeRoot_50 ⟨Nat.le_of_ble_eq_true rfl, Nat.le_of_ble_eq_true rfl⟩) hP hD hS hA [1, 2] rfl [hd, hB] rfl rfl (fun H locs hP hD hS => ?_)
    have hP : va_P D vwCl [(h0, .inr (3, [.ref hd, .ref hR, .ref hw, .ref hT, .int (nI tc), .int (nI nw), .int (nI ol)])), (hd, .inr (0, [.int (nI a), .ref hB])), (hB, .inl (cI, a * 48, .inl (pg_setn (pg_begin f (v % 8) 1) ((v % 8) * 48 + 1) (nI v)))), (hR, .inr (2, [.ref hM])), (hM, .inl (cI, a, .inl M)), (hw, .inr (1, [.int (b2i O), .int lf, .int us])), (hT, .inl (cI, 32, .inl t))] _ := hP
    have hD : va_D A [(h0, .inr (3, [.ref hd, .ref hR, .ref hw, .ref hT, .int (nI tc), .int (nI nw), .int (nI ol)])), (hd, .inr (0, [.int (nI a), .ref hB])), (hB, .inl (cI, a * 48, .inl (pg_setn (pg_begin f (v % 8) 1) ((v % 8) * 48 + 1) (nI v)))), (hR, .inr (2, [.ref hM])), (hM, .inl (cI, a, .inl M)), (hw, .inr (1, [.int (b2i O), .int lf, .int us])), (hT, .inl (cI, 32, .inl t))] := hD
    refine lv_aload_n hx hb dX3_writeRoot_53 rfl (lv_at hl 1 rfl) ?_
    refine va_get (D := D) (cl := vwCl) (ci := 3) (v := .ref hd) (C := RX3) (T := TX3) (N := 7) hx hb hts hiX3 hown hK hP 0 rfl rfl 0 (by decide) hk1 (fun _ h9 => h9) rfl dX3_writeRoot_54 ?_
    refine lv_iload hx hb dX3_writeRoot_57 (lv_at hl 0 rfl) ?_
    refine lv_iconst (v := 5) hx hb dX3_writeRoot_59 (by decide) ?_
    refine lv_iload_n hx hb dX3_writeRoot_60 rfl (lv_at hl 3 rfl) ?_
    refine ct_callv (w := [(hd, .inr (0, [.int (nI a), .ref hB])), (hB, .inl (cI, a * 48, .inl (pg_setn (pg_begin f (v % 8) 1) ((v % 8) * 48 + 1) (nI v))))]) (w' := [(hd, .inr (0, [.int (nI a), .ref hB])), (hB, .inl (cI, a * 48, .inl (pg_setn (pg_setn (pg_begin f (v % 8) 1) ((v % 8) * 48 + 1) (nI v)) ((v % 8) * 48 + 5) (nI o))))]) (va_runV (As := [.int (nI (v % 8)), .int 5, .int (nI o)]) (rest := []) ⟨hx, hb, hml, hown, hts⟩ (c_X0_setNumber l D cI cZ hd hB a (v % 8) 5 (nI o) (pg_setn (pg_begin f (v % 8) 1) ((v % 8) * 48 + 1) (nI v)) (by omega) (by omega) (by omega) _) (cwV 3 hts gX3_writeRoot_X0_setNumber rfl rfl rfl (by decide +kernel) ⟨Nat.le_of_ble_eq_true rfl, Nat.le_of_ble_eq_true rfl⟩) (ct_preV (w := [(hd, .inr (0, [.int (nI a), .ref hB])), (hB, .inl (cI, a * 48, .inl (pg_setn (pg_begin f (v % 8) 1) ((v % 8) * 48 + 1) (nI v))))]) (ci := 0) (i0 := 1) hK hN hP hD [1, 2] (by decide) rfl rfl rfl) rfl rfl hl.1 rfl (lv_room (Nat.le_of_ble_eq_true rfl)) dX3_writeRoot_61 ⟨Nat.le_of_ble_eq_true rfl, Nat.le_of_ble_eq_true rfl⟩) hP hD hS hA [1, 2] rfl [hd, hB] rfl rfl (fun H locs hP hD hS => ?_)
    have hP : va_P D vwCl [(h0, .inr (3, [.ref hd, .ref hR, .ref hw, .ref hT, .int (nI tc), .int (nI nw), .int (nI ol)])), (hd, .inr (0, [.int (nI a), .ref hB])), (hB, .inl (cI, a * 48, .inl (pg_setn (pg_setn (pg_begin f (v % 8) 1) ((v % 8) * 48 + 1) (nI v)) ((v % 8) * 48 + 5) (nI o)))), (hR, .inr (2, [.ref hM])), (hM, .inl (cI, a, .inl M)), (hw, .inr (1, [.int (b2i O), .int lf, .int us])), (hT, .inl (cI, 32, .inl t))] _ := hP
    have hD : va_D A [(h0, .inr (3, [.ref hd, .ref hR, .ref hw, .ref hT, .int (nI tc), .int (nI nw), .int (nI ol)])), (hd, .inr (0, [.int (nI a), .ref hB])), (hB, .inl (cI, a * 48, .inl (pg_setn (pg_setn (pg_begin f (v % 8) 1) ((v % 8) * 48 + 1) (nI v)) ((v % 8) * 48 + 5) (nI o)))), (hR, .inr (2, [.ref hM])), (hM, .inl (cI, a, .inl M)), (hw, .inr (1, [.int (b2i O), .int lf, .int us])), (hT, .inl (cI, 32, .inl t))] := hD
    refine lv_aload_n hx hb dX3_writeRoot_64 rfl (lv_at hl 1 rfl) ?_
    refine va_get (D := D) (cl := vwCl) (ci := 3) (v := .ref hd) (C := RX3) (T := TX3) (N := 7) hx hb hts hiX3 hown hK hP 0 rfl rfl 0 (by decide) hk1 (fun _ h9 => h9) rfl dX3_writeRoot_65 ?_
    refine lv_iload hx hb dX3_writeRoot_68 (lv_at hl 0 rfl) ?_
    refine lv_bipush (v := 9) hx hb dX3_writeRoot_70 (by decide) ?_
    refine lv_iload_n hx hb dX3_writeRoot_72 rfl (lv_at hl 4 rfl) ?_
    refine lv_iadd hx hb dX3_writeRoot_73 ?_
    refine ct_top (y := nI (9 + n)) (nI_add 9 n) ?_
    refine lv_iload hx hb dX3_writeRoot_74 (lv_at hl 5 rfl) ?_
    refine ct_callv (w := [(hd, .inr (0, [.int (nI a), .ref hB])), (hB, .inl (cI, a * 48, .inl (pg_setn (pg_setn (pg_begin f (v % 8) 1) ((v % 8) * 48 + 1) (nI v)) ((v % 8) * 48 + 5) (nI o))))]) (w' := [(hd, .inr (0, [.int (nI a), .ref hB])), (hB, .inl (cI, a * 48, .inl (upd (pg_setn (pg_setn (pg_begin f (v % 8) 1) ((v % 8) * 48 + 1) (nI v)) ((v % 8) * 48 + 5) (nI o)) ((v % 8) * 48 + (9 + n)) x)))]) (va_runV (As := [.int (nI (v % 8)), .int (nI (9 + n)), .int x]) (rest := []) ⟨hx, hb, hml, hown, hts⟩ (c_X0_set l D cI cZ hd hB a (v % 8) (9 + n) x (pg_setn (pg_setn (pg_begin f (v % 8) 1) ((v % 8) * 48 + 1) (nI v)) ((v % 8) * 48 + 5) (nI o)) (by omega) (by omega) (by omega) _) (cwV 3 hts gX3_writeRoot_X0_set rfl rfl rfl (by decide +kernel) ⟨Nat.le_of_ble_eq_true rfl, Nat.le_of_ble_eq_true rfl⟩) (ct_preV (w := [(hd, .inr (0, [.int (nI a), .ref hB])), (hB, .inl (cI, a * 48, .inl (pg_setn (pg_setn (pg_begin f (v % 8) 1) ((v % 8) * 48 + 1) (nI v)) ((v % 8) * 48 + 5) (nI o))))]) (ci := 0) (i0 := 1) hK hN hP hD [1, 2] (by decide) rfl rfl rfl) rfl rfl hl.1 rfl (lv_room (Nat.le_of_ble_eq_true rfl)) dX3_writeRoot_76 ⟨Nat.le_of_ble_eq_true rfl, Nat.le_of_ble_eq_true rfl⟩) hP hD hS hA [1, 2] rfl [hd, hB] rfl rfl (fun H locs hP hD hS => ?_)
    have hP : va_P D vwCl [(h0, .inr (3, [.ref hd, .ref hR, .ref hw, .ref hT, .int (nI tc), .int (nI nw), .int (nI ol)])), (hd, .inr (0, [.int (nI a), .ref hB])), (hB, .inl (cI, a * 48, .inl (upd (pg_setn (pg_setn (pg_begin f (v % 8) 1) ((v % 8) * 48 + 1) (nI v)) ((v % 8) * 48 + 5) (nI o)) ((v % 8) * 48 + (9 + n)) x))), (hR, .inr (2, [.ref hM])), (hM, .inl (cI, a, .inl M)), (hw, .inr (1, [.int (b2i O), .int lf, .int us])), (hT, .inl (cI, 32, .inl t))] _ := hP
    have hD : va_D A [(h0, .inr (3, [.ref hd, .ref hR, .ref hw, .ref hT, .int (nI tc), .int (nI nw), .int (nI ol)])), (hd, .inr (0, [.int (nI a), .ref hB])), (hB, .inl (cI, a * 48, .inl (upd (pg_setn (pg_setn (pg_begin f (v % 8) 1) ((v % 8) * 48 + 1) (nI v)) ((v % 8) * 48 + 5) (nI o)) ((v % 8) * 48 + (9 + n)) x))), (hR, .inr (2, [.ref hM])), (hM, .inl (cI, a, .inl M)), (hw, .inr (1, [.int (b2i O), .int lf, .int us])), (hT, .inl (cI, 32, .inl t))] := hD
    refine lv_aload_n hx hb dX3_writeRoot_79 rfl (lv_at hl 1 rfl) ?_
    refine lv_iload hx hb dX3_writeRoot_80 (lv_at hl 0 rfl) ?_
    refine ct_calli (w := [(h0, .inr (3, [.ref hd, .ref hR, .ref hw, .ref hT, .int (nI tc), .int (nI nw), .int (nI ol)])), (hd, .inr (0, [.int (nI a), .ref hB])), (hB, .inl (cI, a * 48, .inl (upd (pg_setn (pg_setn (pg_begin f (v % 8) 1) ((v % 8) * 48 + 1) (nI v)) ((v % 8) * 48 + 5) (nI o)) ((v % 8) * 48 + (9 + n)) x))), (hR, .inr (2, [.ref hM])), (hM, .inl (cI, a, .inl M)), (hw, .inr (1, [.int (b2i O), .int lf, .int us])), (hT, .inl (cI, 32, .inl t))]) (w' := [(h0, .inr (3, [.ref hd, .ref hR, .ref hw, .ref hT, .int (nI tc), .int (nI nw), .int (nI ol)])), (hd, .inr (0, [.int (nI a), .ref hB])), (hB, .inl (cI, a * 48, .inl (pg_seal (upd (pg_setn (pg_setn (pg_begin f (v % 8) 1) ((v % 8) * 48 + 1) (nI v)) ((v % 8) * 48 + 5) (nI o)) ((v % 8) * 48 + (9 + n)) x) (v % 8)))), (hR, .inr (2, [.ref hM])), (hM, .inl (cI, a, .inl M)), (hw, .inr (1, [.int (b2i (pw_off O lf)), .int (pw_left lf), .int (us + 1)])), (hT, .inl (cI, 32, .inl t))]) (va_runV (As := [.int (nI (v % 8))]) (rest := []) ⟨hx, hb, hml, hown, hts⟩ (c_X3_finishPage l D cI cZ h0 hd hB hR hM hw hT a tc nw ol (upd (pg_setn (pg_setn (pg_begin f (v % 8) 1) ((v % 8) * 48 + 1) (nI v)) ((v % 8) * 48 + 5) (nI o)) ((v % 8) * 48 + (9 + n)) x) M t O lf us (v % 8) (by omega) (by omega) (by omega) (by omega) (by omega) (by omega) _) (cwV 1 hts gX3_writeRoot_X3_finishPage rfl rfl rfl (by decide +kernel) ⟨Nat.le_of_ble_eq_true rfl, Nat.le_of_ble_eq_true rfl⟩) (ct_preV (w := [(h0, .inr (3, [.ref hd, .ref hR, .ref hw, .ref hT, .int (nI tc), .int (nI nw), .int (nI ol)])), (hd, .inr (0, [.int (nI a), .ref hB])), (hB, .inl (cI, a * 48, .inl (upd (pg_setn (pg_setn (pg_begin f (v % 8) 1) ((v % 8) * 48 + 1) (nI v)) ((v % 8) * 48 + 5) (nI o)) ((v % 8) * 48 + (9 + n)) x))), (hR, .inr (2, [.ref hM])), (hM, .inl (cI, a, .inl M)), (hw, .inr (1, [.int (b2i O), .int lf, .int us])), (hT, .inl (cI, 32, .inl t))]) (ci := 3) (i0 := 0) hK hN hP hD [0, 1, 2, 3, 4, 5, 6] (by decide) rfl rfl rfl) rfl rfl hl.1 rfl (lv_room (Nat.le_of_ble_eq_true rfl)) dX3_writeRoot_82 ⟨Nat.le_of_ble_eq_true rfl, Nat.le_of_ble_eq_true rfl⟩) hP hD hS hA [0, 1, 2, 3, 4, 5, 6] rfl [h0, hd, hB, hR, hM, hw, hT] rfl rfl (fun H locs hP hD hS => ?_)
    have hP : va_P D vwCl [(h0, .inr (3, [.ref hd, .ref hR, .ref hw, .ref hT, .int (nI tc), .int (nI nw), .int (nI ol)])), (hd, .inr (0, [.int (nI a), .ref hB])), (hB, .inl (cI, a * 48, .inl (pg_seal (upd (pg_setn (pg_setn (pg_begin f (v % 8) 1) ((v % 8) * 48 + 1) (nI v)) ((v % 8) * 48 + 5) (nI o)) ((v % 8) * 48 + (9 + n)) x) (v % 8)))), (hR, .inr (2, [.ref hM])), (hM, .inl (cI, a, .inl M)), (hw, .inr (1, [.int (b2i (pw_off O lf)), .int (pw_left lf), .int (us + 1)])), (hT, .inl (cI, 32, .inl t))] _ := hP
    have hD : va_D A [(h0, .inr (3, [.ref hd, .ref hR, .ref hw, .ref hT, .int (nI tc), .int (nI nw), .int (nI ol)])), (hd, .inr (0, [.int (nI a), .ref hB])), (hB, .inl (cI, a * 48, .inl (pg_seal (upd (pg_setn (pg_setn (pg_begin f (v % 8) 1) ((v % 8) * 48 + 1) (nI v)) ((v % 8) * 48 + 5) (nI o)) ((v % 8) * 48 + (9 + n)) x) (v % 8)))), (hR, .inr (2, [.ref hM])), (hM, .inl (cI, a, .inl M)), (hw, .inr (1, [.int (b2i (pw_off O lf)), .int (pw_left lf), .int (us + 1)])), (hT, .inl (cI, 32, .inl t))] := hD
    exact ct_zret hx hb hr hlocks (b2i_nar _) (rfl) (by unfold wr; rw [if_pos c10]) hP hD hS dX3_writeRoot_85
set_option maxHeartbeats 4000000 in
set_option maxRecDepth 100000 in
theorem c_X3_writeVersion (l : Launch) (D : va_G) (cI cZ : ClassId) (h0 hd hB hR hM hw hT a tc nw ol : Nat) (f M t : Nat → Int32) (O : Prop) (lf us : Int32) (q k : Nat) (x : Int32) (ha : a ≤ 120) (h12 : 12 ≤ a) (htc : tc ≤ 32) (hnw : nw ≤ 1000000) (hol : ol ≤ nw + 1) (hnw2 : nw < 1000000) (hq : q < a) (hk : k < 1024) (hh : nw = 0 ∨ pg_right f a (nw % 8) 1) : CtI l yX3_writeVersion wsX3_writeVersion ({ frames := 5, cells := 0, slots := 0, locals := 113 }) D vwCl (ct_T cI cZ) [.ref h0, .int (nI q), .int (nI k), .int x] [(h0, .inr (3, [.ref hd, .ref hR, .ref hw, .ref hT, .int (nI tc), .int (nI nw), .int (nI ol)])), (hd, .inr (0, [.int (nI a), .ref hB])), (hB, .inl (cI, a * 48, .inl f)), (hR, .inr (2, [.ref hM])), (hM, .inl (cI, a, .inl M)), (hw, .inr (1, [.int (b2i O), .int lf, .int us])), (hT, .inl (cI, 32, .inl t))] [(h0, .inr (3, [.ref hd, .ref hR, .ref hw, .ref hT, .int (nI tc), .int (nI ((sp_wv f O lf us nw ol q k x).2.2.2.2.2.1)), .int (nI ((sp_wv f O lf us nw ol q k x).2.2.2.2.2.2))])), (hd, .inr (0, [.int (nI a), .ref hB])), (hB, .inl (cI, a * 48, .inl ((sp_wv f O lf us nw ol q k x).2.1))), (hR, .inr (2, [.ref hM])), (hM, .inl (cI, a, .inl M)), (hw, .inr (1, [.int (b2i ((sp_wv f O lf us nw ol q k x).2.2.1)), .int ((sp_wv f O lf us nw ol q k x).2.2.2.1), .int ((sp_wv f O lf us nw ol q k x).2.2.2.2.1)])), (hT, .inl (cI, 32, .inl t))] ((sp_wv f O lf us nw ol q k x).1) := by
  refine ct_of (Qf := ct_Qi D vwCl [(h0, .inr (3, [.ref hd, .ref hR, .ref hw, .ref hT, .int (nI tc), .int (nI ((sp_wv f O lf us nw ol q k x).2.2.2.2.2.1)), .int (nI ((sp_wv f O lf us nw ol q k x).2.2.2.2.2.2))])), (hd, .inr (0, [.int (nI a), .ref hB])), (hB, .inl (cI, a * 48, .inl ((sp_wv f O lf us nw ol q k x).2.1))), (hR, .inr (2, [.ref hM])), (hM, .inl (cI, a, .inl M)), (hw, .inr (1, [.int (b2i ((sp_wv f O lf us nw ol q k x).2.2.1)), .int ((sp_wv f O lf us nw ol q k x).2.2.2.1), .int ((sp_wv f O lf us nw ol q k x).2.2.2.2.1)])), (hT, .inl (cI, 32, .inl t))] ((sp_wv f O lf us nw ol q k x).1)) (cc := cX3_writeVersion) (maxL := 6) (ret := (some .int)) [(0, .ref h0), (1, .int (nI q)), (2, .int (nI k)), (3, .int x)] (by decide) rfl (Nat.le_of_ble_eq_true rfl) rfl ?_
  intro p e s m below meth c hx hb hr hts hown hlocks hml hnm A hA hK hN hP hD hS ls hl
  have hown : s.vm.findClass RX3 = some m.cls := hown
  have hk0 := hts (.fieldLink RX3 49 "DesignPages" "newest" "I") (by decide +kernel)
  have hk1 := hts (.fieldLink RX3 52 "DesignPages" "oldest" "I") (by decide +kernel)
  have hk2 := hts (.methodLink RX3 15 Lib.Math.max.name) (by decide +kernel)
  have hk3 := hts (.static Lib.Math.max.name) (by decide +kernel)
  have hk4 := hts (.initialized "java/lang/Math") (by decide +kernel)
  have hk5 := hts (.code Lib.Math.max.name Lib.Math.max.code 2 (some .int)) (by decide +kernel)
  have hiX3 : ∀ w ∈ wsX30, w ∈ wsX3_writeVersion := by decide +kernel
  refine lv_aload_n hx hb dX3_writeVersion_0 rfl (lv_at hl 0 rfl) ?_
  refine lv_iload_n hx hb dX3_writeVersion_1 rfl (lv_at hl 1 rfl) ?_
  refine lv_iload_n hx hb dX3_writeVersion_2 rfl (lv_at hl 2 rfl) ?_
  refine lv_iload_n hx hb dX3_writeVersion_3 rfl (lv_at hl 3 rfl) ?_
  refine ct_calli (w := [(h0, .inr (3, [.ref hd, .ref hR, .ref hw, .ref hT, .int (nI tc), .int (nI nw), .int (nI ol)])), (hd, .inr (0, [.int (nI a), .ref hB])), (hB, .inl (cI, a * 48, .inl f)), (hR, .inr (2, [.ref hM])), (hM, .inl (cI, a, .inl M)), (hw, .inr (1, [.int (b2i O), .int lf, .int us])), (hT, .inl (cI, 32, .inl t))]) (w' := [(h0, .inr (3, [.ref hd, .ref hR, .ref hw, .ref hT, .int (nI tc), .int (nI nw), .int (nI ol)])), (hd, .inr (0, [.int (nI a), .ref hB])), (hB, .inl (cI, a * 48, .inl (wn f q k x nw))), (hR, .inr (2, [.ref hM])), (hM, .inl (cI, a, .inl M)), (hw, .inr (1, [.int (b2i (pw_off O lf)), .int (pw_left lf), .int (us + 1)])), (hT, .inl (cI, 32, .inl t))]) (va_runV (As := [.int (nI q), .int (nI k), .int x]) (rest := []) ⟨hx, hb, hml, hown, hts⟩ (c_X3_writeNode l D cI cZ h0 hd hB hR hM hw hT a tc nw ol f M t O lf us q k x (by omega) (by omega) (by omega) (by omega) (by omega) (by omega) (by omega) hh _) (cwV 3 hts gX3_writeVersion_X3_writeNode rfl rfl rfl (by decide +kernel) ⟨Nat.le_of_ble_eq_true rfl, Nat.le_of_ble_eq_true rfl⟩) (ct_preV (w := [(h0, .inr (3, [.ref hd, .ref hR, .ref hw, .ref hT, .int (nI tc), .int (nI nw), .int (nI ol)])), (hd, .inr (0, [.int (nI a), .ref hB])), (hB, .inl (cI, a * 48, .inl f)), (hR, .inr (2, [.ref hM])), (hM, .inl (cI, a, .inl M)), (hw, .inr (1, [.int (b2i O), .int lf, .int us])), (hT, .inl (cI, 32, .inl t))]) (ci := 3) (i0 := 0) hK hN hP hD [0, 1, 2, 3, 4, 5, 6] (by decide) rfl rfl rfl) rfl rfl hl.1 rfl (lv_room (Nat.le_of_ble_eq_true rfl)) dX3_writeVersion_4 ⟨Nat.le_of_ble_eq_true rfl, Nat.le_of_ble_eq_true rfl⟩) hP hD hS hA [0, 1, 2, 3, 4, 5, 6] rfl [h0, hd, hB, hR, hM, hw, hT] rfl rfl (fun H locs hP hD hS => ?_)
  have hP : va_P D vwCl [(h0, .inr (3, [.ref hd, .ref hR, .ref hw, .ref hT, .int (nI tc), .int (nI nw), .int (nI ol)])), (hd, .inr (0, [.int (nI a), .ref hB])), (hB, .inl (cI, a * 48, .inl (wn f q k x nw))), (hR, .inr (2, [.ref hM])), (hM, .inl (cI, a, .inl M)), (hw, .inr (1, [.int (b2i (pw_off O lf)), .int (pw_left lf), .int (us + 1)])), (hT, .inl (cI, 32, .inl t))] _ := hP
  have hD : va_D A [(h0, .inr (3, [.ref hd, .ref hR, .ref hw, .ref hT, .int (nI tc), .int (nI nw), .int (nI ol)])), (hd, .inr (0, [.int (nI a), .ref hB])), (hB, .inl (cI, a * 48, .inl (wn f q k x nw))), (hR, .inr (2, [.ref hM])), (hM, .inl (cI, a, .inl M)), (hw, .inr (1, [.int (b2i (pw_off O lf)), .int (pw_left lf), .int (us + 1)])), (hT, .inl (cI, 32, .inl t))] := hD
  refine lv_if_ne (tgt := 13) hx hb dX3_writeVersion_7 (by decide) (fun c7 => ?_) (fun c7 => ?_)
  · skip
    refine lv_aload_n hx hb dX3_writeVersion_13 rfl (lv_at hl 0 rfl) ?_
    refine va_get (D := D) (cl := vwCl) (ci := 3) (v := .int (nI nw)) (C := RX3) (T := TX3) (N := 7) hx hb hts hiX3 hown hK hP 0 rfl rfl 5 (by decide) hk0 (fun _ h9 => h9) rfl dX3_writeVersion_14 ?_
    refine lv_iconst (v := 1) hx hb dX3_writeVersion_17 (by decide) ?_
    refine lv_iadd hx hb dX3_writeVersion_18 ?_
    refine ct_top (y := nI (nw + 1)) (nI_add nw 1) ?_
    refine lv_istore (lv' := [(4, .int (nI (nw + 1))), (0, .ref h0), (1, .int (nI q)), (2, .int (nI k)), (3, .int x)]) hx hb dX3_writeVersion_19 hl (by decide) rfl (fun ls hl => ?_)
    refine lv_aload_n hx hb dX3_writeVersion_21 rfl (lv_at hl 1 rfl) ?_
    refine va_get (D := D) (cl := vwCl) (ci := 3) (v := .int (nI ol)) (C := RX3) (T := TX3) (N := 7) hx hb hts hiX3 hown hK hP 0 rfl rfl 6 (by decide) hk1 (fun _ h9 => h9) rfl dX3_writeVersion_22 ?_
    refine lv_iload hx hb dX3_writeVersion_25 (lv_at hl 0 rfl) ?_
    refine lv_bipush (v := 7) hx hb dX3_writeVersion_27 (by decide) ?_
    refine lv_isub hx hb dX3_writeVersion_29 ?_
    refine va_mmax hx hb (hml.trans hl.1.symm) hown hk2 hk3 hk4 hk5 (Nat.le_of_ble_eq_true rfl) (Nat.le_of_ble_eq_true rfl) (Nat.le_of_ble_eq_true rfl) (Nat.le_of_ble_eq_true rfl) dX3_writeVersion_30 ?_
    refine ct_top (y := nI (max ol (nw + 1 - 7))) (ot_max (by omega) (by omega)) ?_
    refine lv_istore (lv' := [(5, .int (nI (max ol (nw + 1 - 7)))), (4, .int (nI (nw + 1))), (0, .ref h0), (1, .int (nI q)), (2, .int (nI k)), (3, .int x)]) hx hb dX3_writeVersion_33 hl (by decide) rfl (fun ls hl => ?_)
    refine lv_aload_n hx hb dX3_writeVersion_35 rfl (lv_at hl 2 rfl) ?_
    refine lv_iload hx hb dX3_writeVersion_36 (lv_at hl 1 rfl) ?_
    refine lv_iload hx hb dX3_writeVersion_38 (lv_at hl 0 rfl) ?_
    refine lv_iload_n hx hb dX3_writeVersion_40 rfl (lv_at hl 4 rfl) ?_
    refine lv_bipush (v := 32) hx hb dX3_writeVersion_41 (by decide) ?_
    refine lv_idiv hx hb dX3_writeVersion_43 (by decide) ?_
    refine ct_top (y := nI (k / 32)) (pk_div (by omega) (by decide) (by decide)) ?_
    refine lv_iload_n hx hb dX3_writeVersion_44 rfl (lv_at hl 3 rfl) ?_
    refine ct_calli (w := [(h0, .inr (3, [.ref hd, .ref hR, .ref hw, .ref hT, .int (nI tc), .int (nI nw), .int (nI ol)])), (hd, .inr (0, [.int (nI a), .ref hB])), (hB, .inl (cI, a * 48, .inl (wn f q k x nw))), (hR, .inr (2, [.ref hM])), (hM, .inl (cI, a, .inl M)), (hw, .inr (1, [.int (b2i (pw_off O lf)), .int (pw_left lf), .int (us + 1)])), (hT, .inl (cI, 32, .inl t))]) (w' := [(h0, .inr (3, [.ref hd, .ref hR, .ref hw, .ref hT, .int (nI tc), .int (nI nw), .int (nI ol)])), (hd, .inr (0, [.int (nI a), .ref hB])), (hB, .inl (cI, a * 48, .inl (wr (wn f q k x nw) (nw + 1) (max ol (nw + 1 - 7)) (k / 32) (nI q) nw))), (hR, .inr (2, [.ref hM])), (hM, .inl (cI, a, .inl M)), (hw, .inr (1, [.int (b2i (pw_off (pw_off O lf) (pw_left lf))), .int (pw_left (pw_left lf)), .int ((us + 1) + 1)])), (hT, .inl (cI, 32, .inl t))]) (va_runV (As := [.int (nI (nw + 1)), .int (nI (max ol (nw + 1 - 7))), .int (nI (k / 32)), .int (nI q)]) (rest := []) ⟨hx, hb, hml, hown, hts⟩ (c_X3_writeRoot l D cI cZ h0 hd hB hR hM hw hT a tc nw ol (wn f q k x nw) M t (pw_off O lf) (pw_left lf) (us + 1) (nw + 1) (max ol (nw + 1 - 7)) (k / 32) (nI q) (by omega) (by omega) (by omega) (by omega) (by omega) (by omega) (by omega) _) (cwV 4 hts gX3_writeVersion_X3_writeRoot rfl rfl rfl (by decide +kernel) ⟨Nat.le_of_ble_eq_true rfl, Nat.le_of_ble_eq_true rfl⟩) (ct_preV (w := [(h0, .inr (3, [.ref hd, .ref hR, .ref hw, .ref hT, .int (nI tc), .int (nI nw), .int (nI ol)])), (hd, .inr (0, [.int (nI a), .ref hB])), (hB, .inl (cI, a * 48, .inl (wn f q k x nw))), (hR, .inr (2, [.ref hM])), (hM, .inl (cI, a, .inl M)), (hw, .inr (1, [.int (b2i (pw_off O lf)), .int (pw_left lf), .int (us + 1)])), (hT, .inl (cI, 32, .inl t))]) (ci := 3) (i0 := 0) hK hN hP hD [0, 1, 2, 3, 4, 5, 6] (by decide) rfl rfl rfl) rfl rfl hl.1 rfl (lv_room (Nat.le_of_ble_eq_true rfl)) dX3_writeVersion_45 ⟨Nat.le_of_ble_eq_true rfl, Nat.le_of_ble_eq_true rfl⟩) hP hD hS hA [0, 1, 2, 3, 4, 5, 6] rfl [h0, hd, hB, hR, hM, hw, hT] rfl rfl (fun H locs hP hD hS => ?_)
    have hP : va_P D vwCl [(h0, .inr (3, [.ref hd, .ref hR, .ref hw, .ref hT, .int (nI tc), .int (nI nw), .int (nI ol)])), (hd, .inr (0, [.int (nI a), .ref hB])), (hB, .inl (cI, a * 48, .inl (wr (wn f q k x nw) (nw + 1) (max ol (nw + 1 - 7)) (k / 32) (nI q) nw))), (hR, .inr (2, [.ref hM])), (hM, .inl (cI, a, .inl M)), (hw, .inr (1, [.int (b2i (pw_off (pw_off O lf) (pw_left lf))), .int (pw_left (pw_left lf)), .int ((us + 1) + 1)])), (hT, .inl (cI, 32, .inl t))] _ := hP
    have hD : va_D A [(h0, .inr (3, [.ref hd, .ref hR, .ref hw, .ref hT, .int (nI tc), .int (nI nw), .int (nI ol)])), (hd, .inr (0, [.int (nI a), .ref hB])), (hB, .inl (cI, a * 48, .inl (wr (wn f q k x nw) (nw + 1) (max ol (nw + 1 - 7)) (k / 32) (nI q) nw))), (hR, .inr (2, [.ref hM])), (hM, .inl (cI, a, .inl M)), (hw, .inr (1, [.int (b2i (pw_off (pw_off O lf) (pw_left lf))), .int (pw_left (pw_left lf)), .int ((us + 1) + 1)])), (hT, .inl (cI, 32, .inl t))] := hD
    refine lv_if_ne (tgt := 54) hx hb dX3_writeVersion_48 (by decide) (fun c48 => ?_) (fun c48 => ?_)
    · skip
      refine lv_aload_n hx hb dX3_writeVersion_54 rfl (lv_at hl 2 rfl) ?_
      refine lv_iload hx hb dX3_writeVersion_55 (lv_at hl 1 rfl) ?_
      refine va_put (D := D) (cl := vwCl) (ci := 3) (v := .int (nI (nw + 1))) (ty := .int) (C := RX3) (T := TX3) (N := 7) hx hb hts hiX3 tyX3 tyX3_ok nmX3 hown hK hP hD hS 0 rfl rfl 5 (by decide) hk0 (fun _ h9 => h9) rfl (by decide +kernel) rfl rfl (Nat.le_of_ble_eq_true rfl) dX3_writeVersion_57 (fun H locs hP hD hS => ?_)
      have hP : va_P D vwCl [(h0, .inr (3, [.ref hd, .ref hR, .ref hw, .ref hT, .int (nI tc), .int (nI (nw + 1)), .int (nI ol)])), (hd, .inr (0, [.int (nI a), .ref hB])), (hB, .inl (cI, a * 48, .inl (wr (wn f q k x nw) (nw + 1) (max ol (nw + 1 - 7)) (k / 32) (nI q) nw))), (hR, .inr (2, [.ref hM])), (hM, .inl (cI, a, .inl M)), (hw, .inr (1, [.int (b2i (pw_off (pw_off O lf) (pw_left lf))), .int (pw_left (pw_left lf)), .int ((us + 1) + 1)])), (hT, .inl (cI, 32, .inl t))] _ := hP
      have hD : va_D A [(h0, .inr (3, [.ref hd, .ref hR, .ref hw, .ref hT, .int (nI tc), .int (nI (nw + 1)), .int (nI ol)])), (hd, .inr (0, [.int (nI a), .ref hB])), (hB, .inl (cI, a * 48, .inl (wr (wn f q k x nw) (nw + 1) (max ol (nw + 1 - 7)) (k / 32) (nI q) nw))), (hR, .inr (2, [.ref hM])), (hM, .inl (cI, a, .inl M)), (hw, .inr (1, [.int (b2i (pw_off (pw_off O lf) (pw_left lf))), .int (pw_left (pw_left lf)), .int ((us + 1) + 1)])), (hT, .inl (cI, 32, .inl t))] := hD
      refine lv_aload_n hx hb dX3_writeVersion_60 rfl (lv_at hl 2 rfl) ?_
      refine lv_iload hx hb dX3_writeVersion_61 (lv_at hl 0 rfl) ?_
      refine va_put (D := D) (cl := vwCl) (ci := 3) (v := .int (nI (max ol (nw + 1 - 7)))) (ty := .int) (C := RX3) (T := TX3) (N := 7) hx hb hts hiX3 tyX3 tyX3_ok nmX3 hown hK hP hD hS 0 rfl rfl 6 (by decide) hk1 (fun _ h9 => h9) rfl (by decide +kernel) rfl rfl (Nat.le_of_ble_eq_true rfl) dX3_writeVersion_63 (fun H locs hP hD hS => ?_)
      have hP : va_P D vwCl [(h0, .inr (3, [.ref hd, .ref hR, .ref hw, .ref hT, .int (nI tc), .int (nI (nw + 1)), .int (nI (max ol (nw + 1 - 7)))])), (hd, .inr (0, [.int (nI a), .ref hB])), (hB, .inl (cI, a * 48, .inl (wr (wn f q k x nw) (nw + 1) (max ol (nw + 1 - 7)) (k / 32) (nI q) nw))), (hR, .inr (2, [.ref hM])), (hM, .inl (cI, a, .inl M)), (hw, .inr (1, [.int (b2i (pw_off (pw_off O lf) (pw_left lf))), .int (pw_left (pw_left lf)), .int ((us + 1) + 1)])), (hT, .inl (cI, 32, .inl t))] _ := hP
      have hD : va_D A [(h0, .inr (3, [.ref hd, .ref hR, .ref hw, .ref hT, .int (nI tc), .int (nI (nw + 1)), .int (nI (max ol (nw + 1 - 7)))])), (hd, .inr (0, [.int (nI a), .ref hB])), (hB, .inl (cI, a * 48, .inl (wr (wn f q k x nw) (nw + 1) (max ol (nw + 1 - 7)) (k / 32) (nI q) nw))), (hR, .inr (2, [.ref hM])), (hM, .inl (cI, a, .inl M)), (hw, .inr (1, [.int (b2i (pw_off (pw_off O lf) (pw_left lf))), .int (pw_left (pw_left lf)), .int ((us + 1) + 1)])), (hT, .inl (cI, 32, .inl t))] := hD
      refine lv_iload hx hb dX3_writeVersion_66 (lv_at hl 1 rfl) ?_
      have e9 : sp_wv f O lf us nw ol q k x = (nI (nw + 1), wr (wn f q k x nw) (nw + 1) (max ol (nw + 1 - 7)) (k / 32) (nI q) nw, (pw_off (pw_off O lf) (pw_left lf)), pw_left (pw_left lf), (us + 1) + 1, nw + 1, max ol (nw + 1 - 7)) := by unfold sp_wv; rw [ifp_f (b2i_n0 c7), ifp_f (b2i_n0 c48)]
      exact ct_iret hx hb hr hlocks (by rw [e9]) (by rw [e9]) hP hD hS dX3_writeVersion_68
    · skip
      refine lv_bipush (v := (-3)) hx hb dX3_writeVersion_51 (by decide) ?_
      have e9 : sp_wv f O lf us nw ol q k x = ((-3), wr (wn f q k x nw) (nw + 1) (max ol (nw + 1 - 7)) (k / 32) (nI q) nw, (pw_off (pw_off O lf) (pw_left lf)), pw_left (pw_left lf), (us + 1) + 1, nw, ol) := by unfold sp_wv; rw [ifp_f (b2i_n0 c7), ifp_t (Classical.not_not.mp (b2i_0.mp c48))]
      exact ct_iret hx hb hr hlocks (by rw [e9]) (by rw [e9]) hP hD hS dX3_writeVersion_53
  · skip
    refine lv_bipush (v := (-3)) hx hb dX3_writeVersion_10 (by decide) ?_
    have e9 : sp_wv f O lf us nw ol q k x = ((-3), wn f q k x nw, (pw_off O lf), pw_left lf, us + 1, nw, ol) := by unfold sp_wv; rw [ifp_t (Classical.not_not.mp (b2i_0.mp c7))]
    exact ct_iret hx hb hr hlocks (by rw [e9]) (by rw [e9]) hP hD hS dX3_writeVersion_12
set_option maxHeartbeats 4000000 in
set_option maxRecDepth 100000 in
theorem c_X3_type (l : Launch) (D : va_G) (cI cZ : ClassId) (h0 hd hB hR hM hw hT a tc nw ol : Nat) (f M t : Nat → Int32) (O : Prop) (lf us : Int32) (x : Int32) (ha : a ≤ 120) (h12 : 12 ≤ a) (htc : tc ≤ 32) (hnw : nw ≤ 1000000) (hol : ol ≤ nw + 1) : CtI l yX3_type wsX3_type ({ frames := 1, cells := 0, slots := 0, locals := 20 }) D vwCl (ct_T cI cZ) [.ref h0, .int x] [(h0, .inr (3, [.ref hd, .ref hR, .ref hw, .ref hT, .int (nI tc), .int (nI nw), .int (nI ol)])), (hd, .inr (0, [.int (nI a), .ref hB])), (hB, .inl (cI, a * 48, .inl f)), (hR, .inr (2, [.ref hM])), (hM, .inl (cI, a, .inl M)), (hw, .inr (1, [.int (b2i O), .int lf, .int us])), (hT, .inl (cI, 32, .inl t))] [(h0, .inr (3, [.ref hd, .ref hR, .ref hw, .ref hT, .int (nI ((sp_type O x tc t).2.2)), .int (nI nw), .int (nI ol)])), (hd, .inr (0, [.int (nI a), .ref hB])), (hB, .inl (cI, a * 48, .inl f)), (hR, .inr (2, [.ref hM])), (hM, .inl (cI, a, .inl M)), (hw, .inr (1, [.int (b2i O), .int lf, .int us])), (hT, .inl (cI, 32, .inl ((sp_type O x tc t).2.1)))] ((sp_type O x tc t).1) := by
  refine ct_of (Qf := ct_Qi D vwCl [(h0, .inr (3, [.ref hd, .ref hR, .ref hw, .ref hT, .int (nI ((sp_type O x tc t).2.2)), .int (nI nw), .int (nI ol)])), (hd, .inr (0, [.int (nI a), .ref hB])), (hB, .inl (cI, a * 48, .inl f)), (hR, .inr (2, [.ref hM])), (hM, .inl (cI, a, .inl M)), (hw, .inr (1, [.int (b2i O), .int lf, .int us])), (hT, .inl (cI, 32, .inl ((sp_type O x tc t).2.1)))] ((sp_type O x tc t).1)) (cc := cX3_type) (maxL := 2) (ret := (some .int)) [(0, .ref h0), (1, .int x)] (by decide) rfl (Nat.le_of_ble_eq_true rfl) rfl ?_
  intro p e s m below meth c hx hb hr hts hown hlocks hml hnm A hA hK hN hP hD hS ls hl
  have hown : s.vm.findClass RX3 = some m.cls := hown
  have hk0 := hts (.fieldLink RX3 37 "DesignPages" "power" "LDesignPages$Power;") (by decide +kernel)
  have hk1 := hts (.fieldLink RX3 45 "DesignPages" "typedCount" "I") (by decide +kernel)
  have hk2 := hts (.fieldLink RX3 41 "DesignPages" "typed" "[I") (by decide +kernel)
  have hiX3 : ∀ w ∈ wsX30, w ∈ wsX3_type := by decide +kernel
  refine lv_aload_n hx hb dX3_type_0 rfl (lv_at hl 0 rfl) ?_
  refine va_get (D := D) (cl := vwCl) (ci := 3) (v := .ref hw) (C := RX3) (T := TX3) (N := 7) hx hb hts hiX3 hown hK hP 0 rfl rfl 2 (by decide) hk0 (fun _ h9 => h9) rfl dX3_type_1 ?_
  refine ct_calli (w := [(hw, .inr (1, [.int (b2i O), .int lf, .int us]))]) (w' := [(hw, .inr (1, [.int (b2i O), .int lf, .int us]))]) (va_runV (As := []) (rest := []) ⟨hx, hb, hml, hown, hts⟩ (c_X1_isOff l D cI cZ hw O lf us  _) (cwV 0 hts gX3_type_X1_isOff rfl rfl rfl (by decide +kernel) ⟨Nat.le_of_ble_eq_true rfl, Nat.le_of_ble_eq_true rfl⟩) (ct_preV (w := [(hw, .inr (1, [.int (b2i O), .int lf, .int us]))]) (ci := 1) (i0 := 5) hK hN hP hD [5] (by decide) rfl rfl rfl) rfl rfl hl.1 rfl (lv_room (Nat.le_of_ble_eq_true rfl)) dX3_type_4 ⟨Nat.le_of_ble_eq_true rfl, Nat.le_of_ble_eq_true rfl⟩) hP hD hS hA [5] rfl [hw] rfl rfl (fun H locs hP hD hS => ?_)
  have hP : va_P D vwCl [(h0, .inr (3, [.ref hd, .ref hR, .ref hw, .ref hT, .int (nI tc), .int (nI nw), .int (nI ol)])), (hd, .inr (0, [.int (nI a), .ref hB])), (hB, .inl (cI, a * 48, .inl f)), (hR, .inr (2, [.ref hM])), (hM, .inl (cI, a, .inl M)), (hw, .inr (1, [.int (b2i O), .int lf, .int us])), (hT, .inl (cI, 32, .inl t))] _ := hP
  have hD : va_D A [(h0, .inr (3, [.ref hd, .ref hR, .ref hw, .ref hT, .int (nI tc), .int (nI nw), .int (nI ol)])), (hd, .inr (0, [.int (nI a), .ref hB])), (hB, .inl (cI, a * 48, .inl f)), (hR, .inr (2, [.ref hM])), (hM, .inl (cI, a, .inl M)), (hw, .inr (1, [.int (b2i O), .int lf, .int us])), (hT, .inl (cI, 32, .inl t))] := hD
  refine lv_if_eq (tgt := 13) hx hb dX3_type_7 (by decide) (fun c7 => ?_) (fun c7 => ?_)
  · skip
    refine lv_iload_n hx hb dX3_type_13 rfl (lv_at hl 1 rfl) ?_
    refine lv_if_lt (tgt := 24) hx hb dX3_type_14 (by decide) (fun c14 => ?_) (fun c14 => ?_)
    · skip
      refine lv_bipush (v := (-2)) hx hb dX3_type_24 (by decide) ?_
      have e9 : sp_type O x tc t = ((-2), t, tc) := by unfold sp_type; rw [ifp_f (b2i_0.mp c7), ifp_t (Or.inl c14)]
      exact ct_iret hx hb hr hlocks (by rw [e9]) (by rw [e9]) hP hD hS dX3_type_26
    · skip
      refine lv_iload_n hx hb dX3_type_17 rfl (lv_at hl 1 rfl) ?_
      refine lv_sipush (v := 255) hx hb dX3_type_18 (by decide) ?_
      refine lv_icmp_le (tgt := 27) hx hb dX3_type_21 (by decide) (fun c21 => ?_) (fun c21 => ?_)
      · skip
        refine lv_aload_n hx hb dX3_type_27 rfl (lv_at hl 0 rfl) ?_
        refine va_get (D := D) (cl := vwCl) (ci := 3) (v := .int (nI tc)) (C := RX3) (T := TX3) (N := 7) hx hb hts hiX3 hown hK hP 0 rfl rfl 4 (by decide) hk1 (fun _ h9 => h9) rfl dX3_type_28 ?_
        refine lv_bipush (v := 32) hx hb dX3_type_31 (by decide) ?_
        refine lv_icmp_lt (tgt := 39) hx hb dX3_type_33 (by decide) (fun c33 => ?_) (fun c33 => ?_)
        · skip
          have c33 : tc < 32 := (nI_ltI (a := tc) (b := 32) (by omega) (by omega)).mp c33
          refine lv_aload_n hx hb dX3_type_39 rfl (lv_at hl 0 rfl) ?_
          refine va_get (D := D) (cl := vwCl) (ci := 3) (v := .ref hT) (C := RX3) (T := TX3) (N := 7) hx hb hts hiX3 hown hK hP 0 rfl rfl 3 (by decide) hk2 (fun _ h9 => h9) rfl dX3_type_40 ?_
          refine lv_aload_n hx hb dX3_type_43 rfl (lv_at hl 0 rfl) ?_
          refine va_get (D := D) (cl := vwCl) (ci := 3) (v := .int (nI tc)) (C := RX3) (T := TX3) (N := 7) hx hb hts hiX3 hown hK hP 0 rfl rfl 4 (by decide) hk1 (fun _ h9 => h9) rfl dX3_type_44 ?_
          refine lv_iload_n hx hb dX3_type_47 rfl (lv_at hl 1 rfl) ?_
          refine ct_iast hx hb hK hP hD hS 6 0 (k := tc) (x := x) rfl rfl (by omega) (by omega) dX3_type_48 (fun H locs hP hD hS => ?_)
          have hP : va_P D vwCl [(h0, .inr (3, [.ref hd, .ref hR, .ref hw, .ref hT, .int (nI tc), .int (nI nw), .int (nI ol)])), (hd, .inr (0, [.int (nI a), .ref hB])), (hB, .inl (cI, a * 48, .inl f)), (hR, .inr (2, [.ref hM])), (hM, .inl (cI, a, .inl M)), (hw, .inr (1, [.int (b2i O), .int lf, .int us])), (hT, .inl (cI, 32, .inl (upd t tc x)))] _ := hP
          have hD : va_D A [(h0, .inr (3, [.ref hd, .ref hR, .ref hw, .ref hT, .int (nI tc), .int (nI nw), .int (nI ol)])), (hd, .inr (0, [.int (nI a), .ref hB])), (hB, .inl (cI, a * 48, .inl f)), (hR, .inr (2, [.ref hM])), (hM, .inl (cI, a, .inl M)), (hw, .inr (1, [.int (b2i O), .int lf, .int us])), (hT, .inl (cI, 32, .inl (upd t tc x)))] := hD
          refine lv_aload_n hx hb dX3_type_49 rfl (lv_at hl 0 rfl) ?_
          refine lv_dup hx hb dX3_type_50 rfl ?_
          refine va_get (D := D) (cl := vwCl) (ci := 3) (v := .int (nI tc)) (C := RX3) (T := TX3) (N := 7) hx hb hts hiX3 hown hK hP 0 rfl rfl 4 (by decide) hk1 (fun _ h9 => h9) rfl dX3_type_51 ?_
          refine lv_iconst (v := 1) hx hb dX3_type_54 (by decide) ?_
          refine lv_iadd hx hb dX3_type_55 ?_
          refine ct_top (y := nI (tc + 1)) (nI_add tc 1) ?_
          refine va_put (D := D) (cl := vwCl) (ci := 3) (v := .int (nI (tc + 1))) (ty := .int) (C := RX3) (T := TX3) (N := 7) hx hb hts hiX3 tyX3 tyX3_ok nmX3 hown hK hP hD hS 0 rfl rfl 4 (by decide) hk1 (fun _ h9 => h9) rfl (by decide +kernel) rfl rfl (Nat.le_of_ble_eq_true rfl) dX3_type_56 (fun H locs hP hD hS => ?_)
          have hP : va_P D vwCl [(h0, .inr (3, [.ref hd, .ref hR, .ref hw, .ref hT, .int (nI (tc + 1)), .int (nI nw), .int (nI ol)])), (hd, .inr (0, [.int (nI a), .ref hB])), (hB, .inl (cI, a * 48, .inl f)), (hR, .inr (2, [.ref hM])), (hM, .inl (cI, a, .inl M)), (hw, .inr (1, [.int (b2i O), .int lf, .int us])), (hT, .inl (cI, 32, .inl (upd t tc x)))] _ := hP
          have hD : va_D A [(h0, .inr (3, [.ref hd, .ref hR, .ref hw, .ref hT, .int (nI (tc + 1)), .int (nI nw), .int (nI ol)])), (hd, .inr (0, [.int (nI a), .ref hB])), (hB, .inl (cI, a * 48, .inl f)), (hR, .inr (2, [.ref hM])), (hM, .inl (cI, a, .inl M)), (hw, .inr (1, [.int (b2i O), .int lf, .int us])), (hT, .inl (cI, 32, .inl (upd t tc x)))] := hD
          refine lv_aload_n hx hb dX3_type_59 rfl (lv_at hl 0 rfl) ?_
          refine va_get (D := D) (cl := vwCl) (ci := 3) (v := .int (nI (tc + 1))) (C := RX3) (T := TX3) (N := 7) hx hb hts hiX3 hown hK hP 0 rfl rfl 4 (by decide) hk1 (fun _ h9 => h9) rfl dX3_type_60 ?_
          have e9 : sp_type O x tc t = (nI (tc + 1), upd t tc x, tc + 1) := by unfold sp_type; rw [ifp_f (b2i_0.mp c7), ifp_f (fun h => h.elim c14 (Int32.not_lt.mpr c21)), ifp_f (Nat.not_le.mpr c33)]
          exact ct_iret hx hb hr hlocks (by rw [e9]) (by rw [e9]) hP hD hS dX3_type_63
        · skip
          have c33 : ¬ tc < 32 := fun h => c33 ((nI_ltI (a := tc) (b := 32) (by omega) (by omega)).mpr h)
          refine lv_bipush (v := (-6)) hx hb dX3_type_36 (by decide) ?_
          have e9 : sp_type O x tc t = ((-6), t, tc) := by unfold sp_type; rw [ifp_f (b2i_0.mp c7), ifp_f (fun h => h.elim c14 (Int32.not_lt.mpr c21)), ifp_t (Nat.le_of_not_lt c33)]
          exact ct_iret hx hb hr hlocks (by rw [e9]) (by rw [e9]) hP hD hS dX3_type_38
      · skip
        refine lv_bipush (v := (-2)) hx hb dX3_type_24 (by decide) ?_
        have e9 : sp_type O x tc t = ((-2), t, tc) := by unfold sp_type; rw [ifp_f (b2i_0.mp c7), ifp_t (Or.inr (Int32.not_le.mp c21))]
        exact ct_iret hx hb hr hlocks (by rw [e9]) (by rw [e9]) hP hD hS dX3_type_26
  · skip
    refine lv_bipush (v := (-5)) hx hb dX3_type_10 (by decide) ?_
    have e9 : sp_type O x tc t = ((-5), t, tc) := by unfold sp_type; rw [ifp_t (b2i_n0 c7)]
    exact ct_iret hx hb hr hlocks (by rw [e9]) (by rw [e9]) hP hD hS dX3_type_12
set_option maxHeartbeats 4000000 in
set_option maxRecDepth 100000 in
theorem c_X3_length (l : Launch) (D : va_G) (cI cZ : ClassId) (h0 hd hB hR hM hw hT a tc nw ol : Nat) (f M t : Nat → Int32) (O : Prop) (lf us : Int32) (x y : Int32) (ha : a ≤ 120) (h12 : 12 ≤ a) (htc : tc ≤ 32) (hnw : nw ≤ 1000000) (hol : ol ≤ nw + 1) : CtI l yX3_length wsX3_length ({ frames := 5, cells := 0, slots := 0, locals := 117 }) D vwCl (ct_T cI cZ) [.ref h0, .int x, .int y] [(h0, .inr (3, [.ref hd, .ref hR, .ref hw, .ref hT, .int (nI tc), .int (nI nw), .int (nI ol)])), (hd, .inr (0, [.int (nI a), .ref hB])), (hB, .inl (cI, a * 48, .inl f)), (hR, .inr (2, [.ref hM])), (hM, .inl (cI, a, .inl M)), (hw, .inr (1, [.int (b2i O), .int lf, .int us])), (hT, .inl (cI, 32, .inl t))] [(h0, .inr (3, [.ref hd, .ref hR, .ref hw, .ref hT, .int (nI tc), .int (nI nw), .int (nI ol)])), (hd, .inr (0, [.int (nI a), .ref hB])), (hB, .inl (cI, a * 48, .inl f)), (hR, .inr (2, [.ref hM])), (hM, .inl (cI, a, .inl M)), (hw, .inr (1, [.int (b2i O), .int lf, .int us])), (hT, .inl (cI, 32, .inl t))] (sp_len f (lku O f a ol nw x y)) := by
  refine ct_of (Qf := ct_Qi D vwCl [(h0, .inr (3, [.ref hd, .ref hR, .ref hw, .ref hT, .int (nI tc), .int (nI nw), .int (nI ol)])), (hd, .inr (0, [.int (nI a), .ref hB])), (hB, .inl (cI, a * 48, .inl f)), (hR, .inr (2, [.ref hM])), (hM, .inl (cI, a, .inl M)), (hw, .inr (1, [.int (b2i O), .int lf, .int us])), (hT, .inl (cI, 32, .inl t))] (sp_len f (lku O f a ol nw x y))) (cc := cX3_length) (maxL := 4) (ret := (some .int)) [(0, .ref h0), (1, .int x), (2, .int y)] (by decide) rfl (Nat.le_of_ble_eq_true rfl) rfl ?_
  intro p e s m below meth c hx hb hr hts hown hlocks hml hnm A hA hK hN hP hD hS ls hl
  have hown : s.vm.findClass RX3 = some m.cls := hown
  have hk0 := hts (.fieldLink RX3 23 "DesignPages" "disk" "LDesignPages$Pages;") (by decide +kernel)
  have hiX3 : ∀ w ∈ wsX30, w ∈ wsX3_length := by decide +kernel
  refine lv_aload_n hx hb dX3_length_0 rfl (lv_at hl 0 rfl) ?_
  refine lv_iload_n hx hb dX3_length_1 rfl (lv_at hl 1 rfl) ?_
  refine lv_iload_n hx hb dX3_length_2 rfl (lv_at hl 2 rfl) ?_
  refine ct_calli (w := [(h0, .inr (3, [.ref hd, .ref hR, .ref hw, .ref hT, .int (nI tc), .int (nI nw), .int (nI ol)])), (hd, .inr (0, [.int (nI a), .ref hB])), (hB, .inl (cI, a * 48, .inl f)), (hR, .inr (2, [.ref hM])), (hM, .inl (cI, a, .inl M)), (hw, .inr (1, [.int (b2i O), .int lf, .int us])), (hT, .inl (cI, 32, .inl t))]) (w' := [(h0, .inr (3, [.ref hd, .ref hR, .ref hw, .ref hT, .int (nI tc), .int (nI nw), .int (nI ol)])), (hd, .inr (0, [.int (nI a), .ref hB])), (hB, .inl (cI, a * 48, .inl f)), (hR, .inr (2, [.ref hM])), (hM, .inl (cI, a, .inl M)), (hw, .inr (1, [.int (b2i O), .int lf, .int us])), (hT, .inl (cI, 32, .inl t))]) (va_runV (As := [.int x, .int y]) (rest := []) ⟨hx, hb, hml, hown, hts⟩ (c_X3_lookUp l D cI cZ h0 hd hB hR hM hw hT a tc nw ol f M t O lf us x y (by omega) (by omega) (by omega) (by omega) (by omega)  _) (cwV 2 hts gX3_length_X3_lookUp rfl rfl rfl (by decide +kernel) ⟨Nat.le_of_ble_eq_true rfl, Nat.le_of_ble_eq_true rfl⟩) (ct_preV (w := [(h0, .inr (3, [.ref hd, .ref hR, .ref hw, .ref hT, .int (nI tc), .int (nI nw), .int (nI ol)])), (hd, .inr (0, [.int (nI a), .ref hB])), (hB, .inl (cI, a * 48, .inl f)), (hR, .inr (2, [.ref hM])), (hM, .inl (cI, a, .inl M)), (hw, .inr (1, [.int (b2i O), .int lf, .int us])), (hT, .inl (cI, 32, .inl t))]) (ci := 3) (i0 := 0) hK hN hP hD [0, 1, 2, 3, 4, 5, 6] (by decide) rfl rfl rfl) rfl rfl hl.1 rfl (lv_room (Nat.le_of_ble_eq_true rfl)) dX3_length_3 ⟨Nat.le_of_ble_eq_true rfl, Nat.le_of_ble_eq_true rfl⟩) hP hD hS hA [0, 1, 2, 3, 4, 5, 6] rfl [h0, hd, hB, hR, hM, hw, hT] rfl rfl (fun H locs hP hD hS => ?_)
  have hP : va_P D vwCl [(h0, .inr (3, [.ref hd, .ref hR, .ref hw, .ref hT, .int (nI tc), .int (nI nw), .int (nI ol)])), (hd, .inr (0, [.int (nI a), .ref hB])), (hB, .inl (cI, a * 48, .inl f)), (hR, .inr (2, [.ref hM])), (hM, .inl (cI, a, .inl M)), (hw, .inr (1, [.int (b2i O), .int lf, .int us])), (hT, .inl (cI, 32, .inl t))] _ := hP
  have hD : va_D A [(h0, .inr (3, [.ref hd, .ref hR, .ref hw, .ref hT, .int (nI tc), .int (nI nw), .int (nI ol)])), (hd, .inr (0, [.int (nI a), .ref hB])), (hB, .inl (cI, a * 48, .inl f)), (hR, .inr (2, [.ref hM])), (hM, .inl (cI, a, .inl M)), (hw, .inr (1, [.int (b2i O), .int lf, .int us])), (hT, .inl (cI, 32, .inl t))] := hD
  refine lv_istore_n (lv' := [(3, .int (lku O f a ol nw x y)), (0, .ref h0), (1, .int x), (2, .int y)]) hx hb dX3_length_6 rfl hl (by decide) rfl (fun ls hl => ?_)
  refine lv_iload_n hx hb dX3_length_7 rfl (lv_at hl 0 rfl) ?_
  refine lv_if_ge (tgt := 15) hx hb dX3_length_8 (by decide) (fun c8 => ?_) (fun c8 => ?_)
  · skip
    have hpg := lku_page ha (by omega) (Int32.not_lt.mpr c8)
    have hpg2 := hpg.2.1
    refine lv_aload_n hx hb dX3_length_15 rfl (lv_at hl 1 rfl) ?_
    refine va_get (D := D) (cl := vwCl) (ci := 3) (v := .ref hd) (C := RX3) (T := TX3) (N := 7) hx hb hts hiX3 hown hK hP 0 rfl rfl 0 (by decide) hk0 (fun _ h9 => h9) rfl dX3_length_16 ?_
    refine lv_iload_n hx hb dX3_length_19 rfl (lv_at hl 0 rfl) ?_
    refine ct_top (y := nI (nv (lku O f a ol nw x y))) (hpg.1) ?_
    refine lv_iconst (v := 3) hx hb dX3_length_20 (by decide) ?_
    refine ct_calli (w := [(hd, .inr (0, [.int (nI a), .ref hB])), (hB, .inl (cI, a * 48, .inl f))]) (w' := [(hd, .inr (0, [.int (nI a), .ref hB])), (hB, .inl (cI, a * 48, .inl f))]) (va_runV (As := [.int (nI (nv (lku O f a ol nw x y))), .int 3]) (rest := []) ⟨hx, hb, hml, hown, hts⟩ (c_X0_at l D cI cZ hd hB a (nv (lku O f a ol nw x y)) 3 f (by omega) (by omega) (by omega) _) (cwV 2 hts gX3_length_X0_at rfl rfl rfl (by decide +kernel) ⟨Nat.le_of_ble_eq_true rfl, Nat.le_of_ble_eq_true rfl⟩) (ct_preV (w := [(hd, .inr (0, [.int (nI a), .ref hB])), (hB, .inl (cI, a * 48, .inl f))]) (ci := 0) (i0 := 1) hK hN hP hD [1, 2] (by decide) rfl rfl rfl) rfl rfl hl.1 rfl (lv_room (Nat.le_of_ble_eq_true rfl)) dX3_length_21 ⟨Nat.le_of_ble_eq_true rfl, Nat.le_of_ble_eq_true rfl⟩) hP hD hS hA [1, 2] rfl [hd, hB] rfl rfl (fun H locs hP hD hS => ?_)
    have hP : va_P D vwCl [(h0, .inr (3, [.ref hd, .ref hR, .ref hw, .ref hT, .int (nI tc), .int (nI nw), .int (nI ol)])), (hd, .inr (0, [.int (nI a), .ref hB])), (hB, .inl (cI, a * 48, .inl f)), (hR, .inr (2, [.ref hM])), (hM, .inl (cI, a, .inl M)), (hw, .inr (1, [.int (b2i O), .int lf, .int us])), (hT, .inl (cI, 32, .inl t))] _ := hP
    have hD : va_D A [(h0, .inr (3, [.ref hd, .ref hR, .ref hw, .ref hT, .int (nI tc), .int (nI nw), .int (nI ol)])), (hd, .inr (0, [.int (nI a), .ref hB])), (hB, .inl (cI, a * 48, .inl f)), (hR, .inr (2, [.ref hM])), (hM, .inl (cI, a, .inl M)), (hw, .inr (1, [.int (b2i O), .int lf, .int us])), (hT, .inl (cI, 32, .inl t))] := hD
    exact ct_iret hx hb hr hlocks (by unfold sp_len; rw [ifp_f (Int32.not_lt.mpr c8)]) (rfl) hP hD hS dX3_length_24
  · skip
    refine lv_iload_n hx hb dX3_length_11 rfl (lv_at hl 0 rfl) ?_
    refine lv_goto (tgt := 24) hx hb dX3_length_12 (by decide) ?_
    exact ct_iret hx hb hr hlocks (by unfold sp_len; rw [ifp_t (Int32.not_le.mp c8)]) (rfl) hP hD hS dX3_length_24
set_option maxHeartbeats 4000000 in
set_option maxRecDepth 100000 in
theorem c_X3_find (l : Launch) (D : va_G) (cI cZ : ClassId) (h0 hd hB hR hM hw hT a tc nw ol : Nat) (f M t : Nat → Int32) (O : Prop) (lf us : Int32) (x y z : Int32) (ha : a ≤ 120) (h12 : 12 ≤ a) (htc : tc ≤ 32) (hnw : nw ≤ 1000000) (hol : ol ≤ nw + 1) : CtI l yX3_find wsX3_find ({ frames := 5, cells := 0, slots := 0, locals := 117 }) D vwCl (ct_T cI cZ) [.ref h0, .int x, .int y, .int z] [(h0, .inr (3, [.ref hd, .ref hR, .ref hw, .ref hT, .int (nI tc), .int (nI nw), .int (nI ol)])), (hd, .inr (0, [.int (nI a), .ref hB])), (hB, .inl (cI, a * 48, .inl f)), (hR, .inr (2, [.ref hM])), (hM, .inl (cI, a, .inl M)), (hw, .inr (1, [.int (b2i O), .int lf, .int us])), (hT, .inl (cI, 32, .inl t))] [(h0, .inr (3, [.ref hd, .ref hR, .ref hw, .ref hT, .int (nI tc), .int (nI nw), .int (nI ol)])), (hd, .inr (0, [.int (nI a), .ref hB])), (hB, .inl (cI, a * 48, .inl f)), (hR, .inr (2, [.ref hM])), (hM, .inl (cI, a, .inl M)), (hw, .inr (1, [.int (b2i O), .int lf, .int us])), (hT, .inl (cI, 32, .inl t))] (sp_find f (lku O f a ol nw x y) z) := by
  refine ct_of (Qf := ct_Qi D vwCl [(h0, .inr (3, [.ref hd, .ref hR, .ref hw, .ref hT, .int (nI tc), .int (nI nw), .int (nI ol)])), (hd, .inr (0, [.int (nI a), .ref hB])), (hB, .inl (cI, a * 48, .inl f)), (hR, .inr (2, [.ref hM])), (hM, .inl (cI, a, .inl M)), (hw, .inr (1, [.int (b2i O), .int lf, .int us])), (hT, .inl (cI, 32, .inl t))] (sp_find f (lku O f a ol nw x y) z)) (cc := cX3_find) (maxL := 5) (ret := (some .int)) [(0, .ref h0), (1, .int x), (2, .int y), (3, .int z)] (by decide) rfl (Nat.le_of_ble_eq_true rfl) rfl ?_
  intro p e s m below meth c hx hb hr hts hown hlocks hml hnm A hA hK hN hP hD hS ls hl
  have hown : s.vm.findClass RX3 = some m.cls := hown
  have hk0 := hts (.fieldLink RX3 23 "DesignPages" "disk" "LDesignPages$Pages;") (by decide +kernel)
  have hiX3 : ∀ w ∈ wsX30, w ∈ wsX3_find := by decide +kernel
  refine lv_aload_n hx hb dX3_find_0 rfl (lv_at hl 0 rfl) ?_
  refine lv_iload_n hx hb dX3_find_1 rfl (lv_at hl 1 rfl) ?_
  refine lv_iload_n hx hb dX3_find_2 rfl (lv_at hl 2 rfl) ?_
  refine ct_calli (w := [(h0, .inr (3, [.ref hd, .ref hR, .ref hw, .ref hT, .int (nI tc), .int (nI nw), .int (nI ol)])), (hd, .inr (0, [.int (nI a), .ref hB])), (hB, .inl (cI, a * 48, .inl f)), (hR, .inr (2, [.ref hM])), (hM, .inl (cI, a, .inl M)), (hw, .inr (1, [.int (b2i O), .int lf, .int us])), (hT, .inl (cI, 32, .inl t))]) (w' := [(h0, .inr (3, [.ref hd, .ref hR, .ref hw, .ref hT, .int (nI tc), .int (nI nw), .int (nI ol)])), (hd, .inr (0, [.int (nI a), .ref hB])), (hB, .inl (cI, a * 48, .inl f)), (hR, .inr (2, [.ref hM])), (hM, .inl (cI, a, .inl M)), (hw, .inr (1, [.int (b2i O), .int lf, .int us])), (hT, .inl (cI, 32, .inl t))]) (va_runV (As := [.int x, .int y]) (rest := []) ⟨hx, hb, hml, hown, hts⟩ (c_X3_lookUp l D cI cZ h0 hd hB hR hM hw hT a tc nw ol f M t O lf us x y (by omega) (by omega) (by omega) (by omega) (by omega)  _) (cwV 2 hts gX3_find_X3_lookUp rfl rfl rfl (by decide +kernel) ⟨Nat.le_of_ble_eq_true rfl, Nat.le_of_ble_eq_true rfl⟩) (ct_preV (w := [(h0, .inr (3, [.ref hd, .ref hR, .ref hw, .ref hT, .int (nI tc), .int (nI nw), .int (nI ol)])), (hd, .inr (0, [.int (nI a), .ref hB])), (hB, .inl (cI, a * 48, .inl f)), (hR, .inr (2, [.ref hM])), (hM, .inl (cI, a, .inl M)), (hw, .inr (1, [.int (b2i O), .int lf, .int us])), (hT, .inl (cI, 32, .inl t))]) (ci := 3) (i0 := 0) hK hN hP hD [0, 1, 2, 3, 4, 5, 6] (by decide) rfl rfl rfl) rfl rfl hl.1 rfl (lv_room (Nat.le_of_ble_eq_true rfl)) dX3_find_3 ⟨Nat.le_of_ble_eq_true rfl, Nat.le_of_ble_eq_true rfl⟩) hP hD hS hA [0, 1, 2, 3, 4, 5, 6] rfl [h0, hd, hB, hR, hM, hw, hT] rfl rfl (fun H locs hP hD hS => ?_)
  have hP : va_P D vwCl [(h0, .inr (3, [.ref hd, .ref hR, .ref hw, .ref hT, .int (nI tc), .int (nI nw), .int (nI ol)])), (hd, .inr (0, [.int (nI a), .ref hB])), (hB, .inl (cI, a * 48, .inl f)), (hR, .inr (2, [.ref hM])), (hM, .inl (cI, a, .inl M)), (hw, .inr (1, [.int (b2i O), .int lf, .int us])), (hT, .inl (cI, 32, .inl t))] _ := hP
  have hD : va_D A [(h0, .inr (3, [.ref hd, .ref hR, .ref hw, .ref hT, .int (nI tc), .int (nI nw), .int (nI ol)])), (hd, .inr (0, [.int (nI a), .ref hB])), (hB, .inl (cI, a * 48, .inl f)), (hR, .inr (2, [.ref hM])), (hM, .inl (cI, a, .inl M)), (hw, .inr (1, [.int (b2i O), .int lf, .int us])), (hT, .inl (cI, 32, .inl t))] := hD
  refine lv_istore (lv' := [(4, .int (lku O f a ol nw x y)), (0, .ref h0), (1, .int x), (2, .int y), (3, .int z)]) hx hb dX3_find_6 hl (by decide) rfl (fun ls hl => ?_)
  refine lv_iload hx hb dX3_find_8 (lv_at hl 0 rfl) ?_
  refine lv_if_ge (tgt := 16) hx hb dX3_find_10 (by decide) (fun c10 => ?_) (fun c10 => ?_)
  · skip
    have hpg := lku_page ha (by omega) (Int32.not_lt.mpr c10)
    have hpg2 := hpg.2.1
    refine lv_iload_n hx hb dX3_find_16 rfl (lv_at hl 4 rfl) ?_
    refine lv_if_lt (tgt := 34) hx hb dX3_find_17 (by decide) (fun c17 => ?_) (fun c17 => ?_)
    · skip
      refine lv_iconst (v := (-1)) hx hb dX3_find_34 (by decide) ?_
      exact ct_iret hx hb hr hlocks (by unfold sp_find; rw [ifp_f (Int32.not_lt.mpr c10), ifp_t (Or.inl c17)]) (rfl) hP hD hS dX3_find_35
    · skip
      refine lv_iload_n hx hb dX3_find_20 rfl (lv_at hl 4 rfl) ?_
      refine lv_aload_n hx hb dX3_find_21 rfl (lv_at hl 1 rfl) ?_
      refine va_get (D := D) (cl := vwCl) (ci := 3) (v := .ref hd) (C := RX3) (T := TX3) (N := 7) hx hb hts hiX3 hown hK hP 0 rfl rfl 0 (by decide) hk0 (fun _ h9 => h9) rfl dX3_find_22 ?_
      refine lv_iload hx hb dX3_find_25 (lv_at hl 0 rfl) ?_
      refine ct_top (y := nI (nv (lku O f a ol nw x y))) (hpg.1) ?_
      refine lv_iconst (v := 3) hx hb dX3_find_27 (by decide) ?_
      refine ct_calli (w := [(hd, .inr (0, [.int (nI a), .ref hB])), (hB, .inl (cI, a * 48, .inl f))]) (w' := [(hd, .inr (0, [.int (nI a), .ref hB])), (hB, .inl (cI, a * 48, .inl f))]) (va_runV (As := [.int (nI (nv (lku O f a ol nw x y))), .int 3]) (rest := [.int z]) ⟨hx, hb, hml, hown, hts⟩ (c_X0_at l D cI cZ hd hB a (nv (lku O f a ol nw x y)) 3 f (by omega) (by omega) (by omega) _) (cwV 2 hts gX3_find_X0_at rfl rfl rfl (by decide +kernel) ⟨Nat.le_of_ble_eq_true rfl, Nat.le_of_ble_eq_true rfl⟩) (ct_preV (w := [(hd, .inr (0, [.int (nI a), .ref hB])), (hB, .inl (cI, a * 48, .inl f))]) (ci := 0) (i0 := 1) hK hN hP hD [1, 2] (by decide) rfl rfl rfl) rfl rfl hl.1 rfl (lv_room (Nat.le_of_ble_eq_true rfl)) dX3_find_28 ⟨Nat.le_of_ble_eq_true rfl, Nat.le_of_ble_eq_true rfl⟩) hP hD hS hA [1, 2] rfl [hd, hB] rfl rfl (fun H locs hP hD hS => ?_)
      have hP : va_P D vwCl [(h0, .inr (3, [.ref hd, .ref hR, .ref hw, .ref hT, .int (nI tc), .int (nI nw), .int (nI ol)])), (hd, .inr (0, [.int (nI a), .ref hB])), (hB, .inl (cI, a * 48, .inl f)), (hR, .inr (2, [.ref hM])), (hM, .inl (cI, a, .inl M)), (hw, .inr (1, [.int (b2i O), .int lf, .int us])), (hT, .inl (cI, 32, .inl t))] _ := hP
      have hD : va_D A [(h0, .inr (3, [.ref hd, .ref hR, .ref hw, .ref hT, .int (nI tc), .int (nI nw), .int (nI ol)])), (hd, .inr (0, [.int (nI a), .ref hB])), (hB, .inl (cI, a * 48, .inl f)), (hR, .inr (2, [.ref hM])), (hM, .inl (cI, a, .inl M)), (hw, .inr (1, [.int (b2i O), .int lf, .int us])), (hT, .inl (cI, 32, .inl t))] := hD
      refine lv_icmp_lt (tgt := 36) hx hb dX3_find_31 (by decide) (fun c31 => ?_) (fun c31 => ?_)
      · skip
        obtain ⟨j, hj, rfl⟩ := nI_of c17
        have hj2 : j < 32 := fi_lt hj c31 (th_len hpg.2.2)
        refine lv_aload_n hx hb dX3_find_36 rfl (lv_at hl 1 rfl) ?_
        refine va_get (D := D) (cl := vwCl) (ci := 3) (v := .ref hd) (C := RX3) (T := TX3) (N := 7) hx hb hts hiX3 hown hK hP 0 rfl rfl 0 (by decide) hk0 (fun _ h9 => h9) rfl dX3_find_37 ?_
        refine lv_iload hx hb dX3_find_40 (lv_at hl 0 rfl) ?_
        refine ct_top (y := nI (nv (lku O f a ol nw x y))) (hpg.1) ?_
        refine lv_iconst (v := 4) hx hb dX3_find_42 (by decide) ?_
        refine lv_iload_n hx hb dX3_find_43 rfl (lv_at hl 4 rfl) ?_
        refine lv_iadd hx hb dX3_find_44 ?_
        refine ct_top (y := nI (4 + j)) (nI_add 4 j) ?_
        refine ct_calli (w := [(hd, .inr (0, [.int (nI a), .ref hB])), (hB, .inl (cI, a * 48, .inl f))]) (w' := [(hd, .inr (0, [.int (nI a), .ref hB])), (hB, .inl (cI, a * 48, .inl f))]) (va_runV (As := [.int (nI (nv (lku O f a ol nw x y))), .int (nI (4 + j))]) (rest := []) ⟨hx, hb, hml, hown, hts⟩ (c_X0_at l D cI cZ hd hB a (nv (lku O f a ol nw x y)) (4 + j) f (by omega) (by omega) (by omega) _) (cwV 2 hts gX3_find_X0_at rfl rfl rfl (by decide +kernel) ⟨Nat.le_of_ble_eq_true rfl, Nat.le_of_ble_eq_true rfl⟩) (ct_preV (w := [(hd, .inr (0, [.int (nI a), .ref hB])), (hB, .inl (cI, a * 48, .inl f))]) (ci := 0) (i0 := 1) hK hN hP hD [1, 2] (by decide) rfl rfl rfl) rfl rfl hl.1 rfl (lv_room (Nat.le_of_ble_eq_true rfl)) dX3_find_45 ⟨Nat.le_of_ble_eq_true rfl, Nat.le_of_ble_eq_true rfl⟩) hP hD hS hA [1, 2] rfl [hd, hB] rfl rfl (fun H locs hP hD hS => ?_)
        have hP : va_P D vwCl [(h0, .inr (3, [.ref hd, .ref hR, .ref hw, .ref hT, .int (nI tc), .int (nI nw), .int (nI ol)])), (hd, .inr (0, [.int (nI a), .ref hB])), (hB, .inl (cI, a * 48, .inl f)), (hR, .inr (2, [.ref hM])), (hM, .inl (cI, a, .inl M)), (hw, .inr (1, [.int (b2i O), .int lf, .int us])), (hT, .inl (cI, 32, .inl t))] _ := hP
        have hD : va_D A [(h0, .inr (3, [.ref hd, .ref hR, .ref hw, .ref hT, .int (nI tc), .int (nI nw), .int (nI ol)])), (hd, .inr (0, [.int (nI a), .ref hB])), (hB, .inl (cI, a * 48, .inl f)), (hR, .inr (2, [.ref hM])), (hM, .inl (cI, a, .inl M)), (hw, .inr (1, [.int (b2i O), .int lf, .int us])), (hT, .inl (cI, 32, .inl t))] := hD
        exact ct_iret hx hb hr hlocks (by unfold sp_find; rw [ifp_f (Int32.not_lt.mpr c10), ifp_f (fun h => h.elim c17 (fun h => h c31)), nv_nI (by omega)]) (rfl) hP hD hS dX3_find_48
      · skip
        refine lv_iconst (v := (-1)) hx hb dX3_find_34 (by decide) ?_
        exact ct_iret hx hb hr hlocks (by unfold sp_find; rw [ifp_f (Int32.not_lt.mpr c10), ifp_t (Or.inr c31)]) (rfl) hP hD hS dX3_find_35
  · skip
    refine lv_iload hx hb dX3_find_13 (lv_at hl 0 rfl) ?_
    exact ct_iret hx hb hr hlocks (by unfold sp_find; rw [ifp_t (Int32.not_le.mp c10)]) (rfl) hP hD hS dX3_find_15
set_option maxHeartbeats 4000000 in
set_option maxRecDepth 100000 in
theorem c_X3_nextThing (l : Launch) (D : va_G) (cI cZ : ClassId) (h0 hd hB hR hM hw hT a tc nw ol : Nat) (f M t : Nat → Int32) (O : Prop) (lf us : Int32) (q j : Nat) (ha : a ≤ 120) (h12 : 12 ≤ a) (htc : tc ≤ 32) (hnw : nw ≤ 1000000) (hol : ol ≤ nw + 1) (hq : q < a) (hj : j ≤ 32) : CtI l yX3_nextThing wsX3_nextThing ({ frames := 3, cells := 0, slots := 0, locals := 69 }) D vwCl (ct_T cI cZ) [.ref h0, .int (nI q), .int (nI j)] [(h0, .inr (3, [.ref hd, .ref hR, .ref hw, .ref hT, .int (nI tc), .int (nI nw), .int (nI ol)])), (hd, .inr (0, [.int (nI a), .ref hB])), (hB, .inl (cI, a * 48, .inl f)), (hR, .inr (2, [.ref hM])), (hM, .inl (cI, a, .inl M)), (hw, .inr (1, [.int (b2i O), .int lf, .int us])), (hT, .inl (cI, 32, .inl t))] [(h0, .inr (3, [.ref hd, .ref hR, .ref hw, .ref hT, .int (nI tc), .int (nI nw), .int (nI ol)])), (hd, .inr (0, [.int (nI a), .ref hB])), (hB, .inl (cI, a * 48, .inl f)), (hR, .inr (2, [.ref hM])), (hM, .inl (cI, a, .inl M)), (hw, .inr (1, [.int (b2i O), .int lf, .int us])), (hT, .inl (cI, 32, .inl t))] (nth f a q j) := by
  refine ct_of (Qf := ct_Qi D vwCl [(h0, .inr (3, [.ref hd, .ref hR, .ref hw, .ref hT, .int (nI tc), .int (nI nw), .int (nI ol)])), (hd, .inr (0, [.int (nI a), .ref hB])), (hB, .inl (cI, a * 48, .inl f)), (hR, .inr (2, [.ref hM])), (hM, .inl (cI, a, .inl M)), (hw, .inr (1, [.int (b2i O), .int lf, .int us])), (hT, .inl (cI, 32, .inl t))] (nth f a q j)) (cc := cX3_nextThing) (maxL := 4) (ret := (some .int)) [(0, .ref h0), (1, .int (nI q)), (2, .int (nI j))] (by decide) rfl (Nat.le_of_ble_eq_true rfl) rfl ?_
  intro p e s m below meth c hx hb hr hts hown hlocks hml hnm A hA hK hN hP hD hS ls hl
  have hown : s.vm.findClass RX3 = some m.cls := hown
  have hk0 := hts (.fieldLink RX3 23 "DesignPages" "disk" "LDesignPages$Pages;") (by decide +kernel)
  have hiX3 : ∀ w ∈ wsX30, w ∈ wsX3_nextThing := by decide +kernel
  refine lv_iload_n hx hb dX3_nextThing_0 rfl (lv_at hl 1 rfl) ?_
  refine lv_if_ne (tgt := 6) hx hb dX3_nextThing_1 (by decide) (fun c1 => ?_) (fun c1 => ?_)
  · skip
    have c1 : ¬ q = 0 := fun h => c1 ((nI_eq (a := q) (b := 0) (by omega) (by omega)).mpr h)
    refine lv_aload_n hx hb dX3_nextThing_6 rfl (lv_at hl 0 rfl) ?_
    refine va_get (D := D) (cl := vwCl) (ci := 3) (v := .ref hd) (C := RX3) (T := TX3) (N := 7) hx hb hts hiX3 hown hK hP 0 rfl rfl 0 (by decide) hk0 (fun _ h9 => h9) rfl dX3_nextThing_7 ?_
    refine lv_iload_n hx hb dX3_nextThing_10 rfl (lv_at hl 1 rfl) ?_
    refine lv_iconst (v := 2) hx hb dX3_nextThing_11 (by decide) ?_
    refine ct_calli (w := [(hd, .inr (0, [.int (nI a), .ref hB])), (hB, .inl (cI, a * 48, .inl f))]) (w' := [(hd, .inr (0, [.int (nI a), .ref hB])), (hB, .inl (cI, a * 48, .inl f))]) (va_runV (As := [.int (nI q), .int 2]) (rest := []) ⟨hx, hb, hml, hown, hts⟩ (c_X0_isRight l D cI cZ hd hB a q 2 f (by omega) (by omega) _) (cwV 2 hts gX3_nextThing_X0_isRight rfl rfl rfl (by decide +kernel) ⟨Nat.le_of_ble_eq_true rfl, Nat.le_of_ble_eq_true rfl⟩) (ct_preV (w := [(hd, .inr (0, [.int (nI a), .ref hB])), (hB, .inl (cI, a * 48, .inl f))]) (ci := 0) (i0 := 1) hK hN hP hD [1, 2] (by decide) rfl rfl rfl) rfl rfl hl.1 rfl (lv_room (Nat.le_of_ble_eq_true rfl)) dX3_nextThing_12 ⟨Nat.le_of_ble_eq_true rfl, Nat.le_of_ble_eq_true rfl⟩) hP hD hS hA [1, 2] rfl [hd, hB] rfl rfl (fun H locs hP hD hS => ?_)
    have hP : va_P D vwCl [(h0, .inr (3, [.ref hd, .ref hR, .ref hw, .ref hT, .int (nI tc), .int (nI nw), .int (nI ol)])), (hd, .inr (0, [.int (nI a), .ref hB])), (hB, .inl (cI, a * 48, .inl f)), (hR, .inr (2, [.ref hM])), (hM, .inl (cI, a, .inl M)), (hw, .inr (1, [.int (b2i O), .int lf, .int us])), (hT, .inl (cI, 32, .inl t))] _ := hP
    have hD : va_D A [(h0, .inr (3, [.ref hd, .ref hR, .ref hw, .ref hT, .int (nI tc), .int (nI nw), .int (nI ol)])), (hd, .inr (0, [.int (nI a), .ref hB])), (hB, .inl (cI, a * 48, .inl f)), (hR, .inr (2, [.ref hM])), (hM, .inl (cI, a, .inl M)), (hw, .inr (1, [.int (b2i O), .int lf, .int us])), (hT, .inl (cI, 32, .inl t))] := hD
    refine lv_if_ne (tgt := 21) hx hb dX3_nextThing_15 (by decide) (fun c15 => ?_) (fun c15 => ?_)
    · skip
      refine lv_iload_n hx hb dX3_nextThing_21 rfl (lv_at hl 2 rfl) ?_
      refine lv_istore_n (lv' := [(3, .int (nI j)), (0, .ref h0), (1, .int (nI q)), (2, .int (nI j))]) hx hb dX3_nextThing_22 rfl hl (by decide) rfl (fun ls hl => ?_)
      have loop23 : ∀ (n23 : Nat) (i : Nat), i ≤ 32 → fd (fun i => ¬ f (q * 48 + (2 + i)) = 0) (32 - j) j = fd (fun i => ¬ f (q * 48 + (2 + i)) = 0) (32 - i) i → 32 - i < n23 → ∀ (H : Heap) (locs : List Loc), va_P D vwCl [(h0, .inr (3, [.ref hd, .ref hR, .ref hw, .ref hT, .int (nI tc), .int (nI nw), .int (nI ol)])), (hd, .inr (0, [.int (nI a), .ref hB])), (hB, .inl (cI, a * 48, .inl f)), (hR, .inr (2, [.ref hM])), (hM, .inl (cI, a, .inl M)), (hw, .inr (1, [.int (b2i O), .int lf, .int us])), (hT, .inl (cI, 32, .inl t))] H → va_D A [(h0, .inr (3, [.ref hd, .ref hR, .ref hw, .ref hT, .int (nI tc), .int (nI nw), .int (nI ol)])), (hd, .inr (0, [.int (nI a), .ref hB])), (hB, .inl (cI, a * 48, .inl f)), (hR, .inr (2, [.ref hM])), (hM, .inl (cI, a, .inl M)), (hw, .inr (1, [.int (b2i O), .int lf, .int us])), (hT, .inl (cI, 32, .inl t))] → va_S A s.heap H locs → ∀ (ls : Array Slot), lv_has ls 4 [(3, .int (nI i)), (0, .ref h0), (1, .int (nI q)), (2, .int (nI j))] → W p l e ({ frames := 3, cells := 0, slots := 0, locals := 69 }) s m ([.ref h0, .int (nI q), .int (nI j)] : List Value).toArray below meth c H locs 0 0 (MQ below (ct_Qi D vwCl [(h0, .inr (3, [.ref hd, .ref hR, .ref hw, .ref hT, .int (nI tc), .int (nI nw), .int (nI ol)])), (hd, .inr (0, [.int (nI a), .ref hB])), (hB, .inl (cI, a * 48, .inl f)), (hR, .inr (2, [.ref hM])), (hM, .inl (cI, a, .inl M)), (hw, .inr (1, [.int (b2i O), .int lf, .int us])), (hT, .inl (cI, 32, .inl t))] (nth f a q j) A) ([.ref h0, .int (nI q), .int (nI j)] : List Value).toArray s 0 0 A) (F0 m 23 ls []) := by
        intro n23
        induction n23 with
        | zero =>
          intro i _ _ hm
          exact absurd hm (Nat.not_lt_zero _)
        | succ n23 ih23 =>
          intro i hi ex hm23 H locs hP hD hS ls hl
          refine lv_iload_n hx hb dX3_nextThing_23 rfl (lv_at hl 0 rfl) ?_
          refine lv_bipush (v := 32) hx hb dX3_nextThing_24 (by decide) ?_
          refine lv_icmp_ge (tgt := 51) hx hb dX3_nextThing_26 (by decide) (fun c26 => ?_) (fun c26 => ?_)
          · skip
            have c26 : 32 ≤ i := (nI_leI (a := 32) (b := i) (by omega) (by omega)).mp c26
            refine lv_iconst (v := (-1)) hx hb dX3_nextThing_51 (by decide) ?_
            exact ct_iret hx hb hr hlocks (by unfold nth; rw [ifp_f c1, ifp_t (b2i_n0 c15), ex]; exact (fd_0' (by omega)).symm) (rfl) hP hD hS dX3_nextThing_52
          · skip
            have c26 : ¬ 32 ≤ i := fun h => c26 ((nI_leI (a := 32) (b := i) (by omega) (by omega)).mpr h)
            refine lv_aload_n hx hb dX3_nextThing_29 rfl (lv_at hl 1 rfl) ?_
            refine va_get (D := D) (cl := vwCl) (ci := 3) (v := .ref hd) (C := RX3) (T := TX3) (N := 7) hx hb hts hiX3 hown hK hP 0 rfl rfl 0 (by decide) hk0 (fun _ h9 => h9) rfl dX3_nextThing_30 ?_
            refine lv_iload_n hx hb dX3_nextThing_33 rfl (lv_at hl 2 rfl) ?_
            refine lv_iconst (v := 2) hx hb dX3_nextThing_34 (by decide) ?_
            refine lv_iload_n hx hb dX3_nextThing_35 rfl (lv_at hl 0 rfl) ?_
            refine lv_iadd hx hb dX3_nextThing_36 ?_
            refine ct_top (y := nI (2 + i)) (nI_add 2 i) ?_
            refine ct_calli (w := [(hd, .inr (0, [.int (nI a), .ref hB])), (hB, .inl (cI, a * 48, .inl f))]) (w' := [(hd, .inr (0, [.int (nI a), .ref hB])), (hB, .inl (cI, a * 48, .inl f))]) (va_runV (As := [.int (nI q), .int (nI (2 + i))]) (rest := []) ⟨hx, hb, hml, hown, hts⟩ (c_X0_at l D cI cZ hd hB a q (2 + i) f (by omega) (by omega) (by omega) _) (cwV 2 hts gX3_nextThing_X0_at rfl rfl rfl (by decide +kernel) ⟨Nat.le_of_ble_eq_true rfl, Nat.le_of_ble_eq_true rfl⟩) (ct_preV (w := [(hd, .inr (0, [.int (nI a), .ref hB])), (hB, .inl (cI, a * 48, .inl f))]) (ci := 0) (i0 := 1) hK hN hP hD [1, 2] (by decide) rfl rfl rfl) rfl rfl hl.1 rfl (lv_room (Nat.le_of_ble_eq_true rfl)) dX3_nextThing_37 ⟨Nat.le_of_ble_eq_true rfl, Nat.le_of_ble_eq_true rfl⟩) hP hD hS hA [1, 2] rfl [hd, hB] rfl rfl (fun H locs hP hD hS => ?_)
            have hP : va_P D vwCl [(h0, .inr (3, [.ref hd, .ref hR, .ref hw, .ref hT, .int (nI tc), .int (nI nw), .int (nI ol)])), (hd, .inr (0, [.int (nI a), .ref hB])), (hB, .inl (cI, a * 48, .inl f)), (hR, .inr (2, [.ref hM])), (hM, .inl (cI, a, .inl M)), (hw, .inr (1, [.int (b2i O), .int lf, .int us])), (hT, .inl (cI, 32, .inl t))] _ := hP
            have hD : va_D A [(h0, .inr (3, [.ref hd, .ref hR, .ref hw, .ref hT, .int (nI tc), .int (nI nw), .int (nI ol)])), (hd, .inr (0, [.int (nI a), .ref hB])), (hB, .inl (cI, a * 48, .inl f)), (hR, .inr (2, [.ref hM])), (hM, .inl (cI, a, .inl M)), (hw, .inr (1, [.int (b2i O), .int lf, .int us])), (hT, .inl (cI, 32, .inl t))] := hD
            refine lv_if_eq (tgt := 45) hx hb dX3_nextThing_40 (by decide) (fun c40 => ?_) (fun c40 => ?_)
            · skip
              refine lv_iinc (v := nI (i + 1)) (lv' := [(3, .int (nI (i + 1))), (0, .ref h0), (1, .int (nI q)), (2, .int (nI j))]) hx hb dX3_nextThing_45 hl (k := 0) rfl (nI_add i 1) (by decide) rfl (fun ls hl => ?_)
              refine lv_goto (tgt := 23) hx hb dX3_nextThing_48 (by decide) ?_
              exact ih23 (i + 1) (by omega) (by rw [ex]; exact fd_n' (P := fun i => ¬ f (q * 48 + (2 + i)) = 0) (fun h => h c40) (by omega)) (by omega) _ _ hP hD hS ls (lv_sub hl [0, 1, 2, 3] rfl)
            · skip
              refine lv_iload_n hx hb dX3_nextThing_43 rfl (lv_at hl 0 rfl) ?_
              exact ct_iret hx hb hr hlocks (by unfold nth; rw [ifp_f c1, ifp_t (b2i_n0 c15), ex]; exact (fd_t' (P := fun i => ¬ f (q * 48 + (2 + i)) = 0) c40 (by omega)).symm) (rfl) hP hD hS dX3_nextThing_44
      exact loop23 _ j (hj) (rfl) (Nat.lt_succ_self _) _ _ hP hD hS ls (lv_sub hl [0, 1, 2, 3] rfl)
    · skip
      refine lv_bipush (v := (-4)) hx hb dX3_nextThing_18 (by decide) ?_
      exact ct_iret hx hb hr hlocks (by unfold nth; rw [ifp_f c1, ifp_f (b2i_0.mp c15)]) (rfl) hP hD hS dX3_nextThing_20
  · skip
    have c1 : q = 0 := (nI_eq (a := q) (b := 0) (by omega) (by omega)).mp c1
    refine lv_iconst (v := (-1)) hx hb dX3_nextThing_4 (by decide) ?_
    exact ct_iret hx hb hr hlocks (by unfold nth; rw [ifp_t c1]) (rfl) hP hD hS dX3_nextThing_5
set_option maxHeartbeats 4000000 in
set_option maxRecDepth 100000 in
theorem c_X3_next (l : Launch) (D : va_G) (cI cZ : ClassId) (h0 hd hB hR hM hw hT a tc nw ol : Nat) (f M t : Nat → Int32) (O : Prop) (lf us : Int32) (x y : Int32) (ha : a ≤ 120) (h12 : 12 ≤ a) (htc : tc ≤ 32) (hnw : nw ≤ 1000000) (hol : ol ≤ nw + 1) : CtI l yX3_next wsX3_next ({ frames := 4, cells := 0, slots := 0, locals := 92 }) D vwCl (ct_T cI cZ) [.ref h0, .int x, .int y] [(h0, .inr (3, [.ref hd, .ref hR, .ref hw, .ref hT, .int (nI tc), .int (nI nw), .int (nI ol)])), (hd, .inr (0, [.int (nI a), .ref hB])), (hB, .inl (cI, a * 48, .inl f)), (hR, .inr (2, [.ref hM])), (hM, .inl (cI, a, .inl M)), (hw, .inr (1, [.int (b2i O), .int lf, .int us])), (hT, .inl (cI, 32, .inl t))] [(h0, .inr (3, [.ref hd, .ref hR, .ref hw, .ref hT, .int (nI tc), .int (nI nw), .int (nI ol)])), (hd, .inr (0, [.int (nI a), .ref hB])), (hB, .inl (cI, a * 48, .inl f)), (hR, .inr (2, [.ref hM])), (hM, .inl (cI, a, .inl M)), (hw, .inr (1, [.int (b2i O), .int lf, .int us])), (hT, .inl (cI, 32, .inl t))] (sp_next O f a ol nw x y) := by
  refine ct_of (Qf := ct_Qi D vwCl [(h0, .inr (3, [.ref hd, .ref hR, .ref hw, .ref hT, .int (nI tc), .int (nI nw), .int (nI ol)])), (hd, .inr (0, [.int (nI a), .ref hB])), (hB, .inl (cI, a * 48, .inl f)), (hR, .inr (2, [.ref hM])), (hM, .inl (cI, a, .inl M)), (hw, .inr (1, [.int (b2i O), .int lf, .int us])), (hT, .inl (cI, 32, .inl t))] (sp_next O f a ol nw x y)) (cc := cX3_next) (maxL := 8) (ret := (some .int)) [(0, .ref h0), (1, .int x), (2, .int y)] (by decide) rfl (Nat.le_of_ble_eq_true rfl) rfl ?_
  intro p e s m below meth c hx hb hr hts hown hlocks hml hnm A hA hK hN hP hD hS ls hl
  have hown : s.vm.findClass RX3 = some m.cls := hown
  have hk0 := hts (.fieldLink RX3 23 "DesignPages" "disk" "LDesignPages$Pages;") (by decide +kernel)
  have hiX3 : ∀ w ∈ wsX30, w ∈ wsX3_next := by decide +kernel
  refine lv_aload_n hx hb dX3_next_0 rfl (lv_at hl 0 rfl) ?_
  refine lv_iload_n hx hb dX3_next_1 rfl (lv_at hl 1 rfl) ?_
  refine lv_iload_n hx hb dX3_next_2 rfl (lv_at hl 2 rfl) ?_
  refine ct_calli (w := [(h0, .inr (3, [.ref hd, .ref hR, .ref hw, .ref hT, .int (nI tc), .int (nI nw), .int (nI ol)])), (hd, .inr (0, [.int (nI a), .ref hB])), (hB, .inl (cI, a * 48, .inl f)), (hR, .inr (2, [.ref hM])), (hM, .inl (cI, a, .inl M)), (hw, .inr (1, [.int (b2i O), .int lf, .int us])), (hT, .inl (cI, 32, .inl t))]) (w' := [(h0, .inr (3, [.ref hd, .ref hR, .ref hw, .ref hT, .int (nI tc), .int (nI nw), .int (nI ol)])), (hd, .inr (0, [.int (nI a), .ref hB])), (hB, .inl (cI, a * 48, .inl f)), (hR, .inr (2, [.ref hM])), (hM, .inl (cI, a, .inl M)), (hw, .inr (1, [.int (b2i O), .int lf, .int us])), (hT, .inl (cI, 32, .inl t))]) (va_runV (As := [.int x, .int y]) (rest := []) ⟨hx, hb, hml, hown, hts⟩ (c_X3_refusalOfReading l D cI cZ h0 hd hB hR hM hw hT a tc nw ol f M t O lf us x y (by omega) (by omega) (by omega) (by omega) (by omega)  _) (cwV 2 hts gX3_next_X3_refusalOfReading rfl rfl rfl (by decide +kernel) ⟨Nat.le_of_ble_eq_true rfl, Nat.le_of_ble_eq_true rfl⟩) (ct_preV (w := [(h0, .inr (3, [.ref hd, .ref hR, .ref hw, .ref hT, .int (nI tc), .int (nI nw), .int (nI ol)])), (hd, .inr (0, [.int (nI a), .ref hB])), (hB, .inl (cI, a * 48, .inl f)), (hR, .inr (2, [.ref hM])), (hM, .inl (cI, a, .inl M)), (hw, .inr (1, [.int (b2i O), .int lf, .int us])), (hT, .inl (cI, 32, .inl t))]) (ci := 3) (i0 := 0) hK hN hP hD [0, 1, 2, 3, 4, 5, 6] (by decide) rfl rfl rfl) rfl rfl hl.1 rfl (lv_room (Nat.le_of_ble_eq_true rfl)) dX3_next_3 ⟨Nat.le_of_ble_eq_true rfl, Nat.le_of_ble_eq_true rfl⟩) hP hD hS hA [0, 1, 2, 3, 4, 5, 6] rfl [h0, hd, hB, hR, hM, hw, hT] rfl rfl (fun H locs hP hD hS => ?_)
  have hP : va_P D vwCl [(h0, .inr (3, [.ref hd, .ref hR, .ref hw, .ref hT, .int (nI tc), .int (nI nw), .int (nI ol)])), (hd, .inr (0, [.int (nI a), .ref hB])), (hB, .inl (cI, a * 48, .inl f)), (hR, .inr (2, [.ref hM])), (hM, .inl (cI, a, .inl M)), (hw, .inr (1, [.int (b2i O), .int lf, .int us])), (hT, .inl (cI, 32, .inl t))] _ := hP
  have hD : va_D A [(h0, .inr (3, [.ref hd, .ref hR, .ref hw, .ref hT, .int (nI tc), .int (nI nw), .int (nI ol)])), (hd, .inr (0, [.int (nI a), .ref hB])), (hB, .inl (cI, a * 48, .inl f)), (hR, .inr (2, [.ref hM])), (hM, .inl (cI, a, .inl M)), (hw, .inr (1, [.int (b2i O), .int lf, .int us])), (hT, .inl (cI, 32, .inl t))] := hD
  refine lv_istore_n (lv' := [(3, .int (rrd O ol nw x y)), (0, .ref h0), (1, .int x), (2, .int y)]) hx hb dX3_next_6 rfl hl (by decide) rfl (fun ls hl => ?_)
  refine lv_iload_n hx hb dX3_next_7 rfl (lv_at hl 0 rfl) ?_
  refine lv_if_eq (tgt := 13) hx hb dX3_next_8 (by decide) (fun c8 => ?_) (fun c8 => ?_)
  · skip
    obtain ⟨e1, e2, e3⟩ := rrd_0 c8
    obtain ⟨v, hv1, hv2, rfl⟩ := kp_nat e2 (by omega) (by omega)
    obtain ⟨k, hk1, rfl⟩ := ky_nat e3
    refine lv_iload_n hx hb dX3_next_13 rfl (lv_at hl 2 rfl) ?_
    refine ct_calli (w := []) (w' := []) (va_runS (As := [.int (nI v)]) (rest := []) ⟨hx, hb, hml, hown, hts⟩ (c_X3_pageOfRoot l D cI cZ (nI v) _) (va_cwS 1 hts gX3_next_X3_pageOfRoot rfl rfl rfl (by decide +kernel) ⟨Nat.le_of_ble_eq_true rfl, Nat.le_of_ble_eq_true rfl⟩) (ct_preS (w := []) hK hN hP hD [] (by decide) rfl) rfl rfl hl.1 rfl (lv_room (Nat.le_of_ble_eq_true rfl)) dX3_next_14 ⟨Nat.le_of_ble_eq_true rfl, Nat.le_of_ble_eq_true rfl⟩) hP hD hS hA [] rfl [] rfl rfl (fun H locs hP hD hS => ?_)
    have hP : va_P D vwCl [(h0, .inr (3, [.ref hd, .ref hR, .ref hw, .ref hT, .int (nI tc), .int (nI nw), .int (nI ol)])), (hd, .inr (0, [.int (nI a), .ref hB])), (hB, .inl (cI, a * 48, .inl f)), (hR, .inr (2, [.ref hM])), (hM, .inl (cI, a, .inl M)), (hw, .inr (1, [.int (b2i O), .int lf, .int us])), (hT, .inl (cI, 32, .inl t))] _ := hP
    have hD : va_D A [(h0, .inr (3, [.ref hd, .ref hR, .ref hw, .ref hT, .int (nI tc), .int (nI nw), .int (nI ol)])), (hd, .inr (0, [.int (nI a), .ref hB])), (hB, .inl (cI, a * 48, .inl f)), (hR, .inr (2, [.ref hM])), (hM, .inl (cI, a, .inl M)), (hw, .inr (1, [.int (b2i O), .int lf, .int us])), (hT, .inl (cI, 32, .inl t))] := hD
    refine ct_top (y := nI (v % 8)) (pk_rem (by omega) (by decide) (by decide)) ?_
    refine lv_istore (lv' := [(4, .int (nI (v % 8))), (3, .int (rrd O ol nw (nI v) (nI k))), (0, .ref h0), (1, .int (nI v)), (2, .int (nI k))]) hx hb dX3_next_17 hl (by decide) rfl (fun ls hl => ?_)
    refine lv_aload_n hx hb dX3_next_19 rfl (lv_at hl 2 rfl) ?_
    refine va_get (D := D) (cl := vwCl) (ci := 3) (v := .ref hd) (C := RX3) (T := TX3) (N := 7) hx hb hts hiX3 hown hK hP 0 rfl rfl 0 (by decide) hk0 (fun _ h9 => h9) rfl dX3_next_20 ?_
    refine lv_iload hx hb dX3_next_23 (lv_at hl 0 rfl) ?_
    refine lv_iconst (v := 1) hx hb dX3_next_25 (by decide) ?_
    refine ct_calli (w := [(hd, .inr (0, [.int (nI a), .ref hB])), (hB, .inl (cI, a * 48, .inl f))]) (w' := [(hd, .inr (0, [.int (nI a), .ref hB])), (hB, .inl (cI, a * 48, .inl f))]) (va_runV (As := [.int (nI (v % 8)), .int 1]) (rest := []) ⟨hx, hb, hml, hown, hts⟩ (c_X0_isRight l D cI cZ hd hB a (v % 8) 1 f (by omega) (by omega) _) (cwV 2 hts gX3_next_X0_isRight rfl rfl rfl (by decide +kernel) ⟨Nat.le_of_ble_eq_true rfl, Nat.le_of_ble_eq_true rfl⟩) (ct_preV (w := [(hd, .inr (0, [.int (nI a), .ref hB])), (hB, .inl (cI, a * 48, .inl f))]) (ci := 0) (i0 := 1) hK hN hP hD [1, 2] (by decide) rfl rfl rfl) rfl rfl hl.1 rfl (lv_room (Nat.le_of_ble_eq_true rfl)) dX3_next_26 ⟨Nat.le_of_ble_eq_true rfl, Nat.le_of_ble_eq_true rfl⟩) hP hD hS hA [1, 2] rfl [hd, hB] rfl rfl (fun H locs hP hD hS => ?_)
    have hP : va_P D vwCl [(h0, .inr (3, [.ref hd, .ref hR, .ref hw, .ref hT, .int (nI tc), .int (nI nw), .int (nI ol)])), (hd, .inr (0, [.int (nI a), .ref hB])), (hB, .inl (cI, a * 48, .inl f)), (hR, .inr (2, [.ref hM])), (hM, .inl (cI, a, .inl M)), (hw, .inr (1, [.int (b2i O), .int lf, .int us])), (hT, .inl (cI, 32, .inl t))] _ := hP
    have hD : va_D A [(h0, .inr (3, [.ref hd, .ref hR, .ref hw, .ref hT, .int (nI tc), .int (nI nw), .int (nI ol)])), (hd, .inr (0, [.int (nI a), .ref hB])), (hB, .inl (cI, a * 48, .inl f)), (hR, .inr (2, [.ref hM])), (hM, .inl (cI, a, .inl M)), (hw, .inr (1, [.int (b2i O), .int lf, .int us])), (hT, .inl (cI, 32, .inl t))] := hD
    refine lv_if_ne (tgt := 35) hx hb dX3_next_29 (by decide) (fun c29 => ?_) (fun c29 => ?_)
    · skip
      refine lv_iload_n hx hb dX3_next_35 rfl (lv_at hl 4 rfl) ?_
      refine lv_bipush (v := 32) hx hb dX3_next_36 (by decide) ?_
      refine lv_irem hx hb dX3_next_38 (by decide) ?_
      refine ct_top (y := nI (k % 32)) (pk_rem (by omega) (by decide) (by decide)) ?_
      refine lv_istore (lv' := [(5, .int (nI (k % 32))), (4, .int (nI (v % 8))), (3, .int (rrd O ol nw (nI v) (nI k))), (0, .ref h0), (1, .int (nI v)), (2, .int (nI k))]) hx hb dX3_next_39 hl (by decide) rfl (fun ls hl => ?_)
      refine lv_iload_n hx hb dX3_next_41 rfl (lv_at hl 5 rfl) ?_
      refine lv_bipush (v := 32) hx hb dX3_next_42 (by decide) ?_
      refine lv_idiv hx hb dX3_next_44 (by decide) ?_
      refine ct_top (y := nI (k / 32)) (pk_div (by omega) (by decide) (by decide)) ?_
      refine lv_istore (lv' := [(6, .int (nI (k / 32))), (5, .int (nI (k % 32))), (4, .int (nI (v % 8))), (3, .int (rrd O ol nw (nI v) (nI k))), (0, .ref h0), (1, .int (nI v)), (2, .int (nI k))]) hx hb dX3_next_45 hl (by decide) rfl (fun ls hl => ?_)
      have loop47 : ∀ (n47 : Nat) (i j : Nat), i ≤ 32 → j ≤ 32 → nxt f a (v % 8) (32 - k / 32) (k / 32) (k % 32) = nxt f a (v % 8) (32 - i) i j → 32 - i < n47 → ∀ (H : Heap) (locs : List Loc), va_P D vwCl [(h0, .inr (3, [.ref hd, .ref hR, .ref hw, .ref hT, .int (nI tc), .int (nI nw), .int (nI ol)])), (hd, .inr (0, [.int (nI a), .ref hB])), (hB, .inl (cI, a * 48, .inl f)), (hR, .inr (2, [.ref hM])), (hM, .inl (cI, a, .inl M)), (hw, .inr (1, [.int (b2i O), .int lf, .int us])), (hT, .inl (cI, 32, .inl t))] H → va_D A [(h0, .inr (3, [.ref hd, .ref hR, .ref hw, .ref hT, .int (nI tc), .int (nI nw), .int (nI ol)])), (hd, .inr (0, [.int (nI a), .ref hB])), (hB, .inl (cI, a * 48, .inl f)), (hR, .inr (2, [.ref hM])), (hM, .inl (cI, a, .inl M)), (hw, .inr (1, [.int (b2i O), .int lf, .int us])), (hT, .inl (cI, 32, .inl t))] → va_S A s.heap H locs → ∀ (ls : Array Slot), lv_has ls 8 [(6, .int (nI i)), (5, .int (nI j)), (4, .int (nI (v % 8))), (3, .int (rrd O ol nw (nI v) (nI k))), (0, .ref h0), (1, .int (nI v)), (2, .int (nI k))] → W p l e ({ frames := 4, cells := 0, slots := 0, locals := 92 }) s m ([.ref h0, .int (nI v), .int (nI k)] : List Value).toArray below meth c H locs 0 0 (MQ below (ct_Qi D vwCl [(h0, .inr (3, [.ref hd, .ref hR, .ref hw, .ref hT, .int (nI tc), .int (nI nw), .int (nI ol)])), (hd, .inr (0, [.int (nI a), .ref hB])), (hB, .inl (cI, a * 48, .inl f)), (hR, .inr (2, [.ref hM])), (hM, .inl (cI, a, .inl M)), (hw, .inr (1, [.int (b2i O), .int lf, .int us])), (hT, .inl (cI, 32, .inl t))] (sp_next O f a ol nw (nI v) (nI k)) A) ([.ref h0, .int (nI v), .int (nI k)] : List Value).toArray s 0 0 A) (F0 m 47 ls []) := by
        intro n47
        induction n47 with
        | zero =>
          intro i j _ _ _ hm
          exact absurd hm (Nat.not_lt_zero _)
        | succ n47 ih47 =>
          intro i j hi hj ex hm47 H locs hP hD hS ls hl
          refine lv_iload hx hb dX3_next_47 (lv_at hl 0 rfl) ?_
          refine lv_bipush (v := 32) hx hb dX3_next_49 (by decide) ?_
          refine lv_icmp_ge (tgt := 112) hx hb dX3_next_51 (by decide) (fun c51 => ?_) (fun c51 => ?_)
          · skip
            have c51 : 32 ≤ i := (nI_leI (a := 32) (b := i) (by omega) (by omega)).mp c51
            refine lv_iconst (v := (-1)) hx hb dX3_next_112 (by decide) ?_
            exact ct_iret hx hb hr hlocks (by unfold sp_next; rw [ifp_t c8, nv_nI (by omega), ifp_t (b2i_n0 c29), nv_nI (by omega), ex, show 32 - i = 0 by omega]; rfl) (rfl) hP hD hS dX3_next_113
          · skip
            have c51 : ¬ 32 ≤ i := fun h => c51 ((nI_leI (a := 32) (b := i) (by omega) (by omega)).mpr h)
            refine lv_aload_n hx hb dX3_next_54 rfl (lv_at hl 4 rfl) ?_
            refine lv_aload_n hx hb dX3_next_55 rfl (lv_at hl 4 rfl) ?_
            refine va_get (D := D) (cl := vwCl) (ci := 3) (v := .ref hd) (C := RX3) (T := TX3) (N := 7) hx hb hts hiX3 hown hK hP 0 rfl rfl 0 (by decide) hk0 (fun _ h9 => h9) rfl dX3_next_56 ?_
            refine lv_iload hx hb dX3_next_59 (lv_at hl 2 rfl) ?_
            refine lv_bipush (v := 9) hx hb dX3_next_61 (by decide) ?_
            refine lv_iload hx hb dX3_next_63 (lv_at hl 0 rfl) ?_
            refine lv_iadd hx hb dX3_next_65 ?_
            refine ct_top (y := nI (9 + i)) (nI_add 9 i) ?_
            refine ct_calli (w := [(hd, .inr (0, [.int (nI a), .ref hB])), (hB, .inl (cI, a * 48, .inl f))]) (w' := [(hd, .inr (0, [.int (nI a), .ref hB])), (hB, .inl (cI, a * 48, .inl f))]) (va_runV (As := [.int (nI (v % 8)), .int (nI (9 + i))]) (rest := [.ref h0]) ⟨hx, hb, hml, hown, hts⟩ (c_X0_at l D cI cZ hd hB a (v % 8) (9 + i) f (by omega) (by omega) (by omega) _) (cwV 2 hts gX3_next_X0_at rfl rfl rfl (by decide +kernel) ⟨Nat.le_of_ble_eq_true rfl, Nat.le_of_ble_eq_true rfl⟩) (ct_preV (w := [(hd, .inr (0, [.int (nI a), .ref hB])), (hB, .inl (cI, a * 48, .inl f))]) (ci := 0) (i0 := 1) hK hN hP hD [1, 2] (by decide) rfl rfl rfl) rfl rfl hl.1 rfl (lv_room (Nat.le_of_ble_eq_true rfl)) dX3_next_66 ⟨Nat.le_of_ble_eq_true rfl, Nat.le_of_ble_eq_true rfl⟩) hP hD hS hA [1, 2] rfl [hd, hB] rfl rfl (fun H locs hP hD hS => ?_)
            have hP : va_P D vwCl [(h0, .inr (3, [.ref hd, .ref hR, .ref hw, .ref hT, .int (nI tc), .int (nI nw), .int (nI ol)])), (hd, .inr (0, [.int (nI a), .ref hB])), (hB, .inl (cI, a * 48, .inl f)), (hR, .inr (2, [.ref hM])), (hM, .inl (cI, a, .inl M)), (hw, .inr (1, [.int (b2i O), .int lf, .int us])), (hT, .inl (cI, 32, .inl t))] _ := hP
            have hD : va_D A [(h0, .inr (3, [.ref hd, .ref hR, .ref hw, .ref hT, .int (nI tc), .int (nI nw), .int (nI ol)])), (hd, .inr (0, [.int (nI a), .ref hB])), (hB, .inl (cI, a * 48, .inl f)), (hR, .inr (2, [.ref hM])), (hM, .inl (cI, a, .inl M)), (hw, .inr (1, [.int (b2i O), .int lf, .int us])), (hT, .inl (cI, 32, .inl t))] := hD
            have hn1 := rt_nv (i := i) (b2i_n0 c29) ha (by omega) (by omega)
            have hn2 := hn1.2.1
            refine ct_top (y := nI (nv (f (v % 8 * 48 + (9 + i))))) (hn1.1) ?_
            refine lv_iload hx hb dX3_next_69 (lv_at hl 1 rfl) ?_
            refine ct_calli (w := [(h0, .inr (3, [.ref hd, .ref hR, .ref hw, .ref hT, .int (nI tc), .int (nI nw), .int (nI ol)])), (hd, .inr (0, [.int (nI a), .ref hB])), (hB, .inl (cI, a * 48, .inl f)), (hR, .inr (2, [.ref hM])), (hM, .inl (cI, a, .inl M)), (hw, .inr (1, [.int (b2i O), .int lf, .int us])), (hT, .inl (cI, 32, .inl t))]) (w' := [(h0, .inr (3, [.ref hd, .ref hR, .ref hw, .ref hT, .int (nI tc), .int (nI nw), .int (nI ol)])), (hd, .inr (0, [.int (nI a), .ref hB])), (hB, .inl (cI, a * 48, .inl f)), (hR, .inr (2, [.ref hM])), (hM, .inl (cI, a, .inl M)), (hw, .inr (1, [.int (b2i O), .int lf, .int us])), (hT, .inl (cI, 32, .inl t))]) (va_runV (As := [.int (nI (nv (f (v % 8 * 48 + (9 + i))))), .int (nI j)]) (rest := []) ⟨hx, hb, hml, hown, hts⟩ (c_X3_nextThing l D cI cZ h0 hd hB hR hM hw hT a tc nw ol f M t O lf us (nv (f (v % 8 * 48 + (9 + i)))) j (by omega) (by omega) (by omega) (by omega) (by omega) (by omega) (by omega) _) (cwV 2 hts gX3_next_X3_nextThing rfl rfl rfl (by decide +kernel) ⟨Nat.le_of_ble_eq_true rfl, Nat.le_of_ble_eq_true rfl⟩) (ct_preV (w := [(h0, .inr (3, [.ref hd, .ref hR, .ref hw, .ref hT, .int (nI tc), .int (nI nw), .int (nI ol)])), (hd, .inr (0, [.int (nI a), .ref hB])), (hB, .inl (cI, a * 48, .inl f)), (hR, .inr (2, [.ref hM])), (hM, .inl (cI, a, .inl M)), (hw, .inr (1, [.int (b2i O), .int lf, .int us])), (hT, .inl (cI, 32, .inl t))]) (ci := 3) (i0 := 0) hK hN hP hD [0, 1, 2, 3, 4, 5, 6] (by decide) rfl rfl rfl) rfl rfl hl.1 rfl (lv_room (Nat.le_of_ble_eq_true rfl)) dX3_next_71 ⟨Nat.le_of_ble_eq_true rfl, Nat.le_of_ble_eq_true rfl⟩) hP hD hS hA [0, 1, 2, 3, 4, 5, 6] rfl [h0, hd, hB, hR, hM, hw, hT] rfl rfl (fun H locs hP hD hS => ?_)
            have hP : va_P D vwCl [(h0, .inr (3, [.ref hd, .ref hR, .ref hw, .ref hT, .int (nI tc), .int (nI nw), .int (nI ol)])), (hd, .inr (0, [.int (nI a), .ref hB])), (hB, .inl (cI, a * 48, .inl f)), (hR, .inr (2, [.ref hM])), (hM, .inl (cI, a, .inl M)), (hw, .inr (1, [.int (b2i O), .int lf, .int us])), (hT, .inl (cI, 32, .inl t))] _ := hP
            have hD : va_D A [(h0, .inr (3, [.ref hd, .ref hR, .ref hw, .ref hT, .int (nI tc), .int (nI nw), .int (nI ol)])), (hd, .inr (0, [.int (nI a), .ref hB])), (hB, .inl (cI, a * 48, .inl f)), (hR, .inr (2, [.ref hM])), (hM, .inl (cI, a, .inl M)), (hw, .inr (1, [.int (b2i O), .int lf, .int us])), (hT, .inl (cI, 32, .inl t))] := hD
            refine lv_istore (lv' := [(7, .int (nth f a (nv (f (v % 8 * 48 + (9 + i)))) j)), (6, .int (nI i)), (5, .int (nI j)), (4, .int (nI (v % 8))), (3, .int (rrd O ol nw (nI v) (nI k))), (0, .ref h0), (1, .int (nI v)), (2, .int (nI k))]) hx hb dX3_next_74 hl (by decide) rfl (fun ls hl => ?_)
            refine lv_iload hx hb dX3_next_76 (lv_at hl 0 rfl) ?_
            refine lv_iconst (v := (-1)) hx hb dX3_next_78 (by decide) ?_
            refine lv_icmp_eq (tgt := 103) hx hb dX3_next_79 (by decide) (fun c79 => ?_) (fun c79 => ?_)
            · skip
              refine lv_iconst (v := 0) hx hb dX3_next_103 (by decide) ?_
              refine lv_istore (lv' := [(5, .int 0), (7, .int (nth f a (nv (f (v % 8 * 48 + (9 + i)))) j)), (6, .int (nI i)), (4, .int (nI (v % 8))), (3, .int (rrd O ol nw (nI v) (nI k))), (0, .ref h0), (1, .int (nI v)), (2, .int (nI k))]) hx hb dX3_next_104 hl (by decide) rfl (fun ls hl => ?_)
              refine lv_iinc (v := nI (i + 1)) (lv' := [(6, .int (nI (i + 1))), (5, .int 0), (7, .int (nth f a (nv (f (v % 8 * 48 + (9 + i)))) j)), (4, .int (nI (v % 8))), (3, .int (rrd O ol nw (nI v) (nI k))), (0, .ref h0), (1, .int (nI v)), (2, .int (nI k))]) hx hb dX3_next_106 hl (k := 2) rfl (nI_add i 1) (by decide) rfl (fun ls hl => ?_)
              refine lv_goto (tgt := 47) hx hb dX3_next_109 (by decide) ?_
              exact ih47 (i + 1) 0 (by omega) (by omega) (by rw [ex]; exact nxt_1 (by omega) c79) (by omega) _ _ hP hD hS ls (lv_sub hl [0, 1, 3, 4, 5, 6, 7] rfl)
            · skip
              refine lv_iload hx hb dX3_next_82 (lv_at hl 0 rfl) ?_
              refine lv_bipush (v := (-4)) hx hb dX3_next_84 (by decide) ?_
              refine lv_icmp_ne (tgt := 94) hx hb dX3_next_86 (by decide) (fun c86 => ?_) (fun c86 => ?_)
              · skip
                refine lv_iload hx hb dX3_next_94 (lv_at hl 1 rfl) ?_
                refine lv_bipush (v := 32) hx hb dX3_next_96 (by decide) ?_
                refine lv_imul hx hb dX3_next_98 ?_
                refine ct_top (y := nI (i * 32)) (pk_mul i 32) ?_
                refine lv_iload hx hb dX3_next_99 (lv_at hl 0 rfl) ?_
                refine lv_iadd hx hb dX3_next_101 ?_
                exact ct_iret hx hb hr hlocks (by unfold sp_next; rw [ifp_t c8, nv_nI (by omega), ifp_t (b2i_n0 c29), nv_nI (by omega), ex]; exact (nxt_t (by omega) c79 c86).symm) (rfl) hP hD hS dX3_next_102
              · skip
                refine lv_bipush (v := (-4)) hx hb dX3_next_89 (by decide) ?_
                refine lv_goto (tgt := 102) hx hb dX3_next_91 (by decide) ?_
                exact ct_iret hx hb hr hlocks (by unfold sp_next; rw [ifp_t c8, nv_nI (by omega), ifp_t (b2i_n0 c29), nv_nI (by omega), ex]; exact (nxt_4 (by omega) c79 c86).symm) (rfl) hP hD hS dX3_next_102
      exact loop47 _ (k / 32) (k % 32) (by omega) (by omega) (rfl) (Nat.lt_succ_self _) _ _ hP hD hS ls (lv_sub hl [0, 1, 2, 3, 4, 5, 6] rfl)
    · skip
      refine lv_bipush (v := (-4)) hx hb dX3_next_32 (by decide) ?_
      exact ct_iret hx hb hr hlocks (by unfold sp_next; rw [ifp_t c8, nv_nI (by omega), ifp_f (b2i_0.mp c29)]) (rfl) hP hD hS dX3_next_34
  · skip
    refine lv_iload_n hx hb dX3_next_11 rfl (lv_at hl 0 rfl) ?_
    exact ct_iret hx hb hr hlocks (by unfold sp_next; rw [ifp_f c8]) (rfl) hP hD hS dX3_next_12
end
