section
-- ===== PART A: goes FIRST, ahead of the names: the tables' words, and 'selects' of the private methods out of them =====
/-- a private method of a class that the tables say can be made, by its rows of tables_1 -/
def lw_okq (q : MethodName × Nat) : Prop := (q.1.cls ≠ "java/lang/invoke/MethodHandle" ∧ q.1.cls ≠ "java/lang/invoke/VarHandle") ∧ Cond.instantiable q.1.cls q.2 ∈ tables_1 ∧ Cond.privateMethod q.1 ∈ tables_1 ∧ Cond.instanceMethod q.1 ∈ tables_1
theorem lw_p0 : lw_okq (⟨"DisplayMap$Text", "append", "(I)Z"⟩, 3) := ⟨⟨by decide +kernel, by decide +kernel⟩, List.mem_of_getElem? (i := 22) (by decide +kernel), List.mem_of_getElem? (i := 219) (by decide +kernel), List.mem_of_getElem? (i := 220) (by decide +kernel)⟩
theorem lw_p1 : lw_okq (⟨"DisplayMap$Text", "readInto", "(LDisplayMap$Sheet;)I"⟩, 3) := ⟨⟨by decide +kernel, by decide +kernel⟩, List.mem_of_getElem? (i := 22) (by decide +kernel), List.mem_of_getElem? (i := 223) (by decide +kernel), List.mem_of_getElem? (i := 224) (by decide +kernel)⟩
theorem lw_p2 : lw_okq (⟨"DisplayMap$Sheet", "clear", "()V"⟩, 13) := ⟨⟨by decide +kernel, by decide +kernel⟩, List.mem_of_getElem? (i := 40) (by decide +kernel), List.mem_of_getElem? (i := 227) (by decide +kernel), List.mem_of_getElem? (i := 228) (by decide +kernel)⟩
theorem lw_p3 : lw_okq (⟨"DisplayMap$Sheet", "setFlow", "(III)V"⟩, 13) := ⟨⟨by decide +kernel, by decide +kernel⟩, List.mem_of_getElem? (i := 40) (by decide +kernel), List.mem_of_getElem? (i := 231) (by decide +kernel), List.mem_of_getElem? (i := 232) (by decide +kernel)⟩
theorem lw_p4 : lw_okq (⟨"DisplayMap$Text", "endOfItem", "(I)I"⟩, 3) := ⟨⟨by decide +kernel, by decide +kernel⟩, List.mem_of_getElem? (i := 22) (by decide +kernel), List.mem_of_getElem? (i := 235) (by decide +kernel), List.mem_of_getElem? (i := 236) (by decide +kernel)⟩
theorem lw_p5 : lw_okq (⟨"DisplayMap$Text", "readItem", "(IILDisplayMap$Sheet;)Z"⟩, 3) := ⟨⟨by decide +kernel, by decide +kernel⟩, List.mem_of_getElem? (i := 22) (by decide +kernel), List.mem_of_getElem? (i := 239) (by decide +kernel), List.mem_of_getElem? (i := 240) (by decide +kernel)⟩
theorem lw_p6 : lw_okq (⟨"DisplayMap$Text", "readSigns", "(IILDisplayMap$Sheet;)Z"⟩, 3) := ⟨⟨by decide +kernel, by decide +kernel⟩, List.mem_of_getElem? (i := 22) (by decide +kernel), List.mem_of_getElem? (i := 243) (by decide +kernel), List.mem_of_getElem? (i := 244) (by decide +kernel)⟩
theorem lw_p7 : lw_okq (⟨"DisplayMap$Sheet", "hasRoom", "()Z"⟩, 13) := ⟨⟨by decide +kernel, by decide +kernel⟩, List.mem_of_getElem? (i := 40) (by decide +kernel), List.mem_of_getElem? (i := 250) (by decide +kernel), List.mem_of_getElem? (i := 251) (by decide +kernel)⟩
theorem lw_p8 : lw_okq (⟨"DisplayMap$Sheet", "putIn", "(II)V"⟩, 13) := ⟨⟨by decide +kernel, by decide +kernel⟩, List.mem_of_getElem? (i := 40) (by decide +kernel), List.mem_of_getElem? (i := 254) (by decide +kernel), List.mem_of_getElem? (i := 255) (by decide +kernel)⟩
theorem lw_p9 : lw_okq (⟨"DisplayMap$Sheet", "hasPlace", "(I)Z"⟩, 13) := ⟨⟨by decide +kernel, by decide +kernel⟩, List.mem_of_getElem? (i := 40) (by decide +kernel), List.mem_of_getElem? (i := 258) (by decide +kernel), List.mem_of_getElem? (i := 259) (by decide +kernel)⟩
theorem lw_p10 : lw_okq (⟨"DisplayMap$Text", "readNumbers", "(II)I"⟩, 3) := ⟨⟨by decide +kernel, by decide +kernel⟩, List.mem_of_getElem? (i := 22) (by decide +kernel), List.mem_of_getElem? (i := 263) (by decide +kernel), List.mem_of_getElem? (i := 264) (by decide +kernel)⟩
theorem lw_p11 : lw_okq (⟨"DisplayMap$Text", "readFold", "(LDisplayMap$Sheet;)Z"⟩, 3) := ⟨⟨by decide +kernel, by decide +kernel⟩, List.mem_of_getElem? (i := 22) (by decide +kernel), List.mem_of_getElem? (i := 267) (by decide +kernel), List.mem_of_getElem? (i := 268) (by decide +kernel)⟩
theorem lw_p12 : lw_okq (⟨"DisplayMap$Sheet", "foldRefusal", "(II)I"⟩, 13) := ⟨⟨by decide +kernel, by decide +kernel⟩, List.mem_of_getElem? (i := 40) (by decide +kernel), List.mem_of_getElem? (i := 271) (by decide +kernel), List.mem_of_getElem? (i := 272) (by decide +kernel)⟩
theorem lw_p13 : lw_okq (⟨"DisplayMap$Sheet", "addFold", "(II)I"⟩, 13) := ⟨⟨by decide +kernel, by decide +kernel⟩, List.mem_of_getElem? (i := 40) (by decide +kernel), List.mem_of_getElem? (i := 275) (by decide +kernel), List.mem_of_getElem? (i := 276) (by decide +kernel)⟩
theorem lw_p14 : lw_okq (⟨"DisplayMap$Text", "readHint", "(LDisplayMap$Sheet;)Z"⟩, 3) := ⟨⟨by decide +kernel, by decide +kernel⟩, List.mem_of_getElem? (i := 22) (by decide +kernel), List.mem_of_getElem? (i := 279) (by decide +kernel), List.mem_of_getElem? (i := 280) (by decide +kernel)⟩
theorem lw_p15 : lw_okq (⟨"DisplayMap$Sheet", "hintRefusal", "(II)I"⟩, 13) := ⟨⟨by decide +kernel, by decide +kernel⟩, List.mem_of_getElem? (i := 40) (by decide +kernel), List.mem_of_getElem? (i := 283) (by decide +kernel), List.mem_of_getElem? (i := 284) (by decide +kernel)⟩
def lw_privs_1 : List (MethodName × Nat) := [(⟨"DisplayMap$Text", "append", "(I)Z"⟩, 3), (⟨"DisplayMap$Text", "readInto", "(LDisplayMap$Sheet;)I"⟩, 3), (⟨"DisplayMap$Sheet", "clear", "()V"⟩, 13), (⟨"DisplayMap$Sheet", "setFlow", "(III)V"⟩, 13), (⟨"DisplayMap$Text", "endOfItem", "(I)I"⟩, 3), (⟨"DisplayMap$Text", "readItem", "(IILDisplayMap$Sheet;)Z"⟩, 3), (⟨"DisplayMap$Text", "readSigns", "(IILDisplayMap$Sheet;)Z"⟩, 3), (⟨"DisplayMap$Sheet", "hasRoom", "()Z"⟩, 13), (⟨"DisplayMap$Sheet", "putIn", "(II)V"⟩, 13), (⟨"DisplayMap$Sheet", "hasPlace", "(I)Z"⟩, 13), (⟨"DisplayMap$Text", "readNumbers", "(II)I"⟩, 3), (⟨"DisplayMap$Text", "readFold", "(LDisplayMap$Sheet;)Z"⟩, 3), (⟨"DisplayMap$Sheet", "foldRefusal", "(II)I"⟩, 13), (⟨"DisplayMap$Sheet", "addFold", "(II)I"⟩, 13), (⟨"DisplayMap$Text", "readHint", "(LDisplayMap$Sheet;)Z"⟩, 3), (⟨"DisplayMap$Sheet", "hintRefusal", "(II)I"⟩, 13)]
theorem lw_r1 : ∀ q ∈ lw_privs_1, lw_okq q := List.forall_mem_cons.mpr ⟨lw_p0, List.forall_mem_cons.mpr ⟨lw_p1, List.forall_mem_cons.mpr ⟨lw_p2, List.forall_mem_cons.mpr ⟨lw_p3, List.forall_mem_cons.mpr ⟨lw_p4, List.forall_mem_cons.mpr ⟨lw_p5, List.forall_mem_cons.mpr ⟨lw_p6, List.forall_mem_cons.mpr ⟨lw_p7, List.forall_mem_cons.mpr ⟨lw_p8, List.forall_mem_cons.mpr ⟨lw_p9, List.forall_mem_cons.mpr ⟨lw_p10, List.forall_mem_cons.mpr ⟨lw_p11, List.forall_mem_cons.mpr ⟨lw_p12, List.forall_mem_cons.mpr ⟨lw_p13, List.forall_mem_cons.mpr ⟨lw_p14, List.forall_mem_cons.mpr ⟨lw_p15, fun _ h => absurd h List.not_mem_nil⟩⟩⟩⟩⟩⟩⟩⟩⟩⟩⟩⟩⟩⟩⟩⟩
theorem lw_p16 : lw_okq (⟨"DisplayMap$Sheet", "hintAt", "(I)I"⟩, 13) := ⟨⟨by decide +kernel, by decide +kernel⟩, List.mem_of_getElem? (i := 40) (by decide +kernel), List.mem_of_getElem? (i := 287) (by decide +kernel), List.mem_of_getElem? (i := 288) (by decide +kernel)⟩
theorem lw_p17 : lw_okq (⟨"DisplayMap$Sheet", "addHint", "(II)I"⟩, 13) := ⟨⟨by decide +kernel, by decide +kernel⟩, List.mem_of_getElem? (i := 40) (by decide +kernel), List.mem_of_getElem? (i := 291) (by decide +kernel), List.mem_of_getElem? (i := 292) (by decide +kernel)⟩
theorem lw_p18 : lw_okq (⟨"DisplayMap$Text", "readFlow", "(LDisplayMap$Sheet;)Z"⟩, 3) := ⟨⟨by decide +kernel, by decide +kernel⟩, List.mem_of_getElem? (i := 22) (by decide +kernel), List.mem_of_getElem? (i := 295) (by decide +kernel), List.mem_of_getElem? (i := 296) (by decide +kernel)⟩
theorem lw_p19 : lw_okq (⟨"DisplayMap$Text", "readTabStep", "(LDisplayMap$Sheet;)Z"⟩, 3) := ⟨⟨by decide +kernel, by decide +kernel⟩, List.mem_of_getElem? (i := 22) (by decide +kernel), List.mem_of_getElem? (i := 303) (by decide +kernel), List.mem_of_getElem? (i := 304) (by decide +kernel)⟩
theorem lw_p20 : lw_okq (⟨"DisplayMap$Screen", "draw", "(LDisplayMap$Sheet;)I"⟩, 10) := ⟨⟨by decide +kernel, by decide +kernel⟩, List.mem_of_getElem? (i := 127) (by decide +kernel), List.mem_of_getElem? (i := 310) (by decide +kernel), List.mem_of_getElem? (i := 311) (by decide +kernel)⟩
theorem lw_p21 : lw_okq (⟨"DisplayMap$Screen", "gather", "(LDisplayMap$Sheet;)V"⟩, 10) := ⟨⟨by decide +kernel, by decide +kernel⟩, List.mem_of_getElem? (i := 127) (by decide +kernel), List.mem_of_getElem? (i := 314) (by decide +kernel), List.mem_of_getElem? (i := 315) (by decide +kernel)⟩
theorem lw_p22 : lw_okq (⟨"DisplayMap$Sheet", "isShown", "(I)Z"⟩, 13) := ⟨⟨by decide +kernel, by decide +kernel⟩, List.mem_of_getElem? (i := 40) (by decide +kernel), List.mem_of_getElem? (i := 318) (by decide +kernel), List.mem_of_getElem? (i := 319) (by decide +kernel)⟩
theorem lw_p23 : lw_okq (⟨"DisplayMap$Sheet", "holderOf", "(I)I"⟩, 13) := ⟨⟨by decide +kernel, by decide +kernel⟩, List.mem_of_getElem? (i := 40) (by decide +kernel), List.mem_of_getElem? (i := 322) (by decide +kernel), List.mem_of_getElem? (i := 323) (by decide +kernel)⟩
theorem lw_p24 : lw_okq (⟨"DisplayMap$Sheet", "shutFoldOf", "(I)I"⟩, 13) := ⟨⟨by decide +kernel, by decide +kernel⟩, List.mem_of_getElem? (i := 40) (by decide +kernel), List.mem_of_getElem? (i := 326) (by decide +kernel), List.mem_of_getElem? (i := 327) (by decide +kernel)⟩
theorem lw_p25 : lw_okq (⟨"DisplayMap$Screen", "addItem", "(III)V"⟩, 10) := ⟨⟨by decide +kernel, by decide +kernel⟩, List.mem_of_getElem? (i := 127) (by decide +kernel), List.mem_of_getElem? (i := 331) (by decide +kernel), List.mem_of_getElem? (i := 332) (by decide +kernel)⟩
theorem lw_p26 : lw_okq (⟨"DisplayMap$Sheet", "signAt", "(I)I"⟩, 13) := ⟨⟨by decide +kernel, by decide +kernel⟩, List.mem_of_getElem? (i := 40) (by decide +kernel), List.mem_of_getElem? (i := 336) (by decide +kernel), List.mem_of_getElem? (i := 337) (by decide +kernel)⟩
theorem lw_p27 : lw_okq (⟨"DisplayMap$Sheet", "hasSign", "(I)Z"⟩, 13) := ⟨⟨by decide +kernel, by decide +kernel⟩, List.mem_of_getElem? (i := 40) (by decide +kernel), List.mem_of_getElem? (i := 340) (by decide +kernel), List.mem_of_getElem? (i := 341) (by decide +kernel)⟩
theorem lw_p28 : lw_okq (⟨"DisplayMap$Screen", "flow", "(LDisplayMap$Sheet;)V"⟩, 10) := ⟨⟨by decide +kernel, by decide +kernel⟩, List.mem_of_getElem? (i := 127) (by decide +kernel), List.mem_of_getElem? (i := 344) (by decide +kernel), List.mem_of_getElem? (i := 345) (by decide +kernel)⟩
theorem lw_p29 : lw_okq (⟨"DisplayMap$Screen", "openRow", "(Z)V"⟩, 10) := ⟨⟨by decide +kernel, by decide +kernel⟩, List.mem_of_getElem? (i := 127) (by decide +kernel), List.mem_of_getElem? (i := 348) (by decide +kernel), List.mem_of_getElem? (i := 349) (by decide +kernel)⟩
theorem lw_p30 : lw_okq (⟨"DisplayMap$Screen", "goesOn", "(LDisplayMap$Sheet;I)Z"⟩, 10) := ⟨⟨by decide +kernel, by decide +kernel⟩, List.mem_of_getElem? (i := 127) (by decide +kernel), List.mem_of_getElem? (i := 352) (by decide +kernel), List.mem_of_getElem? (i := 353) (by decide +kernel)⟩
theorem lw_p31 : lw_okq (⟨"DisplayMap$Screen", "widthOf", "(LDisplayMap$Sheet;I)I"⟩, 10) := ⟨⟨by decide +kernel, by decide +kernel⟩, List.mem_of_getElem? (i := 127) (by decide +kernel), List.mem_of_getElem? (i := 356) (by decide +kernel), List.mem_of_getElem? (i := 357) (by decide +kernel)⟩
def lw_privs_2 : List (MethodName × Nat) := [(⟨"DisplayMap$Sheet", "hintAt", "(I)I"⟩, 13), (⟨"DisplayMap$Sheet", "addHint", "(II)I"⟩, 13), (⟨"DisplayMap$Text", "readFlow", "(LDisplayMap$Sheet;)Z"⟩, 3), (⟨"DisplayMap$Text", "readTabStep", "(LDisplayMap$Sheet;)Z"⟩, 3), (⟨"DisplayMap$Screen", "draw", "(LDisplayMap$Sheet;)I"⟩, 10), (⟨"DisplayMap$Screen", "gather", "(LDisplayMap$Sheet;)V"⟩, 10), (⟨"DisplayMap$Sheet", "isShown", "(I)Z"⟩, 13), (⟨"DisplayMap$Sheet", "holderOf", "(I)I"⟩, 13), (⟨"DisplayMap$Sheet", "shutFoldOf", "(I)I"⟩, 13), (⟨"DisplayMap$Screen", "addItem", "(III)V"⟩, 10), (⟨"DisplayMap$Sheet", "signAt", "(I)I"⟩, 13), (⟨"DisplayMap$Sheet", "hasSign", "(I)Z"⟩, 13), (⟨"DisplayMap$Screen", "flow", "(LDisplayMap$Sheet;)V"⟩, 10), (⟨"DisplayMap$Screen", "openRow", "(Z)V"⟩, 10), (⟨"DisplayMap$Screen", "goesOn", "(LDisplayMap$Sheet;I)Z"⟩, 10), (⟨"DisplayMap$Screen", "widthOf", "(LDisplayMap$Sheet;I)I"⟩, 10)]
theorem lw_r2 : ∀ q ∈ lw_privs_2, lw_okq q := List.forall_mem_cons.mpr ⟨lw_p16, List.forall_mem_cons.mpr ⟨lw_p17, List.forall_mem_cons.mpr ⟨lw_p18, List.forall_mem_cons.mpr ⟨lw_p19, List.forall_mem_cons.mpr ⟨lw_p20, List.forall_mem_cons.mpr ⟨lw_p21, List.forall_mem_cons.mpr ⟨lw_p22, List.forall_mem_cons.mpr ⟨lw_p23, List.forall_mem_cons.mpr ⟨lw_p24, List.forall_mem_cons.mpr ⟨lw_p25, List.forall_mem_cons.mpr ⟨lw_p26, List.forall_mem_cons.mpr ⟨lw_p27, List.forall_mem_cons.mpr ⟨lw_p28, List.forall_mem_cons.mpr ⟨lw_p29, List.forall_mem_cons.mpr ⟨lw_p30, List.forall_mem_cons.mpr ⟨lw_p31, fun _ h => absurd h List.not_mem_nil⟩⟩⟩⟩⟩⟩⟩⟩⟩⟩⟩⟩⟩⟩⟩⟩
theorem lw_p32 : lw_okq (⟨"DisplayMap$Screen", "startsWord", "(I)Z"⟩, 10) := ⟨⟨by decide +kernel, by decide +kernel⟩, List.mem_of_getElem? (i := 127) (by decide +kernel), List.mem_of_getElem? (i := 360) (by decide +kernel), List.mem_of_getElem? (i := 361) (by decide +kernel)⟩
theorem lw_p33 : lw_okq (⟨"DisplayMap$Screen", "isOfWord", "(I)Z"⟩, 10) := ⟨⟨by decide +kernel, by decide +kernel⟩, List.mem_of_getElem? (i := 127) (by decide +kernel), List.mem_of_getElem? (i := 364) (by decide +kernel), List.mem_of_getElem? (i := 365) (by decide +kernel)⟩
theorem lw_p34 : lw_okq (⟨"DisplayMap$Screen", "wordWidth", "(I)I"⟩, 10) := ⟨⟨by decide +kernel, by decide +kernel⟩, List.mem_of_getElem? (i := 127) (by decide +kernel), List.mem_of_getElem? (i := 368) (by decide +kernel), List.mem_of_getElem? (i := 369) (by decide +kernel)⟩
theorem lw_p35 : lw_okq (⟨"DisplayMap$Screen", "closeRow", "()V"⟩, 10) := ⟨⟨by decide +kernel, by decide +kernel⟩, List.mem_of_getElem? (i := 127) (by decide +kernel), List.mem_of_getElem? (i := 372) (by decide +kernel), List.mem_of_getElem? (i := 373) (by decide +kernel)⟩
theorem lw_p36 : lw_okq (⟨"DisplayMap", "startAnew", "(LDisplayMap$Sheet;)V"⟩, 9) := ⟨⟨by decide +kernel, by decide +kernel⟩, List.mem_of_getElem? (i := 14) (by decide +kernel), List.mem_of_getElem? (i := 421) (by decide +kernel), List.mem_of_getElem? (i := 422) (by decide +kernel)⟩
theorem lw_p37 : lw_okq (⟨"DisplayMap$Sheet", "copyFrom", "(LDisplayMap$Sheet;)V"⟩, 13) := ⟨⟨by decide +kernel, by decide +kernel⟩, List.mem_of_getElem? (i := 40) (by decide +kernel), List.mem_of_getElem? (i := 425) (by decide +kernel), List.mem_of_getElem? (i := 426) (by decide +kernel)⟩
theorem lw_p38 : lw_okq (⟨"DisplayMap$Sheet", "hasFold", "(I)Z"⟩, 13) := ⟨⟨by decide +kernel, by decide +kernel⟩, List.mem_of_getElem? (i := 40) (by decide +kernel), List.mem_of_getElem? (i := 442) (by decide +kernel), List.mem_of_getElem? (i := 443) (by decide +kernel)⟩
theorem lw_p39 : lw_okq (⟨"DisplayMap$Sheet", "hasHint", "(I)Z"⟩, 13) := ⟨⟨by decide +kernel, by decide +kernel⟩, List.mem_of_getElem? (i := 40) (by decide +kernel), List.mem_of_getElem? (i := 450) (by decide +kernel), List.mem_of_getElem? (i := 451) (by decide +kernel)⟩
theorem lw_p40 : lw_okq (⟨"DisplayMap$Pile", "push", "(LDisplayMap$Sheet;)V"⟩, 2) := ⟨⟨by decide +kernel, by decide +kernel⟩, List.mem_of_getElem? (i := 107) (by decide +kernel), List.mem_of_getElem? (i := 460) (by decide +kernel), List.mem_of_getElem? (i := 461) (by decide +kernel)⟩
theorem lw_p41 : lw_okq (⟨"DisplayMap$Pile", "isFull", "()Z"⟩, 2) := ⟨⟨by decide +kernel, by decide +kernel⟩, List.mem_of_getElem? (i := 107) (by decide +kernel), List.mem_of_getElem? (i := 464) (by decide +kernel), List.mem_of_getElem? (i := 465) (by decide +kernel)⟩
theorem lw_p42 : lw_okq (⟨"DisplayMap$Pile", "dropLowest", "()V"⟩, 2) := ⟨⟨by decide +kernel, by decide +kernel⟩, List.mem_of_getElem? (i := 107) (by decide +kernel), List.mem_of_getElem? (i := 468) (by decide +kernel), List.mem_of_getElem? (i := 469) (by decide +kernel)⟩
theorem lw_p43 : lw_okq (⟨"DisplayMap", "redraw", "()V"⟩, 9) := ⟨⟨by decide +kernel, by decide +kernel⟩, List.mem_of_getElem? (i := 14) (by decide +kernel), List.mem_of_getElem? (i := 474) (by decide +kernel), List.mem_of_getElem? (i := 475) (by decide +kernel)⟩
theorem lw_p44 : lw_okq (⟨"DisplayMap$Sheet", "takeOut", "(I)V"⟩, 13) := ⟨⟨by decide +kernel, by decide +kernel⟩, List.mem_of_getElem? (i := 40) (by decide +kernel), List.mem_of_getElem? (i := 483) (by decide +kernel), List.mem_of_getElem? (i := 484) (by decide +kernel)⟩
theorem lw_p45 : lw_okq (⟨"DisplayMap$Sheet", "pullFolds", "(I)V"⟩, 13) := ⟨⟨by decide +kernel, by decide +kernel⟩, List.mem_of_getElem? (i := 40) (by decide +kernel), List.mem_of_getElem? (i := 487) (by decide +kernel), List.mem_of_getElem? (i := 488) (by decide +kernel)⟩
theorem lw_p46 : lw_okq (⟨"DisplayMap$Sheet", "dropFold", "(I)V"⟩, 13) := ⟨⟨by decide +kernel, by decide +kernel⟩, List.mem_of_getElem? (i := 40) (by decide +kernel), List.mem_of_getElem? (i := 491) (by decide +kernel), List.mem_of_getElem? (i := 492) (by decide +kernel)⟩
theorem lw_p47 : lw_okq (⟨"DisplayMap$Sheet", "pullHints", "(I)V"⟩, 13) := ⟨⟨by decide +kernel, by decide +kernel⟩, List.mem_of_getElem? (i := 40) (by decide +kernel), List.mem_of_getElem? (i := 496) (by decide +kernel), List.mem_of_getElem? (i := 497) (by decide +kernel)⟩
def lw_privs_3 : List (MethodName × Nat) := [(⟨"DisplayMap$Screen", "startsWord", "(I)Z"⟩, 10), (⟨"DisplayMap$Screen", "isOfWord", "(I)Z"⟩, 10), (⟨"DisplayMap$Screen", "wordWidth", "(I)I"⟩, 10), (⟨"DisplayMap$Screen", "closeRow", "()V"⟩, 10), (⟨"DisplayMap", "startAnew", "(LDisplayMap$Sheet;)V"⟩, 9), (⟨"DisplayMap$Sheet", "copyFrom", "(LDisplayMap$Sheet;)V"⟩, 13), (⟨"DisplayMap$Sheet", "hasFold", "(I)Z"⟩, 13), (⟨"DisplayMap$Sheet", "hasHint", "(I)Z"⟩, 13), (⟨"DisplayMap$Pile", "push", "(LDisplayMap$Sheet;)V"⟩, 2), (⟨"DisplayMap$Pile", "isFull", "()Z"⟩, 2), (⟨"DisplayMap$Pile", "dropLowest", "()V"⟩, 2), (⟨"DisplayMap", "redraw", "()V"⟩, 9), (⟨"DisplayMap$Sheet", "takeOut", "(I)V"⟩, 13), (⟨"DisplayMap$Sheet", "pullFolds", "(I)V"⟩, 13), (⟨"DisplayMap$Sheet", "dropFold", "(I)V"⟩, 13), (⟨"DisplayMap$Sheet", "pullHints", "(I)V"⟩, 13)]
theorem lw_r3 : ∀ q ∈ lw_privs_3, lw_okq q := List.forall_mem_cons.mpr ⟨lw_p32, List.forall_mem_cons.mpr ⟨lw_p33, List.forall_mem_cons.mpr ⟨lw_p34, List.forall_mem_cons.mpr ⟨lw_p35, List.forall_mem_cons.mpr ⟨lw_p36, List.forall_mem_cons.mpr ⟨lw_p37, List.forall_mem_cons.mpr ⟨lw_p38, List.forall_mem_cons.mpr ⟨lw_p39, List.forall_mem_cons.mpr ⟨lw_p40, List.forall_mem_cons.mpr ⟨lw_p41, List.forall_mem_cons.mpr ⟨lw_p42, List.forall_mem_cons.mpr ⟨lw_p43, List.forall_mem_cons.mpr ⟨lw_p44, List.forall_mem_cons.mpr ⟨lw_p45, List.forall_mem_cons.mpr ⟨lw_p46, List.forall_mem_cons.mpr ⟨lw_p47, fun _ h => absurd h List.not_mem_nil⟩⟩⟩⟩⟩⟩⟩⟩⟩⟩⟩⟩⟩⟩⟩⟩
theorem lw_p48 : lw_okq (⟨"DisplayMap$Sheet", "dropHint", "(I)V"⟩, 13) := ⟨⟨by decide +kernel, by decide +kernel⟩, List.mem_of_getElem? (i := 40) (by decide +kernel), List.mem_of_getElem? (i := 500) (by decide +kernel), List.mem_of_getElem? (i := 501) (by decide +kernel)⟩
theorem lw_p49 : lw_okq (⟨"DisplayMap$Sheet", "turn", "(I)V"⟩, 13) := ⟨⟨by decide +kernel, by decide +kernel⟩, List.mem_of_getElem? (i := 40) (by decide +kernel), List.mem_of_getElem? (i := 509) (by decide +kernel), List.mem_of_getElem? (i := 510) (by decide +kernel)⟩
theorem lw_p50 : lw_okq (⟨"DisplayMap$Pile", "popInto", "(LDisplayMap$Sheet;)Z"⟩, 2) := ⟨⟨by decide +kernel, by decide +kernel⟩, List.mem_of_getElem? (i := 107) (by decide +kernel), List.mem_of_getElem? (i := 550) (by decide +kernel), List.mem_of_getElem? (i := 551) (by decide +kernel)⟩
theorem lw_p51 : lw_okq (⟨"DisplayMap", "rowOf", "(I)I"⟩, 9) := ⟨⟨by decide +kernel, by decide +kernel⟩, List.mem_of_getElem? (i := 14) (by decide +kernel), List.mem_of_getElem? (i := 558) (by decide +kernel), List.mem_of_getElem? (i := 559) (by decide +kernel)⟩
theorem lw_p52 : lw_okq (⟨"DisplayMap$Screen", "itemOf", "(I)I"⟩, 10) := ⟨⟨by decide +kernel, by decide +kernel⟩, List.mem_of_getElem? (i := 127) (by decide +kernel), List.mem_of_getElem? (i := 563) (by decide +kernel), List.mem_of_getElem? (i := 564) (by decide +kernel)⟩
theorem lw_p53 : lw_okq (⟨"DisplayMap", "columnOf", "(I)I"⟩, 9) := ⟨⟨by decide +kernel, by decide +kernel⟩, List.mem_of_getElem? (i := 14) (by decide +kernel), List.mem_of_getElem? (i := 567) (by decide +kernel), List.mem_of_getElem? (i := 568) (by decide +kernel)⟩
theorem lw_p54 : lw_okq (⟨"DisplayMap$Screen", "hasRow", "(I)Z"⟩, 10) := ⟨⟨by decide +kernel, by decide +kernel⟩, List.mem_of_getElem? (i := 127) (by decide +kernel), List.mem_of_getElem? (i := 575) (by decide +kernel), List.mem_of_getElem? (i := 576) (by decide +kernel)⟩
theorem lw_p55 : lw_okq (⟨"DisplayMap$Screen", "placeAt", "(III)I"⟩, 10) := ⟨⟨by decide +kernel, by decide +kernel⟩, List.mem_of_getElem? (i := 127) (by decide +kernel), List.mem_of_getElem? (i := 582) (by decide +kernel), List.mem_of_getElem? (i := 583) (by decide +kernel)⟩
theorem lw_p56 : lw_okq (⟨"DisplayMap$Screen", "codeAt", "(II)I"⟩, 10) := ⟨⟨by decide +kernel, by decide +kernel⟩, List.mem_of_getElem? (i := 127) (by decide +kernel), List.mem_of_getElem? (i := 590) (by decide +kernel), List.mem_of_getElem? (i := 591) (by decide +kernel)⟩
theorem lw_p57 : lw_okq (⟨"DisplayMap$Sheet", "nextShown", "(I)I"⟩, 13) := ⟨⟨by decide +kernel, by decide +kernel⟩, List.mem_of_getElem? (i := 40) (by decide +kernel), List.mem_of_getElem? (i := 598) (by decide +kernel), List.mem_of_getElem? (i := 599) (by decide +kernel)⟩
theorem lw_p58 : lw_okq (⟨"DisplayMap$Sheet", "previousShown", "(I)I"⟩, 13) := ⟨⟨by decide +kernel, by decide +kernel⟩, List.mem_of_getElem? (i := 40) (by decide +kernel), List.mem_of_getElem? (i := 603) (by decide +kernel), List.mem_of_getElem? (i := 604) (by decide +kernel)⟩
theorem lw_p59 : lw_okq (⟨"DisplayMap", "acrossTo", "(II)I"⟩, 9) := ⟨⟨by decide +kernel, by decide +kernel⟩, List.mem_of_getElem? (i := 14) (by decide +kernel), List.mem_of_getElem? (i := 607) (by decide +kernel), List.mem_of_getElem? (i := 608) (by decide +kernel)⟩
theorem lw_p60 : lw_okq (⟨"DisplayMap", "firstChanged", "()I"⟩, 9) := ⟨⟨by decide +kernel, by decide +kernel⟩, List.mem_of_getElem? (i := 14) (by decide +kernel), List.mem_of_getElem? (i := 619) (by decide +kernel), List.mem_of_getElem? (i := 620) (by decide +kernel)⟩
theorem lw_p61 : lw_okq (⟨"DisplayMap", "rowsToCompare", "()I"⟩, 9) := ⟨⟨by decide +kernel, by decide +kernel⟩, List.mem_of_getElem? (i := 14) (by decide +kernel), List.mem_of_getElem? (i := 623) (by decide +kernel), List.mem_of_getElem? (i := 624) (by decide +kernel)⟩
theorem lw_p62 : lw_okq (⟨"DisplayMap$Screen", "isRowAsIn", "(LDisplayMap$Screen;I)Z"⟩, 10) := ⟨⟨by decide +kernel, by decide +kernel⟩, List.mem_of_getElem? (i := 127) (by decide +kernel), List.mem_of_getElem? (i := 628) (by decide +kernel), List.mem_of_getElem? (i := 629) (by decide +kernel)⟩
theorem lw_p63 : lw_okq (⟨"DisplayMap$Screen", "seek", "(II)I"⟩, 10) := ⟨⟨by decide +kernel, by decide +kernel⟩, List.mem_of_getElem? (i := 127) (by decide +kernel), List.mem_of_getElem? (i := 633) (by decide +kernel), List.mem_of_getElem? (i := 634) (by decide +kernel)⟩
def lw_privs_4 : List (MethodName × Nat) := [(⟨"DisplayMap$Sheet", "dropHint", "(I)V"⟩, 13), (⟨"DisplayMap$Sheet", "turn", "(I)V"⟩, 13), (⟨"DisplayMap$Pile", "popInto", "(LDisplayMap$Sheet;)Z"⟩, 2), (⟨"DisplayMap", "rowOf", "(I)I"⟩, 9), (⟨"DisplayMap$Screen", "itemOf", "(I)I"⟩, 10), (⟨"DisplayMap", "columnOf", "(I)I"⟩, 9), (⟨"DisplayMap$Screen", "hasRow", "(I)Z"⟩, 10), (⟨"DisplayMap$Screen", "placeAt", "(III)I"⟩, 10), (⟨"DisplayMap$Screen", "codeAt", "(II)I"⟩, 10), (⟨"DisplayMap$Sheet", "nextShown", "(I)I"⟩, 13), (⟨"DisplayMap$Sheet", "previousShown", "(I)I"⟩, 13), (⟨"DisplayMap", "acrossTo", "(II)I"⟩, 9), (⟨"DisplayMap", "firstChanged", "()I"⟩, 9), (⟨"DisplayMap", "rowsToCompare", "()I"⟩, 9), (⟨"DisplayMap$Screen", "isRowAsIn", "(LDisplayMap$Screen;I)Z"⟩, 10), (⟨"DisplayMap$Screen", "seek", "(II)I"⟩, 10)]
theorem lw_r4 : ∀ q ∈ lw_privs_4, lw_okq q := List.forall_mem_cons.mpr ⟨lw_p48, List.forall_mem_cons.mpr ⟨lw_p49, List.forall_mem_cons.mpr ⟨lw_p50, List.forall_mem_cons.mpr ⟨lw_p51, List.forall_mem_cons.mpr ⟨lw_p52, List.forall_mem_cons.mpr ⟨lw_p53, List.forall_mem_cons.mpr ⟨lw_p54, List.forall_mem_cons.mpr ⟨lw_p55, List.forall_mem_cons.mpr ⟨lw_p56, List.forall_mem_cons.mpr ⟨lw_p57, List.forall_mem_cons.mpr ⟨lw_p58, List.forall_mem_cons.mpr ⟨lw_p59, List.forall_mem_cons.mpr ⟨lw_p60, List.forall_mem_cons.mpr ⟨lw_p61, List.forall_mem_cons.mpr ⟨lw_p62, List.forall_mem_cons.mpr ⟨lw_p63, fun _ h => absurd h List.not_mem_nil⟩⟩⟩⟩⟩⟩⟩⟩⟩⟩⟩⟩⟩⟩⟩⟩
theorem lw_p64 : lw_okq (⟨"DisplayMap$Screen", "isItemAsIn", "(LDisplayMap$Screen;II)Z"⟩, 10) := ⟨⟨by decide +kernel, by decide +kernel⟩, List.mem_of_getElem? (i := 127) (by decide +kernel), List.mem_of_getElem? (i := 637) (by decide +kernel), List.mem_of_getElem? (i := 638) (by decide +kernel)⟩
theorem lw_p65 : lw_okq (⟨"DisplayMap", "countChanged", "()I"⟩, 9) := ⟨⟨by decide +kernel, by decide +kernel⟩, List.mem_of_getElem? (i := 14) (by decide +kernel), List.mem_of_getElem? (i := 641) (by decide +kernel), List.mem_of_getElem? (i := 642) (by decide +kernel)⟩
theorem lw_p66 : lw_okq (⟨"DisplayMap", "isTight", "(I)Z"⟩, 9) := ⟨⟨by decide +kernel, by decide +kernel⟩, List.mem_of_getElem? (i := 14) (by decide +kernel), List.mem_of_getElem? (i := 657) (by decide +kernel), List.mem_of_getElem? (i := 658) (by decide +kernel)⟩
theorem lw_p67 : lw_okq (⟨"DisplayMap$Sheet", "live", "(I)V"⟩, 13) := ⟨⟨by decide +kernel, by decide +kernel⟩, List.mem_of_getElem? (i := 40) (by decide +kernel), List.mem_of_getElem? (i := 671) (by decide +kernel), List.mem_of_getElem? (i := 672) (by decide +kernel)⟩
theorem lw_p68 : lw_okq (⟨"DisplayMap$Screen", "longestRow", "()I"⟩, 10) := ⟨⟨by decide +kernel, by decide +kernel⟩, List.mem_of_getElem? (i := 127) (by decide +kernel), List.mem_of_getElem? (i := 681) (by decide +kernel), List.mem_of_getElem? (i := 682) (by decide +kernel)⟩
theorem lw_p69 : lw_okq (⟨"DisplayMapModel", "comesFold", "(III)I"⟩, 41) := ⟨⟨by decide +kernel, by decide +kernel⟩, List.mem_of_getElem? (i := 699) (by decide +kernel), List.mem_of_getElem? (i := 705) (by decide +kernel), List.mem_of_getElem? (i := 706) (by decide +kernel)⟩
theorem lw_p70 : lw_okq (⟨"DisplayMapModel", "comesHint", "(II)I"⟩, 41) := ⟨⟨by decide +kernel, by decide +kernel⟩, List.mem_of_getElem? (i := 699) (by decide +kernel), List.mem_of_getElem? (i := 709) (by decide +kernel), List.mem_of_getElem? (i := 710) (by decide +kernel)⟩
theorem lw_p71 : lw_okq (⟨"DisplayMapModel", "isPlace", "(I)Z"⟩, 41) := ⟨⟨by decide +kernel, by decide +kernel⟩, List.mem_of_getElem? (i := 699) (by decide +kernel), List.mem_of_getElem? (i := 841) (by decide +kernel), List.mem_of_getElem? (i := 842) (by decide +kernel)⟩
theorem lw_p72 : lw_okq (⟨"DisplayMapModel", "isFold", "(I)Z"⟩, 41) := ⟨⟨by decide +kernel, by decide +kernel⟩, List.mem_of_getElem? (i := 699) (by decide +kernel), List.mem_of_getElem? (i := 852) (by decide +kernel), List.mem_of_getElem? (i := 853) (by decide +kernel)⟩
theorem lw_p73 : lw_okq (⟨"DisplayMapModel", "isHint", "(I)Z"⟩, 41) := ⟨⟨by decide +kernel, by decide +kernel⟩, List.mem_of_getElem? (i := 699) (by decide +kernel), List.mem_of_getElem? (i := 860) (by decide +kernel), List.mem_of_getElem? (i := 861) (by decide +kernel)⟩
theorem lw_p74 : lw_okq (⟨"DisplayMapModel", "isShown", "(I)Z"⟩, 41) := ⟨⟨by decide +kernel, by decide +kernel⟩, List.mem_of_getElem? (i := 699) (by decide +kernel), List.mem_of_getElem? (i := 864) (by decide +kernel), List.mem_of_getElem? (i := 865) (by decide +kernel)⟩
theorem lw_p75 : lw_okq (⟨"DisplayMapModel", "shutOf", "(I)I"⟩, 41) := ⟨⟨by decide +kernel, by decide +kernel⟩, List.mem_of_getElem? (i := 699) (by decide +kernel), List.mem_of_getElem? (i := 868) (by decide +kernel), List.mem_of_getElem? (i := 869) (by decide +kernel)⟩
theorem lw_p76 : lw_okq (⟨"DisplayMapModel", "notes", "()V"⟩, 41) := ⟨⟨by decide +kernel, by decide +kernel⟩, List.mem_of_getElem? (i := 699) (by decide +kernel), List.mem_of_getElem? (i := 876) (by decide +kernel), List.mem_of_getElem? (i := 877) (by decide +kernel)⟩
theorem lw_p77 : lw_okq (⟨"DisplayMapModel", "remembers", "()V"⟩, 41) := ⟨⟨by decide +kernel, by decide +kernel⟩, List.mem_of_getElem? (i := 699) (by decide +kernel), List.mem_of_getElem? (i := 880) (by decide +kernel), List.mem_of_getElem? (i := 881) (by decide +kernel)⟩
theorem lw_p78 : lw_okq (⟨"DisplayMapModel", "setScreen", "()V"⟩, 41) := ⟨⟨by decide +kernel, by decide +kernel⟩, List.mem_of_getElem? (i := 699) (by decide +kernel), List.mem_of_getElem? (i := 884) (by decide +kernel), List.mem_of_getElem? (i := 885) (by decide +kernel)⟩
theorem lw_p79 : lw_okq (⟨"DisplayMapModel", "setPieces", "()V"⟩, 41) := ⟨⟨by decide +kernel, by decide +kernel⟩, List.mem_of_getElem? (i := 699) (by decide +kernel), List.mem_of_getElem? (i := 888) (by decide +kernel), List.mem_of_getElem? (i := 889) (by decide +kernel)⟩
def lw_privs_5 : List (MethodName × Nat) := [(⟨"DisplayMap$Screen", "isItemAsIn", "(LDisplayMap$Screen;II)Z"⟩, 10), (⟨"DisplayMap", "countChanged", "()I"⟩, 9), (⟨"DisplayMap", "isTight", "(I)Z"⟩, 9), (⟨"DisplayMap$Sheet", "live", "(I)V"⟩, 13), (⟨"DisplayMap$Screen", "longestRow", "()I"⟩, 10), (⟨"DisplayMapModel", "comesFold", "(III)I"⟩, 41), (⟨"DisplayMapModel", "comesHint", "(II)I"⟩, 41), (⟨"DisplayMapModel", "isPlace", "(I)Z"⟩, 41), (⟨"DisplayMapModel", "isFold", "(I)Z"⟩, 41), (⟨"DisplayMapModel", "isHint", "(I)Z"⟩, 41), (⟨"DisplayMapModel", "isShown", "(I)Z"⟩, 41), (⟨"DisplayMapModel", "shutOf", "(I)I"⟩, 41), (⟨"DisplayMapModel", "notes", "()V"⟩, 41), (⟨"DisplayMapModel", "remembers", "()V"⟩, 41), (⟨"DisplayMapModel", "setScreen", "()V"⟩, 41), (⟨"DisplayMapModel", "setPieces", "()V"⟩, 41)]
theorem lw_r5 : ∀ q ∈ lw_privs_5, lw_okq q := List.forall_mem_cons.mpr ⟨lw_p64, List.forall_mem_cons.mpr ⟨lw_p65, List.forall_mem_cons.mpr ⟨lw_p66, List.forall_mem_cons.mpr ⟨lw_p67, List.forall_mem_cons.mpr ⟨lw_p68, List.forall_mem_cons.mpr ⟨lw_p69, List.forall_mem_cons.mpr ⟨lw_p70, List.forall_mem_cons.mpr ⟨lw_p71, List.forall_mem_cons.mpr ⟨lw_p72, List.forall_mem_cons.mpr ⟨lw_p73, List.forall_mem_cons.mpr ⟨lw_p74, List.forall_mem_cons.mpr ⟨lw_p75, List.forall_mem_cons.mpr ⟨lw_p76, List.forall_mem_cons.mpr ⟨lw_p77, List.forall_mem_cons.mpr ⟨lw_p78, List.forall_mem_cons.mpr ⟨lw_p79, fun _ h => absurd h List.not_mem_nil⟩⟩⟩⟩⟩⟩⟩⟩⟩⟩⟩⟩⟩⟩⟩⟩
theorem lw_p80 : lw_okq (⟨"DisplayMapModel", "hintOf", "(I)I"⟩, 41) := ⟨⟨by decide +kernel, by decide +kernel⟩, List.mem_of_getElem? (i := 699) (by decide +kernel), List.mem_of_getElem? (i := 892) (by decide +kernel), List.mem_of_getElem? (i := 893) (by decide +kernel)⟩
theorem lw_p81 : lw_okq (⟨"DisplayMapModel", "comesPiece", "(III)V"⟩, 41) := ⟨⟨by decide +kernel, by decide +kernel⟩, List.mem_of_getElem? (i := 699) (by decide +kernel), List.mem_of_getElem? (i := 896) (by decide +kernel), List.mem_of_getElem? (i := 897) (by decide +kernel)⟩
theorem lw_p82 : lw_okq (⟨"DisplayMapModel", "toStop", "(I)I"⟩, 41) := ⟨⟨by decide +kernel, by decide +kernel⟩, List.mem_of_getElem? (i := 699) (by decide +kernel), List.mem_of_getElem? (i := 900) (by decide +kernel), List.mem_of_getElem? (i := 901) (by decide +kernel)⟩
theorem lw_p83 : lw_okq (⟨"DisplayMapModel", "goesOn", "(II)Z"⟩, 41) := ⟨⟨by decide +kernel, by decide +kernel⟩, List.mem_of_getElem? (i := 699) (by decide +kernel), List.mem_of_getElem? (i := 904) (by decide +kernel), List.mem_of_getElem? (i := 905) (by decide +kernel)⟩
theorem lw_p84 : lw_okq (⟨"DisplayMapModel", "isWord", "(I)Z"⟩, 41) := ⟨⟨by decide +kernel, by decide +kernel⟩, List.mem_of_getElem? (i := 699) (by decide +kernel), List.mem_of_getElem? (i := 908) (by decide +kernel), List.mem_of_getElem? (i := 909) (by decide +kernel)⟩
theorem lw_p85 : lw_okq (⟨"DisplayMapModel", "wordFrom", "(I)I"⟩, 41) := ⟨⟨by decide +kernel, by decide +kernel⟩, List.mem_of_getElem? (i := 699) (by decide +kernel), List.mem_of_getElem? (i := 912) (by decide +kernel), List.mem_of_getElem? (i := 913) (by decide +kernel)⟩
theorem lw_p86 : lw_okq (⟨"DisplayMapModel", "lays", "([II)V"⟩, 41) := ⟨⟨by decide +kernel, by decide +kernel⟩, List.mem_of_getElem? (i := 699) (by decide +kernel), List.mem_of_getElem? (i := 916) (by decide +kernel), List.mem_of_getElem? (i := 917) (by decide +kernel)⟩
theorem lw_p87 : lw_okq (⟨"DisplayMapModel", "putsIn", "(II)V"⟩, 41) := ⟨⟨by decide +kernel, by decide +kernel⟩, List.mem_of_getElem? (i := 699) (by decide +kernel), List.mem_of_getElem? (i := 920) (by decide +kernel), List.mem_of_getElem? (i := 921) (by decide +kernel)⟩
theorem lw_p88 : lw_okq (⟨"DisplayMapModel", "isSign", "(I)Z"⟩, 41) := ⟨⟨by decide +kernel, by decide +kernel⟩, List.mem_of_getElem? (i := 699) (by decide +kernel), List.mem_of_getElem? (i := 928) (by decide +kernel), List.mem_of_getElem? (i := 929) (by decide +kernel)⟩
theorem lw_p89 : lw_okq (⟨"DisplayMapModel", "takesOut", "(I)V"⟩, 41) := ⟨⟨by decide +kernel, by decide +kernel⟩, List.mem_of_getElem? (i := 699) (by decide +kernel), List.mem_of_getElem? (i := 932) (by decide +kernel), List.mem_of_getElem? (i := 933) (by decide +kernel)⟩
theorem lw_p90 : lw_okq (⟨"DisplayMapModel", "goesFold", "(I)V"⟩, 41) := ⟨⟨by decide +kernel, by decide +kernel⟩, List.mem_of_getElem? (i := 699) (by decide +kernel), List.mem_of_getElem? (i := 936) (by decide +kernel), List.mem_of_getElem? (i := 937) (by decide +kernel)⟩
theorem lw_p91 : lw_okq (⟨"DisplayMapModel", "goesHint", "(I)V"⟩, 41) := ⟨⟨by decide +kernel, by decide +kernel⟩, List.mem_of_getElem? (i := 699) (by decide +kernel), List.mem_of_getElem? (i := 940) (by decide +kernel), List.mem_of_getElem? (i := 941) (by decide +kernel)⟩
theorem lw_p92 : lw_okq (⟨"DisplayMapModel", "isApart", "(II)Z"⟩, 41) := ⟨⟨by decide +kernel, by decide +kernel⟩, List.mem_of_getElem? (i := 699) (by decide +kernel), List.mem_of_getElem? (i := 952) (by decide +kernel), List.mem_of_getElem? (i := 953) (by decide +kernel)⟩
theorem lw_p93 : lw_okq (⟨"DisplayMapModel", "takes", "([II)V"⟩, 41) := ⟨⟨by decide +kernel, by decide +kernel⟩, List.mem_of_getElem? (i := 699) (by decide +kernel), List.mem_of_getElem? (i := 983) (by decide +kernel), List.mem_of_getElem? (i := 984) (by decide +kernel)⟩
theorem lw_p94 : lw_okq (⟨"DisplayMapModel", "pieceOf", "(I)I"⟩, 41) := ⟨⟨by decide +kernel, by decide +kernel⟩, List.mem_of_getElem? (i := 699) (by decide +kernel), List.mem_of_getElem? (i := 999) (by decide +kernel), List.mem_of_getElem? (i := 1000) (by decide +kernel)⟩
theorem lw_p95 : lw_okq (⟨"DisplayMapModel", "isRow", "(I)Z"⟩, 41) := ⟨⟨by decide +kernel, by decide +kernel⟩, List.mem_of_getElem? (i := 699) (by decide +kernel), List.mem_of_getElem? (i := 1007) (by decide +kernel), List.mem_of_getElem? (i := 1008) (by decide +kernel)⟩
def lw_privs_6 : List (MethodName × Nat) := [(⟨"DisplayMapModel", "hintOf", "(I)I"⟩, 41), (⟨"DisplayMapModel", "comesPiece", "(III)V"⟩, 41), (⟨"DisplayMapModel", "toStop", "(I)I"⟩, 41), (⟨"DisplayMapModel", "goesOn", "(II)Z"⟩, 41), (⟨"DisplayMapModel", "isWord", "(I)Z"⟩, 41), (⟨"DisplayMapModel", "wordFrom", "(I)I"⟩, 41), (⟨"DisplayMapModel", "lays", "([II)V"⟩, 41), (⟨"DisplayMapModel", "putsIn", "(II)V"⟩, 41), (⟨"DisplayMapModel", "isSign", "(I)Z"⟩, 41), (⟨"DisplayMapModel", "takesOut", "(I)V"⟩, 41), (⟨"DisplayMapModel", "goesFold", "(I)V"⟩, 41), (⟨"DisplayMapModel", "goesHint", "(I)V"⟩, 41), (⟨"DisplayMapModel", "isApart", "(II)Z"⟩, 41), (⟨"DisplayMapModel", "takes", "([II)V"⟩, 41), (⟨"DisplayMapModel", "pieceOf", "(I)I"⟩, 41), (⟨"DisplayMapModel", "isRow", "(I)Z"⟩, 41)]
theorem lw_r6 : ∀ q ∈ lw_privs_6, lw_okq q := List.forall_mem_cons.mpr ⟨lw_p80, List.forall_mem_cons.mpr ⟨lw_p81, List.forall_mem_cons.mpr ⟨lw_p82, List.forall_mem_cons.mpr ⟨lw_p83, List.forall_mem_cons.mpr ⟨lw_p84, List.forall_mem_cons.mpr ⟨lw_p85, List.forall_mem_cons.mpr ⟨lw_p86, List.forall_mem_cons.mpr ⟨lw_p87, List.forall_mem_cons.mpr ⟨lw_p88, List.forall_mem_cons.mpr ⟨lw_p89, List.forall_mem_cons.mpr ⟨lw_p90, List.forall_mem_cons.mpr ⟨lw_p91, List.forall_mem_cons.mpr ⟨lw_p92, List.forall_mem_cons.mpr ⟨lw_p93, List.forall_mem_cons.mpr ⟨lw_p94, List.forall_mem_cons.mpr ⟨lw_p95, fun _ h => absurd h List.not_mem_nil⟩⟩⟩⟩⟩⟩⟩⟩⟩⟩⟩⟩⟩⟩⟩⟩
theorem lw_p96 : lw_okq (⟨"DisplayMapModel", "placeAt", "(II)I"⟩, 41) := ⟨⟨by decide +kernel, by decide +kernel⟩, List.mem_of_getElem? (i := 699) (by decide +kernel), List.mem_of_getElem? (i := 1011) (by decide +kernel), List.mem_of_getElem? (i := 1012) (by decide +kernel)⟩
theorem lw_p97 : lw_okq (⟨"DisplayMapModel", "pieceAt", "(II)I"⟩, 41) := ⟨⟨by decide +kernel, by decide +kernel⟩, List.mem_of_getElem? (i := 699) (by decide +kernel), List.mem_of_getElem? (i := 1015) (by decide +kernel), List.mem_of_getElem? (i := 1016) (by decide +kernel)⟩
theorem lw_p98 : lw_okq (⟨"DisplayMapModel", "isChanged", "(I)Z"⟩, 41) := ⟨⟨by decide +kernel, by decide +kernel⟩, List.mem_of_getElem? (i := 699) (by decide +kernel), List.mem_of_getElem? (i := 1035) (by decide +kernel), List.mem_of_getElem? (i := 1036) (by decide +kernel)⟩
theorem lw_p99 : lw_okq (⟨"DisplayMapModel", "nowMany", "(I)I"⟩, 41) := ⟨⟨by decide +kernel, by decide +kernel⟩, List.mem_of_getElem? (i := 699) (by decide +kernel), List.mem_of_getElem? (i := 1039) (by decide +kernel), List.mem_of_getElem? (i := 1040) (by decide +kernel)⟩
theorem lw_p100 : lw_okq (⟨"DisplayMapModel", "wereMany", "(I)I"⟩, 41) := ⟨⟨by decide +kernel, by decide +kernel⟩, List.mem_of_getElem? (i := 699) (by decide +kernel), List.mem_of_getElem? (i := 1043) (by decide +kernel), List.mem_of_getElem? (i := 1044) (by decide +kernel)⟩
theorem lw_p101 : lw_okq (⟨"DisplayMapModel", "stood", "(I)Z"⟩, 41) := ⟨⟨by decide +kernel, by decide +kernel⟩, List.mem_of_getElem? (i := 699) (by decide +kernel), List.mem_of_getElem? (i := 1047) (by decide +kernel), List.mem_of_getElem? (i := 1048) (by decide +kernel)⟩
theorem lw_p102 : lw_okq (⟨"DisplayMapModel", "rows", "()I"⟩, 41) := ⟨⟨by decide +kernel, by decide +kernel⟩, List.mem_of_getElem? (i := 699) (by decide +kernel), List.mem_of_getElem? (i := 1055) (by decide +kernel), List.mem_of_getElem? (i := 1056) (by decide +kernel)⟩
theorem lw_p103 : lw_okq (⟨"DisplayMapModel", "isTight", "(II)Z"⟩, 41) := ⟨⟨by decide +kernel, by decide +kernel⟩, List.mem_of_getElem? (i := 699) (by decide +kernel), List.mem_of_getElem? (i := 1068) (by decide +kernel), List.mem_of_getElem? (i := 1069) (by decide +kernel)⟩
theorem lw_p104 : lw_okq (⟨"DisplayMapModel", "turns", "(I)V"⟩, 41) := ⟨⟨by decide +kernel, by decide +kernel⟩, List.mem_of_getElem? (i := 699) (by decide +kernel), List.mem_of_getElem? (i := 1079) (by decide +kernel), List.mem_of_getElem? (i := 1080) (by decide +kernel)⟩
theorem lw_p105 : lw_okq (⟨"DisplayMapModel", "longest", "()I"⟩, 41) := ⟨⟨by decide +kernel, by decide +kernel⟩, List.mem_of_getElem? (i := 699) (by decide +kernel), List.mem_of_getElem? (i := 1083) (by decide +kernel), List.mem_of_getElem? (i := 1084) (by decide +kernel)⟩
theorem lw_p106 : lw_okq (⟨"DisplayMapModel", "readsAll", "()I"⟩, 41) := ⟨⟨by decide +kernel, by decide +kernel⟩, List.mem_of_getElem? (i := 699) (by decide +kernel), List.mem_of_getElem? (i := 1103) (by decide +kernel), List.mem_of_getElem? (i := 1104) (by decide +kernel)⟩
theorem lw_p107 : lw_okq (⟨"DisplayMapModel", "readsItem", "(Z)Z"⟩, 41) := ⟨⟨by decide +kernel, by decide +kernel⟩, List.mem_of_getElem? (i := 699) (by decide +kernel), List.mem_of_getElem? (i := 1107) (by decide +kernel), List.mem_of_getElem? (i := 1108) (by decide +kernel)⟩
theorem lw_p108 : lw_okq (⟨"DisplayMapModel", "here", "()I"⟩, 41) := ⟨⟨by decide +kernel, by decide +kernel⟩, List.mem_of_getElem? (i := 699) (by decide +kernel), List.mem_of_getElem? (i := 1111) (by decide +kernel), List.mem_of_getElem? (i := 1112) (by decide +kernel)⟩
theorem lw_p109 : lw_okq (⟨"DisplayMapModel", "readsSigns", "()Z"⟩, 41) := ⟨⟨by decide +kernel, by decide +kernel⟩, List.mem_of_getElem? (i := 699) (by decide +kernel), List.mem_of_getElem? (i := 1115) (by decide +kernel), List.mem_of_getElem? (i := 1116) (by decide +kernel)⟩
theorem lw_p110 : lw_okq (⟨"DisplayMapModel", "readsFold", "()Z"⟩, 41) := ⟨⟨by decide +kernel, by decide +kernel⟩, List.mem_of_getElem? (i := 699) (by decide +kernel), List.mem_of_getElem? (i := 1119) (by decide +kernel), List.mem_of_getElem? (i := 1120) (by decide +kernel)⟩
theorem lw_p111 : lw_okq (⟨"DisplayMapModel", "number", "(III)Z"⟩, 41) := ⟨⟨by decide +kernel, by decide +kernel⟩, List.mem_of_getElem? (i := 699) (by decide +kernel), List.mem_of_getElem? (i := 1123) (by decide +kernel), List.mem_of_getElem? (i := 1124) (by decide +kernel)⟩
def lw_privs_7 : List (MethodName × Nat) := [(⟨"DisplayMapModel", "placeAt", "(II)I"⟩, 41), (⟨"DisplayMapModel", "pieceAt", "(II)I"⟩, 41), (⟨"DisplayMapModel", "isChanged", "(I)Z"⟩, 41), (⟨"DisplayMapModel", "nowMany", "(I)I"⟩, 41), (⟨"DisplayMapModel", "wereMany", "(I)I"⟩, 41), (⟨"DisplayMapModel", "stood", "(I)Z"⟩, 41), (⟨"DisplayMapModel", "rows", "()I"⟩, 41), (⟨"DisplayMapModel", "isTight", "(II)Z"⟩, 41), (⟨"DisplayMapModel", "turns", "(I)V"⟩, 41), (⟨"DisplayMapModel", "longest", "()I"⟩, 41), (⟨"DisplayMapModel", "readsAll", "()I"⟩, 41), (⟨"DisplayMapModel", "readsItem", "(Z)Z"⟩, 41), (⟨"DisplayMapModel", "here", "()I"⟩, 41), (⟨"DisplayMapModel", "readsSigns", "()Z"⟩, 41), (⟨"DisplayMapModel", "readsFold", "()Z"⟩, 41), (⟨"DisplayMapModel", "number", "(III)Z"⟩, 41)]
theorem lw_r7 : ∀ q ∈ lw_privs_7, lw_okq q := List.forall_mem_cons.mpr ⟨lw_p96, List.forall_mem_cons.mpr ⟨lw_p97, List.forall_mem_cons.mpr ⟨lw_p98, List.forall_mem_cons.mpr ⟨lw_p99, List.forall_mem_cons.mpr ⟨lw_p100, List.forall_mem_cons.mpr ⟨lw_p101, List.forall_mem_cons.mpr ⟨lw_p102, List.forall_mem_cons.mpr ⟨lw_p103, List.forall_mem_cons.mpr ⟨lw_p104, List.forall_mem_cons.mpr ⟨lw_p105, List.forall_mem_cons.mpr ⟨lw_p106, List.forall_mem_cons.mpr ⟨lw_p107, List.forall_mem_cons.mpr ⟨lw_p108, List.forall_mem_cons.mpr ⟨lw_p109, List.forall_mem_cons.mpr ⟨lw_p110, List.forall_mem_cons.mpr ⟨lw_p111, fun _ h => absurd h List.not_mem_nil⟩⟩⟩⟩⟩⟩⟩⟩⟩⟩⟩⟩⟩⟩⟩⟩
theorem lw_p112 : lw_okq (⟨"DisplayMapModel", "isFigure", "()Z"⟩, 41) := ⟨⟨by decide +kernel, by decide +kernel⟩, List.mem_of_getElem? (i := 699) (by decide +kernel), List.mem_of_getElem? (i := 1127) (by decide +kernel), List.mem_of_getElem? (i := 1128) (by decide +kernel)⟩
theorem lw_p113 : lw_okq (⟨"DisplayMapModel", "readsHint", "()Z"⟩, 41) := ⟨⟨by decide +kernel, by decide +kernel⟩, List.mem_of_getElem? (i := 699) (by decide +kernel), List.mem_of_getElem? (i := 1131) (by decide +kernel), List.mem_of_getElem? (i := 1132) (by decide +kernel)⟩
theorem lw_p114 : lw_okq (⟨"DisplayMapModel", "readsWide", "()Z"⟩, 41) := ⟨⟨by decide +kernel, by decide +kernel⟩, List.mem_of_getElem? (i := 699) (by decide +kernel), List.mem_of_getElem? (i := 1135) (by decide +kernel), List.mem_of_getElem? (i := 1136) (by decide +kernel)⟩
theorem lw_p115 : lw_okq (⟨"DisplayMapModel", "readsTabs", "()Z"⟩, 41) := ⟨⟨by decide +kernel, by decide +kernel⟩, List.mem_of_getElem? (i := 699) (by decide +kernel), List.mem_of_getElem? (i := 1139) (by decide +kernel), List.mem_of_getElem? (i := 1140) (by decide +kernel)⟩
def lw_privs_8 : List (MethodName × Nat) := [(⟨"DisplayMapModel", "isFigure", "()Z"⟩, 41), (⟨"DisplayMapModel", "readsHint", "()Z"⟩, 41), (⟨"DisplayMapModel", "readsWide", "()Z"⟩, 41), (⟨"DisplayMapModel", "readsTabs", "()Z"⟩, 41)]
theorem lw_r8 : ∀ q ∈ lw_privs_8, lw_okq q := List.forall_mem_cons.mpr ⟨lw_p112, List.forall_mem_cons.mpr ⟨lw_p113, List.forall_mem_cons.mpr ⟨lw_p114, List.forall_mem_cons.mpr ⟨lw_p115, fun _ h => absurd h List.not_mem_nil⟩⟩⟩⟩
def lw_privs : List (MethodName × Nat) := lw_privs_1 ++ (lw_privs_2 ++ (lw_privs_3 ++ (lw_privs_4 ++ (lw_privs_5 ++ (lw_privs_6 ++ (lw_privs_7 ++ (lw_privs_8)))))))
def lw_tbl : List Cond := k2_sels lw_privs ++ tables_1
theorem lw_privs_ok : ∀ q ∈ lw_privs, lw_okq q := by
  show ∀ q ∈ lw_privs_1 ++ (lw_privs_2 ++ (lw_privs_3 ++ (lw_privs_4 ++ (lw_privs_5 ++ (lw_privs_6 ++ (lw_privs_7 ++ (lw_privs_8))))))), lw_okq q
  exact List.forall_mem_append.mpr ⟨lw_r1, List.forall_mem_append.mpr ⟨lw_r2, List.forall_mem_append.mpr ⟨lw_r3, List.forall_mem_append.mpr ⟨lw_r4, List.forall_mem_append.mpr ⟨lw_r5, List.forall_mem_append.mpr ⟨lw_r6, List.forall_mem_append.mpr ⟨lw_r7, lw_r8⟩⟩⟩⟩⟩⟩⟩
end
section
def RX0 : String := "DisplayMap$Pile"
def TX0 : u_T := fun k => match k with
  | 0 => ("DisplayMap$Pile", "sheets", "[LDisplayMap$Sheet;", true)
  | _ => ("DisplayMap$Pile", "count", "I", false)
def tyX0 : Nat → FieldType := fun k => match k with
  | 0 => .array (.object "DisplayMap$Sheet")
  | _ => .int
abbrev wsX00 : List Cond := u_ws RX0 TX0 2
theorem nmX0 : ∀ a, a < 2 → ∀ b, b < 2 → a ≠ b → (TX0 a).2.1 ≠ (TX0 b).2.1 := by decide +kernel
theorem tyX0_ok : ∀ k, k < 2 → parseFieldDescriptor (TX0 k).2.2.1 = some (tyX0 k) := by decide +kernel
abbrev cX0_init : ByteArray := prog_2_method_1_code
def yX0_init : MethodName := ⟨RX0, "<init>", "(I)V"⟩
abbrev cX0_isFull : ByteArray := prog_2_method_2_code
def yX0_isFull : MethodName := ⟨RX0, "isFull", "()Z"⟩
abbrev cX0_push : ByteArray := prog_2_method_3_code
def yX0_push : MethodName := ⟨RX0, "push", "(LDisplayMap$Sheet;)V"⟩
abbrev cX0_dropLowest : ByteArray := prog_2_method_4_code
def yX0_dropLowest : MethodName := ⟨RX0, "dropLowest", "()V"⟩
abbrev cX0_popInto : ByteArray := prog_2_method_5_code
def yX0_popInto : MethodName := ⟨RX0, "popInto", "(LDisplayMap$Sheet;)Z"⟩
def RX1 : String := "DisplayMap$Screen"
def TX1 : u_T := fun k => match k with
  | 0 => ("DisplayMap$Screen", "codes", "[I", true)
  | 1 => ("DisplayMap$Screen", "places", "[I", true)
  | 2 => ("DisplayMap$Screen", "rows", "[I", true)
  | 3 => ("DisplayMap$Screen", "columns", "[I", true)
  | 4 => ("DisplayMap$Screen", "widths", "[I", true)
  | 5 => ("DisplayMap$Screen", "itemCount", "I", false)
  | 6 => ("DisplayMap$Screen", "rowEnds", "[I", true)
  | 7 => ("DisplayMap$Screen", "lineStarts", "[Z", true)
  | 8 => ("DisplayMap$Screen", "rowCount", "I", false)
  | _ => ("DisplayMap$Screen", "lastColumn", "I", false)
def tyX1 : Nat → FieldType := fun k => match k with
  | 0 => .array .int
  | 1 => .array .int
  | 2 => .array .int
  | 3 => .array .int
  | 4 => .array .int
  | 5 => .int
  | 6 => .array .int
  | 7 => .array .boolean
  | 8 => .int
  | _ => .int
abbrev wsX10 : List Cond := u_ws RX1 TX1 10
theorem nmX1 : ∀ a, a < 10 → ∀ b, b < 10 → a ≠ b → (TX1 a).2.1 ≠ (TX1 b).2.1 := by decide +kernel
theorem tyX1_ok : ∀ k, k < 10 → parseFieldDescriptor (TX1 k).2.2.1 = some (tyX1 k) := by decide +kernel
abbrev cX1_init : ByteArray := prog_3_method_1_code
def yX1_init : MethodName := ⟨RX1, "<init>", "()V"⟩
abbrev cX1_draw : ByteArray := prog_3_method_2_code
def yX1_draw : MethodName := ⟨RX1, "draw", "(LDisplayMap$Sheet;)I"⟩
abbrev cX1_gather : ByteArray := prog_3_method_3_code
def yX1_gather : MethodName := ⟨RX1, "gather", "(LDisplayMap$Sheet;)V"⟩
abbrev cX1_addItem : ByteArray := prog_3_method_4_code
def yX1_addItem : MethodName := ⟨RX1, "addItem", "(III)V"⟩
abbrev cX1_flow : ByteArray := prog_3_method_5_code
def yX1_flow : MethodName := ⟨RX1, "flow", "(LDisplayMap$Sheet;)V"⟩
abbrev cX1_openRow : ByteArray := prog_3_method_6_code
def yX1_openRow : MethodName := ⟨RX1, "openRow", "(Z)V"⟩
abbrev cX1_closeRow : ByteArray := prog_3_method_7_code
def yX1_closeRow : MethodName := ⟨RX1, "closeRow", "()V"⟩
abbrev cX1_goesOn : ByteArray := prog_3_method_8_code
def yX1_goesOn : MethodName := ⟨RX1, "goesOn", "(LDisplayMap$Sheet;I)Z"⟩
abbrev cX1_widthOf : ByteArray := prog_3_method_9_code
def yX1_widthOf : MethodName := ⟨RX1, "widthOf", "(LDisplayMap$Sheet;I)I"⟩
abbrev cX1_isOfWord : ByteArray := prog_3_method_10_code
def yX1_isOfWord : MethodName := ⟨RX1, "isOfWord", "(I)Z"⟩
abbrev cX1_startsWord : ByteArray := prog_3_method_11_code
def yX1_startsWord : MethodName := ⟨RX1, "startsWord", "(I)Z"⟩
abbrev cX1_wordWidth : ByteArray := prog_3_method_12_code
def yX1_wordWidth : MethodName := ⟨RX1, "wordWidth", "(I)I"⟩
abbrev cX1_hasRow : ByteArray := prog_3_method_13_code
def yX1_hasRow : MethodName := ⟨RX1, "hasRow", "(I)Z"⟩
abbrev cX1_longestRow : ByteArray := prog_3_method_14_code
def yX1_longestRow : MethodName := ⟨RX1, "longestRow", "()I"⟩
abbrev cX1_itemOf : ByteArray := prog_3_method_15_code
def yX1_itemOf : MethodName := ⟨RX1, "itemOf", "(I)I"⟩
abbrev cX1_placeAt : ByteArray := prog_3_method_16_code
def yX1_placeAt : MethodName := ⟨RX1, "placeAt", "(III)I"⟩
abbrev cX1_codeAt : ByteArray := prog_3_method_17_code
def yX1_codeAt : MethodName := ⟨RX1, "codeAt", "(II)I"⟩
abbrev cX1_isRowAsIn : ByteArray := prog_3_method_18_code
def yX1_isRowAsIn : MethodName := ⟨RX1, "isRowAsIn", "(LDisplayMap$Screen;I)Z"⟩
abbrev cX1_seek : ByteArray := prog_3_method_19_code
def yX1_seek : MethodName := ⟨RX1, "seek", "(II)I"⟩
abbrev cX1_isItemAsIn : ByteArray := prog_3_method_20_code
def yX1_isItemAsIn : MethodName := ⟨RX1, "isItemAsIn", "(LDisplayMap$Screen;II)Z"⟩
def RX2 : String := "DisplayMap$Sheet"
def TX2 : u_T := fun k => match k with
  | 0 => ("DisplayMap$Sheet", "signs", "[I", true)
  | 1 => ("DisplayMap$Sheet", "signCount", "I", false)
  | 2 => ("DisplayMap$Sheet", "foldFrom", "[I", true)
  | 3 => ("DisplayMap$Sheet", "foldTo", "[I", true)
  | 4 => ("DisplayMap$Sheet", "foldShut", "[Z", true)
  | 5 => ("DisplayMap$Sheet", "foldCount", "I", false)
  | 6 => ("DisplayMap$Sheet", "hintPlace", "[I", true)
  | 7 => ("DisplayMap$Sheet", "hintWide", "[I", true)
  | 8 => ("DisplayMap$Sheet", "hintCount", "I", false)
  | 9 => ("DisplayMap$Sheet", "mode", "I", false)
  | 10 => ("DisplayMap$Sheet", "width", "I", false)
  | 11 => ("DisplayMap$Sheet", "indent", "I", false)
  | _ => ("DisplayMap$Sheet", "tabStep", "I", false)
def tyX2 : Nat → FieldType := fun k => match k with
  | 0 => .array .int
  | 1 => .int
  | 2 => .array .int
  | 3 => .array .int
  | 4 => .array .boolean
  | 5 => .int
  | 6 => .array .int
  | 7 => .array .int
  | 8 => .int
  | 9 => .int
  | 10 => .int
  | 11 => .int
  | _ => .int
abbrev wsX20 : List Cond := u_ws RX2 TX2 13
theorem nmX2 : ∀ a, a < 13 → ∀ b, b < 13 → a ≠ b → (TX2 a).2.1 ≠ (TX2 b).2.1 := by decide +kernel
theorem tyX2_ok : ∀ k, k < 13 → parseFieldDescriptor (TX2 k).2.2.1 = some (tyX2 k) := by decide +kernel
abbrev cX2_init : ByteArray := prog_4_method_1_code
def yX2_init : MethodName := ⟨RX2, "<init>", "()V"⟩
abbrev cX2_clear : ByteArray := prog_4_method_2_code
def yX2_clear : MethodName := ⟨RX2, "clear", "()V"⟩
abbrev cX2_copyFrom : ByteArray := prog_4_method_3_code
def yX2_copyFrom : MethodName := ⟨RX2, "copyFrom", "(LDisplayMap$Sheet;)V"⟩
abbrev cX2_isFlow : ByteArray := prog_4_method_4_code
def yX2_isFlow : MethodName := ⟨RX2, "isFlow", "(III)Z"⟩
abbrev cX2_setFlow : ByteArray := prog_4_method_5_code
def yX2_setFlow : MethodName := ⟨RX2, "setFlow", "(III)V"⟩
abbrev cX2_isTabStep : ByteArray := prog_4_method_6_code
def yX2_isTabStep : MethodName := ⟨RX2, "isTabStep", "(I)Z"⟩
abbrev cX2_hasPlace : ByteArray := prog_4_method_7_code
def yX2_hasPlace : MethodName := ⟨RX2, "hasPlace", "(I)Z"⟩
abbrev cX2_hasSign : ByteArray := prog_4_method_8_code
def yX2_hasSign : MethodName := ⟨RX2, "hasSign", "(I)Z"⟩
abbrev cX2_hasFold : ByteArray := prog_4_method_9_code
def yX2_hasFold : MethodName := ⟨RX2, "hasFold", "(I)Z"⟩
abbrev cX2_hasHint : ByteArray := prog_4_method_10_code
def yX2_hasHint : MethodName := ⟨RX2, "hasHint", "(I)Z"⟩
abbrev cX2_hasRoom : ByteArray := prog_4_method_11_code
def yX2_hasRoom : MethodName := ⟨RX2, "hasRoom", "()Z"⟩
abbrev cX2_signAt : ByteArray := prog_4_method_12_code
def yX2_signAt : MethodName := ⟨RX2, "signAt", "(I)I"⟩
abbrev cX2_putIn : ByteArray := prog_4_method_13_code
def yX2_putIn : MethodName := ⟨RX2, "putIn", "(II)V"⟩
abbrev cX2_takeOut : ByteArray := prog_4_method_14_code
def yX2_takeOut : MethodName := ⟨RX2, "takeOut", "(I)V"⟩
abbrev cX2_pullFolds : ByteArray := prog_4_method_15_code
def yX2_pullFolds : MethodName := ⟨RX2, "pullFolds", "(I)V"⟩
abbrev cX2_pullHints : ByteArray := prog_4_method_16_code
def yX2_pullHints : MethodName := ⟨RX2, "pullHints", "(I)V"⟩
abbrev cX2_foldRefusal : ByteArray := prog_4_method_17_code
def yX2_foldRefusal : MethodName := ⟨RX2, "foldRefusal", "(II)I"⟩
abbrev cX2_addFold : ByteArray := prog_4_method_18_code
def yX2_addFold : MethodName := ⟨RX2, "addFold", "(II)I"⟩
abbrev cX2_dropFold : ByteArray := prog_4_method_19_code
def yX2_dropFold : MethodName := ⟨RX2, "dropFold", "(I)V"⟩
abbrev cX2_turn : ByteArray := prog_4_method_20_code
def yX2_turn : MethodName := ⟨RX2, "turn", "(I)V"⟩
abbrev cX2_hintRefusal : ByteArray := prog_4_method_21_code
def yX2_hintRefusal : MethodName := ⟨RX2, "hintRefusal", "(II)I"⟩
abbrev cX2_addHint : ByteArray := prog_4_method_22_code
def yX2_addHint : MethodName := ⟨RX2, "addHint", "(II)I"⟩
abbrev cX2_dropHint : ByteArray := prog_4_method_23_code
def yX2_dropHint : MethodName := ⟨RX2, "dropHint", "(I)V"⟩
abbrev cX2_hintAt : ByteArray := prog_4_method_24_code
def yX2_hintAt : MethodName := ⟨RX2, "hintAt", "(I)I"⟩
abbrev cX2_shutFoldOf : ByteArray := prog_4_method_25_code
def yX2_shutFoldOf : MethodName := ⟨RX2, "shutFoldOf", "(I)I"⟩
abbrev cX2_holderOf : ByteArray := prog_4_method_26_code
def yX2_holderOf : MethodName := ⟨RX2, "holderOf", "(I)I"⟩
abbrev cX2_isShown : ByteArray := prog_4_method_27_code
def yX2_isShown : MethodName := ⟨RX2, "isShown", "(I)Z"⟩
abbrev cX2_nextShown : ByteArray := prog_4_method_28_code
def yX2_nextShown : MethodName := ⟨RX2, "nextShown", "(I)I"⟩
abbrev cX2_previousShown : ByteArray := prog_4_method_29_code
def yX2_previousShown : MethodName := ⟨RX2, "previousShown", "(I)I"⟩
abbrev cX2_reduced : ByteArray := prog_4_method_30_code
def yX2_reduced : MethodName := ⟨RX2, "reduced", "(II)I"⟩
abbrev cX2_live : ByteArray := prog_4_method_31_code
def yX2_live : MethodName := ⟨RX2, "live", "(I)V"⟩
def RX3 : String := "DisplayMap$Text"
def TX3 : u_T := fun k => match k with
  | 0 => ("DisplayMap$Text", "letters", "[I", true)
  | 1 => ("DisplayMap$Text", "length", "I", false)
  | _ => ("DisplayMap$Text", "numbers", "[I", true)
def tyX3 : Nat → FieldType := fun k => match k with
  | 0 => .array .int
  | 1 => .int
  | _ => .array .int
abbrev wsX30 : List Cond := u_ws RX3 TX3 3
theorem nmX3 : ∀ a, a < 3 → ∀ b, b < 3 → a ≠ b → (TX3 a).2.1 ≠ (TX3 b).2.1 := by decide +kernel
theorem tyX3_ok : ∀ k, k < 3 → parseFieldDescriptor (TX3 k).2.2.1 = some (tyX3 k) := by decide +kernel
abbrev cX3_init : ByteArray := prog_5_method_1_code
def yX3_init : MethodName := ⟨RX3, "<init>", "()V"⟩
abbrev cX3_append : ByteArray := prog_5_method_2_code
def yX3_append : MethodName := ⟨RX3, "append", "(I)Z"⟩
abbrev cX3_readInto : ByteArray := prog_5_method_3_code
def yX3_readInto : MethodName := ⟨RX3, "readInto", "(LDisplayMap$Sheet;)I"⟩
abbrev cX3_endOfItem : ByteArray := prog_5_method_4_code
def yX3_endOfItem : MethodName := ⟨RX3, "endOfItem", "(I)I"⟩
abbrev cX3_readItem : ByteArray := prog_5_method_5_code
def yX3_readItem : MethodName := ⟨RX3, "readItem", "(IILDisplayMap$Sheet;)Z"⟩
abbrev cX3_readSigns : ByteArray := prog_5_method_6_code
def yX3_readSigns : MethodName := ⟨RX3, "readSigns", "(IILDisplayMap$Sheet;)Z"⟩
abbrev cX3_signOf : ByteArray := prog_5_method_7_code
def yX3_signOf : MethodName := ⟨RX3, "signOf", "(I)I"⟩
abbrev cX3_readNumbers : ByteArray := prog_5_method_8_code
def yX3_readNumbers : MethodName := ⟨RX3, "readNumbers", "(II)I"⟩
abbrev cX3_readFold : ByteArray := prog_5_method_9_code
def yX3_readFold : MethodName := ⟨RX3, "readFold", "(LDisplayMap$Sheet;)Z"⟩
abbrev cX3_readHint : ByteArray := prog_5_method_10_code
def yX3_readHint : MethodName := ⟨RX3, "readHint", "(LDisplayMap$Sheet;)Z"⟩
abbrev cX3_readFlow : ByteArray := prog_5_method_11_code
def yX3_readFlow : MethodName := ⟨RX3, "readFlow", "(LDisplayMap$Sheet;)Z"⟩
abbrev cX3_readTabStep : ByteArray := prog_5_method_12_code
def yX3_readTabStep : MethodName := ⟨RX3, "readTabStep", "(LDisplayMap$Sheet;)Z"⟩
def RX4 : String := "DisplayMap"
def TX4 : u_T := fun k => match k with
  | 0 => ("DisplayMap", "text", "LDisplayMap$Text;", true)
  | 1 => ("DisplayMap", "sheet", "LDisplayMap$Sheet;", true)
  | 2 => ("DisplayMap", "undos", "LDisplayMap$Pile;", true)
  | 3 => ("DisplayMap", "keeps", "LDisplayMap$Pile;", true)
  | 4 => ("DisplayMap", "shown", "LDisplayMap$Screen;", false)
  | 5 => ("DisplayMap", "former", "LDisplayMap$Screen;", false)
  | 6 => ("DisplayMap", "acted", "Z", false)
  | 7 => ("DisplayMap", "trial", "LDisplayMap$Sheet;", true)
  | _ => ("DisplayMap", "trialScreen", "LDisplayMap$Screen;", true)
def tyX4 : Nat → FieldType := fun k => match k with
  | 0 => .object "DisplayMap$Text"
  | 1 => .object "DisplayMap$Sheet"
  | 2 => .object "DisplayMap$Pile"
  | 3 => .object "DisplayMap$Pile"
  | 4 => .object "DisplayMap$Screen"
  | 5 => .object "DisplayMap$Screen"
  | 6 => .boolean
  | 7 => .object "DisplayMap$Sheet"
  | _ => .object "DisplayMap$Screen"
abbrev wsX40 : List Cond := u_ws RX4 TX4 9
theorem nmX4 : ∀ a, a < 9 → ∀ b, b < 9 → a ≠ b → (TX4 a).2.1 ≠ (TX4 b).2.1 := by decide +kernel
theorem tyX4_ok : ∀ k, k < 9 → parseFieldDescriptor (TX4 k).2.2.1 = some (tyX4 k) := by decide +kernel
abbrev cX4_init : ByteArray := prog_1_method_1_code
def yX4_init : MethodName := ⟨RX4, "<init>", "()V"⟩
abbrev cX4_write : ByteArray := prog_1_method_2_code
def yX4_write : MethodName := ⟨RX4, "write", "(I)I"⟩
abbrev cX4_wipe : ByteArray := prog_1_method_3_code
def yX4_wipe : MethodName := ⟨RX4, "wipe", "()I"⟩
abbrev cX4_fault : ByteArray := prog_1_method_4_code
def yX4_fault : MethodName := ⟨RX4, "fault", "()I"⟩
abbrev cX4_lay : ByteArray := prog_1_method_5_code
def yX4_lay : MethodName := ⟨RX4, "lay", "()I"⟩
abbrev cX4_sign : ByteArray := prog_1_method_6_code
def yX4_sign : MethodName := ⟨RX4, "sign", "(I)I"⟩
abbrev cX4_fold : ByteArray := prog_1_method_7_code
def yX4_fold : MethodName := ⟨RX4, "fold", "(II)I"⟩
abbrev cX4_hint : ByteArray := prog_1_method_8_code
def yX4_hint : MethodName := ⟨RX4, "hint", "(II)I"⟩
abbrev cX4_insert : ByteArray := prog_1_method_9_code
def yX4_insert : MethodName := ⟨RX4, "insert", "(II)I"⟩
abbrev cX4_erase : ByteArray := prog_1_method_10_code
def yX4_erase : MethodName := ⟨RX4, "erase", "(I)I"⟩
abbrev cX4_toggle : ByteArray := prog_1_method_11_code
def yX4_toggle : MethodName := ⟨RX4, "toggle", "(I)I"⟩
abbrev cX4_make : ByteArray := prog_1_method_12_code
def yX4_make : MethodName := ⟨RX4, "make", "(II)I"⟩
abbrev cX4_unfold : ByteArray := prog_1_method_13_code
def yX4_unfold : MethodName := ⟨RX4, "unfold", "(I)I"⟩
abbrev cX4_set : ByteArray := prog_1_method_14_code
def yX4_set : MethodName := ⟨RX4, "set", "(II)I"⟩
abbrev cX4_unset : ByteArray := prog_1_method_15_code
def yX4_unset : MethodName := ⟨RX4, "unset", "(I)I"⟩
abbrev cX4_wide : ByteArray := prog_1_method_16_code
def yX4_wide : MethodName := ⟨RX4, "wide", "(III)I"⟩
abbrev cX4_tabs : ByteArray := prog_1_method_17_code
def yX4_tabs : MethodName := ⟨RX4, "tabs", "(I)I"⟩
abbrev cX4_undo : ByteArray := prog_1_method_18_code
def yX4_undo : MethodName := ⟨RX4, "undo", "()I"⟩
abbrev cX4_stands : ByteArray := prog_1_method_19_code
def yX4_stands : MethodName := ⟨RX4, "stands", "(II)I"⟩
abbrev cX4_place : ByteArray := prog_1_method_20_code
def yX4_place : MethodName := ⟨RX4, "place", "(II)I"⟩
abbrev cX4_screen : ByteArray := prog_1_method_21_code
def yX4_screen : MethodName := ⟨RX4, "screen", "(II)I"⟩
abbrev cX4_go : ByteArray := prog_1_method_22_code
def yX4_go : MethodName := ⟨RX4, "go", "(II)I"⟩
abbrev cX4_row : ByteArray := prog_1_method_23_code
def yX4_row : MethodName := ⟨RX4, "row", "(II)I"⟩
abbrev cX4_changed : ByteArray := prog_1_method_24_code
def yX4_changed : MethodName := ⟨RX4, "changed", "(I)I"⟩
abbrev cX4_fit : ByteArray := prog_1_method_25_code
def yX4_fit : MethodName := ⟨RX4, "fit", "(I)I"⟩
abbrev cX4_saves : ByteArray := prog_1_method_26_code
def yX4_saves : MethodName := ⟨RX4, "saves", "(I)I"⟩
abbrev cX4_tight : ByteArray := prog_1_method_27_code
def yX4_tight : MethodName := ⟨RX4, "tight", "(I)I"⟩
abbrev cX4_day : ByteArray := prog_1_method_28_code
def yX4_day : MethodName := ⟨RX4, "day", "(III)I"⟩
abbrev cX4_keep : ByteArray := prog_1_method_29_code
def yX4_keep : MethodName := ⟨RX4, "keep", "()I"⟩
abbrev cX4_back : ByteArray := prog_1_method_30_code
def yX4_back : MethodName := ⟨RX4, "back", "()I"⟩
abbrev cX4_count : ByteArray := prog_1_method_31_code
def yX4_count : MethodName := ⟨RX4, "count", "(I)I"⟩
abbrev cX4_isColumn : ByteArray := prog_1_method_32_code
def yX4_isColumn : MethodName := ⟨RX4, "isColumn", "(I)Z"⟩
abbrev cX4_draw : ByteArray := prog_1_method_33_code
def yX4_draw : MethodName := ⟨RX4, "draw", "(II)I"⟩
abbrev cX4_startAnew : ByteArray := prog_1_method_34_code
def yX4_startAnew : MethodName := ⟨RX4, "startAnew", "(LDisplayMap$Sheet;)V"⟩
abbrev cX4_redraw : ByteArray := prog_1_method_35_code
def yX4_redraw : MethodName := ⟨RX4, "redraw", "()V"⟩
abbrev cX4_rowOf : ByteArray := prog_1_method_36_code
def yX4_rowOf : MethodName := ⟨RX4, "rowOf", "(I)I"⟩
abbrev cX4_columnOf : ByteArray := prog_1_method_37_code
def yX4_columnOf : MethodName := ⟨RX4, "columnOf", "(I)I"⟩
abbrev cX4_acrossTo : ByteArray := prog_1_method_38_code
def yX4_acrossTo : MethodName := ⟨RX4, "acrossTo", "(II)I"⟩
abbrev cX4_rowsToCompare : ByteArray := prog_1_method_39_code
def yX4_rowsToCompare : MethodName := ⟨RX4, "rowsToCompare", "()I"⟩
abbrev cX4_firstChanged : ByteArray := prog_1_method_40_code
def yX4_firstChanged : MethodName := ⟨RX4, "firstChanged", "()I"⟩
abbrev cX4_countChanged : ByteArray := prog_1_method_41_code
def yX4_countChanged : MethodName := ⟨RX4, "countChanged", "()I"⟩
abbrev cX4_isTight : ByteArray := prog_1_method_42_code
def yX4_isTight : MethodName := ⟨RX4, "isTight", "(I)Z"⟩
def RX5 : String := "DisplayMapModel"
def TX5 : u_T := fun k => match k with
  | 0 => ("DisplayMapModel", "many", "I", false)
  | 1 => ("DisplayMapModel", "signs", "[I", true)
  | 2 => ("DisplayMapModel", "folds", "I", false)
  | 3 => ("DisplayMapModel", "foldFrom", "[I", true)
  | 4 => ("DisplayMapModel", "foldTo", "[I", true)
  | 5 => ("DisplayMapModel", "foldShut", "[I", true)
  | 6 => ("DisplayMapModel", "hints", "I", false)
  | 7 => ("DisplayMapModel", "hintAt", "[I", true)
  | 8 => ("DisplayMapModel", "hintWide", "[I", true)
  | 9 => ("DisplayMapModel", "mode", "I", false)
  | 10 => ("DisplayMapModel", "wide", "I", false)
  | 11 => ("DisplayMapModel", "indent", "I", false)
  | 12 => ("DisplayMapModel", "tab", "I", false)
  | 13 => ("DisplayMapModel", "pieces", "I", false)
  | 14 => ("DisplayMapModel", "kindOf", "[I", true)
  | 15 => ("DisplayMapModel", "placeOf", "[I", true)
  | 16 => ("DisplayMapModel", "rowOf", "[I", true)
  | 17 => ("DisplayMapModel", "columnOf", "[I", true)
  | 18 => ("DisplayMapModel", "widthOf", "[I", true)
  | 19 => ("DisplayMapModel", "lastRow", "I", false)
  | 20 => ("DisplayMapModel", "lastColumn", "I", false)
  | 21 => ("DisplayMapModel", "behindOf", "[I", true)
  | 22 => ("DisplayMapModel", "beginsOf", "[I", true)
  | 23 => ("DisplayMapModel", "ahead", "[I", true)
  | 24 => ("DisplayMapModel", "undoMany", "I", false)
  | 25 => ("DisplayMapModel", "saved", "[I", true)
  | 26 => ("DisplayMapModel", "savedMany", "I", false)
  | 27 => ("DisplayMapModel", "aside", "[I", true)
  | 28 => ("DisplayMapModel", "werePieces", "I", false)
  | 29 => ("DisplayMapModel", "wereKind", "[I", true)
  | 30 => ("DisplayMapModel", "wereRow", "[I", true)
  | 31 => ("DisplayMapModel", "wereColumn", "[I", true)
  | 32 => ("DisplayMapModel", "wereWidth", "[I", true)
  | 33 => ("DisplayMapModel", "wereRows", "I", false)
  | 34 => ("DisplayMapModel", "acted", "Z", false)
  | 35 => ("DisplayMapModel", "dayAside", "[I", true)
  | 36 => ("DisplayMapModel", "text", "[I", true)
  | 37 => ("DisplayMapModel", "size", "I", false)
  | 38 => ("DisplayMapModel", "readAt", "I", false)
  | 39 => ("DisplayMapModel", "readNumber", "I", false)
  | _ => ("DisplayMapModel", "before", "[I", true)
def tyX5 : Nat → FieldType := fun k => match k with
  | 0 => .int
  | 1 => .array .int
  | 2 => .int
  | 3 => .array .int
  | 4 => .array .int
  | 5 => .array .int
  | 6 => .int
  | 7 => .array .int
  | 8 => .array .int
  | 9 => .int
  | 10 => .int
  | 11 => .int
  | 12 => .int
  | 13 => .int
  | 14 => .array .int
  | 15 => .array .int
  | 16 => .array .int
  | 17 => .array .int
  | 18 => .array .int
  | 19 => .int
  | 20 => .int
  | 21 => .array .int
  | 22 => .array .int
  | 23 => .array .int
  | 24 => .int
  | 25 => .array .int
  | 26 => .int
  | 27 => .array .int
  | 28 => .int
  | 29 => .array .int
  | 30 => .array .int
  | 31 => .array .int
  | 32 => .array .int
  | 33 => .int
  | 34 => .boolean
  | 35 => .array .int
  | 36 => .array .int
  | 37 => .int
  | 38 => .int
  | 39 => .int
  | _ => .array .int
abbrev wsX50 : List Cond := u_ws RX5 TX5 41
theorem nmX5 : ∀ a, a < 41 → ∀ b, b < 41 → a ≠ b → (TX5 a).2.1 ≠ (TX5 b).2.1 := by decide +kernel
theorem tyX5_ok : ∀ k, k < 41 → parseFieldDescriptor (TX5 k).2.2.1 = some (tyX5 k) := by decide +kernel
abbrev cX5_in : ByteArray := prog_7_method_1_code
def yX5_in : MethodName := ⟨RX5, "in", "(III)Z"⟩
abbrev cX5_init : ByteArray := prog_7_method_2_code
def yX5_init : MethodName := ⟨RX5, "<init>", "()V"⟩
abbrev cX5_isPlace : ByteArray := prog_7_method_3_code
def yX5_isPlace : MethodName := ⟨RX5, "isPlace", "(I)Z"⟩
abbrev cX5_isSign : ByteArray := prog_7_method_4_code
def yX5_isSign : MethodName := ⟨RX5, "isSign", "(I)Z"⟩
abbrev cX5_isFold : ByteArray := prog_7_method_5_code
def yX5_isFold : MethodName := ⟨RX5, "isFold", "(I)Z"⟩
abbrev cX5_isHint : ByteArray := prog_7_method_6_code
def yX5_isHint : MethodName := ⟨RX5, "isHint", "(I)Z"⟩
abbrev cX5_comesFold : ByteArray := prog_7_method_7_code
def yX5_comesFold : MethodName := ⟨RX5, "comesFold", "(III)I"⟩
abbrev cX5_goesFold : ByteArray := prog_7_method_8_code
def yX5_goesFold : MethodName := ⟨RX5, "goesFold", "(I)V"⟩
abbrev cX5_comesHint : ByteArray := prog_7_method_9_code
def yX5_comesHint : MethodName := ⟨RX5, "comesHint", "(II)I"⟩
abbrev cX5_goesHint : ByteArray := prog_7_method_10_code
def yX5_goesHint : MethodName := ⟨RX5, "goesHint", "(I)V"⟩
abbrev cX5_isApart : ByteArray := prog_7_method_11_code
def yX5_isApart : MethodName := ⟨RX5, "isApart", "(II)Z"⟩
abbrev cX5_hintOf : ByteArray := prog_7_method_12_code
def yX5_hintOf : MethodName := ⟨RX5, "hintOf", "(I)I"⟩
abbrev cX5_shutOf : ByteArray := prog_7_method_13_code
def yX5_shutOf : MethodName := ⟨RX5, "shutOf", "(I)I"⟩
abbrev cX5_isShown : ByteArray := prog_7_method_14_code
def yX5_isShown : MethodName := ⟨RX5, "isShown", "(I)Z"⟩
abbrev cX5_comesPiece : ByteArray := prog_7_method_15_code
def yX5_comesPiece : MethodName := ⟨RX5, "comesPiece", "(III)V"⟩
abbrev cX5_setPieces : ByteArray := prog_7_method_16_code
def yX5_setPieces : MethodName := ⟨RX5, "setPieces", "()V"⟩
abbrev cX5_isWord : ByteArray := prog_7_method_17_code
def yX5_isWord : MethodName := ⟨RX5, "isWord", "(I)Z"⟩
abbrev cX5_wordFrom : ByteArray := prog_7_method_18_code
def yX5_wordFrom : MethodName := ⟨RX5, "wordFrom", "(I)I"⟩
abbrev cX5_goesOn : ByteArray := prog_7_method_19_code
def yX5_goesOn : MethodName := ⟨RX5, "goesOn", "(II)Z"⟩
abbrev cX5_toStop : ByteArray := prog_7_method_20_code
def yX5_toStop : MethodName := ⟨RX5, "toStop", "(I)I"⟩
abbrev cX5_setScreen : ByteArray := prog_7_method_21_code
def yX5_setScreen : MethodName := ⟨RX5, "setScreen", "()V"⟩
abbrev cX5_rows : ByteArray := prog_7_method_22_code
def yX5_rows : MethodName := ⟨RX5, "rows", "()I"⟩
abbrev cX5_longest : ByteArray := prog_7_method_23_code
def yX5_longest : MethodName := ⟨RX5, "longest", "()I"⟩
abbrev cX5_sign : ByteArray := prog_7_method_24_code
def yX5_sign : MethodName := ⟨RX5, "sign", "(I)I"⟩
abbrev cX5_fold : ByteArray := prog_7_method_25_code
def yX5_fold : MethodName := ⟨RX5, "fold", "(II)I"⟩
abbrev cX5_hint : ByteArray := prog_7_method_26_code
def yX5_hint : MethodName := ⟨RX5, "hint", "(II)I"⟩
abbrev cX5_lays : ByteArray := prog_7_method_27_code
def yX5_lays : MethodName := ⟨RX5, "lays", "([II)V"⟩
abbrev cX5_takes : ByteArray := prog_7_method_28_code
def yX5_takes : MethodName := ⟨RX5, "takes", "([II)V"⟩
abbrev cX5_remembers : ByteArray := prog_7_method_29_code
def yX5_remembers : MethodName := ⟨RX5, "remembers", "()V"⟩
abbrev cX5_notes : ByteArray := prog_7_method_30_code
def yX5_notes : MethodName := ⟨RX5, "notes", "()V"⟩
abbrev cX5_putsIn : ByteArray := prog_7_method_31_code
def yX5_putsIn : MethodName := ⟨RX5, "putsIn", "(II)V"⟩
abbrev cX5_takesOut : ByteArray := prog_7_method_32_code
def yX5_takesOut : MethodName := ⟨RX5, "takesOut", "(I)V"⟩
abbrev cX5_insert : ByteArray := prog_7_method_33_code
def yX5_insert : MethodName := ⟨RX5, "insert", "(II)I"⟩
abbrev cX5_erase : ByteArray := prog_7_method_34_code
def yX5_erase : MethodName := ⟨RX5, "erase", "(I)I"⟩
abbrev cX5_toggle : ByteArray := prog_7_method_35_code
def yX5_toggle : MethodName := ⟨RX5, "toggle", "(I)I"⟩
abbrev cX5_make : ByteArray := prog_7_method_36_code
def yX5_make : MethodName := ⟨RX5, "make", "(II)I"⟩
abbrev cX5_unfold : ByteArray := prog_7_method_37_code
def yX5_unfold : MethodName := ⟨RX5, "unfold", "(I)I"⟩
abbrev cX5_set : ByteArray := prog_7_method_38_code
def yX5_set : MethodName := ⟨RX5, "set", "(II)I"⟩
abbrev cX5_unset : ByteArray := prog_7_method_39_code
def yX5_unset : MethodName := ⟨RX5, "unset", "(I)I"⟩
abbrev cX5_isWide : ByteArray := prog_7_method_40_code
def yX5_isWide : MethodName := ⟨RX5, "isWide", "(III)Z"⟩
abbrev cX5_wide : ByteArray := prog_7_method_41_code
def yX5_wide : MethodName := ⟨RX5, "wide", "(III)I"⟩
abbrev cX5_tabs : ByteArray := prog_7_method_42_code
def yX5_tabs : MethodName := ⟨RX5, "tabs", "(I)I"⟩
abbrev cX5_undo : ByteArray := prog_7_method_43_code
def yX5_undo : MethodName := ⟨RX5, "undo", "()I"⟩
abbrev cX5_keep : ByteArray := prog_7_method_44_code
def yX5_keep : MethodName := ⟨RX5, "keep", "()I"⟩
abbrev cX5_back : ByteArray := prog_7_method_45_code
def yX5_back : MethodName := ⟨RX5, "back", "()I"⟩
abbrev cX5_pieceOf : ByteArray := prog_7_method_46_code
def yX5_pieceOf : MethodName := ⟨RX5, "pieceOf", "(I)I"⟩
abbrev cX5_stands : ByteArray := prog_7_method_47_code
def yX5_stands : MethodName := ⟨RX5, "stands", "(II)I"⟩
abbrev cX5_pieceAt : ByteArray := prog_7_method_48_code
def yX5_pieceAt : MethodName := ⟨RX5, "pieceAt", "(II)I"⟩
abbrev cX5_placeAt : ByteArray := prog_7_method_49_code
def yX5_placeAt : MethodName := ⟨RX5, "placeAt", "(II)I"⟩
abbrev cX5_isRow : ByteArray := prog_7_method_50_code
def yX5_isRow : MethodName := ⟨RX5, "isRow", "(I)Z"⟩
abbrev cX5_place : ByteArray := prog_7_method_51_code
def yX5_place : MethodName := ⟨RX5, "place", "(II)I"⟩
abbrev cX5_screen : ByteArray := prog_7_method_52_code
def yX5_screen : MethodName := ⟨RX5, "screen", "(II)I"⟩
abbrev cX5_go : ByteArray := prog_7_method_53_code
def yX5_go : MethodName := ⟨RX5, "go", "(II)I"⟩
abbrev cX5_row : ByteArray := prog_7_method_54_code
def yX5_row : MethodName := ⟨RX5, "row", "(II)I"⟩
abbrev cX5_nowMany : ByteArray := prog_7_method_55_code
def yX5_nowMany : MethodName := ⟨RX5, "nowMany", "(I)I"⟩
abbrev cX5_wereMany : ByteArray := prog_7_method_56_code
def yX5_wereMany : MethodName := ⟨RX5, "wereMany", "(I)I"⟩
abbrev cX5_stood : ByteArray := prog_7_method_57_code
def yX5_stood : MethodName := ⟨RX5, "stood", "(I)Z"⟩
abbrev cX5_isChanged : ByteArray := prog_7_method_58_code
def yX5_isChanged : MethodName := ⟨RX5, "isChanged", "(I)Z"⟩
abbrev cX5_changed : ByteArray := prog_7_method_59_code
def yX5_changed : MethodName := ⟨RX5, "changed", "(I)I"⟩
abbrev cX5_fit : ByteArray := prog_7_method_60_code
def yX5_fit : MethodName := ⟨RX5, "fit", "(I)I"⟩
abbrev cX5_saves : ByteArray := prog_7_method_61_code
def yX5_saves : MethodName := ⟨RX5, "saves", "(I)I"⟩
abbrev cX5_isTight : ByteArray := prog_7_method_62_code
def yX5_isTight : MethodName := ⟨RX5, "isTight", "(II)Z"⟩
abbrev cX5_tight : ByteArray := prog_7_method_63_code
def yX5_tight : MethodName := ⟨RX5, "tight", "(I)I"⟩
abbrev cX5_turns : ByteArray := prog_7_method_64_code
def yX5_turns : MethodName := ⟨RX5, "turns", "(I)V"⟩
abbrev cX5_day : ByteArray := prog_7_method_65_code
def yX5_day : MethodName := ⟨RX5, "day", "(III)I"⟩
abbrev cX5_count : ByteArray := prog_7_method_66_code
def yX5_count : MethodName := ⟨RX5, "count", "(I)I"⟩
abbrev cX5_write : ByteArray := prog_7_method_67_code
def yX5_write : MethodName := ⟨RX5, "write", "(I)I"⟩
abbrev cX5_wipe : ByteArray := prog_7_method_68_code
def yX5_wipe : MethodName := ⟨RX5, "wipe", "()I"⟩
abbrev cX5_here : ByteArray := prog_7_method_69_code
def yX5_here : MethodName := ⟨RX5, "here", "()I"⟩
abbrev cX5_isFigure : ByteArray := prog_7_method_70_code
def yX5_isFigure : MethodName := ⟨RX5, "isFigure", "()Z"⟩
abbrev cX5_number : ByteArray := prog_7_method_71_code
def yX5_number : MethodName := ⟨RX5, "number", "(III)Z"⟩
abbrev cX5_readsSigns : ByteArray := prog_7_method_72_code
def yX5_readsSigns : MethodName := ⟨RX5, "readsSigns", "()Z"⟩
abbrev cX5_readsFold : ByteArray := prog_7_method_73_code
def yX5_readsFold : MethodName := ⟨RX5, "readsFold", "()Z"⟩
abbrev cX5_readsHint : ByteArray := prog_7_method_74_code
def yX5_readsHint : MethodName := ⟨RX5, "readsHint", "()Z"⟩
abbrev cX5_readsWide : ByteArray := prog_7_method_75_code
def yX5_readsWide : MethodName := ⟨RX5, "readsWide", "()Z"⟩
abbrev cX5_readsTabs : ByteArray := prog_7_method_76_code
def yX5_readsTabs : MethodName := ⟨RX5, "readsTabs", "()Z"⟩
abbrev cX5_readsItem : ByteArray := prog_7_method_77_code
def yX5_readsItem : MethodName := ⟨RX5, "readsItem", "(Z)Z"⟩
abbrev cX5_readsAll : ByteArray := prog_7_method_78_code
def yX5_readsAll : MethodName := ⟨RX5, "readsAll", "()I"⟩
abbrev cX5_fault : ByteArray := prog_7_method_79_code
def yX5_fault : MethodName := ⟨RX5, "fault", "()I"⟩
abbrev cX5_lay : ByteArray := prog_7_method_80_code
def yX5_lay : MethodName := ⟨RX5, "lay", "()I"⟩
def RJ9 : String := "java/lang/Math"
def TJ9 : u_T := fun k => match k with
  | _ => ("", "", "", false)
def tyJ9 : Nat → FieldType := fun k => match k with
  | _ => .int
abbrev wsJ90 : List Cond := u_ws RJ9 TJ9 0
theorem nmJ9 : ∀ a, a < 0 → ∀ b, b < 0 → a ≠ b → (TJ9 a).2.1 ≠ (TJ9 b).2.1 := by decide +kernel
theorem tyJ9_ok : ∀ k, k < 0 → parseFieldDescriptor (TJ9 k).2.2.1 = some (tyJ9 k) := by decide +kernel
abbrev cJ9_max_7cf53 : ByteArray := prog_8_method_65_code
def yJ9_max_7cf53 : MethodName := ⟨RJ9, "max", "(II)I"⟩
def RJ0 : String := "java/lang/String"
def TJ0 : u_T := fun k => match k with
  | _ => ("", "", "", false)
def tyJ0 : Nat → FieldType := fun k => match k with
  | _ => .int
abbrev wsJ00 : List Cond := u_ws RJ0 TJ0 0
theorem nmJ0 : ∀ a, a < 0 → ∀ b, b < 0 → a ≠ b → (TJ0 a).2.1 ≠ (TJ0 b).2.1 := by decide +kernel
theorem tyJ0_ok : ∀ k, k < 0 → parseFieldDescriptor (TJ0 k).2.2.1 = some (tyJ0 k) := by decide +kernel
abbrev cJ0_length_8abf5 : ByteArray := prog_9_method_54_code
def yJ0_length_8abf5 : MethodName := ⟨RJ0, "length", "()I"⟩
abbrev cJ0_charAt_5068e : ByteArray := prog_9_method_56_code
def yJ0_charAt_5068e : MethodName := ⟨RJ0, "charAt", "(I)C"⟩
abbrev cJ0_coder_7d493 : ByteArray := prog_9_method_152_code
def yJ0_coder_7d493 : MethodName := ⟨RJ0, "coder", "()B"⟩
abbrev cJ0_isLatin1_aae02 : ByteArray := prog_9_method_154_code
def yJ0_isLatin1_aae02 : MethodName := ⟨RJ0, "isLatin1", "()Z"⟩
abbrev cJ0_checkIndex_df160 : ByteArray := prog_9_method_155_code
def yJ0_checkIndex_df160 : MethodName := ⟨RJ0, "checkIndex", "(II)V"⟩
def RJ1 : String := "java/lang/StringLatin1"
def TJ1 : u_T := fun k => match k with
  | _ => ("", "", "", false)
def tyJ1 : Nat → FieldType := fun k => match k with
  | _ => .int
abbrev wsJ10 : List Cond := u_ws RJ1 TJ1 0
theorem nmJ1 : ∀ a, a < 0 → ∀ b, b < 0 → a ≠ b → (TJ1 a).2.1 ≠ (TJ1 b).2.1 := by decide +kernel
theorem tyJ1_ok : ∀ k, k < 0 → parseFieldDescriptor (TJ1 k).2.2.1 = some (tyJ1 k) := by decide +kernel
abbrev cJ1_charAt_3b067 : ByteArray := prog_10_method_2_code
def yJ1_charAt_3b067 : MethodName := ⟨RJ1, "charAt", "([BI)C"⟩
def RJ2 : String := "java/lang/StringUTF16"
def TJ2 : u_T := fun k => match k with
  | _ => ("", "", "", false)
def tyJ2 : Nat → FieldType := fun k => match k with
  | _ => .int
abbrev wsJ20 : List Cond := u_ws RJ2 TJ2 0
theorem nmJ2 : ∀ a, a < 0 → ∀ b, b < 0 → a ≠ b → (TJ2 a).2.1 ≠ (TJ2 b).2.1 := by decide +kernel
theorem tyJ2_ok : ∀ k, k < 0 → parseFieldDescriptor (TJ2 k).2.2.1 = some (tyJ2 k) := by decide +kernel
abbrev cJ2_getChar_3b067 : ByteArray := prog_11_method_5_code
def yJ2_getChar_3b067 : MethodName := ⟨RJ2, "getChar", "([BI)C"⟩
abbrev cJ2_length_9d52b : ByteArray := prog_11_method_6_code
def yJ2_length_9d52b : MethodName := ⟨RJ2, "length", "([B)I"⟩
abbrev cJ2_charAt_3b067 : ByteArray := prog_11_method_83_code
def yJ2_charAt_3b067 : MethodName := ⟨RJ2, "charAt", "([BI)C"⟩
abbrev cJ2_checkIndex_2214a : ByteArray := prog_11_method_91_code
def yJ2_checkIndex_2214a : MethodName := ⟨RJ2, "checkIndex", "(I[B)V"⟩
def RJ10 : String := "java/lang/System"
def TJ10 : u_T := fun k => match k with
  | _ => ("", "", "", false)
def tyJ10 : Nat → FieldType := fun k => match k with
  | _ => .int
abbrev wsJ100 : List Cond := u_ws RJ10 TJ10 0
theorem nmJ10 : ∀ a, a < 0 → ∀ b, b < 0 → a ≠ b → (TJ10 a).2.1 ≠ (TJ10 b).2.1 := by decide +kernel
theorem tyJ10_ok : ∀ k, k < 0 → parseFieldDescriptor (TJ10 k).2.2.1 = some (tyJ10 k) := by decide +kernel
def RJ3 : String := "jdk/internal/util/Preconditions"
def TJ3 : u_T := fun k => match k with
  | _ => ("", "", "", false)
def tyJ3 : Nat → FieldType := fun k => match k with
  | _ => .int
abbrev wsJ30 : List Cond := u_ws RJ3 TJ3 0
theorem nmJ3 : ∀ a, a < 0 → ∀ b, b < 0 → a ≠ b → (TJ3 a).2.1 ≠ (TJ3 b).2.1 := by decide +kernel
theorem tyJ3_ok : ∀ k, k < 0 → parseFieldDescriptor (TJ3 k).2.2.1 = some (tyJ3 k) := by decide +kernel
abbrev cJ3_checkIndex_8e157 : ByteArray := prog_13_method_11_code
def yJ3_checkIndex_8e157 : MethodName := ⟨RJ3, "checkIndex", "(IILjava/util/function/BiFunction;)I"⟩
def RL : String := "DisplayMapLaw"
abbrev cL_law : ByteArray := code
def yL_law : MethodName := ⟨RL, "law", "([I)Z"⟩
abbrev vwCl : List vw_C := [(RX0, TX0, 2), (RX1, TX1, 10), (RX2, TX2, 13), (RX3, TX3, 3), (RX4, TX4, 9), (RX5, TX5, 41)]
end
section
theorem dX0_init_0 : decode cX0_init 0 = .ok (.aload_n 0, 1) := by decide +kernel
theorem dX0_init_1 : decode cX0_init 1 = .ok (.invokespecial 1, 3) := by decide +kernel
theorem dX0_init_4 : decode cX0_init 4 = .ok (.aload_n 0, 1) := by decide +kernel
theorem dX0_init_5 : decode cX0_init 5 = .ok (.iconst 0, 1) := by decide +kernel
theorem dX0_init_6 : decode cX0_init 6 = .ok (.iload_n 1, 1) := by decide +kernel
theorem dX0_init_7 : decode cX0_init 7 = .ok (.invokestatic 7, 3) := by decide +kernel
theorem dX0_init_10 : decode cX0_init 10 = .ok (.anewarray 13, 3) := by decide +kernel
theorem dX0_init_13 : decode cX0_init 13 = .ok (.putfield 15, 3) := by decide +kernel
theorem dX0_init_16 : decode cX0_init 16 = .ok (.iconst 0, 1) := by decide +kernel
theorem dX0_init_17 : decode cX0_init 17 = .ok (.istore_n 2, 1) := by decide +kernel
theorem dX0_init_18 : decode cX0_init 18 = .ok (.iload_n 2, 1) := by decide +kernel
theorem dX0_init_19 : decode cX0_init 19 = .ok (.aload_n 0, 1) := by decide +kernel
theorem dX0_init_20 : decode cX0_init 20 = .ok (.getfield 15, 3) := by decide +kernel
theorem dX0_init_23 : decode cX0_init 23 = .ok (.arraylength, 1) := by decide +kernel
theorem dX0_init_24 : decode cX0_init 24 = .ok (.if_icmp .ge 22, 3) := by decide +kernel
theorem dX0_init_27 : decode cX0_init 27 = .ok (.aload_n 0, 1) := by decide +kernel
theorem dX0_init_28 : decode cX0_init 28 = .ok (.getfield 15, 3) := by decide +kernel
theorem dX0_init_31 : decode cX0_init 31 = .ok (.iload_n 2, 1) := by decide +kernel
theorem dX0_init_32 : decode cX0_init 32 = .ok (.new 13, 3) := by decide +kernel
theorem dX0_init_35 : decode cX0_init 35 = .ok (.dup, 1) := by decide +kernel
theorem dX0_init_36 : decode cX0_init 36 = .ok (.invokespecial 21, 3) := by decide +kernel
theorem dX0_init_39 : decode cX0_init 39 = .ok (.aastore, 1) := by decide +kernel
theorem dX0_init_40 : decode cX0_init 40 = .ok (.iinc 2 1, 3) := by decide +kernel
theorem dX0_init_43 : decode cX0_init 43 = .ok (.goto (-25), 3) := by decide +kernel
theorem dX0_init_46 : decode cX0_init 46 = .ok (.return_, 1) := by decide +kernel
theorem dX0_isFull_0 : decode cX0_isFull 0 = .ok (.aload_n 0, 1) := by decide +kernel
theorem dX0_isFull_1 : decode cX0_isFull 1 = .ok (.getfield 22, 3) := by decide +kernel
theorem dX0_isFull_4 : decode cX0_isFull 4 = .ok (.aload_n 0, 1) := by decide +kernel
theorem dX0_isFull_5 : decode cX0_isFull 5 = .ok (.getfield 15, 3) := by decide +kernel
theorem dX0_isFull_8 : decode cX0_isFull 8 = .ok (.arraylength, 1) := by decide +kernel
theorem dX0_isFull_9 : decode cX0_isFull 9 = .ok (.if_icmp .lt 7, 3) := by decide +kernel
theorem dX0_isFull_12 : decode cX0_isFull 12 = .ok (.iconst 1, 1) := by decide +kernel
theorem dX0_isFull_13 : decode cX0_isFull 13 = .ok (.goto 4, 3) := by decide +kernel
theorem dX0_isFull_16 : decode cX0_isFull 16 = .ok (.iconst 0, 1) := by decide +kernel
theorem dX0_isFull_17 : decode cX0_isFull 17 = .ok (.ireturn, 1) := by decide +kernel
theorem dX0_push_0 : decode cX0_push 0 = .ok (.aload_n 0, 1) := by decide +kernel
theorem dX0_push_1 : decode cX0_push 1 = .ok (.invokevirtual 26, 3) := by decide +kernel
theorem dX0_push_4 : decode cX0_push 4 = .ok (.ifCond .eq 7, 3) := by decide +kernel
theorem dX0_push_7 : decode cX0_push 7 = .ok (.aload_n 0, 1) := by decide +kernel
theorem dX0_push_8 : decode cX0_push 8 = .ok (.invokevirtual 30, 3) := by decide +kernel
theorem dX0_push_11 : decode cX0_push 11 = .ok (.aload_n 0, 1) := by decide +kernel
theorem dX0_push_12 : decode cX0_push 12 = .ok (.getfield 22, 3) := by decide +kernel
theorem dX0_push_15 : decode cX0_push 15 = .ok (.ifCond .lt 38, 3) := by decide +kernel
theorem dX0_push_18 : decode cX0_push 18 = .ok (.aload_n 0, 1) := by decide +kernel
theorem dX0_push_19 : decode cX0_push 19 = .ok (.getfield 22, 3) := by decide +kernel
theorem dX0_push_22 : decode cX0_push 22 = .ok (.aload_n 0, 1) := by decide +kernel
theorem dX0_push_23 : decode cX0_push 23 = .ok (.getfield 15, 3) := by decide +kernel
theorem dX0_push_26 : decode cX0_push 26 = .ok (.arraylength, 1) := by decide +kernel
theorem dX0_push_27 : decode cX0_push 27 = .ok (.if_icmp .ge 26, 3) := by decide +kernel
theorem dX0_push_30 : decode cX0_push 30 = .ok (.aload_n 0, 1) := by decide +kernel
theorem dX0_push_31 : decode cX0_push 31 = .ok (.getfield 15, 3) := by decide +kernel
theorem dX0_push_34 : decode cX0_push 34 = .ok (.aload_n 0, 1) := by decide +kernel
theorem dX0_push_35 : decode cX0_push 35 = .ok (.getfield 22, 3) := by decide +kernel
theorem dX0_push_38 : decode cX0_push 38 = .ok (.aaload, 1) := by decide +kernel
theorem dX0_push_39 : decode cX0_push 39 = .ok (.aload_n 1, 1) := by decide +kernel
theorem dX0_push_40 : decode cX0_push 40 = .ok (.invokevirtual 33, 3) := by decide +kernel
theorem dX0_push_43 : decode cX0_push 43 = .ok (.aload_n 0, 1) := by decide +kernel
theorem dX0_push_44 : decode cX0_push 44 = .ok (.dup, 1) := by decide +kernel
theorem dX0_push_45 : decode cX0_push 45 = .ok (.getfield 22, 3) := by decide +kernel
theorem dX0_push_48 : decode cX0_push 48 = .ok (.iconst 1, 1) := by decide +kernel
theorem dX0_push_49 : decode cX0_push 49 = .ok (.iadd, 1) := by decide +kernel
theorem dX0_push_50 : decode cX0_push 50 = .ok (.putfield 22, 3) := by decide +kernel
theorem dX0_push_53 : decode cX0_push 53 = .ok (.return_, 1) := by decide +kernel
theorem dX0_dropLowest_0 : decode cX0_dropLowest 0 = .ok (.aload_n 0, 1) := by decide +kernel
theorem dX0_dropLowest_1 : decode cX0_dropLowest 1 = .ok (.getfield 22, 3) := by decide +kernel
theorem dX0_dropLowest_4 : decode cX0_dropLowest 4 = .ok (.iconst 1, 1) := by decide +kernel
theorem dX0_dropLowest_5 : decode cX0_dropLowest 5 = .ok (.if_icmp .lt 15, 3) := by decide +kernel
theorem dX0_dropLowest_8 : decode cX0_dropLowest 8 = .ok (.aload_n 0, 1) := by decide +kernel
theorem dX0_dropLowest_9 : decode cX0_dropLowest 9 = .ok (.getfield 22, 3) := by decide +kernel
theorem dX0_dropLowest_12 : decode cX0_dropLowest 12 = .ok (.aload_n 0, 1) := by decide +kernel
theorem dX0_dropLowest_13 : decode cX0_dropLowest 13 = .ok (.getfield 15, 3) := by decide +kernel
theorem dX0_dropLowest_16 : decode cX0_dropLowest 16 = .ok (.arraylength, 1) := by decide +kernel
theorem dX0_dropLowest_17 : decode cX0_dropLowest 17 = .ok (.if_icmp .le 4, 3) := by decide +kernel
theorem dX0_dropLowest_20 : decode cX0_dropLowest 20 = .ok (.return_, 1) := by decide +kernel
theorem dX0_dropLowest_21 : decode cX0_dropLowest 21 = .ok (.aload_n 0, 1) := by decide +kernel
theorem dX0_dropLowest_22 : decode cX0_dropLowest 22 = .ok (.getfield 15, 3) := by decide +kernel
theorem dX0_dropLowest_25 : decode cX0_dropLowest 25 = .ok (.iconst 0, 1) := by decide +kernel
theorem dX0_dropLowest_26 : decode cX0_dropLowest 26 = .ok (.aaload, 1) := by decide +kernel
theorem dX0_dropLowest_27 : decode cX0_dropLowest 27 = .ok (.astore_n 1, 1) := by decide +kernel
theorem dX0_dropLowest_28 : decode cX0_dropLowest 28 = .ok (.iconst 1, 1) := by decide +kernel
theorem dX0_dropLowest_29 : decode cX0_dropLowest 29 = .ok (.istore_n 2, 1) := by decide +kernel
theorem dX0_dropLowest_30 : decode cX0_dropLowest 30 = .ok (.iload_n 2, 1) := by decide +kernel
theorem dX0_dropLowest_31 : decode cX0_dropLowest 31 = .ok (.aload_n 0, 1) := by decide +kernel
theorem dX0_dropLowest_32 : decode cX0_dropLowest 32 = .ok (.getfield 22, 3) := by decide +kernel
theorem dX0_dropLowest_35 : decode cX0_dropLowest 35 = .ok (.if_icmp .ge 23, 3) := by decide +kernel
theorem dX0_dropLowest_38 : decode cX0_dropLowest 38 = .ok (.aload_n 0, 1) := by decide +kernel
theorem dX0_dropLowest_39 : decode cX0_dropLowest 39 = .ok (.getfield 15, 3) := by decide +kernel
theorem dX0_dropLowest_42 : decode cX0_dropLowest 42 = .ok (.iload_n 2, 1) := by decide +kernel
theorem dX0_dropLowest_43 : decode cX0_dropLowest 43 = .ok (.iconst 1, 1) := by decide +kernel
theorem dX0_dropLowest_44 : decode cX0_dropLowest 44 = .ok (.isub, 1) := by decide +kernel
theorem dX0_dropLowest_45 : decode cX0_dropLowest 45 = .ok (.aload_n 0, 1) := by decide +kernel
theorem dX0_dropLowest_46 : decode cX0_dropLowest 46 = .ok (.getfield 15, 3) := by decide +kernel
theorem dX0_dropLowest_49 : decode cX0_dropLowest 49 = .ok (.iload_n 2, 1) := by decide +kernel
theorem dX0_dropLowest_50 : decode cX0_dropLowest 50 = .ok (.aaload, 1) := by decide +kernel
theorem dX0_dropLowest_51 : decode cX0_dropLowest 51 = .ok (.aastore, 1) := by decide +kernel
theorem dX0_dropLowest_52 : decode cX0_dropLowest 52 = .ok (.iinc 2 1, 3) := by decide +kernel
theorem dX0_dropLowest_55 : decode cX0_dropLowest 55 = .ok (.goto (-25), 3) := by decide +kernel
theorem dX0_dropLowest_58 : decode cX0_dropLowest 58 = .ok (.aload_n 0, 1) := by decide +kernel
theorem dX0_dropLowest_59 : decode cX0_dropLowest 59 = .ok (.getfield 15, 3) := by decide +kernel
theorem dX0_dropLowest_62 : decode cX0_dropLowest 62 = .ok (.aload_n 0, 1) := by decide +kernel
theorem dX0_dropLowest_63 : decode cX0_dropLowest 63 = .ok (.getfield 22, 3) := by decide +kernel
theorem dX0_dropLowest_66 : decode cX0_dropLowest 66 = .ok (.iconst 1, 1) := by decide +kernel
theorem dX0_dropLowest_67 : decode cX0_dropLowest 67 = .ok (.isub, 1) := by decide +kernel
theorem dX0_dropLowest_68 : decode cX0_dropLowest 68 = .ok (.aload_n 1, 1) := by decide +kernel
theorem dX0_dropLowest_69 : decode cX0_dropLowest 69 = .ok (.aastore, 1) := by decide +kernel
theorem dX0_dropLowest_70 : decode cX0_dropLowest 70 = .ok (.aload_n 0, 1) := by decide +kernel
theorem dX0_dropLowest_71 : decode cX0_dropLowest 71 = .ok (.dup, 1) := by decide +kernel
theorem dX0_dropLowest_72 : decode cX0_dropLowest 72 = .ok (.getfield 22, 3) := by decide +kernel
theorem dX0_dropLowest_75 : decode cX0_dropLowest 75 = .ok (.iconst 1, 1) := by decide +kernel
theorem dX0_dropLowest_76 : decode cX0_dropLowest 76 = .ok (.isub, 1) := by decide +kernel
theorem dX0_dropLowest_77 : decode cX0_dropLowest 77 = .ok (.putfield 22, 3) := by decide +kernel
theorem dX0_dropLowest_80 : decode cX0_dropLowest 80 = .ok (.return_, 1) := by decide +kernel
theorem dX0_popInto_0 : decode cX0_popInto 0 = .ok (.aload_n 0, 1) := by decide +kernel
theorem dX0_popInto_1 : decode cX0_popInto 1 = .ok (.getfield 22, 3) := by decide +kernel
theorem dX0_popInto_4 : decode cX0_popInto 4 = .ok (.iconst 1, 1) := by decide +kernel
theorem dX0_popInto_5 : decode cX0_popInto 5 = .ok (.if_icmp .lt 15, 3) := by decide +kernel
theorem dX0_popInto_8 : decode cX0_popInto 8 = .ok (.aload_n 0, 1) := by decide +kernel
theorem dX0_popInto_9 : decode cX0_popInto 9 = .ok (.getfield 22, 3) := by decide +kernel
theorem dX0_popInto_12 : decode cX0_popInto 12 = .ok (.aload_n 0, 1) := by decide +kernel
theorem dX0_popInto_13 : decode cX0_popInto 13 = .ok (.getfield 15, 3) := by decide +kernel
theorem dX0_popInto_16 : decode cX0_popInto 16 = .ok (.arraylength, 1) := by decide +kernel
theorem dX0_popInto_17 : decode cX0_popInto 17 = .ok (.if_icmp .le 5, 3) := by decide +kernel
theorem dX0_popInto_20 : decode cX0_popInto 20 = .ok (.iconst 0, 1) := by decide +kernel
theorem dX0_popInto_21 : decode cX0_popInto 21 = .ok (.ireturn, 1) := by decide +kernel
theorem dX0_popInto_22 : decode cX0_popInto 22 = .ok (.aload_n 0, 1) := by decide +kernel
theorem dX0_popInto_23 : decode cX0_popInto 23 = .ok (.dup, 1) := by decide +kernel
theorem dX0_popInto_24 : decode cX0_popInto 24 = .ok (.getfield 22, 3) := by decide +kernel
theorem dX0_popInto_27 : decode cX0_popInto 27 = .ok (.iconst 1, 1) := by decide +kernel
theorem dX0_popInto_28 : decode cX0_popInto 28 = .ok (.isub, 1) := by decide +kernel
theorem dX0_popInto_29 : decode cX0_popInto 29 = .ok (.putfield 22, 3) := by decide +kernel
theorem dX0_popInto_32 : decode cX0_popInto 32 = .ok (.aload_n 1, 1) := by decide +kernel
theorem dX0_popInto_33 : decode cX0_popInto 33 = .ok (.aload_n 0, 1) := by decide +kernel
theorem dX0_popInto_34 : decode cX0_popInto 34 = .ok (.getfield 15, 3) := by decide +kernel
theorem dX0_popInto_37 : decode cX0_popInto 37 = .ok (.aload_n 0, 1) := by decide +kernel
theorem dX0_popInto_38 : decode cX0_popInto 38 = .ok (.getfield 22, 3) := by decide +kernel
theorem dX0_popInto_41 : decode cX0_popInto 41 = .ok (.aaload, 1) := by decide +kernel
theorem dX0_popInto_42 : decode cX0_popInto 42 = .ok (.invokevirtual 33, 3) := by decide +kernel
theorem dX0_popInto_45 : decode cX0_popInto 45 = .ok (.iconst 1, 1) := by decide +kernel
theorem dX0_popInto_46 : decode cX0_popInto 46 = .ok (.ireturn, 1) := by decide +kernel
theorem dX1_init_0 : decode cX1_init 0 = .ok (.aload_n 0, 1) := by decide +kernel
theorem dX1_init_1 : decode cX1_init 1 = .ok (.invokespecial 3, 3) := by decide +kernel
theorem dX1_init_4 : decode cX1_init 4 = .ok (.aload_n 0, 1) := by decide +kernel
theorem dX1_init_5 : decode cX1_init 5 = .ok (.bipush 44, 2) := by decide +kernel
theorem dX1_init_7 : decode cX1_init 7 = .ok (.newarray .int, 2) := by decide +kernel
theorem dX1_init_9 : decode cX1_init 9 = .ok (.putfield 9, 3) := by decide +kernel
theorem dX1_init_12 : decode cX1_init 12 = .ok (.aload_n 0, 1) := by decide +kernel
theorem dX1_init_13 : decode cX1_init 13 = .ok (.bipush 44, 2) := by decide +kernel
theorem dX1_init_15 : decode cX1_init 15 = .ok (.newarray .int, 2) := by decide +kernel
theorem dX1_init_17 : decode cX1_init 17 = .ok (.putfield 15, 3) := by decide +kernel
theorem dX1_init_20 : decode cX1_init 20 = .ok (.aload_n 0, 1) := by decide +kernel
theorem dX1_init_21 : decode cX1_init 21 = .ok (.bipush 44, 2) := by decide +kernel
theorem dX1_init_23 : decode cX1_init 23 = .ok (.newarray .int, 2) := by decide +kernel
theorem dX1_init_25 : decode cX1_init 25 = .ok (.putfield 18, 3) := by decide +kernel
theorem dX1_init_28 : decode cX1_init 28 = .ok (.aload_n 0, 1) := by decide +kernel
theorem dX1_init_29 : decode cX1_init 29 = .ok (.bipush 44, 2) := by decide +kernel
theorem dX1_init_31 : decode cX1_init 31 = .ok (.newarray .int, 2) := by decide +kernel
theorem dX1_init_33 : decode cX1_init 33 = .ok (.putfield 21, 3) := by decide +kernel
theorem dX1_init_36 : decode cX1_init 36 = .ok (.aload_n 0, 1) := by decide +kernel
theorem dX1_init_37 : decode cX1_init 37 = .ok (.bipush 44, 2) := by decide +kernel
theorem dX1_init_39 : decode cX1_init 39 = .ok (.newarray .int, 2) := by decide +kernel
theorem dX1_init_41 : decode cX1_init 41 = .ok (.putfield 24, 3) := by decide +kernel
theorem dX1_init_44 : decode cX1_init 44 = .ok (.aload_n 0, 1) := by decide +kernel
theorem dX1_init_45 : decode cX1_init 45 = .ok (.bipush 45, 2) := by decide +kernel
theorem dX1_init_47 : decode cX1_init 47 = .ok (.newarray .int, 2) := by decide +kernel
theorem dX1_init_49 : decode cX1_init 49 = .ok (.putfield 27, 3) := by decide +kernel
theorem dX1_init_52 : decode cX1_init 52 = .ok (.aload_n 0, 1) := by decide +kernel
theorem dX1_init_53 : decode cX1_init 53 = .ok (.bipush 45, 2) := by decide +kernel
theorem dX1_init_55 : decode cX1_init 55 = .ok (.newarray .boolean, 2) := by decide +kernel
theorem dX1_init_57 : decode cX1_init 57 = .ok (.putfield 30, 3) := by decide +kernel
theorem dX1_init_60 : decode cX1_init 60 = .ok (.return_, 1) := by decide +kernel
theorem dX1_draw_0 : decode cX1_draw 0 = .ok (.aload_n 0, 1) := by decide +kernel
theorem dX1_draw_1 : decode cX1_draw 1 = .ok (.aload_n 1, 1) := by decide +kernel
theorem dX1_draw_2 : decode cX1_draw 2 = .ok (.invokevirtual 34, 3) := by decide +kernel
theorem dX1_draw_5 : decode cX1_draw 5 = .ok (.aload_n 0, 1) := by decide +kernel
theorem dX1_draw_6 : decode cX1_draw 6 = .ok (.aload_n 1, 1) := by decide +kernel
theorem dX1_draw_7 : decode cX1_draw 7 = .ok (.invokevirtual 38, 3) := by decide +kernel
theorem dX1_draw_10 : decode cX1_draw 10 = .ok (.aload_n 0, 1) := by decide +kernel
theorem dX1_draw_11 : decode cX1_draw 11 = .ok (.getfield 41, 3) := by decide +kernel
theorem dX1_draw_14 : decode cX1_draw 14 = .ok (.ireturn, 1) := by decide +kernel
theorem dX1_gather_0 : decode cX1_gather 0 = .ok (.aload_n 0, 1) := by decide +kernel
theorem dX1_gather_1 : decode cX1_gather 1 = .ok (.iconst 0, 1) := by decide +kernel
theorem dX1_gather_2 : decode cX1_gather 2 = .ok (.putfield 45, 3) := by decide +kernel
theorem dX1_gather_5 : decode cX1_gather 5 = .ok (.iconst 0, 1) := by decide +kernel
theorem dX1_gather_6 : decode cX1_gather 6 = .ok (.istore_n 2, 1) := by decide +kernel
theorem dX1_gather_7 : decode cX1_gather 7 = .ok (.iload_n 2, 1) := by decide +kernel
theorem dX1_gather_8 : decode cX1_gather 8 = .ok (.aload_n 1, 1) := by decide +kernel
theorem dX1_gather_9 : decode cX1_gather 9 = .ok (.getfield 48, 3) := by decide +kernel
theorem dX1_gather_12 : decode cX1_gather 12 = .ok (.if_icmp .gt 75, 3) := by decide +kernel
theorem dX1_gather_15 : decode cX1_gather 15 = .ok (.aload_n 1, 1) := by decide +kernel
theorem dX1_gather_16 : decode cX1_gather 16 = .ok (.iload_n 2, 1) := by decide +kernel
theorem dX1_gather_17 : decode cX1_gather 17 = .ok (.invokevirtual 53, 3) := by decide +kernel
theorem dX1_gather_20 : decode cX1_gather 20 = .ok (.ifCond .ne 6, 3) := by decide +kernel
theorem dX1_gather_23 : decode cX1_gather 23 = .ok (.goto 58, 3) := by decide +kernel
theorem dX1_gather_26 : decode cX1_gather 26 = .ok (.aload_n 1, 1) := by decide +kernel
theorem dX1_gather_27 : decode cX1_gather 27 = .ok (.iload_n 2, 1) := by decide +kernel
theorem dX1_gather_28 : decode cX1_gather 28 = .ok (.invokevirtual 57, 3) := by decide +kernel
theorem dX1_gather_31 : decode cX1_gather 31 = .ok (.istore_n 3, 1) := by decide +kernel
theorem dX1_gather_32 : decode cX1_gather 32 = .ok (.iload_n 3, 1) := by decide +kernel
theorem dX1_gather_33 : decode cX1_gather 33 = .ok (.ifCond .lt 16, 3) := by decide +kernel
theorem dX1_gather_36 : decode cX1_gather 36 = .ok (.aload_n 0, 1) := by decide +kernel
theorem dX1_gather_37 : decode cX1_gather 37 = .ok (.bipush 29, 2) := by decide +kernel
theorem dX1_gather_39 : decode cX1_gather 39 = .ok (.iload_n 2, 1) := by decide +kernel
theorem dX1_gather_40 : decode cX1_gather 40 = .ok (.aload_n 1, 1) := by decide +kernel
theorem dX1_gather_41 : decode cX1_gather 41 = .ok (.getfield 61, 3) := by decide +kernel
theorem dX1_gather_44 : decode cX1_gather 44 = .ok (.iload_n 3, 1) := by decide +kernel
theorem dX1_gather_45 : decode cX1_gather 45 = .ok (.iaload, 1) := by decide +kernel
theorem dX1_gather_46 : decode cX1_gather 46 = .ok (.invokevirtual 64, 3) := by decide +kernel
theorem dX1_gather_49 : decode cX1_gather 49 = .ok (.iload_n 2, 1) := by decide +kernel
theorem dX1_gather_50 : decode cX1_gather 50 = .ok (.aload_n 1, 1) := by decide +kernel
theorem dX1_gather_51 : decode cX1_gather 51 = .ok (.getfield 48, 3) := by decide +kernel
theorem dX1_gather_54 : decode cX1_gather 54 = .ok (.if_icmp .ge 27, 3) := by decide +kernel
theorem dX1_gather_57 : decode cX1_gather 57 = .ok (.aload_n 0, 1) := by decide +kernel
theorem dX1_gather_58 : decode cX1_gather 58 = .ok (.aload_n 1, 1) := by decide +kernel
theorem dX1_gather_59 : decode cX1_gather 59 = .ok (.iload_n 2, 1) := by decide +kernel
theorem dX1_gather_60 : decode cX1_gather 60 = .ok (.invokevirtual 68, 3) := by decide +kernel
theorem dX1_gather_63 : decode cX1_gather 63 = .ok (.ifCond .ge 11, 3) := by decide +kernel
theorem dX1_gather_66 : decode cX1_gather 66 = .ok (.aload_n 1, 1) := by decide +kernel
theorem dX1_gather_67 : decode cX1_gather 67 = .ok (.iload_n 2, 1) := by decide +kernel
theorem dX1_gather_68 : decode cX1_gather 68 = .ok (.invokevirtual 71, 3) := by decide +kernel
theorem dX1_gather_71 : decode cX1_gather 71 = .ok (.goto 5, 3) := by decide +kernel
theorem dX1_gather_74 : decode cX1_gather 74 = .ok (.bipush 28, 2) := by decide +kernel
theorem dX1_gather_76 : decode cX1_gather 76 = .ok (.iload_n 2, 1) := by decide +kernel
theorem dX1_gather_77 : decode cX1_gather 77 = .ok (.iconst 1, 1) := by decide +kernel
theorem dX1_gather_78 : decode cX1_gather 78 = .ok (.invokevirtual 64, 3) := by decide +kernel
theorem dX1_gather_81 : decode cX1_gather 81 = .ok (.iinc 2 1, 3) := by decide +kernel
theorem dX1_gather_84 : decode cX1_gather 84 = .ok (.goto (-77), 3) := by decide +kernel
theorem dX1_gather_87 : decode cX1_gather 87 = .ok (.return_, 1) := by decide +kernel
theorem dX1_addItem_0 : decode cX1_addItem 0 = .ok (.aload_n 0, 1) := by decide +kernel
theorem dX1_addItem_1 : decode cX1_addItem 1 = .ok (.getfield 45, 3) := by decide +kernel
theorem dX1_addItem_4 : decode cX1_addItem 4 = .ok (.ifCond .lt 12, 3) := by decide +kernel
theorem dX1_addItem_7 : decode cX1_addItem 7 = .ok (.aload_n 0, 1) := by decide +kernel
theorem dX1_addItem_8 : decode cX1_addItem 8 = .ok (.getfield 45, 3) := by decide +kernel
theorem dX1_addItem_11 : decode cX1_addItem 11 = .ok (.bipush 44, 2) := by decide +kernel
theorem dX1_addItem_13 : decode cX1_addItem 13 = .ok (.if_icmp .lt 4, 3) := by decide +kernel
theorem dX1_addItem_16 : decode cX1_addItem 16 = .ok (.return_, 1) := by decide +kernel
theorem dX1_addItem_17 : decode cX1_addItem 17 = .ok (.aload_n 0, 1) := by decide +kernel
theorem dX1_addItem_18 : decode cX1_addItem 18 = .ok (.getfield 9, 3) := by decide +kernel
theorem dX1_addItem_21 : decode cX1_addItem 21 = .ok (.aload_n 0, 1) := by decide +kernel
theorem dX1_addItem_22 : decode cX1_addItem 22 = .ok (.getfield 45, 3) := by decide +kernel
theorem dX1_addItem_25 : decode cX1_addItem 25 = .ok (.iload_n 1, 1) := by decide +kernel
theorem dX1_addItem_26 : decode cX1_addItem 26 = .ok (.iastore, 1) := by decide +kernel
theorem dX1_addItem_27 : decode cX1_addItem 27 = .ok (.aload_n 0, 1) := by decide +kernel
theorem dX1_addItem_28 : decode cX1_addItem 28 = .ok (.getfield 15, 3) := by decide +kernel
theorem dX1_addItem_31 : decode cX1_addItem 31 = .ok (.aload_n 0, 1) := by decide +kernel
theorem dX1_addItem_32 : decode cX1_addItem 32 = .ok (.getfield 45, 3) := by decide +kernel
theorem dX1_addItem_35 : decode cX1_addItem 35 = .ok (.iload_n 2, 1) := by decide +kernel
theorem dX1_addItem_36 : decode cX1_addItem 36 = .ok (.iastore, 1) := by decide +kernel
theorem dX1_addItem_37 : decode cX1_addItem 37 = .ok (.aload_n 0, 1) := by decide +kernel
theorem dX1_addItem_38 : decode cX1_addItem 38 = .ok (.getfield 24, 3) := by decide +kernel
theorem dX1_addItem_41 : decode cX1_addItem 41 = .ok (.aload_n 0, 1) := by decide +kernel
theorem dX1_addItem_42 : decode cX1_addItem 42 = .ok (.getfield 45, 3) := by decide +kernel
theorem dX1_addItem_45 : decode cX1_addItem 45 = .ok (.iload_n 3, 1) := by decide +kernel
theorem dX1_addItem_46 : decode cX1_addItem 46 = .ok (.iastore, 1) := by decide +kernel
theorem dX1_addItem_47 : decode cX1_addItem 47 = .ok (.aload_n 0, 1) := by decide +kernel
theorem dX1_addItem_48 : decode cX1_addItem 48 = .ok (.dup, 1) := by decide +kernel
theorem dX1_addItem_49 : decode cX1_addItem 49 = .ok (.getfield 45, 3) := by decide +kernel
theorem dX1_addItem_52 : decode cX1_addItem 52 = .ok (.iconst 1, 1) := by decide +kernel
theorem dX1_addItem_53 : decode cX1_addItem 53 = .ok (.iadd, 1) := by decide +kernel
theorem dX1_addItem_54 : decode cX1_addItem 54 = .ok (.putfield 45, 3) := by decide +kernel
theorem dX1_addItem_57 : decode cX1_addItem 57 = .ok (.return_, 1) := by decide +kernel
theorem dX1_flow_0 : decode cX1_flow 0 = .ok (.aload_n 0, 1) := by decide +kernel
theorem dX1_flow_1 : decode cX1_flow 1 = .ok (.iconst 0, 1) := by decide +kernel
theorem dX1_flow_2 : decode cX1_flow 2 = .ok (.putfield 41, 3) := by decide +kernel
theorem dX1_flow_5 : decode cX1_flow 5 = .ok (.aload_n 0, 1) := by decide +kernel
theorem dX1_flow_6 : decode cX1_flow 6 = .ok (.iconst 1, 1) := by decide +kernel
theorem dX1_flow_7 : decode cX1_flow 7 = .ok (.invokevirtual 74, 3) := by decide +kernel
theorem dX1_flow_10 : decode cX1_flow 10 = .ok (.iconst 0, 1) := by decide +kernel
theorem dX1_flow_11 : decode cX1_flow 11 = .ok (.istore_n 2, 1) := by decide +kernel
theorem dX1_flow_12 : decode cX1_flow 12 = .ok (.iconst 0, 1) := by decide +kernel
theorem dX1_flow_13 : decode cX1_flow 13 = .ok (.istore_n 3, 1) := by decide +kernel
theorem dX1_flow_14 : decode cX1_flow 14 = .ok (.iload_n 3, 1) := by decide +kernel
theorem dX1_flow_15 : decode cX1_flow 15 = .ok (.aload_n 0, 1) := by decide +kernel
theorem dX1_flow_16 : decode cX1_flow 16 = .ok (.getfield 45, 3) := by decide +kernel
theorem dX1_flow_19 : decode cX1_flow 19 = .ok (.if_icmp .ge 114, 3) := by decide +kernel
theorem dX1_flow_22 : decode cX1_flow 22 = .ok (.iload_n 2, 1) := by decide +kernel
theorem dX1_flow_23 : decode cX1_flow 23 = .ok (.ifCond .eq 25, 3) := by decide +kernel
theorem dX1_flow_26 : decode cX1_flow 26 = .ok (.aload_n 0, 1) := by decide +kernel
theorem dX1_flow_27 : decode cX1_flow 27 = .ok (.aload_n 1, 1) := by decide +kernel
theorem dX1_flow_28 : decode cX1_flow 28 = .ok (.iload_n 3, 1) := by decide +kernel
theorem dX1_flow_29 : decode cX1_flow 29 = .ok (.invokevirtual 78, 3) := by decide +kernel
theorem dX1_flow_32 : decode cX1_flow 32 = .ok (.ifCond .eq 16, 3) := by decide +kernel
theorem dX1_flow_35 : decode cX1_flow 35 = .ok (.aload_n 0, 1) := by decide +kernel
theorem dX1_flow_36 : decode cX1_flow 36 = .ok (.iconst 0, 1) := by decide +kernel
theorem dX1_flow_37 : decode cX1_flow 37 = .ok (.invokevirtual 74, 3) := by decide +kernel
theorem dX1_flow_40 : decode cX1_flow 40 = .ok (.aload_n 0, 1) := by decide +kernel
theorem dX1_flow_41 : decode cX1_flow 41 = .ok (.aload_n 1, 1) := by decide +kernel
theorem dX1_flow_42 : decode cX1_flow 42 = .ok (.getfield 82, 3) := by decide +kernel
theorem dX1_flow_45 : decode cX1_flow 45 = .ok (.putfield 85, 3) := by decide +kernel
theorem dX1_flow_48 : decode cX1_flow 48 = .ok (.aload_n 0, 1) := by decide +kernel
theorem dX1_flow_49 : decode cX1_flow 49 = .ok (.getfield 24, 3) := by decide +kernel
theorem dX1_flow_52 : decode cX1_flow 52 = .ok (.iload_n 3, 1) := by decide +kernel
theorem dX1_flow_53 : decode cX1_flow 53 = .ok (.aload_n 0, 1) := by decide +kernel
theorem dX1_flow_54 : decode cX1_flow 54 = .ok (.aload_n 1, 1) := by decide +kernel
theorem dX1_flow_55 : decode cX1_flow 55 = .ok (.iload_n 3, 1) := by decide +kernel
theorem dX1_flow_56 : decode cX1_flow 56 = .ok (.invokevirtual 88, 3) := by decide +kernel
theorem dX1_flow_59 : decode cX1_flow 59 = .ok (.iastore, 1) := by decide +kernel
theorem dX1_flow_60 : decode cX1_flow 60 = .ok (.aload_n 0, 1) := by decide +kernel
theorem dX1_flow_61 : decode cX1_flow 61 = .ok (.getfield 18, 3) := by decide +kernel
theorem dX1_flow_64 : decode cX1_flow 64 = .ok (.iload_n 3, 1) := by decide +kernel
theorem dX1_flow_65 : decode cX1_flow 65 = .ok (.aload_n 0, 1) := by decide +kernel
theorem dX1_flow_66 : decode cX1_flow 66 = .ok (.getfield 41, 3) := by decide +kernel
theorem dX1_flow_69 : decode cX1_flow 69 = .ok (.iconst 1, 1) := by decide +kernel
theorem dX1_flow_70 : decode cX1_flow 70 = .ok (.isub, 1) := by decide +kernel
theorem dX1_flow_71 : decode cX1_flow 71 = .ok (.iastore, 1) := by decide +kernel
theorem dX1_flow_72 : decode cX1_flow 72 = .ok (.aload_n 0, 1) := by decide +kernel
theorem dX1_flow_73 : decode cX1_flow 73 = .ok (.getfield 21, 3) := by decide +kernel
theorem dX1_flow_76 : decode cX1_flow 76 = .ok (.iload_n 3, 1) := by decide +kernel
theorem dX1_flow_77 : decode cX1_flow 77 = .ok (.aload_n 0, 1) := by decide +kernel
theorem dX1_flow_78 : decode cX1_flow 78 = .ok (.getfield 85, 3) := by decide +kernel
theorem dX1_flow_81 : decode cX1_flow 81 = .ok (.iastore, 1) := by decide +kernel
theorem dX1_flow_82 : decode cX1_flow 82 = .ok (.aload_n 0, 1) := by decide +kernel
theorem dX1_flow_83 : decode cX1_flow 83 = .ok (.dup, 1) := by decide +kernel
theorem dX1_flow_84 : decode cX1_flow 84 = .ok (.getfield 85, 3) := by decide +kernel
theorem dX1_flow_87 : decode cX1_flow 87 = .ok (.aload_n 0, 1) := by decide +kernel
theorem dX1_flow_88 : decode cX1_flow 88 = .ok (.getfield 24, 3) := by decide +kernel
theorem dX1_flow_91 : decode cX1_flow 91 = .ok (.iload_n 3, 1) := by decide +kernel
theorem dX1_flow_92 : decode cX1_flow 92 = .ok (.iaload, 1) := by decide +kernel
theorem dX1_flow_93 : decode cX1_flow 93 = .ok (.iadd, 1) := by decide +kernel
theorem dX1_flow_94 : decode cX1_flow 94 = .ok (.putfield 85, 3) := by decide +kernel
theorem dX1_flow_97 : decode cX1_flow 97 = .ok (.aload_n 0, 1) := by decide +kernel
theorem dX1_flow_98 : decode cX1_flow 98 = .ok (.invokevirtual 92, 3) := by decide +kernel
theorem dX1_flow_101 : decode cX1_flow 101 = .ok (.aload_n 0, 1) := by decide +kernel
theorem dX1_flow_102 : decode cX1_flow 102 = .ok (.getfield 9, 3) := by decide +kernel
theorem dX1_flow_105 : decode cX1_flow 105 = .ok (.iload_n 3, 1) := by decide +kernel
theorem dX1_flow_106 : decode cX1_flow 106 = .ok (.iaload, 1) := by decide +kernel
theorem dX1_flow_107 : decode cX1_flow 107 = .ok (.bipush 27, 2) := by decide +kernel
theorem dX1_flow_109 : decode cX1_flow 109 = .ok (.if_icmp .eq 7, 3) := by decide +kernel
theorem dX1_flow_112 : decode cX1_flow 112 = .ok (.iconst 1, 1) := by decide +kernel
theorem dX1_flow_113 : decode cX1_flow 113 = .ok (.goto 4, 3) := by decide +kernel
theorem dX1_flow_116 : decode cX1_flow 116 = .ok (.iconst 0, 1) := by decide +kernel
theorem dX1_flow_117 : decode cX1_flow 117 = .ok (.istore_n 2, 1) := by decide +kernel
theorem dX1_flow_118 : decode cX1_flow 118 = .ok (.iload_n 2, 1) := by decide +kernel
theorem dX1_flow_119 : decode cX1_flow 119 = .ok (.ifCond .ne 8, 3) := by decide +kernel
theorem dX1_flow_122 : decode cX1_flow 122 = .ok (.aload_n 0, 1) := by decide +kernel
theorem dX1_flow_123 : decode cX1_flow 123 = .ok (.iconst 1, 1) := by decide +kernel
theorem dX1_flow_124 : decode cX1_flow 124 = .ok (.invokevirtual 74, 3) := by decide +kernel
theorem dX1_flow_127 : decode cX1_flow 127 = .ok (.iinc 3 1, 3) := by decide +kernel
theorem dX1_flow_130 : decode cX1_flow 130 = .ok (.goto (-116), 3) := by decide +kernel
theorem dX1_flow_133 : decode cX1_flow 133 = .ok (.return_, 1) := by decide +kernel
theorem dX1_openRow_0 : decode cX1_openRow 0 = .ok (.aload_n 0, 1) := by decide +kernel
theorem dX1_openRow_1 : decode cX1_openRow 1 = .ok (.getfield 41, 3) := by decide +kernel
theorem dX1_openRow_4 : decode cX1_openRow 4 = .ok (.ifCond .lt 12, 3) := by decide +kernel
theorem dX1_openRow_7 : decode cX1_openRow 7 = .ok (.aload_n 0, 1) := by decide +kernel
theorem dX1_openRow_8 : decode cX1_openRow 8 = .ok (.getfield 41, 3) := by decide +kernel
theorem dX1_openRow_11 : decode cX1_openRow 11 = .ok (.bipush 45, 2) := by decide +kernel
theorem dX1_openRow_13 : decode cX1_openRow 13 = .ok (.if_icmp .lt 4, 3) := by decide +kernel
theorem dX1_openRow_16 : decode cX1_openRow 16 = .ok (.return_, 1) := by decide +kernel
theorem dX1_openRow_17 : decode cX1_openRow 17 = .ok (.aload_n 0, 1) := by decide +kernel
theorem dX1_openRow_18 : decode cX1_openRow 18 = .ok (.getfield 30, 3) := by decide +kernel
theorem dX1_openRow_21 : decode cX1_openRow 21 = .ok (.aload_n 0, 1) := by decide +kernel
theorem dX1_openRow_22 : decode cX1_openRow 22 = .ok (.getfield 41, 3) := by decide +kernel
theorem dX1_openRow_25 : decode cX1_openRow 25 = .ok (.iload_n 1, 1) := by decide +kernel
theorem dX1_openRow_26 : decode cX1_openRow 26 = .ok (.bastore, 1) := by decide +kernel
theorem dX1_openRow_27 : decode cX1_openRow 27 = .ok (.aload_n 0, 1) := by decide +kernel
theorem dX1_openRow_28 : decode cX1_openRow 28 = .ok (.getfield 27, 3) := by decide +kernel
theorem dX1_openRow_31 : decode cX1_openRow 31 = .ok (.aload_n 0, 1) := by decide +kernel
theorem dX1_openRow_32 : decode cX1_openRow 32 = .ok (.getfield 41, 3) := by decide +kernel
theorem dX1_openRow_35 : decode cX1_openRow 35 = .ok (.iconst 0, 1) := by decide +kernel
theorem dX1_openRow_36 : decode cX1_openRow 36 = .ok (.iastore, 1) := by decide +kernel
theorem dX1_openRow_37 : decode cX1_openRow 37 = .ok (.aload_n 0, 1) := by decide +kernel
theorem dX1_openRow_38 : decode cX1_openRow 38 = .ok (.dup, 1) := by decide +kernel
theorem dX1_openRow_39 : decode cX1_openRow 39 = .ok (.getfield 41, 3) := by decide +kernel
theorem dX1_openRow_42 : decode cX1_openRow 42 = .ok (.iconst 1, 1) := by decide +kernel
theorem dX1_openRow_43 : decode cX1_openRow 43 = .ok (.iadd, 1) := by decide +kernel
theorem dX1_openRow_44 : decode cX1_openRow 44 = .ok (.putfield 41, 3) := by decide +kernel
theorem dX1_openRow_47 : decode cX1_openRow 47 = .ok (.aload_n 0, 1) := by decide +kernel
theorem dX1_openRow_48 : decode cX1_openRow 48 = .ok (.iconst 0, 1) := by decide +kernel
theorem dX1_openRow_49 : decode cX1_openRow 49 = .ok (.putfield 85, 3) := by decide +kernel
theorem dX1_openRow_52 : decode cX1_openRow 52 = .ok (.return_, 1) := by decide +kernel
theorem dX1_closeRow_0 : decode cX1_closeRow 0 = .ok (.aload_n 0, 1) := by decide +kernel
theorem dX1_closeRow_1 : decode cX1_closeRow 1 = .ok (.getfield 41, 3) := by decide +kernel
theorem dX1_closeRow_4 : decode cX1_closeRow 4 = .ok (.iconst 1, 1) := by decide +kernel
theorem dX1_closeRow_5 : decode cX1_closeRow 5 = .ok (.if_icmp .lt 27, 3) := by decide +kernel
theorem dX1_closeRow_8 : decode cX1_closeRow 8 = .ok (.aload_n 0, 1) := by decide +kernel
theorem dX1_closeRow_9 : decode cX1_closeRow 9 = .ok (.getfield 41, 3) := by decide +kernel
theorem dX1_closeRow_12 : decode cX1_closeRow 12 = .ok (.bipush 45, 2) := by decide +kernel
theorem dX1_closeRow_14 : decode cX1_closeRow 14 = .ok (.if_icmp .gt 18, 3) := by decide +kernel
theorem dX1_closeRow_17 : decode cX1_closeRow 17 = .ok (.aload_n 0, 1) := by decide +kernel
theorem dX1_closeRow_18 : decode cX1_closeRow 18 = .ok (.getfield 27, 3) := by decide +kernel
theorem dX1_closeRow_21 : decode cX1_closeRow 21 = .ok (.aload_n 0, 1) := by decide +kernel
theorem dX1_closeRow_22 : decode cX1_closeRow 22 = .ok (.getfield 41, 3) := by decide +kernel
theorem dX1_closeRow_25 : decode cX1_closeRow 25 = .ok (.iconst 1, 1) := by decide +kernel
theorem dX1_closeRow_26 : decode cX1_closeRow 26 = .ok (.isub, 1) := by decide +kernel
theorem dX1_closeRow_27 : decode cX1_closeRow 27 = .ok (.aload_n 0, 1) := by decide +kernel
theorem dX1_closeRow_28 : decode cX1_closeRow 28 = .ok (.getfield 85, 3) := by decide +kernel
theorem dX1_closeRow_31 : decode cX1_closeRow 31 = .ok (.iastore, 1) := by decide +kernel
theorem dX1_closeRow_32 : decode cX1_closeRow 32 = .ok (.return_, 1) := by decide +kernel
theorem dX1_goesOn_0 : decode cX1_goesOn 0 = .ok (.aload_n 1, 1) := by decide +kernel
theorem dX1_goesOn_1 : decode cX1_goesOn 1 = .ok (.getfield 95, 3) := by decide +kernel
theorem dX1_goesOn_4 : decode cX1_goesOn 4 = .ok (.iconst 1, 1) := by decide +kernel
theorem dX1_goesOn_5 : decode cX1_goesOn 5 = .ok (.if_icmp .eq 11, 3) := by decide +kernel
theorem dX1_goesOn_8 : decode cX1_goesOn 8 = .ok (.aload_n 1, 1) := by decide +kernel
theorem dX1_goesOn_9 : decode cX1_goesOn 9 = .ok (.getfield 95, 3) := by decide +kernel
theorem dX1_goesOn_12 : decode cX1_goesOn 12 = .ok (.iconst 2, 1) := by decide +kernel
theorem dX1_goesOn_13 : decode cX1_goesOn 13 = .ok (.if_icmp .ne 14, 3) := by decide +kernel
theorem dX1_goesOn_16 : decode cX1_goesOn 16 = .ok (.aload_n 0, 1) := by decide +kernel
theorem dX1_goesOn_17 : decode cX1_goesOn 17 = .ok (.getfield 9, 3) := by decide +kernel
theorem dX1_goesOn_20 : decode cX1_goesOn 20 = .ok (.iload_n 2, 1) := by decide +kernel
theorem dX1_goesOn_21 : decode cX1_goesOn 21 = .ok (.iaload, 1) := by decide +kernel
theorem dX1_goesOn_22 : decode cX1_goesOn 22 = .ok (.bipush 27, 2) := by decide +kernel
theorem dX1_goesOn_24 : decode cX1_goesOn 24 = .ok (.if_icmp .ne 5, 3) := by decide +kernel
theorem dX1_goesOn_27 : decode cX1_goesOn 27 = .ok (.iconst 0, 1) := by decide +kernel
theorem dX1_goesOn_28 : decode cX1_goesOn 28 = .ok (.ireturn, 1) := by decide +kernel
theorem dX1_goesOn_29 : decode cX1_goesOn 29 = .ok (.aload_n 0, 1) := by decide +kernel
theorem dX1_goesOn_30 : decode cX1_goesOn 30 = .ok (.getfield 85, 3) := by decide +kernel
theorem dX1_goesOn_33 : decode cX1_goesOn 33 = .ok (.aload_n 0, 1) := by decide +kernel
theorem dX1_goesOn_34 : decode cX1_goesOn 34 = .ok (.aload_n 1, 1) := by decide +kernel
theorem dX1_goesOn_35 : decode cX1_goesOn 35 = .ok (.iload_n 2, 1) := by decide +kernel
theorem dX1_goesOn_36 : decode cX1_goesOn 36 = .ok (.invokevirtual 88, 3) := by decide +kernel
theorem dX1_goesOn_39 : decode cX1_goesOn 39 = .ok (.iadd, 1) := by decide +kernel
theorem dX1_goesOn_40 : decode cX1_goesOn 40 = .ok (.aload_n 1, 1) := by decide +kernel
theorem dX1_goesOn_41 : decode cX1_goesOn 41 = .ok (.getfield 98, 3) := by decide +kernel
theorem dX1_goesOn_44 : decode cX1_goesOn 44 = .ok (.if_icmp .le 5, 3) := by decide +kernel
theorem dX1_goesOn_47 : decode cX1_goesOn 47 = .ok (.iconst 1, 1) := by decide +kernel
theorem dX1_goesOn_48 : decode cX1_goesOn 48 = .ok (.ireturn, 1) := by decide +kernel
theorem dX1_goesOn_49 : decode cX1_goesOn 49 = .ok (.aload_n 1, 1) := by decide +kernel
theorem dX1_goesOn_50 : decode cX1_goesOn 50 = .ok (.getfield 95, 3) := by decide +kernel
theorem dX1_goesOn_53 : decode cX1_goesOn 53 = .ok (.iconst 2, 1) := by decide +kernel
theorem dX1_goesOn_54 : decode cX1_goesOn 54 = .ok (.if_icmp .ne 11, 3) := by decide +kernel
theorem dX1_goesOn_57 : decode cX1_goesOn 57 = .ok (.aload_n 0, 1) := by decide +kernel
theorem dX1_goesOn_58 : decode cX1_goesOn 58 = .ok (.iload_n 2, 1) := by decide +kernel
theorem dX1_goesOn_59 : decode cX1_goesOn 59 = .ok (.invokevirtual 101, 3) := by decide +kernel
theorem dX1_goesOn_62 : decode cX1_goesOn 62 = .ok (.ifCond .ne 5, 3) := by decide +kernel
theorem dX1_goesOn_65 : decode cX1_goesOn 65 = .ok (.iconst 0, 1) := by decide +kernel
theorem dX1_goesOn_66 : decode cX1_goesOn 66 = .ok (.ireturn, 1) := by decide +kernel
theorem dX1_goesOn_67 : decode cX1_goesOn 67 = .ok (.aload_n 0, 1) := by decide +kernel
theorem dX1_goesOn_68 : decode cX1_goesOn 68 = .ok (.iload_n 2, 1) := by decide +kernel
theorem dX1_goesOn_69 : decode cX1_goesOn 69 = .ok (.invokevirtual 104, 3) := by decide +kernel
theorem dX1_goesOn_72 : decode cX1_goesOn 72 = .ok (.istore_n 3, 1) := by decide +kernel
theorem dX1_goesOn_73 : decode cX1_goesOn 73 = .ok (.aload_n 0, 1) := by decide +kernel
theorem dX1_goesOn_74 : decode cX1_goesOn 74 = .ok (.getfield 85, 3) := by decide +kernel
theorem dX1_goesOn_77 : decode cX1_goesOn 77 = .ok (.iload_n 3, 1) := by decide +kernel
theorem dX1_goesOn_78 : decode cX1_goesOn 78 = .ok (.iadd, 1) := by decide +kernel
theorem dX1_goesOn_79 : decode cX1_goesOn 79 = .ok (.aload_n 1, 1) := by decide +kernel
theorem dX1_goesOn_80 : decode cX1_goesOn 80 = .ok (.getfield 98, 3) := by decide +kernel
theorem dX1_goesOn_83 : decode cX1_goesOn 83 = .ok (.if_icmp .le 20, 3) := by decide +kernel
theorem dX1_goesOn_86 : decode cX1_goesOn 86 = .ok (.iload_n 3, 1) := by decide +kernel
theorem dX1_goesOn_87 : decode cX1_goesOn 87 = .ok (.aload_n 1, 1) := by decide +kernel
theorem dX1_goesOn_88 : decode cX1_goesOn 88 = .ok (.getfield 98, 3) := by decide +kernel
theorem dX1_goesOn_91 : decode cX1_goesOn 91 = .ok (.aload_n 1, 1) := by decide +kernel
theorem dX1_goesOn_92 : decode cX1_goesOn 92 = .ok (.getfield 82, 3) := by decide +kernel
theorem dX1_goesOn_95 : decode cX1_goesOn 95 = .ok (.isub, 1) := by decide +kernel
theorem dX1_goesOn_96 : decode cX1_goesOn 96 = .ok (.if_icmp .gt 7, 3) := by decide +kernel
theorem dX1_goesOn_99 : decode cX1_goesOn 99 = .ok (.iconst 1, 1) := by decide +kernel
theorem dX1_goesOn_100 : decode cX1_goesOn 100 = .ok (.goto 4, 3) := by decide +kernel
theorem dX1_goesOn_103 : decode cX1_goesOn 103 = .ok (.iconst 0, 1) := by decide +kernel
theorem dX1_goesOn_104 : decode cX1_goesOn 104 = .ok (.ireturn, 1) := by decide +kernel
theorem dX1_widthOf_0 : decode cX1_widthOf 0 = .ok (.aload_n 0, 1) := by decide +kernel
theorem dX1_widthOf_1 : decode cX1_widthOf 1 = .ok (.getfield 9, 3) := by decide +kernel
theorem dX1_widthOf_4 : decode cX1_widthOf 4 = .ok (.iload_n 2, 1) := by decide +kernel
theorem dX1_widthOf_5 : decode cX1_widthOf 5 = .ok (.iaload, 1) := by decide +kernel
theorem dX1_widthOf_6 : decode cX1_widthOf 6 = .ok (.bipush 27, 2) := by decide +kernel
theorem dX1_widthOf_8 : decode cX1_widthOf 8 = .ok (.if_icmp .ne 5, 3) := by decide +kernel
theorem dX1_widthOf_11 : decode cX1_widthOf 11 = .ok (.iconst 0, 1) := by decide +kernel
theorem dX1_widthOf_12 : decode cX1_widthOf 12 = .ok (.ireturn, 1) := by decide +kernel
theorem dX1_widthOf_13 : decode cX1_widthOf 13 = .ok (.aload_n 0, 1) := by decide +kernel
theorem dX1_widthOf_14 : decode cX1_widthOf 14 = .ok (.getfield 9, 3) := by decide +kernel
theorem dX1_widthOf_17 : decode cX1_widthOf 17 = .ok (.iload_n 2, 1) := by decide +kernel
theorem dX1_widthOf_18 : decode cX1_widthOf 18 = .ok (.iaload, 1) := by decide +kernel
theorem dX1_widthOf_19 : decode cX1_widthOf 19 = .ok (.bipush 26, 2) := by decide +kernel
theorem dX1_widthOf_21 : decode cX1_widthOf 21 = .ok (.if_icmp .eq 10, 3) := by decide +kernel
theorem dX1_widthOf_24 : decode cX1_widthOf 24 = .ok (.aload_n 0, 1) := by decide +kernel
theorem dX1_widthOf_25 : decode cX1_widthOf 25 = .ok (.getfield 24, 3) := by decide +kernel
theorem dX1_widthOf_28 : decode cX1_widthOf 28 = .ok (.iload_n 2, 1) := by decide +kernel
theorem dX1_widthOf_29 : decode cX1_widthOf 29 = .ok (.iaload, 1) := by decide +kernel
theorem dX1_widthOf_30 : decode cX1_widthOf 30 = .ok (.ireturn, 1) := by decide +kernel
theorem dX1_widthOf_31 : decode cX1_widthOf 31 = .ok (.aload_n 1, 1) := by decide +kernel
theorem dX1_widthOf_32 : decode cX1_widthOf 32 = .ok (.getfield 107, 3) := by decide +kernel
theorem dX1_widthOf_35 : decode cX1_widthOf 35 = .ok (.iconst 1, 1) := by decide +kernel
theorem dX1_widthOf_36 : decode cX1_widthOf 36 = .ok (.if_icmp .ge 7, 3) := by decide +kernel
theorem dX1_widthOf_39 : decode cX1_widthOf 39 = .ok (.iconst 1, 1) := by decide +kernel
theorem dX1_widthOf_40 : decode cX1_widthOf 40 = .ok (.goto 17, 3) := by decide +kernel
theorem dX1_widthOf_43 : decode cX1_widthOf 43 = .ok (.aload_n 1, 1) := by decide +kernel
theorem dX1_widthOf_44 : decode cX1_widthOf 44 = .ok (.getfield 107, 3) := by decide +kernel
theorem dX1_widthOf_47 : decode cX1_widthOf 47 = .ok (.aload_n 0, 1) := by decide +kernel
theorem dX1_widthOf_48 : decode cX1_widthOf 48 = .ok (.getfield 85, 3) := by decide +kernel
theorem dX1_widthOf_51 : decode cX1_widthOf 51 = .ok (.aload_n 1, 1) := by decide +kernel
theorem dX1_widthOf_52 : decode cX1_widthOf 52 = .ok (.getfield 107, 3) := by decide +kernel
theorem dX1_widthOf_55 : decode cX1_widthOf 55 = .ok (.irem, 1) := by decide +kernel
theorem dX1_widthOf_56 : decode cX1_widthOf 56 = .ok (.isub, 1) := by decide +kernel
theorem dX1_widthOf_57 : decode cX1_widthOf 57 = .ok (.ireturn, 1) := by decide +kernel
theorem dX1_isOfWord_0 : decode cX1_isOfWord 0 = .ok (.aload_n 0, 1) := by decide +kernel
theorem dX1_isOfWord_1 : decode cX1_isOfWord 1 = .ok (.getfield 9, 3) := by decide +kernel
theorem dX1_isOfWord_4 : decode cX1_isOfWord 4 = .ok (.iload_n 1, 1) := by decide +kernel
theorem dX1_isOfWord_5 : decode cX1_isOfWord 5 = .ok (.iaload, 1) := by decide +kernel
theorem dX1_isOfWord_6 : decode cX1_isOfWord 6 = .ok (.bipush 26, 2) := by decide +kernel
theorem dX1_isOfWord_8 : decode cX1_isOfWord 8 = .ok (.if_icmp .eq 18, 3) := by decide +kernel
theorem dX1_isOfWord_11 : decode cX1_isOfWord 11 = .ok (.aload_n 0, 1) := by decide +kernel
theorem dX1_isOfWord_12 : decode cX1_isOfWord 12 = .ok (.getfield 9, 3) := by decide +kernel
theorem dX1_isOfWord_15 : decode cX1_isOfWord 15 = .ok (.iload_n 1, 1) := by decide +kernel
theorem dX1_isOfWord_16 : decode cX1_isOfWord 16 = .ok (.iaload, 1) := by decide +kernel
theorem dX1_isOfWord_17 : decode cX1_isOfWord 17 = .ok (.bipush 27, 2) := by decide +kernel
theorem dX1_isOfWord_19 : decode cX1_isOfWord 19 = .ok (.if_icmp .eq 7, 3) := by decide +kernel
theorem dX1_isOfWord_22 : decode cX1_isOfWord 22 = .ok (.iconst 1, 1) := by decide +kernel
theorem dX1_isOfWord_23 : decode cX1_isOfWord 23 = .ok (.goto 4, 3) := by decide +kernel
theorem dX1_isOfWord_26 : decode cX1_isOfWord 26 = .ok (.iconst 0, 1) := by decide +kernel
theorem dX1_isOfWord_27 : decode cX1_isOfWord 27 = .ok (.ireturn, 1) := by decide +kernel
theorem dX1_startsWord_0 : decode cX1_startsWord 0 = .ok (.aload_n 0, 1) := by decide +kernel
theorem dX1_startsWord_1 : decode cX1_startsWord 1 = .ok (.iload_n 1, 1) := by decide +kernel
theorem dX1_startsWord_2 : decode cX1_startsWord 2 = .ok (.invokevirtual 110, 3) := by decide +kernel
theorem dX1_startsWord_5 : decode cX1_startsWord 5 = .ok (.ifCond .eq 21, 3) := by decide +kernel
theorem dX1_startsWord_8 : decode cX1_startsWord 8 = .ok (.iload_n 1, 1) := by decide +kernel
theorem dX1_startsWord_9 : decode cX1_startsWord 9 = .ok (.ifCond .eq 13, 3) := by decide +kernel
theorem dX1_startsWord_12 : decode cX1_startsWord 12 = .ok (.aload_n 0, 1) := by decide +kernel
theorem dX1_startsWord_13 : decode cX1_startsWord 13 = .ok (.iload_n 1, 1) := by decide +kernel
theorem dX1_startsWord_14 : decode cX1_startsWord 14 = .ok (.iconst 1, 1) := by decide +kernel
theorem dX1_startsWord_15 : decode cX1_startsWord 15 = .ok (.isub, 1) := by decide +kernel
theorem dX1_startsWord_16 : decode cX1_startsWord 16 = .ok (.invokevirtual 110, 3) := by decide +kernel
theorem dX1_startsWord_19 : decode cX1_startsWord 19 = .ok (.ifCond .ne 7, 3) := by decide +kernel
theorem dX1_startsWord_22 : decode cX1_startsWord 22 = .ok (.iconst 1, 1) := by decide +kernel
theorem dX1_startsWord_23 : decode cX1_startsWord 23 = .ok (.goto 4, 3) := by decide +kernel
theorem dX1_startsWord_26 : decode cX1_startsWord 26 = .ok (.iconst 0, 1) := by decide +kernel
theorem dX1_startsWord_27 : decode cX1_startsWord 27 = .ok (.ireturn, 1) := by decide +kernel
theorem dX1_wordWidth_0 : decode cX1_wordWidth 0 = .ok (.iconst 0, 1) := by decide +kernel
theorem dX1_wordWidth_1 : decode cX1_wordWidth 1 = .ok (.istore_n 2, 1) := by decide +kernel
theorem dX1_wordWidth_2 : decode cX1_wordWidth 2 = .ok (.iload_n 1, 1) := by decide +kernel
theorem dX1_wordWidth_3 : decode cX1_wordWidth 3 = .ok (.istore_n 3, 1) := by decide +kernel
theorem dX1_wordWidth_4 : decode cX1_wordWidth 4 = .ok (.iload_n 3, 1) := by decide +kernel
theorem dX1_wordWidth_5 : decode cX1_wordWidth 5 = .ok (.aload_n 0, 1) := by decide +kernel
theorem dX1_wordWidth_6 : decode cX1_wordWidth 6 = .ok (.getfield 45, 3) := by decide +kernel
theorem dX1_wordWidth_9 : decode cX1_wordWidth 9 = .ok (.if_icmp .ge 26, 3) := by decide +kernel
theorem dX1_wordWidth_12 : decode cX1_wordWidth 12 = .ok (.aload_n 0, 1) := by decide +kernel
theorem dX1_wordWidth_13 : decode cX1_wordWidth 13 = .ok (.iload_n 3, 1) := by decide +kernel
theorem dX1_wordWidth_14 : decode cX1_wordWidth 14 = .ok (.invokevirtual 110, 3) := by decide +kernel
theorem dX1_wordWidth_17 : decode cX1_wordWidth 17 = .ok (.ifCond .eq 18, 3) := by decide +kernel
theorem dX1_wordWidth_20 : decode cX1_wordWidth 20 = .ok (.iload_n 2, 1) := by decide +kernel
theorem dX1_wordWidth_21 : decode cX1_wordWidth 21 = .ok (.aload_n 0, 1) := by decide +kernel
theorem dX1_wordWidth_22 : decode cX1_wordWidth 22 = .ok (.getfield 24, 3) := by decide +kernel
theorem dX1_wordWidth_25 : decode cX1_wordWidth 25 = .ok (.iload_n 3, 1) := by decide +kernel
theorem dX1_wordWidth_26 : decode cX1_wordWidth 26 = .ok (.iaload, 1) := by decide +kernel
theorem dX1_wordWidth_27 : decode cX1_wordWidth 27 = .ok (.iadd, 1) := by decide +kernel
theorem dX1_wordWidth_28 : decode cX1_wordWidth 28 = .ok (.istore_n 2, 1) := by decide +kernel
theorem dX1_wordWidth_29 : decode cX1_wordWidth 29 = .ok (.iinc 3 1, 3) := by decide +kernel
theorem dX1_wordWidth_32 : decode cX1_wordWidth 32 = .ok (.goto (-28), 3) := by decide +kernel
theorem dX1_wordWidth_35 : decode cX1_wordWidth 35 = .ok (.iload_n 2, 1) := by decide +kernel
theorem dX1_wordWidth_36 : decode cX1_wordWidth 36 = .ok (.ireturn, 1) := by decide +kernel
theorem dX1_hasRow_0 : decode cX1_hasRow 0 = .ok (.iload_n 1, 1) := by decide +kernel
theorem dX1_hasRow_1 : decode cX1_hasRow 1 = .ok (.ifCond .lt 15, 3) := by decide +kernel
theorem dX1_hasRow_4 : decode cX1_hasRow 4 = .ok (.iload_n 1, 1) := by decide +kernel
theorem dX1_hasRow_5 : decode cX1_hasRow 5 = .ok (.aload_n 0, 1) := by decide +kernel
theorem dX1_hasRow_6 : decode cX1_hasRow 6 = .ok (.getfield 41, 3) := by decide +kernel
theorem dX1_hasRow_9 : decode cX1_hasRow 9 = .ok (.if_icmp .ge 7, 3) := by decide +kernel
theorem dX1_hasRow_12 : decode cX1_hasRow 12 = .ok (.iconst 1, 1) := by decide +kernel
theorem dX1_hasRow_13 : decode cX1_hasRow 13 = .ok (.goto 4, 3) := by decide +kernel
theorem dX1_hasRow_16 : decode cX1_hasRow 16 = .ok (.iconst 0, 1) := by decide +kernel
theorem dX1_hasRow_17 : decode cX1_hasRow 17 = .ok (.ireturn, 1) := by decide +kernel
theorem dX1_longestRow_0 : decode cX1_longestRow 0 = .ok (.iconst 0, 1) := by decide +kernel
theorem dX1_longestRow_1 : decode cX1_longestRow 1 = .ok (.istore_n 1, 1) := by decide +kernel
theorem dX1_longestRow_2 : decode cX1_longestRow 2 = .ok (.iconst 0, 1) := by decide +kernel
theorem dX1_longestRow_3 : decode cX1_longestRow 3 = .ok (.istore_n 2, 1) := by decide +kernel
theorem dX1_longestRow_4 : decode cX1_longestRow 4 = .ok (.iload_n 2, 1) := by decide +kernel
theorem dX1_longestRow_5 : decode cX1_longestRow 5 = .ok (.aload_n 0, 1) := by decide +kernel
theorem dX1_longestRow_6 : decode cX1_longestRow 6 = .ok (.getfield 41, 3) := by decide +kernel
theorem dX1_longestRow_9 : decode cX1_longestRow 9 = .ok (.if_icmp .ge 20, 3) := by decide +kernel
theorem dX1_longestRow_12 : decode cX1_longestRow 12 = .ok (.iload_n 1, 1) := by decide +kernel
theorem dX1_longestRow_13 : decode cX1_longestRow 13 = .ok (.aload_n 0, 1) := by decide +kernel
theorem dX1_longestRow_14 : decode cX1_longestRow 14 = .ok (.getfield 27, 3) := by decide +kernel
theorem dX1_longestRow_17 : decode cX1_longestRow 17 = .ok (.iload_n 2, 1) := by decide +kernel
theorem dX1_longestRow_18 : decode cX1_longestRow 18 = .ok (.iaload, 1) := by decide +kernel
theorem dX1_longestRow_19 : decode cX1_longestRow 19 = .ok (.invokestatic 113, 3) := by decide +kernel
theorem dX1_longestRow_22 : decode cX1_longestRow 22 = .ok (.istore_n 1, 1) := by decide +kernel
theorem dX1_longestRow_23 : decode cX1_longestRow 23 = .ok (.iinc 2 1, 3) := by decide +kernel
theorem dX1_longestRow_26 : decode cX1_longestRow 26 = .ok (.goto (-22), 3) := by decide +kernel
theorem dX1_longestRow_29 : decode cX1_longestRow 29 = .ok (.iload_n 1, 1) := by decide +kernel
theorem dX1_longestRow_30 : decode cX1_longestRow 30 = .ok (.ireturn, 1) := by decide +kernel
theorem dX1_itemOf_0 : decode cX1_itemOf 0 = .ok (.iconst 0, 1) := by decide +kernel
theorem dX1_itemOf_1 : decode cX1_itemOf 1 = .ok (.istore_n 2, 1) := by decide +kernel
theorem dX1_itemOf_2 : decode cX1_itemOf 2 = .ok (.iload_n 2, 1) := by decide +kernel
theorem dX1_itemOf_3 : decode cX1_itemOf 3 = .ok (.aload_n 0, 1) := by decide +kernel
theorem dX1_itemOf_4 : decode cX1_itemOf 4 = .ok (.getfield 45, 3) := by decide +kernel
theorem dX1_itemOf_7 : decode cX1_itemOf 7 = .ok (.if_icmp .ge 32, 3) := by decide +kernel
theorem dX1_itemOf_10 : decode cX1_itemOf 10 = .ok (.aload_n 0, 1) := by decide +kernel
theorem dX1_itemOf_11 : decode cX1_itemOf 11 = .ok (.getfield 15, 3) := by decide +kernel
theorem dX1_itemOf_14 : decode cX1_itemOf 14 = .ok (.iload_n 2, 1) := by decide +kernel
theorem dX1_itemOf_15 : decode cX1_itemOf 15 = .ok (.iaload, 1) := by decide +kernel
theorem dX1_itemOf_16 : decode cX1_itemOf 16 = .ok (.iload_n 1, 1) := by decide +kernel
theorem dX1_itemOf_17 : decode cX1_itemOf 17 = .ok (.if_icmp .ne 16, 3) := by decide +kernel
theorem dX1_itemOf_20 : decode cX1_itemOf 20 = .ok (.aload_n 0, 1) := by decide +kernel
theorem dX1_itemOf_21 : decode cX1_itemOf 21 = .ok (.getfield 9, 3) := by decide +kernel
theorem dX1_itemOf_24 : decode cX1_itemOf 24 = .ok (.iload_n 2, 1) := by decide +kernel
theorem dX1_itemOf_25 : decode cX1_itemOf 25 = .ok (.iaload, 1) := by decide +kernel
theorem dX1_itemOf_26 : decode cX1_itemOf 26 = .ok (.bipush 29, 2) := by decide +kernel
theorem dX1_itemOf_28 : decode cX1_itemOf 28 = .ok (.if_icmp .eq 5, 3) := by decide +kernel
theorem dX1_itemOf_31 : decode cX1_itemOf 31 = .ok (.iload_n 2, 1) := by decide +kernel
theorem dX1_itemOf_32 : decode cX1_itemOf 32 = .ok (.ireturn, 1) := by decide +kernel
theorem dX1_itemOf_33 : decode cX1_itemOf 33 = .ok (.iinc 2 1, 3) := by decide +kernel
theorem dX1_itemOf_36 : decode cX1_itemOf 36 = .ok (.goto (-34), 3) := by decide +kernel
theorem dX1_itemOf_39 : decode cX1_itemOf 39 = .ok (.iconst (-1), 1) := by decide +kernel
theorem dX1_itemOf_40 : decode cX1_itemOf 40 = .ok (.ireturn, 1) := by decide +kernel
theorem dX1_placeAt_0 : decode cX1_placeAt 0 = .ok (.iload_n 3, 1) := by decide +kernel
theorem dX1_placeAt_1 : decode cX1_placeAt 1 = .ok (.istore 4, 2) := by decide +kernel
theorem dX1_placeAt_3 : decode cX1_placeAt 3 = .ok (.iconst 0, 1) := by decide +kernel
theorem dX1_placeAt_4 : decode cX1_placeAt 4 = .ok (.istore 5, 2) := by decide +kernel
theorem dX1_placeAt_6 : decode cX1_placeAt 6 = .ok (.iload 5, 2) := by decide +kernel
theorem dX1_placeAt_8 : decode cX1_placeAt 8 = .ok (.aload_n 0, 1) := by decide +kernel
theorem dX1_placeAt_9 : decode cX1_placeAt 9 = .ok (.getfield 45, 3) := by decide +kernel
theorem dX1_placeAt_12 : decode cX1_placeAt 12 = .ok (.if_icmp .ge 66, 3) := by decide +kernel
theorem dX1_placeAt_15 : decode cX1_placeAt 15 = .ok (.aload_n 0, 1) := by decide +kernel
theorem dX1_placeAt_16 : decode cX1_placeAt 16 = .ok (.getfield 18, 3) := by decide +kernel
theorem dX1_placeAt_19 : decode cX1_placeAt 19 = .ok (.iload 5, 2) := by decide +kernel
theorem dX1_placeAt_21 : decode cX1_placeAt 21 = .ok (.iaload, 1) := by decide +kernel
theorem dX1_placeAt_22 : decode cX1_placeAt 22 = .ok (.iload_n 1, 1) := by decide +kernel
theorem dX1_placeAt_23 : decode cX1_placeAt 23 = .ok (.if_icmp .eq 6, 3) := by decide +kernel
theorem dX1_placeAt_26 : decode cX1_placeAt 26 = .ok (.goto 46, 3) := by decide +kernel
theorem dX1_placeAt_29 : decode cX1_placeAt 29 = .ok (.aload_n 0, 1) := by decide +kernel
theorem dX1_placeAt_30 : decode cX1_placeAt 30 = .ok (.getfield 15, 3) := by decide +kernel
theorem dX1_placeAt_33 : decode cX1_placeAt 33 = .ok (.iload 5, 2) := by decide +kernel
theorem dX1_placeAt_35 : decode cX1_placeAt 35 = .ok (.iaload, 1) := by decide +kernel
theorem dX1_placeAt_36 : decode cX1_placeAt 36 = .ok (.istore 4, 2) := by decide +kernel
theorem dX1_placeAt_38 : decode cX1_placeAt 38 = .ok (.iload_n 2, 1) := by decide +kernel
theorem dX1_placeAt_39 : decode cX1_placeAt 39 = .ok (.aload_n 0, 1) := by decide +kernel
theorem dX1_placeAt_40 : decode cX1_placeAt 40 = .ok (.getfield 21, 3) := by decide +kernel
theorem dX1_placeAt_43 : decode cX1_placeAt 43 = .ok (.iload 5, 2) := by decide +kernel
theorem dX1_placeAt_45 : decode cX1_placeAt 45 = .ok (.iaload, 1) := by decide +kernel
theorem dX1_placeAt_46 : decode cX1_placeAt 46 = .ok (.aload_n 0, 1) := by decide +kernel
theorem dX1_placeAt_47 : decode cX1_placeAt 47 = .ok (.getfield 24, 3) := by decide +kernel
theorem dX1_placeAt_50 : decode cX1_placeAt 50 = .ok (.iload 5, 2) := by decide +kernel
theorem dX1_placeAt_52 : decode cX1_placeAt 52 = .ok (.iaload, 1) := by decide +kernel
theorem dX1_placeAt_53 : decode cX1_placeAt 53 = .ok (.iadd, 1) := by decide +kernel
theorem dX1_placeAt_54 : decode cX1_placeAt 54 = .ok (.if_icmp .lt 15, 3) := by decide +kernel
theorem dX1_placeAt_57 : decode cX1_placeAt 57 = .ok (.aload_n 0, 1) := by decide +kernel
theorem dX1_placeAt_58 : decode cX1_placeAt 58 = .ok (.getfield 9, 3) := by decide +kernel
theorem dX1_placeAt_61 : decode cX1_placeAt 61 = .ok (.iload 5, 2) := by decide +kernel
theorem dX1_placeAt_63 : decode cX1_placeAt 63 = .ok (.iaload, 1) := by decide +kernel
theorem dX1_placeAt_64 : decode cX1_placeAt 64 = .ok (.bipush 27, 2) := by decide +kernel
theorem dX1_placeAt_66 : decode cX1_placeAt 66 = .ok (.if_icmp .ne 6, 3) := by decide +kernel
theorem dX1_placeAt_69 : decode cX1_placeAt 69 = .ok (.iload 4, 2) := by decide +kernel
theorem dX1_placeAt_71 : decode cX1_placeAt 71 = .ok (.ireturn, 1) := by decide +kernel
theorem dX1_placeAt_72 : decode cX1_placeAt 72 = .ok (.iinc 5 1, 3) := by decide +kernel
theorem dX1_placeAt_75 : decode cX1_placeAt 75 = .ok (.goto (-69), 3) := by decide +kernel
theorem dX1_placeAt_78 : decode cX1_placeAt 78 = .ok (.iload_n 1, 1) := by decide +kernel
theorem dX1_placeAt_79 : decode cX1_placeAt 79 = .ok (.aload_n 0, 1) := by decide +kernel
theorem dX1_placeAt_80 : decode cX1_placeAt 80 = .ok (.getfield 41, 3) := by decide +kernel
theorem dX1_placeAt_83 : decode cX1_placeAt 83 = .ok (.iconst 1, 1) := by decide +kernel
theorem dX1_placeAt_84 : decode cX1_placeAt 84 = .ok (.isub, 1) := by decide +kernel
theorem dX1_placeAt_85 : decode cX1_placeAt 85 = .ok (.if_icmp .ne 7, 3) := by decide +kernel
theorem dX1_placeAt_88 : decode cX1_placeAt 88 = .ok (.iload_n 3, 1) := by decide +kernel
theorem dX1_placeAt_89 : decode cX1_placeAt 89 = .ok (.goto 5, 3) := by decide +kernel
theorem dX1_placeAt_92 : decode cX1_placeAt 92 = .ok (.iload 4, 2) := by decide +kernel
theorem dX1_placeAt_94 : decode cX1_placeAt 94 = .ok (.ireturn, 1) := by decide +kernel
theorem dX1_codeAt_0 : decode cX1_codeAt 0 = .ok (.iconst 0, 1) := by decide +kernel
theorem dX1_codeAt_1 : decode cX1_codeAt 1 = .ok (.istore_n 3, 1) := by decide +kernel
theorem dX1_codeAt_2 : decode cX1_codeAt 2 = .ok (.iload_n 3, 1) := by decide +kernel
theorem dX1_codeAt_3 : decode cX1_codeAt 3 = .ok (.aload_n 0, 1) := by decide +kernel
theorem dX1_codeAt_4 : decode cX1_codeAt 4 = .ok (.getfield 45, 3) := by decide +kernel
theorem dX1_codeAt_7 : decode cX1_codeAt 7 = .ok (.if_icmp .ge 53, 3) := by decide +kernel
theorem dX1_codeAt_10 : decode cX1_codeAt 10 = .ok (.aload_n 0, 1) := by decide +kernel
theorem dX1_codeAt_11 : decode cX1_codeAt 11 = .ok (.getfield 18, 3) := by decide +kernel
theorem dX1_codeAt_14 : decode cX1_codeAt 14 = .ok (.iload_n 3, 1) := by decide +kernel
theorem dX1_codeAt_15 : decode cX1_codeAt 15 = .ok (.iaload, 1) := by decide +kernel
theorem dX1_codeAt_16 : decode cX1_codeAt 16 = .ok (.iload_n 1, 1) := by decide +kernel
theorem dX1_codeAt_17 : decode cX1_codeAt 17 = .ok (.if_icmp .ne 37, 3) := by decide +kernel
theorem dX1_codeAt_20 : decode cX1_codeAt 20 = .ok (.aload_n 0, 1) := by decide +kernel
theorem dX1_codeAt_21 : decode cX1_codeAt 21 = .ok (.getfield 21, 3) := by decide +kernel
theorem dX1_codeAt_24 : decode cX1_codeAt 24 = .ok (.iload_n 3, 1) := by decide +kernel
theorem dX1_codeAt_25 : decode cX1_codeAt 25 = .ok (.iaload, 1) := by decide +kernel
theorem dX1_codeAt_26 : decode cX1_codeAt 26 = .ok (.iload_n 2, 1) := by decide +kernel
theorem dX1_codeAt_27 : decode cX1_codeAt 27 = .ok (.if_icmp .gt 27, 3) := by decide +kernel
theorem dX1_codeAt_30 : decode cX1_codeAt 30 = .ok (.iload_n 2, 1) := by decide +kernel
theorem dX1_codeAt_31 : decode cX1_codeAt 31 = .ok (.aload_n 0, 1) := by decide +kernel
theorem dX1_codeAt_32 : decode cX1_codeAt 32 = .ok (.getfield 21, 3) := by decide +kernel
theorem dX1_codeAt_35 : decode cX1_codeAt 35 = .ok (.iload_n 3, 1) := by decide +kernel
theorem dX1_codeAt_36 : decode cX1_codeAt 36 = .ok (.iaload, 1) := by decide +kernel
theorem dX1_codeAt_37 : decode cX1_codeAt 37 = .ok (.aload_n 0, 1) := by decide +kernel
theorem dX1_codeAt_38 : decode cX1_codeAt 38 = .ok (.getfield 24, 3) := by decide +kernel
theorem dX1_codeAt_41 : decode cX1_codeAt 41 = .ok (.iload_n 3, 1) := by decide +kernel
theorem dX1_codeAt_42 : decode cX1_codeAt 42 = .ok (.iaload, 1) := by decide +kernel
theorem dX1_codeAt_43 : decode cX1_codeAt 43 = .ok (.iadd, 1) := by decide +kernel
theorem dX1_codeAt_44 : decode cX1_codeAt 44 = .ok (.if_icmp .ge 10, 3) := by decide +kernel
theorem dX1_codeAt_47 : decode cX1_codeAt 47 = .ok (.aload_n 0, 1) := by decide +kernel
theorem dX1_codeAt_48 : decode cX1_codeAt 48 = .ok (.getfield 9, 3) := by decide +kernel
theorem dX1_codeAt_51 : decode cX1_codeAt 51 = .ok (.iload_n 3, 1) := by decide +kernel
theorem dX1_codeAt_52 : decode cX1_codeAt 52 = .ok (.iaload, 1) := by decide +kernel
theorem dX1_codeAt_53 : decode cX1_codeAt 53 = .ok (.ireturn, 1) := by decide +kernel
theorem dX1_codeAt_54 : decode cX1_codeAt 54 = .ok (.iinc 3 1, 3) := by decide +kernel
theorem dX1_codeAt_57 : decode cX1_codeAt 57 = .ok (.goto (-55), 3) := by decide +kernel
theorem dX1_codeAt_60 : decode cX1_codeAt 60 = .ok (.bipush (-4), 2) := by decide +kernel
theorem dX1_codeAt_62 : decode cX1_codeAt 62 = .ok (.ireturn, 1) := by decide +kernel
theorem dX1_isRowAsIn_0 : decode cX1_isRowAsIn 0 = .ok (.aload_n 0, 1) := by decide +kernel
theorem dX1_isRowAsIn_1 : decode cX1_isRowAsIn 1 = .ok (.iload_n 2, 1) := by decide +kernel
theorem dX1_isRowAsIn_2 : decode cX1_isRowAsIn 2 = .ok (.invokevirtual 119, 3) := by decide +kernel
theorem dX1_isRowAsIn_5 : decode cX1_isRowAsIn 5 = .ok (.ifCond .eq 11, 3) := by decide +kernel
theorem dX1_isRowAsIn_8 : decode cX1_isRowAsIn 8 = .ok (.aload_n 1, 1) := by decide +kernel
theorem dX1_isRowAsIn_9 : decode cX1_isRowAsIn 9 = .ok (.iload_n 2, 1) := by decide +kernel
theorem dX1_isRowAsIn_10 : decode cX1_isRowAsIn 10 = .ok (.invokevirtual 119, 3) := by decide +kernel
theorem dX1_isRowAsIn_13 : decode cX1_isRowAsIn 13 = .ok (.ifCond .ne 5, 3) := by decide +kernel
theorem dX1_isRowAsIn_16 : decode cX1_isRowAsIn 16 = .ok (.iconst 0, 1) := by decide +kernel
theorem dX1_isRowAsIn_17 : decode cX1_isRowAsIn 17 = .ok (.ireturn, 1) := by decide +kernel
theorem dX1_isRowAsIn_18 : decode cX1_isRowAsIn 18 = .ok (.aload_n 0, 1) := by decide +kernel
theorem dX1_isRowAsIn_19 : decode cX1_isRowAsIn 19 = .ok (.iload_n 2, 1) := by decide +kernel
theorem dX1_isRowAsIn_20 : decode cX1_isRowAsIn 20 = .ok (.iconst 0, 1) := by decide +kernel
theorem dX1_isRowAsIn_21 : decode cX1_isRowAsIn 21 = .ok (.invokevirtual 122, 3) := by decide +kernel
theorem dX1_isRowAsIn_24 : decode cX1_isRowAsIn 24 = .ok (.istore_n 3, 1) := by decide +kernel
theorem dX1_isRowAsIn_25 : decode cX1_isRowAsIn 25 = .ok (.aload_n 1, 1) := by decide +kernel
theorem dX1_isRowAsIn_26 : decode cX1_isRowAsIn 26 = .ok (.iload_n 2, 1) := by decide +kernel
theorem dX1_isRowAsIn_27 : decode cX1_isRowAsIn 27 = .ok (.iconst 0, 1) := by decide +kernel
theorem dX1_isRowAsIn_28 : decode cX1_isRowAsIn 28 = .ok (.invokevirtual 122, 3) := by decide +kernel
theorem dX1_isRowAsIn_31 : decode cX1_isRowAsIn 31 = .ok (.istore 4, 2) := by decide +kernel
theorem dX1_isRowAsIn_33 : decode cX1_isRowAsIn 33 = .ok (.iconst 0, 1) := by decide +kernel
theorem dX1_isRowAsIn_34 : decode cX1_isRowAsIn 34 = .ok (.istore 5, 2) := by decide +kernel
theorem dX1_isRowAsIn_36 : decode cX1_isRowAsIn 36 = .ok (.iload 5, 2) := by decide +kernel
theorem dX1_isRowAsIn_38 : decode cX1_isRowAsIn 38 = .ok (.bipush 44, 2) := by decide +kernel
theorem dX1_isRowAsIn_40 : decode cX1_isRowAsIn 40 = .ok (.if_icmp .ge 51, 3) := by decide +kernel
theorem dX1_isRowAsIn_43 : decode cX1_isRowAsIn 43 = .ok (.iload_n 3, 1) := by decide +kernel
theorem dX1_isRowAsIn_44 : decode cX1_isRowAsIn 44 = .ok (.ifCond .lt 47, 3) := by decide +kernel
theorem dX1_isRowAsIn_47 : decode cX1_isRowAsIn 47 = .ok (.iload 4, 2) := by decide +kernel
theorem dX1_isRowAsIn_49 : decode cX1_isRowAsIn 49 = .ok (.ifCond .lt 42, 3) := by decide +kernel
theorem dX1_isRowAsIn_52 : decode cX1_isRowAsIn 52 = .ok (.aload_n 0, 1) := by decide +kernel
theorem dX1_isRowAsIn_53 : decode cX1_isRowAsIn 53 = .ok (.aload_n 1, 1) := by decide +kernel
theorem dX1_isRowAsIn_54 : decode cX1_isRowAsIn 54 = .ok (.iload_n 3, 1) := by decide +kernel
theorem dX1_isRowAsIn_55 : decode cX1_isRowAsIn 55 = .ok (.iload 4, 2) := by decide +kernel
theorem dX1_isRowAsIn_57 : decode cX1_isRowAsIn 57 = .ok (.invokevirtual 125, 3) := by decide +kernel
theorem dX1_isRowAsIn_60 : decode cX1_isRowAsIn 60 = .ok (.ifCond .ne 5, 3) := by decide +kernel
theorem dX1_isRowAsIn_63 : decode cX1_isRowAsIn 63 = .ok (.iconst 0, 1) := by decide +kernel
theorem dX1_isRowAsIn_64 : decode cX1_isRowAsIn 64 = .ok (.ireturn, 1) := by decide +kernel
theorem dX1_isRowAsIn_65 : decode cX1_isRowAsIn 65 = .ok (.aload_n 0, 1) := by decide +kernel
theorem dX1_isRowAsIn_66 : decode cX1_isRowAsIn 66 = .ok (.iload_n 2, 1) := by decide +kernel
theorem dX1_isRowAsIn_67 : decode cX1_isRowAsIn 67 = .ok (.iload_n 3, 1) := by decide +kernel
theorem dX1_isRowAsIn_68 : decode cX1_isRowAsIn 68 = .ok (.iconst 1, 1) := by decide +kernel
theorem dX1_isRowAsIn_69 : decode cX1_isRowAsIn 69 = .ok (.iadd, 1) := by decide +kernel
theorem dX1_isRowAsIn_70 : decode cX1_isRowAsIn 70 = .ok (.invokevirtual 122, 3) := by decide +kernel
theorem dX1_isRowAsIn_73 : decode cX1_isRowAsIn 73 = .ok (.istore_n 3, 1) := by decide +kernel
theorem dX1_isRowAsIn_74 : decode cX1_isRowAsIn 74 = .ok (.aload_n 1, 1) := by decide +kernel
theorem dX1_isRowAsIn_75 : decode cX1_isRowAsIn 75 = .ok (.iload_n 2, 1) := by decide +kernel
theorem dX1_isRowAsIn_76 : decode cX1_isRowAsIn 76 = .ok (.iload 4, 2) := by decide +kernel
theorem dX1_isRowAsIn_78 : decode cX1_isRowAsIn 78 = .ok (.iconst 1, 1) := by decide +kernel
theorem dX1_isRowAsIn_79 : decode cX1_isRowAsIn 79 = .ok (.iadd, 1) := by decide +kernel
theorem dX1_isRowAsIn_80 : decode cX1_isRowAsIn 80 = .ok (.invokevirtual 122, 3) := by decide +kernel
theorem dX1_isRowAsIn_83 : decode cX1_isRowAsIn 83 = .ok (.istore 4, 2) := by decide +kernel
theorem dX1_isRowAsIn_85 : decode cX1_isRowAsIn 85 = .ok (.iinc 5 1, 3) := by decide +kernel
theorem dX1_isRowAsIn_88 : decode cX1_isRowAsIn 88 = .ok (.goto (-52), 3) := by decide +kernel
theorem dX1_isRowAsIn_91 : decode cX1_isRowAsIn 91 = .ok (.iload_n 3, 1) := by decide +kernel
theorem dX1_isRowAsIn_92 : decode cX1_isRowAsIn 92 = .ok (.ifCond .ge 12, 3) := by decide +kernel
theorem dX1_isRowAsIn_95 : decode cX1_isRowAsIn 95 = .ok (.iload 4, 2) := by decide +kernel
theorem dX1_isRowAsIn_97 : decode cX1_isRowAsIn 97 = .ok (.ifCond .ge 7, 3) := by decide +kernel
theorem dX1_isRowAsIn_100 : decode cX1_isRowAsIn 100 = .ok (.iconst 1, 1) := by decide +kernel
theorem dX1_isRowAsIn_101 : decode cX1_isRowAsIn 101 = .ok (.goto 4, 3) := by decide +kernel
theorem dX1_isRowAsIn_104 : decode cX1_isRowAsIn 104 = .ok (.iconst 0, 1) := by decide +kernel
theorem dX1_isRowAsIn_105 : decode cX1_isRowAsIn 105 = .ok (.ireturn, 1) := by decide +kernel
theorem dX1_seek_0 : decode cX1_seek 0 = .ok (.iload_n 2, 1) := by decide +kernel
theorem dX1_seek_1 : decode cX1_seek 1 = .ok (.istore_n 3, 1) := by decide +kernel
theorem dX1_seek_2 : decode cX1_seek 2 = .ok (.iload_n 3, 1) := by decide +kernel
theorem dX1_seek_3 : decode cX1_seek 3 = .ok (.aload_n 0, 1) := by decide +kernel
theorem dX1_seek_4 : decode cX1_seek 4 = .ok (.getfield 45, 3) := by decide +kernel
theorem dX1_seek_7 : decode cX1_seek 7 = .ok (.if_icmp .ge 32, 3) := by decide +kernel
theorem dX1_seek_10 : decode cX1_seek 10 = .ok (.aload_n 0, 1) := by decide +kernel
theorem dX1_seek_11 : decode cX1_seek 11 = .ok (.getfield 18, 3) := by decide +kernel
theorem dX1_seek_14 : decode cX1_seek 14 = .ok (.iload_n 3, 1) := by decide +kernel
theorem dX1_seek_15 : decode cX1_seek 15 = .ok (.iaload, 1) := by decide +kernel
theorem dX1_seek_16 : decode cX1_seek 16 = .ok (.iload_n 1, 1) := by decide +kernel
theorem dX1_seek_17 : decode cX1_seek 17 = .ok (.if_icmp .ne 16, 3) := by decide +kernel
theorem dX1_seek_20 : decode cX1_seek 20 = .ok (.aload_n 0, 1) := by decide +kernel
theorem dX1_seek_21 : decode cX1_seek 21 = .ok (.getfield 9, 3) := by decide +kernel
theorem dX1_seek_24 : decode cX1_seek 24 = .ok (.iload_n 3, 1) := by decide +kernel
theorem dX1_seek_25 : decode cX1_seek 25 = .ok (.iaload, 1) := by decide +kernel
theorem dX1_seek_26 : decode cX1_seek 26 = .ok (.bipush 27, 2) := by decide +kernel
theorem dX1_seek_28 : decode cX1_seek 28 = .ok (.if_icmp .eq 5, 3) := by decide +kernel
theorem dX1_seek_31 : decode cX1_seek 31 = .ok (.iload_n 3, 1) := by decide +kernel
theorem dX1_seek_32 : decode cX1_seek 32 = .ok (.ireturn, 1) := by decide +kernel
theorem dX1_seek_33 : decode cX1_seek 33 = .ok (.iinc 3 1, 3) := by decide +kernel
theorem dX1_seek_36 : decode cX1_seek 36 = .ok (.goto (-34), 3) := by decide +kernel
theorem dX1_seek_39 : decode cX1_seek 39 = .ok (.iconst (-1), 1) := by decide +kernel
theorem dX1_seek_40 : decode cX1_seek 40 = .ok (.ireturn, 1) := by decide +kernel
theorem dX1_isItemAsIn_0 : decode cX1_isItemAsIn 0 = .ok (.aload_n 0, 1) := by decide +kernel
theorem dX1_isItemAsIn_1 : decode cX1_isItemAsIn 1 = .ok (.getfield 9, 3) := by decide +kernel
theorem dX1_isItemAsIn_4 : decode cX1_isItemAsIn 4 = .ok (.iload_n 2, 1) := by decide +kernel
theorem dX1_isItemAsIn_5 : decode cX1_isItemAsIn 5 = .ok (.iaload, 1) := by decide +kernel
theorem dX1_isItemAsIn_6 : decode cX1_isItemAsIn 6 = .ok (.aload_n 1, 1) := by decide +kernel
theorem dX1_isItemAsIn_7 : decode cX1_isItemAsIn 7 = .ok (.getfield 9, 3) := by decide +kernel
theorem dX1_isItemAsIn_10 : decode cX1_isItemAsIn 10 = .ok (.iload_n 3, 1) := by decide +kernel
theorem dX1_isItemAsIn_11 : decode cX1_isItemAsIn 11 = .ok (.iaload, 1) := by decide +kernel
theorem dX1_isItemAsIn_12 : decode cX1_isItemAsIn 12 = .ok (.if_icmp .ne 37, 3) := by decide +kernel
theorem dX1_isItemAsIn_15 : decode cX1_isItemAsIn 15 = .ok (.aload_n 0, 1) := by decide +kernel
theorem dX1_isItemAsIn_16 : decode cX1_isItemAsIn 16 = .ok (.getfield 21, 3) := by decide +kernel
theorem dX1_isItemAsIn_19 : decode cX1_isItemAsIn 19 = .ok (.iload_n 2, 1) := by decide +kernel
theorem dX1_isItemAsIn_20 : decode cX1_isItemAsIn 20 = .ok (.iaload, 1) := by decide +kernel
theorem dX1_isItemAsIn_21 : decode cX1_isItemAsIn 21 = .ok (.aload_n 1, 1) := by decide +kernel
theorem dX1_isItemAsIn_22 : decode cX1_isItemAsIn 22 = .ok (.getfield 21, 3) := by decide +kernel
theorem dX1_isItemAsIn_25 : decode cX1_isItemAsIn 25 = .ok (.iload_n 3, 1) := by decide +kernel
theorem dX1_isItemAsIn_26 : decode cX1_isItemAsIn 26 = .ok (.iaload, 1) := by decide +kernel
theorem dX1_isItemAsIn_27 : decode cX1_isItemAsIn 27 = .ok (.if_icmp .ne 22, 3) := by decide +kernel
theorem dX1_isItemAsIn_30 : decode cX1_isItemAsIn 30 = .ok (.aload_n 0, 1) := by decide +kernel
theorem dX1_isItemAsIn_31 : decode cX1_isItemAsIn 31 = .ok (.getfield 24, 3) := by decide +kernel
theorem dX1_isItemAsIn_34 : decode cX1_isItemAsIn 34 = .ok (.iload_n 2, 1) := by decide +kernel
theorem dX1_isItemAsIn_35 : decode cX1_isItemAsIn 35 = .ok (.iaload, 1) := by decide +kernel
theorem dX1_isItemAsIn_36 : decode cX1_isItemAsIn 36 = .ok (.aload_n 1, 1) := by decide +kernel
theorem dX1_isItemAsIn_37 : decode cX1_isItemAsIn 37 = .ok (.getfield 24, 3) := by decide +kernel
theorem dX1_isItemAsIn_40 : decode cX1_isItemAsIn 40 = .ok (.iload_n 3, 1) := by decide +kernel
theorem dX1_isItemAsIn_41 : decode cX1_isItemAsIn 41 = .ok (.iaload, 1) := by decide +kernel
theorem dX1_isItemAsIn_42 : decode cX1_isItemAsIn 42 = .ok (.if_icmp .ne 7, 3) := by decide +kernel
theorem dX1_isItemAsIn_45 : decode cX1_isItemAsIn 45 = .ok (.iconst 1, 1) := by decide +kernel
theorem dX1_isItemAsIn_46 : decode cX1_isItemAsIn 46 = .ok (.goto 4, 3) := by decide +kernel
theorem dX1_isItemAsIn_49 : decode cX1_isItemAsIn 49 = .ok (.iconst 0, 1) := by decide +kernel
theorem dX1_isItemAsIn_50 : decode cX1_isItemAsIn 50 = .ok (.ireturn, 1) := by decide +kernel
end
section
theorem dX2_init_0 : decode cX2_init 0 = .ok (.aload_n 0, 1) := by decide +kernel
theorem dX2_init_1 : decode cX2_init 1 = .ok (.invokespecial 3, 3) := by decide +kernel
theorem dX2_init_4 : decode cX2_init 4 = .ok (.aload_n 0, 1) := by decide +kernel
theorem dX2_init_5 : decode cX2_init 5 = .ok (.bipush 40, 2) := by decide +kernel
theorem dX2_init_7 : decode cX2_init 7 = .ok (.newarray .int, 2) := by decide +kernel
theorem dX2_init_9 : decode cX2_init 9 = .ok (.putfield 9, 3) := by decide +kernel
theorem dX2_init_12 : decode cX2_init 12 = .ok (.aload_n 0, 1) := by decide +kernel
theorem dX2_init_13 : decode cX2_init 13 = .ok (.iconst 4, 1) := by decide +kernel
theorem dX2_init_14 : decode cX2_init 14 = .ok (.newarray .int, 2) := by decide +kernel
theorem dX2_init_16 : decode cX2_init 16 = .ok (.putfield 15, 3) := by decide +kernel
theorem dX2_init_19 : decode cX2_init 19 = .ok (.aload_n 0, 1) := by decide +kernel
theorem dX2_init_20 : decode cX2_init 20 = .ok (.iconst 4, 1) := by decide +kernel
theorem dX2_init_21 : decode cX2_init 21 = .ok (.newarray .int, 2) := by decide +kernel
theorem dX2_init_23 : decode cX2_init 23 = .ok (.putfield 18, 3) := by decide +kernel
theorem dX2_init_26 : decode cX2_init 26 = .ok (.aload_n 0, 1) := by decide +kernel
theorem dX2_init_27 : decode cX2_init 27 = .ok (.iconst 4, 1) := by decide +kernel
theorem dX2_init_28 : decode cX2_init 28 = .ok (.newarray .boolean, 2) := by decide +kernel
theorem dX2_init_30 : decode cX2_init 30 = .ok (.putfield 21, 3) := by decide +kernel
theorem dX2_init_33 : decode cX2_init 33 = .ok (.aload_n 0, 1) := by decide +kernel
theorem dX2_init_34 : decode cX2_init 34 = .ok (.iconst 4, 1) := by decide +kernel
theorem dX2_init_35 : decode cX2_init 35 = .ok (.newarray .int, 2) := by decide +kernel
theorem dX2_init_37 : decode cX2_init 37 = .ok (.putfield 25, 3) := by decide +kernel
theorem dX2_init_40 : decode cX2_init 40 = .ok (.aload_n 0, 1) := by decide +kernel
theorem dX2_init_41 : decode cX2_init 41 = .ok (.iconst 4, 1) := by decide +kernel
theorem dX2_init_42 : decode cX2_init 42 = .ok (.newarray .int, 2) := by decide +kernel
theorem dX2_init_44 : decode cX2_init 44 = .ok (.putfield 28, 3) := by decide +kernel
theorem dX2_init_47 : decode cX2_init 47 = .ok (.return_, 1) := by decide +kernel
theorem dX2_clear_0 : decode cX2_clear 0 = .ok (.aload_n 0, 1) := by decide +kernel
theorem dX2_clear_1 : decode cX2_clear 1 = .ok (.iconst 0, 1) := by decide +kernel
theorem dX2_clear_2 : decode cX2_clear 2 = .ok (.putfield 31, 3) := by decide +kernel
theorem dX2_clear_5 : decode cX2_clear 5 = .ok (.aload_n 0, 1) := by decide +kernel
theorem dX2_clear_6 : decode cX2_clear 6 = .ok (.iconst 0, 1) := by decide +kernel
theorem dX2_clear_7 : decode cX2_clear 7 = .ok (.putfield 35, 3) := by decide +kernel
theorem dX2_clear_10 : decode cX2_clear 10 = .ok (.aload_n 0, 1) := by decide +kernel
theorem dX2_clear_11 : decode cX2_clear 11 = .ok (.iconst 0, 1) := by decide +kernel
theorem dX2_clear_12 : decode cX2_clear 12 = .ok (.putfield 38, 3) := by decide +kernel
theorem dX2_clear_15 : decode cX2_clear 15 = .ok (.aload_n 0, 1) := by decide +kernel
theorem dX2_clear_16 : decode cX2_clear 16 = .ok (.iconst 1, 1) := by decide +kernel
theorem dX2_clear_17 : decode cX2_clear 17 = .ok (.bipush 8, 2) := by decide +kernel
theorem dX2_clear_19 : decode cX2_clear 19 = .ok (.iconst 0, 1) := by decide +kernel
theorem dX2_clear_20 : decode cX2_clear 20 = .ok (.invokevirtual 41, 3) := by decide +kernel
theorem dX2_clear_23 : decode cX2_clear 23 = .ok (.aload_n 0, 1) := by decide +kernel
theorem dX2_clear_24 : decode cX2_clear 24 = .ok (.iconst 4, 1) := by decide +kernel
theorem dX2_clear_25 : decode cX2_clear 25 = .ok (.putfield 45, 3) := by decide +kernel
theorem dX2_clear_28 : decode cX2_clear 28 = .ok (.return_, 1) := by decide +kernel
theorem dX2_copyFrom_0 : decode cX2_copyFrom 0 = .ok (.aload_n 1, 1) := by decide +kernel
theorem dX2_copyFrom_1 : decode cX2_copyFrom 1 = .ok (.getfield 9, 3) := by decide +kernel
theorem dX2_copyFrom_4 : decode cX2_copyFrom 4 = .ok (.iconst 0, 1) := by decide +kernel
theorem dX2_copyFrom_5 : decode cX2_copyFrom 5 = .ok (.aload_n 0, 1) := by decide +kernel
theorem dX2_copyFrom_6 : decode cX2_copyFrom 6 = .ok (.getfield 9, 3) := by decide +kernel
theorem dX2_copyFrom_9 : decode cX2_copyFrom 9 = .ok (.iconst 0, 1) := by decide +kernel
theorem dX2_copyFrom_10 : decode cX2_copyFrom 10 = .ok (.bipush 40, 2) := by decide +kernel
theorem dX2_copyFrom_12 : decode cX2_copyFrom 12 = .ok (.invokestatic 48, 3) := by decide +kernel
theorem dX2_copyFrom_15 : decode cX2_copyFrom 15 = .ok (.aload_n 0, 1) := by decide +kernel
theorem dX2_copyFrom_16 : decode cX2_copyFrom 16 = .ok (.aload_n 1, 1) := by decide +kernel
theorem dX2_copyFrom_17 : decode cX2_copyFrom 17 = .ok (.getfield 31, 3) := by decide +kernel
theorem dX2_copyFrom_20 : decode cX2_copyFrom 20 = .ok (.putfield 31, 3) := by decide +kernel
theorem dX2_copyFrom_23 : decode cX2_copyFrom 23 = .ok (.iconst 0, 1) := by decide +kernel
theorem dX2_copyFrom_24 : decode cX2_copyFrom 24 = .ok (.istore_n 2, 1) := by decide +kernel
theorem dX2_copyFrom_25 : decode cX2_copyFrom 25 = .ok (.iload_n 2, 1) := by decide +kernel
theorem dX2_copyFrom_26 : decode cX2_copyFrom 26 = .ok (.iconst 4, 1) := by decide +kernel
theorem dX2_copyFrom_27 : decode cX2_copyFrom 27 = .ok (.if_icmp .ge 45, 3) := by decide +kernel
theorem dX2_copyFrom_30 : decode cX2_copyFrom 30 = .ok (.aload_n 0, 1) := by decide +kernel
theorem dX2_copyFrom_31 : decode cX2_copyFrom 31 = .ok (.getfield 15, 3) := by decide +kernel
theorem dX2_copyFrom_34 : decode cX2_copyFrom 34 = .ok (.iload_n 2, 1) := by decide +kernel
theorem dX2_copyFrom_35 : decode cX2_copyFrom 35 = .ok (.aload_n 1, 1) := by decide +kernel
theorem dX2_copyFrom_36 : decode cX2_copyFrom 36 = .ok (.getfield 15, 3) := by decide +kernel
theorem dX2_copyFrom_39 : decode cX2_copyFrom 39 = .ok (.iload_n 2, 1) := by decide +kernel
theorem dX2_copyFrom_40 : decode cX2_copyFrom 40 = .ok (.iaload, 1) := by decide +kernel
theorem dX2_copyFrom_41 : decode cX2_copyFrom 41 = .ok (.iastore, 1) := by decide +kernel
theorem dX2_copyFrom_42 : decode cX2_copyFrom 42 = .ok (.aload_n 0, 1) := by decide +kernel
theorem dX2_copyFrom_43 : decode cX2_copyFrom 43 = .ok (.getfield 18, 3) := by decide +kernel
theorem dX2_copyFrom_46 : decode cX2_copyFrom 46 = .ok (.iload_n 2, 1) := by decide +kernel
theorem dX2_copyFrom_47 : decode cX2_copyFrom 47 = .ok (.aload_n 1, 1) := by decide +kernel
theorem dX2_copyFrom_48 : decode cX2_copyFrom 48 = .ok (.getfield 18, 3) := by decide +kernel
theorem dX2_copyFrom_51 : decode cX2_copyFrom 51 = .ok (.iload_n 2, 1) := by decide +kernel
theorem dX2_copyFrom_52 : decode cX2_copyFrom 52 = .ok (.iaload, 1) := by decide +kernel
theorem dX2_copyFrom_53 : decode cX2_copyFrom 53 = .ok (.iastore, 1) := by decide +kernel
theorem dX2_copyFrom_54 : decode cX2_copyFrom 54 = .ok (.aload_n 0, 1) := by decide +kernel
theorem dX2_copyFrom_55 : decode cX2_copyFrom 55 = .ok (.getfield 21, 3) := by decide +kernel
theorem dX2_copyFrom_58 : decode cX2_copyFrom 58 = .ok (.iload_n 2, 1) := by decide +kernel
theorem dX2_copyFrom_59 : decode cX2_copyFrom 59 = .ok (.aload_n 1, 1) := by decide +kernel
theorem dX2_copyFrom_60 : decode cX2_copyFrom 60 = .ok (.getfield 21, 3) := by decide +kernel
theorem dX2_copyFrom_63 : decode cX2_copyFrom 63 = .ok (.iload_n 2, 1) := by decide +kernel
theorem dX2_copyFrom_64 : decode cX2_copyFrom 64 = .ok (.baload, 1) := by decide +kernel
theorem dX2_copyFrom_65 : decode cX2_copyFrom 65 = .ok (.bastore, 1) := by decide +kernel
theorem dX2_copyFrom_66 : decode cX2_copyFrom 66 = .ok (.iinc 2 1, 3) := by decide +kernel
theorem dX2_copyFrom_69 : decode cX2_copyFrom 69 = .ok (.goto (-44), 3) := by decide +kernel
theorem dX2_copyFrom_72 : decode cX2_copyFrom 72 = .ok (.aload_n 0, 1) := by decide +kernel
theorem dX2_copyFrom_73 : decode cX2_copyFrom 73 = .ok (.aload_n 1, 1) := by decide +kernel
theorem dX2_copyFrom_74 : decode cX2_copyFrom 74 = .ok (.getfield 35, 3) := by decide +kernel
theorem dX2_copyFrom_77 : decode cX2_copyFrom 77 = .ok (.putfield 35, 3) := by decide +kernel
theorem dX2_copyFrom_80 : decode cX2_copyFrom 80 = .ok (.aload_n 1, 1) := by decide +kernel
theorem dX2_copyFrom_81 : decode cX2_copyFrom 81 = .ok (.getfield 25, 3) := by decide +kernel
theorem dX2_copyFrom_84 : decode cX2_copyFrom 84 = .ok (.iconst 0, 1) := by decide +kernel
theorem dX2_copyFrom_85 : decode cX2_copyFrom 85 = .ok (.aload_n 0, 1) := by decide +kernel
theorem dX2_copyFrom_86 : decode cX2_copyFrom 86 = .ok (.getfield 25, 3) := by decide +kernel
theorem dX2_copyFrom_89 : decode cX2_copyFrom 89 = .ok (.iconst 0, 1) := by decide +kernel
theorem dX2_copyFrom_90 : decode cX2_copyFrom 90 = .ok (.iconst 4, 1) := by decide +kernel
theorem dX2_copyFrom_91 : decode cX2_copyFrom 91 = .ok (.invokestatic 48, 3) := by decide +kernel
theorem dX2_copyFrom_94 : decode cX2_copyFrom 94 = .ok (.aload_n 1, 1) := by decide +kernel
theorem dX2_copyFrom_95 : decode cX2_copyFrom 95 = .ok (.getfield 28, 3) := by decide +kernel
theorem dX2_copyFrom_98 : decode cX2_copyFrom 98 = .ok (.iconst 0, 1) := by decide +kernel
theorem dX2_copyFrom_99 : decode cX2_copyFrom 99 = .ok (.aload_n 0, 1) := by decide +kernel
theorem dX2_copyFrom_100 : decode cX2_copyFrom 100 = .ok (.getfield 28, 3) := by decide +kernel
theorem dX2_copyFrom_103 : decode cX2_copyFrom 103 = .ok (.iconst 0, 1) := by decide +kernel
theorem dX2_copyFrom_104 : decode cX2_copyFrom 104 = .ok (.iconst 4, 1) := by decide +kernel
theorem dX2_copyFrom_105 : decode cX2_copyFrom 105 = .ok (.invokestatic 48, 3) := by decide +kernel
theorem dX2_copyFrom_108 : decode cX2_copyFrom 108 = .ok (.aload_n 0, 1) := by decide +kernel
theorem dX2_copyFrom_109 : decode cX2_copyFrom 109 = .ok (.aload_n 1, 1) := by decide +kernel
theorem dX2_copyFrom_110 : decode cX2_copyFrom 110 = .ok (.getfield 38, 3) := by decide +kernel
theorem dX2_copyFrom_113 : decode cX2_copyFrom 113 = .ok (.putfield 38, 3) := by decide +kernel
theorem dX2_copyFrom_116 : decode cX2_copyFrom 116 = .ok (.aload_n 0, 1) := by decide +kernel
theorem dX2_copyFrom_117 : decode cX2_copyFrom 117 = .ok (.aload_n 1, 1) := by decide +kernel
theorem dX2_copyFrom_118 : decode cX2_copyFrom 118 = .ok (.getfield 54, 3) := by decide +kernel
theorem dX2_copyFrom_121 : decode cX2_copyFrom 121 = .ok (.aload_n 1, 1) := by decide +kernel
theorem dX2_copyFrom_122 : decode cX2_copyFrom 122 = .ok (.getfield 57, 3) := by decide +kernel
theorem dX2_copyFrom_125 : decode cX2_copyFrom 125 = .ok (.aload_n 1, 1) := by decide +kernel
theorem dX2_copyFrom_126 : decode cX2_copyFrom 126 = .ok (.getfield 60, 3) := by decide +kernel
theorem dX2_copyFrom_129 : decode cX2_copyFrom 129 = .ok (.invokevirtual 41, 3) := by decide +kernel
theorem dX2_copyFrom_132 : decode cX2_copyFrom 132 = .ok (.aload_n 0, 1) := by decide +kernel
theorem dX2_copyFrom_133 : decode cX2_copyFrom 133 = .ok (.aload_n 1, 1) := by decide +kernel
theorem dX2_copyFrom_134 : decode cX2_copyFrom 134 = .ok (.getfield 45, 3) := by decide +kernel
theorem dX2_copyFrom_137 : decode cX2_copyFrom 137 = .ok (.putfield 45, 3) := by decide +kernel
theorem dX2_copyFrom_140 : decode cX2_copyFrom 140 = .ok (.return_, 1) := by decide +kernel
theorem dX2_isFlow_0 : decode cX2_isFlow 0 = .ok (.iload_n 0, 1) := by decide +kernel
theorem dX2_isFlow_1 : decode cX2_isFlow 1 = .ok (.ifCond .lt 32, 3) := by decide +kernel
theorem dX2_isFlow_4 : decode cX2_isFlow 4 = .ok (.iload_n 0, 1) := by decide +kernel
theorem dX2_isFlow_5 : decode cX2_isFlow 5 = .ok (.iconst 2, 1) := by decide +kernel
theorem dX2_isFlow_6 : decode cX2_isFlow 6 = .ok (.if_icmp .gt 27, 3) := by decide +kernel
theorem dX2_isFlow_9 : decode cX2_isFlow 9 = .ok (.iload_n 1, 1) := by decide +kernel
theorem dX2_isFlow_10 : decode cX2_isFlow 10 = .ok (.iconst 4, 1) := by decide +kernel
theorem dX2_isFlow_11 : decode cX2_isFlow 11 = .ok (.if_icmp .lt 22, 3) := by decide +kernel
theorem dX2_isFlow_14 : decode cX2_isFlow 14 = .ok (.iload_n 1, 1) := by decide +kernel
theorem dX2_isFlow_15 : decode cX2_isFlow 15 = .ok (.bipush 20, 2) := by decide +kernel
theorem dX2_isFlow_17 : decode cX2_isFlow 17 = .ok (.if_icmp .gt 16, 3) := by decide +kernel
theorem dX2_isFlow_20 : decode cX2_isFlow 20 = .ok (.iload_n 2, 1) := by decide +kernel
theorem dX2_isFlow_21 : decode cX2_isFlow 21 = .ok (.ifCond .lt 12, 3) := by decide +kernel
theorem dX2_isFlow_24 : decode cX2_isFlow 24 = .ok (.iload_n 2, 1) := by decide +kernel
theorem dX2_isFlow_25 : decode cX2_isFlow 25 = .ok (.iconst 3, 1) := by decide +kernel
theorem dX2_isFlow_26 : decode cX2_isFlow 26 = .ok (.if_icmp .gt 7, 3) := by decide +kernel
theorem dX2_isFlow_29 : decode cX2_isFlow 29 = .ok (.iconst 1, 1) := by decide +kernel
theorem dX2_isFlow_30 : decode cX2_isFlow 30 = .ok (.goto 4, 3) := by decide +kernel
theorem dX2_isFlow_33 : decode cX2_isFlow 33 = .ok (.iconst 0, 1) := by decide +kernel
theorem dX2_isFlow_34 : decode cX2_isFlow 34 = .ok (.ireturn, 1) := by decide +kernel
theorem dX2_setFlow_0 : decode cX2_setFlow 0 = .ok (.aload_n 0, 1) := by decide +kernel
theorem dX2_setFlow_1 : decode cX2_setFlow 1 = .ok (.iload_n 1, 1) := by decide +kernel
theorem dX2_setFlow_2 : decode cX2_setFlow 2 = .ok (.putfield 54, 3) := by decide +kernel
theorem dX2_setFlow_5 : decode cX2_setFlow 5 = .ok (.aload_n 0, 1) := by decide +kernel
theorem dX2_setFlow_6 : decode cX2_setFlow 6 = .ok (.iload_n 2, 1) := by decide +kernel
theorem dX2_setFlow_7 : decode cX2_setFlow 7 = .ok (.putfield 57, 3) := by decide +kernel
theorem dX2_setFlow_10 : decode cX2_setFlow 10 = .ok (.aload_n 0, 1) := by decide +kernel
theorem dX2_setFlow_11 : decode cX2_setFlow 11 = .ok (.iload_n 3, 1) := by decide +kernel
theorem dX2_setFlow_12 : decode cX2_setFlow 12 = .ok (.putfield 60, 3) := by decide +kernel
theorem dX2_setFlow_15 : decode cX2_setFlow 15 = .ok (.return_, 1) := by decide +kernel
theorem dX2_isTabStep_0 : decode cX2_isTabStep 0 = .ok (.iload_n 0, 1) := by decide +kernel
theorem dX2_isTabStep_1 : decode cX2_isTabStep 1 = .ok (.iconst 1, 1) := by decide +kernel
theorem dX2_isTabStep_2 : decode cX2_isTabStep 2 = .ok (.if_icmp .lt 13, 3) := by decide +kernel
theorem dX2_isTabStep_5 : decode cX2_isTabStep 5 = .ok (.iload_n 0, 1) := by decide +kernel
theorem dX2_isTabStep_6 : decode cX2_isTabStep 6 = .ok (.bipush 8, 2) := by decide +kernel
theorem dX2_isTabStep_8 : decode cX2_isTabStep 8 = .ok (.if_icmp .gt 7, 3) := by decide +kernel
theorem dX2_isTabStep_11 : decode cX2_isTabStep 11 = .ok (.iconst 1, 1) := by decide +kernel
theorem dX2_isTabStep_12 : decode cX2_isTabStep 12 = .ok (.goto 4, 3) := by decide +kernel
theorem dX2_isTabStep_15 : decode cX2_isTabStep 15 = .ok (.iconst 0, 1) := by decide +kernel
theorem dX2_isTabStep_16 : decode cX2_isTabStep 16 = .ok (.ireturn, 1) := by decide +kernel
theorem dX2_hasPlace_0 : decode cX2_hasPlace 0 = .ok (.iload_n 1, 1) := by decide +kernel
theorem dX2_hasPlace_1 : decode cX2_hasPlace 1 = .ok (.ifCond .lt 15, 3) := by decide +kernel
theorem dX2_hasPlace_4 : decode cX2_hasPlace 4 = .ok (.iload_n 1, 1) := by decide +kernel
theorem dX2_hasPlace_5 : decode cX2_hasPlace 5 = .ok (.aload_n 0, 1) := by decide +kernel
theorem dX2_hasPlace_6 : decode cX2_hasPlace 6 = .ok (.getfield 31, 3) := by decide +kernel
theorem dX2_hasPlace_9 : decode cX2_hasPlace 9 = .ok (.if_icmp .gt 7, 3) := by decide +kernel
theorem dX2_hasPlace_12 : decode cX2_hasPlace 12 = .ok (.iconst 1, 1) := by decide +kernel
theorem dX2_hasPlace_13 : decode cX2_hasPlace 13 = .ok (.goto 4, 3) := by decide +kernel
theorem dX2_hasPlace_16 : decode cX2_hasPlace 16 = .ok (.iconst 0, 1) := by decide +kernel
theorem dX2_hasPlace_17 : decode cX2_hasPlace 17 = .ok (.ireturn, 1) := by decide +kernel
theorem dX2_hasSign_0 : decode cX2_hasSign 0 = .ok (.iload_n 1, 1) := by decide +kernel
theorem dX2_hasSign_1 : decode cX2_hasSign 1 = .ok (.ifCond .lt 15, 3) := by decide +kernel
theorem dX2_hasSign_4 : decode cX2_hasSign 4 = .ok (.iload_n 1, 1) := by decide +kernel
theorem dX2_hasSign_5 : decode cX2_hasSign 5 = .ok (.aload_n 0, 1) := by decide +kernel
theorem dX2_hasSign_6 : decode cX2_hasSign 6 = .ok (.getfield 31, 3) := by decide +kernel
theorem dX2_hasSign_9 : decode cX2_hasSign 9 = .ok (.if_icmp .ge 7, 3) := by decide +kernel
theorem dX2_hasSign_12 : decode cX2_hasSign 12 = .ok (.iconst 1, 1) := by decide +kernel
theorem dX2_hasSign_13 : decode cX2_hasSign 13 = .ok (.goto 4, 3) := by decide +kernel
theorem dX2_hasSign_16 : decode cX2_hasSign 16 = .ok (.iconst 0, 1) := by decide +kernel
theorem dX2_hasSign_17 : decode cX2_hasSign 17 = .ok (.ireturn, 1) := by decide +kernel
theorem dX2_hasFold_0 : decode cX2_hasFold 0 = .ok (.iload_n 1, 1) := by decide +kernel
theorem dX2_hasFold_1 : decode cX2_hasFold 1 = .ok (.ifCond .lt 15, 3) := by decide +kernel
theorem dX2_hasFold_4 : decode cX2_hasFold 4 = .ok (.iload_n 1, 1) := by decide +kernel
theorem dX2_hasFold_5 : decode cX2_hasFold 5 = .ok (.aload_n 0, 1) := by decide +kernel
theorem dX2_hasFold_6 : decode cX2_hasFold 6 = .ok (.getfield 35, 3) := by decide +kernel
theorem dX2_hasFold_9 : decode cX2_hasFold 9 = .ok (.if_icmp .ge 7, 3) := by decide +kernel
theorem dX2_hasFold_12 : decode cX2_hasFold 12 = .ok (.iconst 1, 1) := by decide +kernel
theorem dX2_hasFold_13 : decode cX2_hasFold 13 = .ok (.goto 4, 3) := by decide +kernel
theorem dX2_hasFold_16 : decode cX2_hasFold 16 = .ok (.iconst 0, 1) := by decide +kernel
theorem dX2_hasFold_17 : decode cX2_hasFold 17 = .ok (.ireturn, 1) := by decide +kernel
theorem dX2_hasHint_0 : decode cX2_hasHint 0 = .ok (.iload_n 1, 1) := by decide +kernel
theorem dX2_hasHint_1 : decode cX2_hasHint 1 = .ok (.ifCond .lt 15, 3) := by decide +kernel
theorem dX2_hasHint_4 : decode cX2_hasHint 4 = .ok (.iload_n 1, 1) := by decide +kernel
theorem dX2_hasHint_5 : decode cX2_hasHint 5 = .ok (.aload_n 0, 1) := by decide +kernel
theorem dX2_hasHint_6 : decode cX2_hasHint 6 = .ok (.getfield 38, 3) := by decide +kernel
theorem dX2_hasHint_9 : decode cX2_hasHint 9 = .ok (.if_icmp .ge 7, 3) := by decide +kernel
theorem dX2_hasHint_12 : decode cX2_hasHint 12 = .ok (.iconst 1, 1) := by decide +kernel
theorem dX2_hasHint_13 : decode cX2_hasHint 13 = .ok (.goto 4, 3) := by decide +kernel
theorem dX2_hasHint_16 : decode cX2_hasHint 16 = .ok (.iconst 0, 1) := by decide +kernel
theorem dX2_hasHint_17 : decode cX2_hasHint 17 = .ok (.ireturn, 1) := by decide +kernel
theorem dX2_hasRoom_0 : decode cX2_hasRoom 0 = .ok (.aload_n 0, 1) := by decide +kernel
theorem dX2_hasRoom_1 : decode cX2_hasRoom 1 = .ok (.getfield 31, 3) := by decide +kernel
theorem dX2_hasRoom_4 : decode cX2_hasRoom 4 = .ok (.bipush 40, 2) := by decide +kernel
theorem dX2_hasRoom_6 : decode cX2_hasRoom 6 = .ok (.if_icmp .ge 7, 3) := by decide +kernel
theorem dX2_hasRoom_9 : decode cX2_hasRoom 9 = .ok (.iconst 1, 1) := by decide +kernel
theorem dX2_hasRoom_10 : decode cX2_hasRoom 10 = .ok (.goto 4, 3) := by decide +kernel
theorem dX2_hasRoom_13 : decode cX2_hasRoom 13 = .ok (.iconst 0, 1) := by decide +kernel
theorem dX2_hasRoom_14 : decode cX2_hasRoom 14 = .ok (.ireturn, 1) := by decide +kernel
theorem dX2_signAt_0 : decode cX2_signAt 0 = .ok (.aload_n 0, 1) := by decide +kernel
theorem dX2_signAt_1 : decode cX2_signAt 1 = .ok (.iload_n 1, 1) := by decide +kernel
theorem dX2_signAt_2 : decode cX2_signAt 2 = .ok (.invokevirtual 63, 3) := by decide +kernel
theorem dX2_signAt_5 : decode cX2_signAt 5 = .ok (.ifCond .eq 12, 3) := by decide +kernel
theorem dX2_signAt_8 : decode cX2_signAt 8 = .ok (.aload_n 0, 1) := by decide +kernel
theorem dX2_signAt_9 : decode cX2_signAt 9 = .ok (.getfield 9, 3) := by decide +kernel
theorem dX2_signAt_12 : decode cX2_signAt 12 = .ok (.iload_n 1, 1) := by decide +kernel
theorem dX2_signAt_13 : decode cX2_signAt 13 = .ok (.iaload, 1) := by decide +kernel
theorem dX2_signAt_14 : decode cX2_signAt 14 = .ok (.goto 5, 3) := by decide +kernel
theorem dX2_signAt_17 : decode cX2_signAt 17 = .ok (.bipush (-4), 2) := by decide +kernel
theorem dX2_signAt_19 : decode cX2_signAt 19 = .ok (.ireturn, 1) := by decide +kernel
theorem dX2_putIn_0 : decode cX2_putIn 0 = .ok (.aload_n 0, 1) := by decide +kernel
theorem dX2_putIn_1 : decode cX2_putIn 1 = .ok (.iload_n 1, 1) := by decide +kernel
theorem dX2_putIn_2 : decode cX2_putIn 2 = .ok (.invokevirtual 67, 3) := by decide +kernel
theorem dX2_putIn_5 : decode cX2_putIn 5 = .ok (.ifCond .eq 10, 3) := by decide +kernel
theorem dX2_putIn_8 : decode cX2_putIn 8 = .ok (.aload_n 0, 1) := by decide +kernel
theorem dX2_putIn_9 : decode cX2_putIn 9 = .ok (.invokevirtual 70, 3) := by decide +kernel
theorem dX2_putIn_12 : decode cX2_putIn 12 = .ok (.ifCond .ne 4, 3) := by decide +kernel
theorem dX2_putIn_15 : decode cX2_putIn 15 = .ok (.return_, 1) := by decide +kernel
theorem dX2_putIn_16 : decode cX2_putIn 16 = .ok (.aload_n 0, 1) := by decide +kernel
theorem dX2_putIn_17 : decode cX2_putIn 17 = .ok (.getfield 31, 3) := by decide +kernel
theorem dX2_putIn_20 : decode cX2_putIn 20 = .ok (.istore_n 3, 1) := by decide +kernel
theorem dX2_putIn_21 : decode cX2_putIn 21 = .ok (.iload_n 3, 1) := by decide +kernel
theorem dX2_putIn_22 : decode cX2_putIn 22 = .ok (.iload_n 1, 1) := by decide +kernel
theorem dX2_putIn_23 : decode cX2_putIn 23 = .ok (.if_icmp .le 23, 3) := by decide +kernel
theorem dX2_putIn_26 : decode cX2_putIn 26 = .ok (.aload_n 0, 1) := by decide +kernel
theorem dX2_putIn_27 : decode cX2_putIn 27 = .ok (.getfield 9, 3) := by decide +kernel
theorem dX2_putIn_30 : decode cX2_putIn 30 = .ok (.iload_n 3, 1) := by decide +kernel
theorem dX2_putIn_31 : decode cX2_putIn 31 = .ok (.aload_n 0, 1) := by decide +kernel
theorem dX2_putIn_32 : decode cX2_putIn 32 = .ok (.getfield 9, 3) := by decide +kernel
theorem dX2_putIn_35 : decode cX2_putIn 35 = .ok (.iload_n 3, 1) := by decide +kernel
theorem dX2_putIn_36 : decode cX2_putIn 36 = .ok (.iconst 1, 1) := by decide +kernel
theorem dX2_putIn_37 : decode cX2_putIn 37 = .ok (.isub, 1) := by decide +kernel
theorem dX2_putIn_38 : decode cX2_putIn 38 = .ok (.iaload, 1) := by decide +kernel
theorem dX2_putIn_39 : decode cX2_putIn 39 = .ok (.iastore, 1) := by decide +kernel
theorem dX2_putIn_40 : decode cX2_putIn 40 = .ok (.iinc 3 (-1), 3) := by decide +kernel
theorem dX2_putIn_43 : decode cX2_putIn 43 = .ok (.goto (-22), 3) := by decide +kernel
theorem dX2_putIn_46 : decode cX2_putIn 46 = .ok (.aload_n 0, 1) := by decide +kernel
theorem dX2_putIn_47 : decode cX2_putIn 47 = .ok (.getfield 9, 3) := by decide +kernel
theorem dX2_putIn_50 : decode cX2_putIn 50 = .ok (.iload_n 1, 1) := by decide +kernel
theorem dX2_putIn_51 : decode cX2_putIn 51 = .ok (.iload_n 2, 1) := by decide +kernel
theorem dX2_putIn_52 : decode cX2_putIn 52 = .ok (.iastore, 1) := by decide +kernel
theorem dX2_putIn_53 : decode cX2_putIn 53 = .ok (.aload_n 0, 1) := by decide +kernel
theorem dX2_putIn_54 : decode cX2_putIn 54 = .ok (.dup, 1) := by decide +kernel
theorem dX2_putIn_55 : decode cX2_putIn 55 = .ok (.getfield 31, 3) := by decide +kernel
theorem dX2_putIn_58 : decode cX2_putIn 58 = .ok (.iconst 1, 1) := by decide +kernel
theorem dX2_putIn_59 : decode cX2_putIn 59 = .ok (.iadd, 1) := by decide +kernel
theorem dX2_putIn_60 : decode cX2_putIn 60 = .ok (.putfield 31, 3) := by decide +kernel
theorem dX2_putIn_63 : decode cX2_putIn 63 = .ok (.iconst 0, 1) := by decide +kernel
theorem dX2_putIn_64 : decode cX2_putIn 64 = .ok (.istore_n 3, 1) := by decide +kernel
theorem dX2_putIn_65 : decode cX2_putIn 65 = .ok (.iload_n 3, 1) := by decide +kernel
theorem dX2_putIn_66 : decode cX2_putIn 66 = .ok (.aload_n 0, 1) := by decide +kernel
theorem dX2_putIn_67 : decode cX2_putIn 67 = .ok (.getfield 35, 3) := by decide +kernel
theorem dX2_putIn_70 : decode cX2_putIn 70 = .ok (.if_icmp .ge 49, 3) := by decide +kernel
theorem dX2_putIn_73 : decode cX2_putIn 73 = .ok (.aload_n 0, 1) := by decide +kernel
theorem dX2_putIn_74 : decode cX2_putIn 74 = .ok (.getfield 15, 3) := by decide +kernel
theorem dX2_putIn_77 : decode cX2_putIn 77 = .ok (.iload_n 3, 1) := by decide +kernel
theorem dX2_putIn_78 : decode cX2_putIn 78 = .ok (.iaload, 1) := by decide +kernel
theorem dX2_putIn_79 : decode cX2_putIn 79 = .ok (.iload_n 1, 1) := by decide +kernel
theorem dX2_putIn_80 : decode cX2_putIn 80 = .ok (.if_icmp .lt 13, 3) := by decide +kernel
theorem dX2_putIn_83 : decode cX2_putIn 83 = .ok (.aload_n 0, 1) := by decide +kernel
theorem dX2_putIn_84 : decode cX2_putIn 84 = .ok (.getfield 15, 3) := by decide +kernel
theorem dX2_putIn_87 : decode cX2_putIn 87 = .ok (.iload_n 3, 1) := by decide +kernel
theorem dX2_putIn_88 : decode cX2_putIn 88 = .ok (.dup2, 1) := by decide +kernel
theorem dX2_putIn_89 : decode cX2_putIn 89 = .ok (.iaload, 1) := by decide +kernel
theorem dX2_putIn_90 : decode cX2_putIn 90 = .ok (.iconst 1, 1) := by decide +kernel
theorem dX2_putIn_91 : decode cX2_putIn 91 = .ok (.iadd, 1) := by decide +kernel
theorem dX2_putIn_92 : decode cX2_putIn 92 = .ok (.iastore, 1) := by decide +kernel
theorem dX2_putIn_93 : decode cX2_putIn 93 = .ok (.aload_n 0, 1) := by decide +kernel
theorem dX2_putIn_94 : decode cX2_putIn 94 = .ok (.getfield 18, 3) := by decide +kernel
theorem dX2_putIn_97 : decode cX2_putIn 97 = .ok (.iload_n 3, 1) := by decide +kernel
theorem dX2_putIn_98 : decode cX2_putIn 98 = .ok (.iaload, 1) := by decide +kernel
theorem dX2_putIn_99 : decode cX2_putIn 99 = .ok (.iload_n 1, 1) := by decide +kernel
theorem dX2_putIn_100 : decode cX2_putIn 100 = .ok (.if_icmp .le 13, 3) := by decide +kernel
theorem dX2_putIn_103 : decode cX2_putIn 103 = .ok (.aload_n 0, 1) := by decide +kernel
theorem dX2_putIn_104 : decode cX2_putIn 104 = .ok (.getfield 18, 3) := by decide +kernel
theorem dX2_putIn_107 : decode cX2_putIn 107 = .ok (.iload_n 3, 1) := by decide +kernel
theorem dX2_putIn_108 : decode cX2_putIn 108 = .ok (.dup2, 1) := by decide +kernel
theorem dX2_putIn_109 : decode cX2_putIn 109 = .ok (.iaload, 1) := by decide +kernel
theorem dX2_putIn_110 : decode cX2_putIn 110 = .ok (.iconst 1, 1) := by decide +kernel
theorem dX2_putIn_111 : decode cX2_putIn 111 = .ok (.iadd, 1) := by decide +kernel
theorem dX2_putIn_112 : decode cX2_putIn 112 = .ok (.iastore, 1) := by decide +kernel
theorem dX2_putIn_113 : decode cX2_putIn 113 = .ok (.iinc 3 1, 3) := by decide +kernel
theorem dX2_putIn_116 : decode cX2_putIn 116 = .ok (.goto (-51), 3) := by decide +kernel
theorem dX2_putIn_119 : decode cX2_putIn 119 = .ok (.iconst 0, 1) := by decide +kernel
theorem dX2_putIn_120 : decode cX2_putIn 120 = .ok (.istore_n 3, 1) := by decide +kernel
theorem dX2_putIn_121 : decode cX2_putIn 121 = .ok (.iload_n 3, 1) := by decide +kernel
theorem dX2_putIn_122 : decode cX2_putIn 122 = .ok (.aload_n 0, 1) := by decide +kernel
theorem dX2_putIn_123 : decode cX2_putIn 123 = .ok (.getfield 38, 3) := by decide +kernel
theorem dX2_putIn_126 : decode cX2_putIn 126 = .ok (.if_icmp .ge 29, 3) := by decide +kernel
theorem dX2_putIn_129 : decode cX2_putIn 129 = .ok (.aload_n 0, 1) := by decide +kernel
theorem dX2_putIn_130 : decode cX2_putIn 130 = .ok (.getfield 25, 3) := by decide +kernel
theorem dX2_putIn_133 : decode cX2_putIn 133 = .ok (.iload_n 3, 1) := by decide +kernel
theorem dX2_putIn_134 : decode cX2_putIn 134 = .ok (.iaload, 1) := by decide +kernel
theorem dX2_putIn_135 : decode cX2_putIn 135 = .ok (.iload_n 1, 1) := by decide +kernel
theorem dX2_putIn_136 : decode cX2_putIn 136 = .ok (.if_icmp .lt 13, 3) := by decide +kernel
theorem dX2_putIn_139 : decode cX2_putIn 139 = .ok (.aload_n 0, 1) := by decide +kernel
theorem dX2_putIn_140 : decode cX2_putIn 140 = .ok (.getfield 25, 3) := by decide +kernel
theorem dX2_putIn_143 : decode cX2_putIn 143 = .ok (.iload_n 3, 1) := by decide +kernel
theorem dX2_putIn_144 : decode cX2_putIn 144 = .ok (.dup2, 1) := by decide +kernel
theorem dX2_putIn_145 : decode cX2_putIn 145 = .ok (.iaload, 1) := by decide +kernel
theorem dX2_putIn_146 : decode cX2_putIn 146 = .ok (.iconst 1, 1) := by decide +kernel
theorem dX2_putIn_147 : decode cX2_putIn 147 = .ok (.iadd, 1) := by decide +kernel
theorem dX2_putIn_148 : decode cX2_putIn 148 = .ok (.iastore, 1) := by decide +kernel
theorem dX2_putIn_149 : decode cX2_putIn 149 = .ok (.iinc 3 1, 3) := by decide +kernel
theorem dX2_putIn_152 : decode cX2_putIn 152 = .ok (.goto (-31), 3) := by decide +kernel
theorem dX2_putIn_155 : decode cX2_putIn 155 = .ok (.return_, 1) := by decide +kernel
theorem dX2_takeOut_0 : decode cX2_takeOut 0 = .ok (.aload_n 0, 1) := by decide +kernel
theorem dX2_takeOut_1 : decode cX2_takeOut 1 = .ok (.iload_n 1, 1) := by decide +kernel
theorem dX2_takeOut_2 : decode cX2_takeOut 2 = .ok (.invokevirtual 63, 3) := by decide +kernel
theorem dX2_takeOut_5 : decode cX2_takeOut 5 = .ok (.ifCond .ne 4, 3) := by decide +kernel
theorem dX2_takeOut_8 : decode cX2_takeOut 8 = .ok (.return_, 1) := by decide +kernel
theorem dX2_takeOut_9 : decode cX2_takeOut 9 = .ok (.iload_n 1, 1) := by decide +kernel
theorem dX2_takeOut_10 : decode cX2_takeOut 10 = .ok (.iconst 1, 1) := by decide +kernel
theorem dX2_takeOut_11 : decode cX2_takeOut 11 = .ok (.iadd, 1) := by decide +kernel
theorem dX2_takeOut_12 : decode cX2_takeOut 12 = .ok (.istore_n 2, 1) := by decide +kernel
theorem dX2_takeOut_13 : decode cX2_takeOut 13 = .ok (.iload_n 2, 1) := by decide +kernel
theorem dX2_takeOut_14 : decode cX2_takeOut 14 = .ok (.aload_n 0, 1) := by decide +kernel
theorem dX2_takeOut_15 : decode cX2_takeOut 15 = .ok (.getfield 31, 3) := by decide +kernel
theorem dX2_takeOut_18 : decode cX2_takeOut 18 = .ok (.if_icmp .ge 23, 3) := by decide +kernel
theorem dX2_takeOut_21 : decode cX2_takeOut 21 = .ok (.aload_n 0, 1) := by decide +kernel
theorem dX2_takeOut_22 : decode cX2_takeOut 22 = .ok (.getfield 9, 3) := by decide +kernel
theorem dX2_takeOut_25 : decode cX2_takeOut 25 = .ok (.iload_n 2, 1) := by decide +kernel
theorem dX2_takeOut_26 : decode cX2_takeOut 26 = .ok (.iconst 1, 1) := by decide +kernel
theorem dX2_takeOut_27 : decode cX2_takeOut 27 = .ok (.isub, 1) := by decide +kernel
theorem dX2_takeOut_28 : decode cX2_takeOut 28 = .ok (.aload_n 0, 1) := by decide +kernel
theorem dX2_takeOut_29 : decode cX2_takeOut 29 = .ok (.getfield 9, 3) := by decide +kernel
theorem dX2_takeOut_32 : decode cX2_takeOut 32 = .ok (.iload_n 2, 1) := by decide +kernel
theorem dX2_takeOut_33 : decode cX2_takeOut 33 = .ok (.iaload, 1) := by decide +kernel
theorem dX2_takeOut_34 : decode cX2_takeOut 34 = .ok (.iastore, 1) := by decide +kernel
theorem dX2_takeOut_35 : decode cX2_takeOut 35 = .ok (.iinc 2 1, 3) := by decide +kernel
theorem dX2_takeOut_38 : decode cX2_takeOut 38 = .ok (.goto (-25), 3) := by decide +kernel
theorem dX2_takeOut_41 : decode cX2_takeOut 41 = .ok (.aload_n 0, 1) := by decide +kernel
theorem dX2_takeOut_42 : decode cX2_takeOut 42 = .ok (.dup, 1) := by decide +kernel
theorem dX2_takeOut_43 : decode cX2_takeOut 43 = .ok (.getfield 31, 3) := by decide +kernel
theorem dX2_takeOut_46 : decode cX2_takeOut 46 = .ok (.iconst 1, 1) := by decide +kernel
theorem dX2_takeOut_47 : decode cX2_takeOut 47 = .ok (.isub, 1) := by decide +kernel
theorem dX2_takeOut_48 : decode cX2_takeOut 48 = .ok (.putfield 31, 3) := by decide +kernel
theorem dX2_takeOut_51 : decode cX2_takeOut 51 = .ok (.aload_n 0, 1) := by decide +kernel
theorem dX2_takeOut_52 : decode cX2_takeOut 52 = .ok (.iload_n 1, 1) := by decide +kernel
theorem dX2_takeOut_53 : decode cX2_takeOut 53 = .ok (.invokevirtual 74, 3) := by decide +kernel
theorem dX2_takeOut_56 : decode cX2_takeOut 56 = .ok (.aload_n 0, 1) := by decide +kernel
theorem dX2_takeOut_57 : decode cX2_takeOut 57 = .ok (.iload_n 1, 1) := by decide +kernel
theorem dX2_takeOut_58 : decode cX2_takeOut 58 = .ok (.invokevirtual 78, 3) := by decide +kernel
theorem dX2_takeOut_61 : decode cX2_takeOut 61 = .ok (.return_, 1) := by decide +kernel
theorem dX2_pullFolds_0 : decode cX2_pullFolds 0 = .ok (.aload_n 0, 1) := by decide +kernel
theorem dX2_pullFolds_1 : decode cX2_pullFolds 1 = .ok (.getfield 35, 3) := by decide +kernel
theorem dX2_pullFolds_4 : decode cX2_pullFolds 4 = .ok (.iconst 1, 1) := by decide +kernel
theorem dX2_pullFolds_5 : decode cX2_pullFolds 5 = .ok (.isub, 1) := by decide +kernel
theorem dX2_pullFolds_6 : decode cX2_pullFolds 6 = .ok (.istore_n 2, 1) := by decide +kernel
theorem dX2_pullFolds_7 : decode cX2_pullFolds 7 = .ok (.iload_n 2, 1) := by decide +kernel
theorem dX2_pullFolds_8 : decode cX2_pullFolds 8 = .ok (.ifCond .lt 69, 3) := by decide +kernel
theorem dX2_pullFolds_11 : decode cX2_pullFolds 11 = .ok (.aload_n 0, 1) := by decide +kernel
theorem dX2_pullFolds_12 : decode cX2_pullFolds 12 = .ok (.getfield 15, 3) := by decide +kernel
theorem dX2_pullFolds_15 : decode cX2_pullFolds 15 = .ok (.iload_n 2, 1) := by decide +kernel
theorem dX2_pullFolds_16 : decode cX2_pullFolds 16 = .ok (.iaload, 1) := by decide +kernel
theorem dX2_pullFolds_17 : decode cX2_pullFolds 17 = .ok (.iload_n 1, 1) := by decide +kernel
theorem dX2_pullFolds_18 : decode cX2_pullFolds 18 = .ok (.if_icmp .le 13, 3) := by decide +kernel
theorem dX2_pullFolds_21 : decode cX2_pullFolds 21 = .ok (.aload_n 0, 1) := by decide +kernel
theorem dX2_pullFolds_22 : decode cX2_pullFolds 22 = .ok (.getfield 15, 3) := by decide +kernel
theorem dX2_pullFolds_25 : decode cX2_pullFolds 25 = .ok (.iload_n 2, 1) := by decide +kernel
theorem dX2_pullFolds_26 : decode cX2_pullFolds 26 = .ok (.dup2, 1) := by decide +kernel
theorem dX2_pullFolds_27 : decode cX2_pullFolds 27 = .ok (.iaload, 1) := by decide +kernel
theorem dX2_pullFolds_28 : decode cX2_pullFolds 28 = .ok (.iconst 1, 1) := by decide +kernel
theorem dX2_pullFolds_29 : decode cX2_pullFolds 29 = .ok (.isub, 1) := by decide +kernel
theorem dX2_pullFolds_30 : decode cX2_pullFolds 30 = .ok (.iastore, 1) := by decide +kernel
theorem dX2_pullFolds_31 : decode cX2_pullFolds 31 = .ok (.aload_n 0, 1) := by decide +kernel
theorem dX2_pullFolds_32 : decode cX2_pullFolds 32 = .ok (.getfield 18, 3) := by decide +kernel
theorem dX2_pullFolds_35 : decode cX2_pullFolds 35 = .ok (.iload_n 2, 1) := by decide +kernel
theorem dX2_pullFolds_36 : decode cX2_pullFolds 36 = .ok (.iaload, 1) := by decide +kernel
theorem dX2_pullFolds_37 : decode cX2_pullFolds 37 = .ok (.iload_n 1, 1) := by decide +kernel
theorem dX2_pullFolds_38 : decode cX2_pullFolds 38 = .ok (.if_icmp .le 13, 3) := by decide +kernel
theorem dX2_pullFolds_41 : decode cX2_pullFolds 41 = .ok (.aload_n 0, 1) := by decide +kernel
theorem dX2_pullFolds_42 : decode cX2_pullFolds 42 = .ok (.getfield 18, 3) := by decide +kernel
theorem dX2_pullFolds_45 : decode cX2_pullFolds 45 = .ok (.iload_n 2, 1) := by decide +kernel
theorem dX2_pullFolds_46 : decode cX2_pullFolds 46 = .ok (.dup2, 1) := by decide +kernel
theorem dX2_pullFolds_47 : decode cX2_pullFolds 47 = .ok (.iaload, 1) := by decide +kernel
theorem dX2_pullFolds_48 : decode cX2_pullFolds 48 = .ok (.iconst 1, 1) := by decide +kernel
theorem dX2_pullFolds_49 : decode cX2_pullFolds 49 = .ok (.isub, 1) := by decide +kernel
theorem dX2_pullFolds_50 : decode cX2_pullFolds 50 = .ok (.iastore, 1) := by decide +kernel
theorem dX2_pullFolds_51 : decode cX2_pullFolds 51 = .ok (.aload_n 0, 1) := by decide +kernel
theorem dX2_pullFolds_52 : decode cX2_pullFolds 52 = .ok (.getfield 15, 3) := by decide +kernel
theorem dX2_pullFolds_55 : decode cX2_pullFolds 55 = .ok (.iload_n 2, 1) := by decide +kernel
theorem dX2_pullFolds_56 : decode cX2_pullFolds 56 = .ok (.iaload, 1) := by decide +kernel
theorem dX2_pullFolds_57 : decode cX2_pullFolds 57 = .ok (.aload_n 0, 1) := by decide +kernel
theorem dX2_pullFolds_58 : decode cX2_pullFolds 58 = .ok (.getfield 18, 3) := by decide +kernel
theorem dX2_pullFolds_61 : decode cX2_pullFolds 61 = .ok (.iload_n 2, 1) := by decide +kernel
theorem dX2_pullFolds_62 : decode cX2_pullFolds 62 = .ok (.iaload, 1) := by decide +kernel
theorem dX2_pullFolds_63 : decode cX2_pullFolds 63 = .ok (.if_icmp .lt 8, 3) := by decide +kernel
theorem dX2_pullFolds_66 : decode cX2_pullFolds 66 = .ok (.aload_n 0, 1) := by decide +kernel
theorem dX2_pullFolds_67 : decode cX2_pullFolds 67 = .ok (.iload_n 2, 1) := by decide +kernel
theorem dX2_pullFolds_68 : decode cX2_pullFolds 68 = .ok (.invokevirtual 81, 3) := by decide +kernel
theorem dX2_pullFolds_71 : decode cX2_pullFolds 71 = .ok (.iinc 2 (-1), 3) := by decide +kernel
theorem dX2_pullFolds_74 : decode cX2_pullFolds 74 = .ok (.goto (-67), 3) := by decide +kernel
theorem dX2_pullFolds_77 : decode cX2_pullFolds 77 = .ok (.return_, 1) := by decide +kernel
theorem dX2_pullHints_0 : decode cX2_pullHints 0 = .ok (.aload_n 0, 1) := by decide +kernel
theorem dX2_pullHints_1 : decode cX2_pullHints 1 = .ok (.iload_n 1, 1) := by decide +kernel
theorem dX2_pullHints_2 : decode cX2_pullHints 2 = .ok (.iconst 1, 1) := by decide +kernel
theorem dX2_pullHints_3 : decode cX2_pullHints 3 = .ok (.iadd, 1) := by decide +kernel
theorem dX2_pullHints_4 : decode cX2_pullHints 4 = .ok (.invokevirtual 84, 3) := by decide +kernel
theorem dX2_pullHints_7 : decode cX2_pullHints 7 = .ok (.ifCond .lt 12, 3) := by decide +kernel
theorem dX2_pullHints_10 : decode cX2_pullHints 10 = .ok (.aload_n 0, 1) := by decide +kernel
theorem dX2_pullHints_11 : decode cX2_pullHints 11 = .ok (.aload_n 0, 1) := by decide +kernel
theorem dX2_pullHints_12 : decode cX2_pullHints 12 = .ok (.iload_n 1, 1) := by decide +kernel
theorem dX2_pullHints_13 : decode cX2_pullHints 13 = .ok (.invokevirtual 84, 3) := by decide +kernel
theorem dX2_pullHints_16 : decode cX2_pullHints 16 = .ok (.invokevirtual 88, 3) := by decide +kernel
theorem dX2_pullHints_19 : decode cX2_pullHints 19 = .ok (.iconst 0, 1) := by decide +kernel
theorem dX2_pullHints_20 : decode cX2_pullHints 20 = .ok (.istore_n 2, 1) := by decide +kernel
theorem dX2_pullHints_21 : decode cX2_pullHints 21 = .ok (.iload_n 2, 1) := by decide +kernel
theorem dX2_pullHints_22 : decode cX2_pullHints 22 = .ok (.aload_n 0, 1) := by decide +kernel
theorem dX2_pullHints_23 : decode cX2_pullHints 23 = .ok (.getfield 38, 3) := by decide +kernel
theorem dX2_pullHints_26 : decode cX2_pullHints 26 = .ok (.if_icmp .ge 29, 3) := by decide +kernel
theorem dX2_pullHints_29 : decode cX2_pullHints 29 = .ok (.aload_n 0, 1) := by decide +kernel
theorem dX2_pullHints_30 : decode cX2_pullHints 30 = .ok (.getfield 25, 3) := by decide +kernel
theorem dX2_pullHints_33 : decode cX2_pullHints 33 = .ok (.iload_n 2, 1) := by decide +kernel
theorem dX2_pullHints_34 : decode cX2_pullHints 34 = .ok (.iaload, 1) := by decide +kernel
theorem dX2_pullHints_35 : decode cX2_pullHints 35 = .ok (.iload_n 1, 1) := by decide +kernel
theorem dX2_pullHints_36 : decode cX2_pullHints 36 = .ok (.if_icmp .le 13, 3) := by decide +kernel
theorem dX2_pullHints_39 : decode cX2_pullHints 39 = .ok (.aload_n 0, 1) := by decide +kernel
theorem dX2_pullHints_40 : decode cX2_pullHints 40 = .ok (.getfield 25, 3) := by decide +kernel
theorem dX2_pullHints_43 : decode cX2_pullHints 43 = .ok (.iload_n 2, 1) := by decide +kernel
theorem dX2_pullHints_44 : decode cX2_pullHints 44 = .ok (.dup2, 1) := by decide +kernel
theorem dX2_pullHints_45 : decode cX2_pullHints 45 = .ok (.iaload, 1) := by decide +kernel
theorem dX2_pullHints_46 : decode cX2_pullHints 46 = .ok (.iconst 1, 1) := by decide +kernel
theorem dX2_pullHints_47 : decode cX2_pullHints 47 = .ok (.isub, 1) := by decide +kernel
theorem dX2_pullHints_48 : decode cX2_pullHints 48 = .ok (.iastore, 1) := by decide +kernel
theorem dX2_pullHints_49 : decode cX2_pullHints 49 = .ok (.iinc 2 1, 3) := by decide +kernel
theorem dX2_pullHints_52 : decode cX2_pullHints 52 = .ok (.goto (-31), 3) := by decide +kernel
theorem dX2_pullHints_55 : decode cX2_pullHints 55 = .ok (.return_, 1) := by decide +kernel
theorem dX2_foldRefusal_0 : decode cX2_foldRefusal 0 = .ok (.aload_n 0, 1) := by decide +kernel
theorem dX2_foldRefusal_1 : decode cX2_foldRefusal 1 = .ok (.iload_n 1, 1) := by decide +kernel
theorem dX2_foldRefusal_2 : decode cX2_foldRefusal 2 = .ok (.invokevirtual 67, 3) := by decide +kernel
theorem dX2_foldRefusal_5 : decode cX2_foldRefusal 5 = .ok (.ifCond .eq 16, 3) := by decide +kernel
theorem dX2_foldRefusal_8 : decode cX2_foldRefusal 8 = .ok (.aload_n 0, 1) := by decide +kernel
theorem dX2_foldRefusal_9 : decode cX2_foldRefusal 9 = .ok (.iload_n 2, 1) := by decide +kernel
theorem dX2_foldRefusal_10 : decode cX2_foldRefusal 10 = .ok (.invokevirtual 67, 3) := by decide +kernel
theorem dX2_foldRefusal_13 : decode cX2_foldRefusal 13 = .ok (.ifCond .eq 8, 3) := by decide +kernel
theorem dX2_foldRefusal_16 : decode cX2_foldRefusal 16 = .ok (.iload_n 1, 1) := by decide +kernel
theorem dX2_foldRefusal_17 : decode cX2_foldRefusal 17 = .ok (.iload_n 2, 1) := by decide +kernel
theorem dX2_foldRefusal_18 : decode cX2_foldRefusal 18 = .ok (.if_icmp .lt 5, 3) := by decide +kernel
theorem dX2_foldRefusal_21 : decode cX2_foldRefusal 21 = .ok (.iconst (-1), 1) := by decide +kernel
theorem dX2_foldRefusal_22 : decode cX2_foldRefusal 22 = .ok (.ireturn, 1) := by decide +kernel
theorem dX2_foldRefusal_23 : decode cX2_foldRefusal 23 = .ok (.iconst 0, 1) := by decide +kernel
theorem dX2_foldRefusal_24 : decode cX2_foldRefusal 24 = .ok (.istore_n 3, 1) := by decide +kernel
theorem dX2_foldRefusal_25 : decode cX2_foldRefusal 25 = .ok (.iload_n 3, 1) := by decide +kernel
theorem dX2_foldRefusal_26 : decode cX2_foldRefusal 26 = .ok (.aload_n 0, 1) := by decide +kernel
theorem dX2_foldRefusal_27 : decode cX2_foldRefusal 27 = .ok (.getfield 35, 3) := by decide +kernel
theorem dX2_foldRefusal_30 : decode cX2_foldRefusal 30 = .ok (.if_icmp .ge 32, 3) := by decide +kernel
theorem dX2_foldRefusal_33 : decode cX2_foldRefusal 33 = .ok (.iload_n 1, 1) := by decide +kernel
theorem dX2_foldRefusal_34 : decode cX2_foldRefusal 34 = .ok (.aload_n 0, 1) := by decide +kernel
theorem dX2_foldRefusal_35 : decode cX2_foldRefusal 35 = .ok (.getfield 18, 3) := by decide +kernel
theorem dX2_foldRefusal_38 : decode cX2_foldRefusal 38 = .ok (.iload_n 3, 1) := by decide +kernel
theorem dX2_foldRefusal_39 : decode cX2_foldRefusal 39 = .ok (.iaload, 1) := by decide +kernel
theorem dX2_foldRefusal_40 : decode cX2_foldRefusal 40 = .ok (.if_icmp .ge 16, 3) := by decide +kernel
theorem dX2_foldRefusal_43 : decode cX2_foldRefusal 43 = .ok (.aload_n 0, 1) := by decide +kernel
theorem dX2_foldRefusal_44 : decode cX2_foldRefusal 44 = .ok (.getfield 15, 3) := by decide +kernel
theorem dX2_foldRefusal_47 : decode cX2_foldRefusal 47 = .ok (.iload_n 3, 1) := by decide +kernel
theorem dX2_foldRefusal_48 : decode cX2_foldRefusal 48 = .ok (.iaload, 1) := by decide +kernel
theorem dX2_foldRefusal_49 : decode cX2_foldRefusal 49 = .ok (.iload_n 2, 1) := by decide +kernel
theorem dX2_foldRefusal_50 : decode cX2_foldRefusal 50 = .ok (.if_icmp .ge 6, 3) := by decide +kernel
theorem dX2_foldRefusal_53 : decode cX2_foldRefusal 53 = .ok (.bipush (-2), 2) := by decide +kernel
theorem dX2_foldRefusal_55 : decode cX2_foldRefusal 55 = .ok (.ireturn, 1) := by decide +kernel
theorem dX2_foldRefusal_56 : decode cX2_foldRefusal 56 = .ok (.iinc 3 1, 3) := by decide +kernel
theorem dX2_foldRefusal_59 : decode cX2_foldRefusal 59 = .ok (.goto (-34), 3) := by decide +kernel
theorem dX2_foldRefusal_62 : decode cX2_foldRefusal 62 = .ok (.aload_n 0, 1) := by decide +kernel
theorem dX2_foldRefusal_63 : decode cX2_foldRefusal 63 = .ok (.getfield 35, 3) := by decide +kernel
theorem dX2_foldRefusal_66 : decode cX2_foldRefusal 66 = .ok (.iconst 4, 1) := by decide +kernel
theorem dX2_foldRefusal_67 : decode cX2_foldRefusal 67 = .ok (.if_icmp .ge 7, 3) := by decide +kernel
theorem dX2_foldRefusal_70 : decode cX2_foldRefusal 70 = .ok (.iconst 0, 1) := by decide +kernel
theorem dX2_foldRefusal_71 : decode cX2_foldRefusal 71 = .ok (.goto 5, 3) := by decide +kernel
theorem dX2_foldRefusal_74 : decode cX2_foldRefusal 74 = .ok (.bipush (-3), 2) := by decide +kernel
theorem dX2_foldRefusal_76 : decode cX2_foldRefusal 76 = .ok (.ireturn, 1) := by decide +kernel
theorem dX2_addFold_0 : decode cX2_addFold 0 = .ok (.aload_n 0, 1) := by decide +kernel
theorem dX2_addFold_1 : decode cX2_addFold 1 = .ok (.getfield 35, 3) := by decide +kernel
theorem dX2_addFold_4 : decode cX2_addFold 4 = .ok (.iconst 4, 1) := by decide +kernel
theorem dX2_addFold_5 : decode cX2_addFold 5 = .ok (.if_icmp .lt 6, 3) := by decide +kernel
theorem dX2_addFold_8 : decode cX2_addFold 8 = .ok (.bipush (-3), 2) := by decide +kernel
theorem dX2_addFold_10 : decode cX2_addFold 10 = .ok (.ireturn, 1) := by decide +kernel
theorem dX2_addFold_11 : decode cX2_addFold 11 = .ok (.aload_n 0, 1) := by decide +kernel
theorem dX2_addFold_12 : decode cX2_addFold 12 = .ok (.getfield 35, 3) := by decide +kernel
theorem dX2_addFold_15 : decode cX2_addFold 15 = .ok (.istore_n 3, 1) := by decide +kernel
theorem dX2_addFold_16 : decode cX2_addFold 16 = .ok (.iload_n 3, 1) := by decide +kernel
theorem dX2_addFold_17 : decode cX2_addFold 17 = .ok (.ifCond .le 63, 3) := by decide +kernel
theorem dX2_addFold_20 : decode cX2_addFold 20 = .ok (.aload_n 0, 1) := by decide +kernel
theorem dX2_addFold_21 : decode cX2_addFold 21 = .ok (.getfield 15, 3) := by decide +kernel
theorem dX2_addFold_24 : decode cX2_addFold 24 = .ok (.iload_n 3, 1) := by decide +kernel
theorem dX2_addFold_25 : decode cX2_addFold 25 = .ok (.iconst 1, 1) := by decide +kernel
theorem dX2_addFold_26 : decode cX2_addFold 26 = .ok (.isub, 1) := by decide +kernel
theorem dX2_addFold_27 : decode cX2_addFold 27 = .ok (.iaload, 1) := by decide +kernel
theorem dX2_addFold_28 : decode cX2_addFold 28 = .ok (.iload_n 1, 1) := by decide +kernel
theorem dX2_addFold_29 : decode cX2_addFold 29 = .ok (.if_icmp .le 51, 3) := by decide +kernel
theorem dX2_addFold_32 : decode cX2_addFold 32 = .ok (.aload_n 0, 1) := by decide +kernel
theorem dX2_addFold_33 : decode cX2_addFold 33 = .ok (.getfield 15, 3) := by decide +kernel
theorem dX2_addFold_36 : decode cX2_addFold 36 = .ok (.iload_n 3, 1) := by decide +kernel
theorem dX2_addFold_37 : decode cX2_addFold 37 = .ok (.aload_n 0, 1) := by decide +kernel
theorem dX2_addFold_38 : decode cX2_addFold 38 = .ok (.getfield 15, 3) := by decide +kernel
theorem dX2_addFold_41 : decode cX2_addFold 41 = .ok (.iload_n 3, 1) := by decide +kernel
theorem dX2_addFold_42 : decode cX2_addFold 42 = .ok (.iconst 1, 1) := by decide +kernel
theorem dX2_addFold_43 : decode cX2_addFold 43 = .ok (.isub, 1) := by decide +kernel
theorem dX2_addFold_44 : decode cX2_addFold 44 = .ok (.iaload, 1) := by decide +kernel
theorem dX2_addFold_45 : decode cX2_addFold 45 = .ok (.iastore, 1) := by decide +kernel
theorem dX2_addFold_46 : decode cX2_addFold 46 = .ok (.aload_n 0, 1) := by decide +kernel
theorem dX2_addFold_47 : decode cX2_addFold 47 = .ok (.getfield 18, 3) := by decide +kernel
theorem dX2_addFold_50 : decode cX2_addFold 50 = .ok (.iload_n 3, 1) := by decide +kernel
theorem dX2_addFold_51 : decode cX2_addFold 51 = .ok (.aload_n 0, 1) := by decide +kernel
theorem dX2_addFold_52 : decode cX2_addFold 52 = .ok (.getfield 18, 3) := by decide +kernel
theorem dX2_addFold_55 : decode cX2_addFold 55 = .ok (.iload_n 3, 1) := by decide +kernel
theorem dX2_addFold_56 : decode cX2_addFold 56 = .ok (.iconst 1, 1) := by decide +kernel
theorem dX2_addFold_57 : decode cX2_addFold 57 = .ok (.isub, 1) := by decide +kernel
theorem dX2_addFold_58 : decode cX2_addFold 58 = .ok (.iaload, 1) := by decide +kernel
theorem dX2_addFold_59 : decode cX2_addFold 59 = .ok (.iastore, 1) := by decide +kernel
theorem dX2_addFold_60 : decode cX2_addFold 60 = .ok (.aload_n 0, 1) := by decide +kernel
theorem dX2_addFold_61 : decode cX2_addFold 61 = .ok (.getfield 21, 3) := by decide +kernel
theorem dX2_addFold_64 : decode cX2_addFold 64 = .ok (.iload_n 3, 1) := by decide +kernel
theorem dX2_addFold_65 : decode cX2_addFold 65 = .ok (.aload_n 0, 1) := by decide +kernel
theorem dX2_addFold_66 : decode cX2_addFold 66 = .ok (.getfield 21, 3) := by decide +kernel
theorem dX2_addFold_69 : decode cX2_addFold 69 = .ok (.iload_n 3, 1) := by decide +kernel
theorem dX2_addFold_70 : decode cX2_addFold 70 = .ok (.iconst 1, 1) := by decide +kernel
theorem dX2_addFold_71 : decode cX2_addFold 71 = .ok (.isub, 1) := by decide +kernel
theorem dX2_addFold_72 : decode cX2_addFold 72 = .ok (.baload, 1) := by decide +kernel
theorem dX2_addFold_73 : decode cX2_addFold 73 = .ok (.bastore, 1) := by decide +kernel
theorem dX2_addFold_74 : decode cX2_addFold 74 = .ok (.iinc 3 (-1), 3) := by decide +kernel
theorem dX2_addFold_77 : decode cX2_addFold 77 = .ok (.goto (-61), 3) := by decide +kernel
theorem dX2_addFold_80 : decode cX2_addFold 80 = .ok (.aload_n 0, 1) := by decide +kernel
theorem dX2_addFold_81 : decode cX2_addFold 81 = .ok (.getfield 15, 3) := by decide +kernel
theorem dX2_addFold_84 : decode cX2_addFold 84 = .ok (.iload_n 3, 1) := by decide +kernel
theorem dX2_addFold_85 : decode cX2_addFold 85 = .ok (.iload_n 1, 1) := by decide +kernel
theorem dX2_addFold_86 : decode cX2_addFold 86 = .ok (.iastore, 1) := by decide +kernel
theorem dX2_addFold_87 : decode cX2_addFold 87 = .ok (.aload_n 0, 1) := by decide +kernel
theorem dX2_addFold_88 : decode cX2_addFold 88 = .ok (.getfield 18, 3) := by decide +kernel
theorem dX2_addFold_91 : decode cX2_addFold 91 = .ok (.iload_n 3, 1) := by decide +kernel
theorem dX2_addFold_92 : decode cX2_addFold 92 = .ok (.iload_n 2, 1) := by decide +kernel
theorem dX2_addFold_93 : decode cX2_addFold 93 = .ok (.iastore, 1) := by decide +kernel
theorem dX2_addFold_94 : decode cX2_addFold 94 = .ok (.aload_n 0, 1) := by decide +kernel
theorem dX2_addFold_95 : decode cX2_addFold 95 = .ok (.getfield 21, 3) := by decide +kernel
theorem dX2_addFold_98 : decode cX2_addFold 98 = .ok (.iload_n 3, 1) := by decide +kernel
theorem dX2_addFold_99 : decode cX2_addFold 99 = .ok (.iconst 1, 1) := by decide +kernel
theorem dX2_addFold_100 : decode cX2_addFold 100 = .ok (.bastore, 1) := by decide +kernel
theorem dX2_addFold_101 : decode cX2_addFold 101 = .ok (.aload_n 0, 1) := by decide +kernel
theorem dX2_addFold_102 : decode cX2_addFold 102 = .ok (.dup, 1) := by decide +kernel
theorem dX2_addFold_103 : decode cX2_addFold 103 = .ok (.getfield 35, 3) := by decide +kernel
theorem dX2_addFold_106 : decode cX2_addFold 106 = .ok (.iconst 1, 1) := by decide +kernel
theorem dX2_addFold_107 : decode cX2_addFold 107 = .ok (.iadd, 1) := by decide +kernel
theorem dX2_addFold_108 : decode cX2_addFold 108 = .ok (.putfield 35, 3) := by decide +kernel
theorem dX2_addFold_111 : decode cX2_addFold 111 = .ok (.iload_n 3, 1) := by decide +kernel
theorem dX2_addFold_112 : decode cX2_addFold 112 = .ok (.ireturn, 1) := by decide +kernel
theorem dX2_dropFold_0 : decode cX2_dropFold 0 = .ok (.aload_n 0, 1) := by decide +kernel
theorem dX2_dropFold_1 : decode cX2_dropFold 1 = .ok (.iload_n 1, 1) := by decide +kernel
theorem dX2_dropFold_2 : decode cX2_dropFold 2 = .ok (.invokevirtual 91, 3) := by decide +kernel
theorem dX2_dropFold_5 : decode cX2_dropFold 5 = .ok (.ifCond .ne 4, 3) := by decide +kernel
theorem dX2_dropFold_8 : decode cX2_dropFold 8 = .ok (.return_, 1) := by decide +kernel
theorem dX2_dropFold_9 : decode cX2_dropFold 9 = .ok (.iload_n 1, 1) := by decide +kernel
theorem dX2_dropFold_10 : decode cX2_dropFold 10 = .ok (.iconst 1, 1) := by decide +kernel
theorem dX2_dropFold_11 : decode cX2_dropFold 11 = .ok (.iadd, 1) := by decide +kernel
theorem dX2_dropFold_12 : decode cX2_dropFold 12 = .ok (.istore_n 2, 1) := by decide +kernel
theorem dX2_dropFold_13 : decode cX2_dropFold 13 = .ok (.iload_n 2, 1) := by decide +kernel
theorem dX2_dropFold_14 : decode cX2_dropFold 14 = .ok (.aload_n 0, 1) := by decide +kernel
theorem dX2_dropFold_15 : decode cX2_dropFold 15 = .ok (.getfield 35, 3) := by decide +kernel
theorem dX2_dropFold_18 : decode cX2_dropFold 18 = .ok (.if_icmp .ge 51, 3) := by decide +kernel
theorem dX2_dropFold_21 : decode cX2_dropFold 21 = .ok (.aload_n 0, 1) := by decide +kernel
theorem dX2_dropFold_22 : decode cX2_dropFold 22 = .ok (.getfield 15, 3) := by decide +kernel
theorem dX2_dropFold_25 : decode cX2_dropFold 25 = .ok (.iload_n 2, 1) := by decide +kernel
theorem dX2_dropFold_26 : decode cX2_dropFold 26 = .ok (.iconst 1, 1) := by decide +kernel
theorem dX2_dropFold_27 : decode cX2_dropFold 27 = .ok (.isub, 1) := by decide +kernel
theorem dX2_dropFold_28 : decode cX2_dropFold 28 = .ok (.aload_n 0, 1) := by decide +kernel
theorem dX2_dropFold_29 : decode cX2_dropFold 29 = .ok (.getfield 15, 3) := by decide +kernel
theorem dX2_dropFold_32 : decode cX2_dropFold 32 = .ok (.iload_n 2, 1) := by decide +kernel
theorem dX2_dropFold_33 : decode cX2_dropFold 33 = .ok (.iaload, 1) := by decide +kernel
theorem dX2_dropFold_34 : decode cX2_dropFold 34 = .ok (.iastore, 1) := by decide +kernel
theorem dX2_dropFold_35 : decode cX2_dropFold 35 = .ok (.aload_n 0, 1) := by decide +kernel
theorem dX2_dropFold_36 : decode cX2_dropFold 36 = .ok (.getfield 18, 3) := by decide +kernel
theorem dX2_dropFold_39 : decode cX2_dropFold 39 = .ok (.iload_n 2, 1) := by decide +kernel
theorem dX2_dropFold_40 : decode cX2_dropFold 40 = .ok (.iconst 1, 1) := by decide +kernel
theorem dX2_dropFold_41 : decode cX2_dropFold 41 = .ok (.isub, 1) := by decide +kernel
theorem dX2_dropFold_42 : decode cX2_dropFold 42 = .ok (.aload_n 0, 1) := by decide +kernel
theorem dX2_dropFold_43 : decode cX2_dropFold 43 = .ok (.getfield 18, 3) := by decide +kernel
theorem dX2_dropFold_46 : decode cX2_dropFold 46 = .ok (.iload_n 2, 1) := by decide +kernel
theorem dX2_dropFold_47 : decode cX2_dropFold 47 = .ok (.iaload, 1) := by decide +kernel
theorem dX2_dropFold_48 : decode cX2_dropFold 48 = .ok (.iastore, 1) := by decide +kernel
theorem dX2_dropFold_49 : decode cX2_dropFold 49 = .ok (.aload_n 0, 1) := by decide +kernel
theorem dX2_dropFold_50 : decode cX2_dropFold 50 = .ok (.getfield 21, 3) := by decide +kernel
theorem dX2_dropFold_53 : decode cX2_dropFold 53 = .ok (.iload_n 2, 1) := by decide +kernel
theorem dX2_dropFold_54 : decode cX2_dropFold 54 = .ok (.iconst 1, 1) := by decide +kernel
theorem dX2_dropFold_55 : decode cX2_dropFold 55 = .ok (.isub, 1) := by decide +kernel
theorem dX2_dropFold_56 : decode cX2_dropFold 56 = .ok (.aload_n 0, 1) := by decide +kernel
theorem dX2_dropFold_57 : decode cX2_dropFold 57 = .ok (.getfield 21, 3) := by decide +kernel
theorem dX2_dropFold_60 : decode cX2_dropFold 60 = .ok (.iload_n 2, 1) := by decide +kernel
theorem dX2_dropFold_61 : decode cX2_dropFold 61 = .ok (.baload, 1) := by decide +kernel
theorem dX2_dropFold_62 : decode cX2_dropFold 62 = .ok (.bastore, 1) := by decide +kernel
theorem dX2_dropFold_63 : decode cX2_dropFold 63 = .ok (.iinc 2 1, 3) := by decide +kernel
theorem dX2_dropFold_66 : decode cX2_dropFold 66 = .ok (.goto (-53), 3) := by decide +kernel
theorem dX2_dropFold_69 : decode cX2_dropFold 69 = .ok (.aload_n 0, 1) := by decide +kernel
theorem dX2_dropFold_70 : decode cX2_dropFold 70 = .ok (.dup, 1) := by decide +kernel
theorem dX2_dropFold_71 : decode cX2_dropFold 71 = .ok (.getfield 35, 3) := by decide +kernel
theorem dX2_dropFold_74 : decode cX2_dropFold 74 = .ok (.iconst 1, 1) := by decide +kernel
theorem dX2_dropFold_75 : decode cX2_dropFold 75 = .ok (.isub, 1) := by decide +kernel
theorem dX2_dropFold_76 : decode cX2_dropFold 76 = .ok (.putfield 35, 3) := by decide +kernel
theorem dX2_dropFold_79 : decode cX2_dropFold 79 = .ok (.return_, 1) := by decide +kernel
theorem dX2_turn_0 : decode cX2_turn 0 = .ok (.aload_n 0, 1) := by decide +kernel
theorem dX2_turn_1 : decode cX2_turn 1 = .ok (.iload_n 1, 1) := by decide +kernel
theorem dX2_turn_2 : decode cX2_turn 2 = .ok (.invokevirtual 91, 3) := by decide +kernel
theorem dX2_turn_5 : decode cX2_turn 5 = .ok (.ifCond .eq 23, 3) := by decide +kernel
theorem dX2_turn_8 : decode cX2_turn 8 = .ok (.aload_n 0, 1) := by decide +kernel
theorem dX2_turn_9 : decode cX2_turn 9 = .ok (.getfield 21, 3) := by decide +kernel
theorem dX2_turn_12 : decode cX2_turn 12 = .ok (.iload_n 1, 1) := by decide +kernel
theorem dX2_turn_13 : decode cX2_turn 13 = .ok (.aload_n 0, 1) := by decide +kernel
theorem dX2_turn_14 : decode cX2_turn 14 = .ok (.getfield 21, 3) := by decide +kernel
theorem dX2_turn_17 : decode cX2_turn 17 = .ok (.iload_n 1, 1) := by decide +kernel
theorem dX2_turn_18 : decode cX2_turn 18 = .ok (.baload, 1) := by decide +kernel
theorem dX2_turn_19 : decode cX2_turn 19 = .ok (.ifCond .ne 7, 3) := by decide +kernel
theorem dX2_turn_22 : decode cX2_turn 22 = .ok (.iconst 1, 1) := by decide +kernel
theorem dX2_turn_23 : decode cX2_turn 23 = .ok (.goto 4, 3) := by decide +kernel
theorem dX2_turn_26 : decode cX2_turn 26 = .ok (.iconst 0, 1) := by decide +kernel
theorem dX2_turn_27 : decode cX2_turn 27 = .ok (.bastore, 1) := by decide +kernel
theorem dX2_turn_28 : decode cX2_turn 28 = .ok (.return_, 1) := by decide +kernel
theorem dX2_hintRefusal_0 : decode cX2_hintRefusal 0 = .ok (.aload_n 0, 1) := by decide +kernel
theorem dX2_hintRefusal_1 : decode cX2_hintRefusal 1 = .ok (.iload_n 1, 1) := by decide +kernel
theorem dX2_hintRefusal_2 : decode cX2_hintRefusal 2 = .ok (.invokevirtual 67, 3) := by decide +kernel
theorem dX2_hintRefusal_5 : decode cX2_hintRefusal 5 = .ok (.ifCond .eq 13, 3) := by decide +kernel
theorem dX2_hintRefusal_8 : decode cX2_hintRefusal 8 = .ok (.iload_n 2, 1) := by decide +kernel
theorem dX2_hintRefusal_9 : decode cX2_hintRefusal 9 = .ok (.iconst 1, 1) := by decide +kernel
theorem dX2_hintRefusal_10 : decode cX2_hintRefusal 10 = .ok (.if_icmp .lt 8, 3) := by decide +kernel
theorem dX2_hintRefusal_13 : decode cX2_hintRefusal 13 = .ok (.iload_n 2, 1) := by decide +kernel
theorem dX2_hintRefusal_14 : decode cX2_hintRefusal 14 = .ok (.iconst 5, 1) := by decide +kernel
theorem dX2_hintRefusal_15 : decode cX2_hintRefusal 15 = .ok (.if_icmp .le 5, 3) := by decide +kernel
theorem dX2_hintRefusal_18 : decode cX2_hintRefusal 18 = .ok (.iconst (-1), 1) := by decide +kernel
theorem dX2_hintRefusal_19 : decode cX2_hintRefusal 19 = .ok (.ireturn, 1) := by decide +kernel
theorem dX2_hintRefusal_20 : decode cX2_hintRefusal 20 = .ok (.aload_n 0, 1) := by decide +kernel
theorem dX2_hintRefusal_21 : decode cX2_hintRefusal 21 = .ok (.iload_n 1, 1) := by decide +kernel
theorem dX2_hintRefusal_22 : decode cX2_hintRefusal 22 = .ok (.invokevirtual 84, 3) := by decide +kernel
theorem dX2_hintRefusal_25 : decode cX2_hintRefusal 25 = .ok (.ifCond .lt 6, 3) := by decide +kernel
theorem dX2_hintRefusal_28 : decode cX2_hintRefusal 28 = .ok (.bipush (-2), 2) := by decide +kernel
theorem dX2_hintRefusal_30 : decode cX2_hintRefusal 30 = .ok (.ireturn, 1) := by decide +kernel
theorem dX2_hintRefusal_31 : decode cX2_hintRefusal 31 = .ok (.aload_n 0, 1) := by decide +kernel
theorem dX2_hintRefusal_32 : decode cX2_hintRefusal 32 = .ok (.getfield 38, 3) := by decide +kernel
theorem dX2_hintRefusal_35 : decode cX2_hintRefusal 35 = .ok (.iconst 4, 1) := by decide +kernel
theorem dX2_hintRefusal_36 : decode cX2_hintRefusal 36 = .ok (.if_icmp .ge 7, 3) := by decide +kernel
theorem dX2_hintRefusal_39 : decode cX2_hintRefusal 39 = .ok (.iconst 0, 1) := by decide +kernel
theorem dX2_hintRefusal_40 : decode cX2_hintRefusal 40 = .ok (.goto 5, 3) := by decide +kernel
theorem dX2_hintRefusal_43 : decode cX2_hintRefusal 43 = .ok (.bipush (-3), 2) := by decide +kernel
theorem dX2_hintRefusal_45 : decode cX2_hintRefusal 45 = .ok (.ireturn, 1) := by decide +kernel
theorem dX2_addHint_0 : decode cX2_addHint 0 = .ok (.aload_n 0, 1) := by decide +kernel
theorem dX2_addHint_1 : decode cX2_addHint 1 = .ok (.getfield 38, 3) := by decide +kernel
theorem dX2_addHint_4 : decode cX2_addHint 4 = .ok (.iconst 4, 1) := by decide +kernel
theorem dX2_addHint_5 : decode cX2_addHint 5 = .ok (.if_icmp .lt 6, 3) := by decide +kernel
theorem dX2_addHint_8 : decode cX2_addHint 8 = .ok (.bipush (-3), 2) := by decide +kernel
theorem dX2_addHint_10 : decode cX2_addHint 10 = .ok (.ireturn, 1) := by decide +kernel
theorem dX2_addHint_11 : decode cX2_addHint 11 = .ok (.aload_n 0, 1) := by decide +kernel
theorem dX2_addHint_12 : decode cX2_addHint 12 = .ok (.getfield 38, 3) := by decide +kernel
theorem dX2_addHint_15 : decode cX2_addHint 15 = .ok (.istore_n 3, 1) := by decide +kernel
theorem dX2_addHint_16 : decode cX2_addHint 16 = .ok (.iload_n 3, 1) := by decide +kernel
theorem dX2_addHint_17 : decode cX2_addHint 17 = .ok (.ifCond .le 49, 3) := by decide +kernel
theorem dX2_addHint_20 : decode cX2_addHint 20 = .ok (.aload_n 0, 1) := by decide +kernel
theorem dX2_addHint_21 : decode cX2_addHint 21 = .ok (.getfield 25, 3) := by decide +kernel
theorem dX2_addHint_24 : decode cX2_addHint 24 = .ok (.iload_n 3, 1) := by decide +kernel
theorem dX2_addHint_25 : decode cX2_addHint 25 = .ok (.iconst 1, 1) := by decide +kernel
theorem dX2_addHint_26 : decode cX2_addHint 26 = .ok (.isub, 1) := by decide +kernel
theorem dX2_addHint_27 : decode cX2_addHint 27 = .ok (.iaload, 1) := by decide +kernel
theorem dX2_addHint_28 : decode cX2_addHint 28 = .ok (.iload_n 1, 1) := by decide +kernel
theorem dX2_addHint_29 : decode cX2_addHint 29 = .ok (.if_icmp .le 37, 3) := by decide +kernel
theorem dX2_addHint_32 : decode cX2_addHint 32 = .ok (.aload_n 0, 1) := by decide +kernel
theorem dX2_addHint_33 : decode cX2_addHint 33 = .ok (.getfield 25, 3) := by decide +kernel
theorem dX2_addHint_36 : decode cX2_addHint 36 = .ok (.iload_n 3, 1) := by decide +kernel
theorem dX2_addHint_37 : decode cX2_addHint 37 = .ok (.aload_n 0, 1) := by decide +kernel
theorem dX2_addHint_38 : decode cX2_addHint 38 = .ok (.getfield 25, 3) := by decide +kernel
theorem dX2_addHint_41 : decode cX2_addHint 41 = .ok (.iload_n 3, 1) := by decide +kernel
theorem dX2_addHint_42 : decode cX2_addHint 42 = .ok (.iconst 1, 1) := by decide +kernel
theorem dX2_addHint_43 : decode cX2_addHint 43 = .ok (.isub, 1) := by decide +kernel
theorem dX2_addHint_44 : decode cX2_addHint 44 = .ok (.iaload, 1) := by decide +kernel
theorem dX2_addHint_45 : decode cX2_addHint 45 = .ok (.iastore, 1) := by decide +kernel
theorem dX2_addHint_46 : decode cX2_addHint 46 = .ok (.aload_n 0, 1) := by decide +kernel
theorem dX2_addHint_47 : decode cX2_addHint 47 = .ok (.getfield 28, 3) := by decide +kernel
theorem dX2_addHint_50 : decode cX2_addHint 50 = .ok (.iload_n 3, 1) := by decide +kernel
theorem dX2_addHint_51 : decode cX2_addHint 51 = .ok (.aload_n 0, 1) := by decide +kernel
theorem dX2_addHint_52 : decode cX2_addHint 52 = .ok (.getfield 28, 3) := by decide +kernel
theorem dX2_addHint_55 : decode cX2_addHint 55 = .ok (.iload_n 3, 1) := by decide +kernel
theorem dX2_addHint_56 : decode cX2_addHint 56 = .ok (.iconst 1, 1) := by decide +kernel
theorem dX2_addHint_57 : decode cX2_addHint 57 = .ok (.isub, 1) := by decide +kernel
theorem dX2_addHint_58 : decode cX2_addHint 58 = .ok (.iaload, 1) := by decide +kernel
theorem dX2_addHint_59 : decode cX2_addHint 59 = .ok (.iastore, 1) := by decide +kernel
theorem dX2_addHint_60 : decode cX2_addHint 60 = .ok (.iinc 3 (-1), 3) := by decide +kernel
theorem dX2_addHint_63 : decode cX2_addHint 63 = .ok (.goto (-47), 3) := by decide +kernel
theorem dX2_addHint_66 : decode cX2_addHint 66 = .ok (.aload_n 0, 1) := by decide +kernel
theorem dX2_addHint_67 : decode cX2_addHint 67 = .ok (.getfield 25, 3) := by decide +kernel
theorem dX2_addHint_70 : decode cX2_addHint 70 = .ok (.iload_n 3, 1) := by decide +kernel
theorem dX2_addHint_71 : decode cX2_addHint 71 = .ok (.iload_n 1, 1) := by decide +kernel
theorem dX2_addHint_72 : decode cX2_addHint 72 = .ok (.iastore, 1) := by decide +kernel
theorem dX2_addHint_73 : decode cX2_addHint 73 = .ok (.aload_n 0, 1) := by decide +kernel
theorem dX2_addHint_74 : decode cX2_addHint 74 = .ok (.getfield 28, 3) := by decide +kernel
theorem dX2_addHint_77 : decode cX2_addHint 77 = .ok (.iload_n 3, 1) := by decide +kernel
theorem dX2_addHint_78 : decode cX2_addHint 78 = .ok (.iload_n 2, 1) := by decide +kernel
theorem dX2_addHint_79 : decode cX2_addHint 79 = .ok (.iastore, 1) := by decide +kernel
theorem dX2_addHint_80 : decode cX2_addHint 80 = .ok (.aload_n 0, 1) := by decide +kernel
theorem dX2_addHint_81 : decode cX2_addHint 81 = .ok (.dup, 1) := by decide +kernel
theorem dX2_addHint_82 : decode cX2_addHint 82 = .ok (.getfield 38, 3) := by decide +kernel
theorem dX2_addHint_85 : decode cX2_addHint 85 = .ok (.iconst 1, 1) := by decide +kernel
theorem dX2_addHint_86 : decode cX2_addHint 86 = .ok (.iadd, 1) := by decide +kernel
theorem dX2_addHint_87 : decode cX2_addHint 87 = .ok (.putfield 38, 3) := by decide +kernel
theorem dX2_addHint_90 : decode cX2_addHint 90 = .ok (.iload_n 3, 1) := by decide +kernel
theorem dX2_addHint_91 : decode cX2_addHint 91 = .ok (.ireturn, 1) := by decide +kernel
theorem dX2_dropHint_0 : decode cX2_dropHint 0 = .ok (.aload_n 0, 1) := by decide +kernel
theorem dX2_dropHint_1 : decode cX2_dropHint 1 = .ok (.iload_n 1, 1) := by decide +kernel
theorem dX2_dropHint_2 : decode cX2_dropHint 2 = .ok (.invokevirtual 94, 3) := by decide +kernel
theorem dX2_dropHint_5 : decode cX2_dropHint 5 = .ok (.ifCond .ne 4, 3) := by decide +kernel
theorem dX2_dropHint_8 : decode cX2_dropHint 8 = .ok (.return_, 1) := by decide +kernel
theorem dX2_dropHint_9 : decode cX2_dropHint 9 = .ok (.iload_n 1, 1) := by decide +kernel
theorem dX2_dropHint_10 : decode cX2_dropHint 10 = .ok (.iconst 1, 1) := by decide +kernel
theorem dX2_dropHint_11 : decode cX2_dropHint 11 = .ok (.iadd, 1) := by decide +kernel
theorem dX2_dropHint_12 : decode cX2_dropHint 12 = .ok (.istore_n 2, 1) := by decide +kernel
theorem dX2_dropHint_13 : decode cX2_dropHint 13 = .ok (.iload_n 2, 1) := by decide +kernel
theorem dX2_dropHint_14 : decode cX2_dropHint 14 = .ok (.aload_n 0, 1) := by decide +kernel
theorem dX2_dropHint_15 : decode cX2_dropHint 15 = .ok (.getfield 38, 3) := by decide +kernel
theorem dX2_dropHint_18 : decode cX2_dropHint 18 = .ok (.if_icmp .ge 37, 3) := by decide +kernel
theorem dX2_dropHint_21 : decode cX2_dropHint 21 = .ok (.aload_n 0, 1) := by decide +kernel
theorem dX2_dropHint_22 : decode cX2_dropHint 22 = .ok (.getfield 25, 3) := by decide +kernel
theorem dX2_dropHint_25 : decode cX2_dropHint 25 = .ok (.iload_n 2, 1) := by decide +kernel
theorem dX2_dropHint_26 : decode cX2_dropHint 26 = .ok (.iconst 1, 1) := by decide +kernel
theorem dX2_dropHint_27 : decode cX2_dropHint 27 = .ok (.isub, 1) := by decide +kernel
theorem dX2_dropHint_28 : decode cX2_dropHint 28 = .ok (.aload_n 0, 1) := by decide +kernel
theorem dX2_dropHint_29 : decode cX2_dropHint 29 = .ok (.getfield 25, 3) := by decide +kernel
theorem dX2_dropHint_32 : decode cX2_dropHint 32 = .ok (.iload_n 2, 1) := by decide +kernel
theorem dX2_dropHint_33 : decode cX2_dropHint 33 = .ok (.iaload, 1) := by decide +kernel
theorem dX2_dropHint_34 : decode cX2_dropHint 34 = .ok (.iastore, 1) := by decide +kernel
theorem dX2_dropHint_35 : decode cX2_dropHint 35 = .ok (.aload_n 0, 1) := by decide +kernel
theorem dX2_dropHint_36 : decode cX2_dropHint 36 = .ok (.getfield 28, 3) := by decide +kernel
theorem dX2_dropHint_39 : decode cX2_dropHint 39 = .ok (.iload_n 2, 1) := by decide +kernel
theorem dX2_dropHint_40 : decode cX2_dropHint 40 = .ok (.iconst 1, 1) := by decide +kernel
theorem dX2_dropHint_41 : decode cX2_dropHint 41 = .ok (.isub, 1) := by decide +kernel
theorem dX2_dropHint_42 : decode cX2_dropHint 42 = .ok (.aload_n 0, 1) := by decide +kernel
theorem dX2_dropHint_43 : decode cX2_dropHint 43 = .ok (.getfield 28, 3) := by decide +kernel
theorem dX2_dropHint_46 : decode cX2_dropHint 46 = .ok (.iload_n 2, 1) := by decide +kernel
theorem dX2_dropHint_47 : decode cX2_dropHint 47 = .ok (.iaload, 1) := by decide +kernel
theorem dX2_dropHint_48 : decode cX2_dropHint 48 = .ok (.iastore, 1) := by decide +kernel
theorem dX2_dropHint_49 : decode cX2_dropHint 49 = .ok (.iinc 2 1, 3) := by decide +kernel
theorem dX2_dropHint_52 : decode cX2_dropHint 52 = .ok (.goto (-39), 3) := by decide +kernel
theorem dX2_dropHint_55 : decode cX2_dropHint 55 = .ok (.aload_n 0, 1) := by decide +kernel
theorem dX2_dropHint_56 : decode cX2_dropHint 56 = .ok (.dup, 1) := by decide +kernel
theorem dX2_dropHint_57 : decode cX2_dropHint 57 = .ok (.getfield 38, 3) := by decide +kernel
theorem dX2_dropHint_60 : decode cX2_dropHint 60 = .ok (.iconst 1, 1) := by decide +kernel
theorem dX2_dropHint_61 : decode cX2_dropHint 61 = .ok (.isub, 1) := by decide +kernel
theorem dX2_dropHint_62 : decode cX2_dropHint 62 = .ok (.putfield 38, 3) := by decide +kernel
theorem dX2_dropHint_65 : decode cX2_dropHint 65 = .ok (.return_, 1) := by decide +kernel
theorem dX2_hintAt_0 : decode cX2_hintAt 0 = .ok (.iconst 0, 1) := by decide +kernel
theorem dX2_hintAt_1 : decode cX2_hintAt 1 = .ok (.istore_n 2, 1) := by decide +kernel
theorem dX2_hintAt_2 : decode cX2_hintAt 2 = .ok (.iload_n 2, 1) := by decide +kernel
theorem dX2_hintAt_3 : decode cX2_hintAt 3 = .ok (.aload_n 0, 1) := by decide +kernel
theorem dX2_hintAt_4 : decode cX2_hintAt 4 = .ok (.getfield 38, 3) := by decide +kernel
theorem dX2_hintAt_7 : decode cX2_hintAt 7 = .ok (.if_icmp .ge 21, 3) := by decide +kernel
theorem dX2_hintAt_10 : decode cX2_hintAt 10 = .ok (.aload_n 0, 1) := by decide +kernel
theorem dX2_hintAt_11 : decode cX2_hintAt 11 = .ok (.getfield 25, 3) := by decide +kernel
theorem dX2_hintAt_14 : decode cX2_hintAt 14 = .ok (.iload_n 2, 1) := by decide +kernel
theorem dX2_hintAt_15 : decode cX2_hintAt 15 = .ok (.iaload, 1) := by decide +kernel
theorem dX2_hintAt_16 : decode cX2_hintAt 16 = .ok (.iload_n 1, 1) := by decide +kernel
theorem dX2_hintAt_17 : decode cX2_hintAt 17 = .ok (.if_icmp .ne 5, 3) := by decide +kernel
theorem dX2_hintAt_20 : decode cX2_hintAt 20 = .ok (.iload_n 2, 1) := by decide +kernel
theorem dX2_hintAt_21 : decode cX2_hintAt 21 = .ok (.ireturn, 1) := by decide +kernel
theorem dX2_hintAt_22 : decode cX2_hintAt 22 = .ok (.iinc 2 1, 3) := by decide +kernel
theorem dX2_hintAt_25 : decode cX2_hintAt 25 = .ok (.goto (-23), 3) := by decide +kernel
theorem dX2_hintAt_28 : decode cX2_hintAt 28 = .ok (.iconst (-1), 1) := by decide +kernel
theorem dX2_hintAt_29 : decode cX2_hintAt 29 = .ok (.ireturn, 1) := by decide +kernel
theorem dX2_shutFoldOf_0 : decode cX2_shutFoldOf 0 = .ok (.iconst 0, 1) := by decide +kernel
theorem dX2_shutFoldOf_1 : decode cX2_shutFoldOf 1 = .ok (.istore_n 2, 1) := by decide +kernel
theorem dX2_shutFoldOf_2 : decode cX2_shutFoldOf 2 = .ok (.iload_n 2, 1) := by decide +kernel
theorem dX2_shutFoldOf_3 : decode cX2_shutFoldOf 3 = .ok (.aload_n 0, 1) := by decide +kernel
theorem dX2_shutFoldOf_4 : decode cX2_shutFoldOf 4 = .ok (.getfield 35, 3) := by decide +kernel
theorem dX2_shutFoldOf_7 : decode cX2_shutFoldOf 7 = .ok (.if_icmp .ge 40, 3) := by decide +kernel
theorem dX2_shutFoldOf_10 : decode cX2_shutFoldOf 10 = .ok (.aload_n 0, 1) := by decide +kernel
theorem dX2_shutFoldOf_11 : decode cX2_shutFoldOf 11 = .ok (.getfield 21, 3) := by decide +kernel
theorem dX2_shutFoldOf_14 : decode cX2_shutFoldOf 14 = .ok (.iload_n 2, 1) := by decide +kernel
theorem dX2_shutFoldOf_15 : decode cX2_shutFoldOf 15 = .ok (.baload, 1) := by decide +kernel
theorem dX2_shutFoldOf_16 : decode cX2_shutFoldOf 16 = .ok (.ifCond .eq 25, 3) := by decide +kernel
theorem dX2_shutFoldOf_19 : decode cX2_shutFoldOf 19 = .ok (.aload_n 0, 1) := by decide +kernel
theorem dX2_shutFoldOf_20 : decode cX2_shutFoldOf 20 = .ok (.getfield 15, 3) := by decide +kernel
theorem dX2_shutFoldOf_23 : decode cX2_shutFoldOf 23 = .ok (.iload_n 2, 1) := by decide +kernel
theorem dX2_shutFoldOf_24 : decode cX2_shutFoldOf 24 = .ok (.iaload, 1) := by decide +kernel
theorem dX2_shutFoldOf_25 : decode cX2_shutFoldOf 25 = .ok (.iload_n 1, 1) := by decide +kernel
theorem dX2_shutFoldOf_26 : decode cX2_shutFoldOf 26 = .ok (.if_icmp .gt 15, 3) := by decide +kernel
theorem dX2_shutFoldOf_29 : decode cX2_shutFoldOf 29 = .ok (.iload_n 1, 1) := by decide +kernel
theorem dX2_shutFoldOf_30 : decode cX2_shutFoldOf 30 = .ok (.aload_n 0, 1) := by decide +kernel
theorem dX2_shutFoldOf_31 : decode cX2_shutFoldOf 31 = .ok (.getfield 18, 3) := by decide +kernel
theorem dX2_shutFoldOf_34 : decode cX2_shutFoldOf 34 = .ok (.iload_n 2, 1) := by decide +kernel
theorem dX2_shutFoldOf_35 : decode cX2_shutFoldOf 35 = .ok (.iaload, 1) := by decide +kernel
theorem dX2_shutFoldOf_36 : decode cX2_shutFoldOf 36 = .ok (.if_icmp .ge 5, 3) := by decide +kernel
theorem dX2_shutFoldOf_39 : decode cX2_shutFoldOf 39 = .ok (.iload_n 2, 1) := by decide +kernel
theorem dX2_shutFoldOf_40 : decode cX2_shutFoldOf 40 = .ok (.ireturn, 1) := by decide +kernel
theorem dX2_shutFoldOf_41 : decode cX2_shutFoldOf 41 = .ok (.iinc 2 1, 3) := by decide +kernel
theorem dX2_shutFoldOf_44 : decode cX2_shutFoldOf 44 = .ok (.goto (-42), 3) := by decide +kernel
theorem dX2_shutFoldOf_47 : decode cX2_shutFoldOf 47 = .ok (.iconst (-1), 1) := by decide +kernel
theorem dX2_shutFoldOf_48 : decode cX2_shutFoldOf 48 = .ok (.ireturn, 1) := by decide +kernel
theorem dX2_holderOf_0 : decode cX2_holderOf 0 = .ok (.aload_n 0, 1) := by decide +kernel
theorem dX2_holderOf_1 : decode cX2_holderOf 1 = .ok (.iload_n 1, 1) := by decide +kernel
theorem dX2_holderOf_2 : decode cX2_holderOf 2 = .ok (.invokevirtual 97, 3) := by decide +kernel
theorem dX2_holderOf_5 : decode cX2_holderOf 5 = .ok (.istore_n 2, 1) := by decide +kernel
theorem dX2_holderOf_6 : decode cX2_holderOf 6 = .ok (.iload_n 2, 1) := by decide +kernel
theorem dX2_holderOf_7 : decode cX2_holderOf 7 = .ok (.ifCond .ge 7, 3) := by decide +kernel
theorem dX2_holderOf_10 : decode cX2_holderOf 10 = .ok (.iload_n 1, 1) := by decide +kernel
theorem dX2_holderOf_11 : decode cX2_holderOf 11 = .ok (.goto 9, 3) := by decide +kernel
theorem dX2_holderOf_14 : decode cX2_holderOf 14 = .ok (.aload_n 0, 1) := by decide +kernel
theorem dX2_holderOf_15 : decode cX2_holderOf 15 = .ok (.getfield 15, 3) := by decide +kernel
theorem dX2_holderOf_18 : decode cX2_holderOf 18 = .ok (.iload_n 2, 1) := by decide +kernel
theorem dX2_holderOf_19 : decode cX2_holderOf 19 = .ok (.iaload, 1) := by decide +kernel
theorem dX2_holderOf_20 : decode cX2_holderOf 20 = .ok (.ireturn, 1) := by decide +kernel
theorem dX2_isShown_0 : decode cX2_isShown 0 = .ok (.aload_n 0, 1) := by decide +kernel
theorem dX2_isShown_1 : decode cX2_isShown 1 = .ok (.iload_n 1, 1) := by decide +kernel
theorem dX2_isShown_2 : decode cX2_isShown 2 = .ok (.invokevirtual 100, 3) := by decide +kernel
theorem dX2_isShown_5 : decode cX2_isShown 5 = .ok (.iload_n 1, 1) := by decide +kernel
theorem dX2_isShown_6 : decode cX2_isShown 6 = .ok (.if_icmp .ne 7, 3) := by decide +kernel
theorem dX2_isShown_9 : decode cX2_isShown 9 = .ok (.iconst 1, 1) := by decide +kernel
theorem dX2_isShown_10 : decode cX2_isShown 10 = .ok (.goto 4, 3) := by decide +kernel
theorem dX2_isShown_13 : decode cX2_isShown 13 = .ok (.iconst 0, 1) := by decide +kernel
theorem dX2_isShown_14 : decode cX2_isShown 14 = .ok (.ireturn, 1) := by decide +kernel
theorem dX2_nextShown_0 : decode cX2_nextShown 0 = .ok (.iload_n 1, 1) := by decide +kernel
theorem dX2_nextShown_1 : decode cX2_nextShown 1 = .ok (.iconst 1, 1) := by decide +kernel
theorem dX2_nextShown_2 : decode cX2_nextShown 2 = .ok (.iadd, 1) := by decide +kernel
theorem dX2_nextShown_3 : decode cX2_nextShown 3 = .ok (.istore_n 2, 1) := by decide +kernel
theorem dX2_nextShown_4 : decode cX2_nextShown 4 = .ok (.iload_n 2, 1) := by decide +kernel
theorem dX2_nextShown_5 : decode cX2_nextShown 5 = .ok (.aload_n 0, 1) := by decide +kernel
theorem dX2_nextShown_6 : decode cX2_nextShown 6 = .ok (.getfield 31, 3) := by decide +kernel
theorem dX2_nextShown_9 : decode cX2_nextShown 9 = .ok (.if_icmp .gt 19, 3) := by decide +kernel
theorem dX2_nextShown_12 : decode cX2_nextShown 12 = .ok (.aload_n 0, 1) := by decide +kernel
theorem dX2_nextShown_13 : decode cX2_nextShown 13 = .ok (.iload_n 2, 1) := by decide +kernel
theorem dX2_nextShown_14 : decode cX2_nextShown 14 = .ok (.invokevirtual 103, 3) := by decide +kernel
theorem dX2_nextShown_17 : decode cX2_nextShown 17 = .ok (.ifCond .eq 5, 3) := by decide +kernel
theorem dX2_nextShown_20 : decode cX2_nextShown 20 = .ok (.iload_n 2, 1) := by decide +kernel
theorem dX2_nextShown_21 : decode cX2_nextShown 21 = .ok (.ireturn, 1) := by decide +kernel
theorem dX2_nextShown_22 : decode cX2_nextShown 22 = .ok (.iinc 2 1, 3) := by decide +kernel
theorem dX2_nextShown_25 : decode cX2_nextShown 25 = .ok (.goto (-21), 3) := by decide +kernel
theorem dX2_nextShown_28 : decode cX2_nextShown 28 = .ok (.bipush (-4), 2) := by decide +kernel
theorem dX2_nextShown_30 : decode cX2_nextShown 30 = .ok (.ireturn, 1) := by decide +kernel
theorem dX2_previousShown_0 : decode cX2_previousShown 0 = .ok (.iload_n 1, 1) := by decide +kernel
theorem dX2_previousShown_1 : decode cX2_previousShown 1 = .ok (.iconst 1, 1) := by decide +kernel
theorem dX2_previousShown_2 : decode cX2_previousShown 2 = .ok (.isub, 1) := by decide +kernel
theorem dX2_previousShown_3 : decode cX2_previousShown 3 = .ok (.istore_n 2, 1) := by decide +kernel
theorem dX2_previousShown_4 : decode cX2_previousShown 4 = .ok (.iload_n 2, 1) := by decide +kernel
theorem dX2_previousShown_5 : decode cX2_previousShown 5 = .ok (.ifCond .lt 19, 3) := by decide +kernel
theorem dX2_previousShown_8 : decode cX2_previousShown 8 = .ok (.aload_n 0, 1) := by decide +kernel
theorem dX2_previousShown_9 : decode cX2_previousShown 9 = .ok (.iload_n 2, 1) := by decide +kernel
theorem dX2_previousShown_10 : decode cX2_previousShown 10 = .ok (.invokevirtual 103, 3) := by decide +kernel
theorem dX2_previousShown_13 : decode cX2_previousShown 13 = .ok (.ifCond .eq 5, 3) := by decide +kernel
theorem dX2_previousShown_16 : decode cX2_previousShown 16 = .ok (.iload_n 2, 1) := by decide +kernel
theorem dX2_previousShown_17 : decode cX2_previousShown 17 = .ok (.ireturn, 1) := by decide +kernel
theorem dX2_previousShown_18 : decode cX2_previousShown 18 = .ok (.iinc 2 (-1), 3) := by decide +kernel
theorem dX2_previousShown_21 : decode cX2_previousShown 21 = .ok (.goto (-17), 3) := by decide +kernel
theorem dX2_previousShown_24 : decode cX2_previousShown 24 = .ok (.bipush (-4), 2) := by decide +kernel
theorem dX2_previousShown_26 : decode cX2_previousShown 26 = .ok (.ireturn, 1) := by decide +kernel
theorem dX2_reduced_0 : decode cX2_reduced 0 = .ok (.iload_n 1, 1) := by decide +kernel
theorem dX2_reduced_1 : decode cX2_reduced 1 = .ok (.ifCond .le 9, 3) := by decide +kernel
theorem dX2_reduced_4 : decode cX2_reduced 4 = .ok (.iload_n 0, 1) := by decide +kernel
theorem dX2_reduced_5 : decode cX2_reduced 5 = .ok (.iload_n 1, 1) := by decide +kernel
theorem dX2_reduced_6 : decode cX2_reduced 6 = .ok (.irem, 1) := by decide +kernel
theorem dX2_reduced_7 : decode cX2_reduced 7 = .ok (.goto 4, 3) := by decide +kernel
theorem dX2_reduced_10 : decode cX2_reduced 10 = .ok (.iconst (-1), 1) := by decide +kernel
theorem dX2_reduced_11 : decode cX2_reduced 11 = .ok (.ireturn, 1) := by decide +kernel
theorem dX2_live_0 : decode cX2_live 0 = .ok (.iload_n 1, 1) := by decide +kernel
theorem dX2_live_1 : decode cX2_live 1 = .ok (.iconst 4, 1) := by decide +kernel
theorem dX2_live_2 : decode cX2_live 2 = .ok (.irem, 1) := by decide +kernel
theorem dX2_live_3 : decode cX2_live 3 = .ok (.istore_n 2, 1) := by decide +kernel
theorem dX2_live_4 : decode cX2_live 4 = .ok (.iload_n 2, 1) := by decide +kernel
theorem dX2_live_5 : decode cX2_live 5 = .ok (.iconst 2, 1) := by decide +kernel
theorem dX2_live_6 : decode cX2_live 6 = .ok (.if_icmp .ne 22, 3) := by decide +kernel
theorem dX2_live_9 : decode cX2_live 9 = .ok (.aload_n 0, 1) := by decide +kernel
theorem dX2_live_10 : decode cX2_live 10 = .ok (.iload_n 1, 1) := by decide +kernel
theorem dX2_live_11 : decode cX2_live 11 = .ok (.sipush 256, 3) := by decide +kernel
theorem dX2_live_14 : decode cX2_live 14 = .ok (.idiv, 1) := by decide +kernel
theorem dX2_live_15 : decode cX2_live 15 = .ok (.aload_n 0, 1) := by decide +kernel
theorem dX2_live_16 : decode cX2_live 16 = .ok (.getfield 31, 3) := by decide +kernel
theorem dX2_live_19 : decode cX2_live 19 = .ok (.invokestatic 106, 3) := by decide +kernel
theorem dX2_live_22 : decode cX2_live 22 = .ok (.invokevirtual 110, 3) := by decide +kernel
theorem dX2_live_25 : decode cX2_live 25 = .ok (.goto 51, 3) := by decide +kernel
theorem dX2_live_28 : decode cX2_live 28 = .ok (.iload_n 2, 1) := by decide +kernel
theorem dX2_live_29 : decode cX2_live 29 = .ok (.iconst 3, 1) := by decide +kernel
theorem dX2_live_30 : decode cX2_live 30 = .ok (.if_icmp .ne 21, 3) := by decide +kernel
theorem dX2_live_33 : decode cX2_live 33 = .ok (.aload_n 0, 1) := by decide +kernel
theorem dX2_live_34 : decode cX2_live 34 = .ok (.iload_n 1, 1) := by decide +kernel
theorem dX2_live_35 : decode cX2_live 35 = .ok (.bipush 8, 2) := by decide +kernel
theorem dX2_live_37 : decode cX2_live 37 = .ok (.idiv, 1) := by decide +kernel
theorem dX2_live_38 : decode cX2_live 38 = .ok (.aload_n 0, 1) := by decide +kernel
theorem dX2_live_39 : decode cX2_live 39 = .ok (.getfield 35, 3) := by decide +kernel
theorem dX2_live_42 : decode cX2_live 42 = .ok (.invokestatic 106, 3) := by decide +kernel
theorem dX2_live_45 : decode cX2_live 45 = .ok (.invokevirtual 113, 3) := by decide +kernel
theorem dX2_live_48 : decode cX2_live 48 = .ok (.goto 28, 3) := by decide +kernel
theorem dX2_live_51 : decode cX2_live 51 = .ok (.aload_n 0, 1) := by decide +kernel
theorem dX2_live_52 : decode cX2_live 52 = .ok (.iload_n 1, 1) := by decide +kernel
theorem dX2_live_53 : decode cX2_live 53 = .ok (.sipush 256, 3) := by decide +kernel
theorem dX2_live_56 : decode cX2_live 56 = .ok (.idiv, 1) := by decide +kernel
theorem dX2_live_57 : decode cX2_live 57 = .ok (.aload_n 0, 1) := by decide +kernel
theorem dX2_live_58 : decode cX2_live 58 = .ok (.getfield 31, 3) := by decide +kernel
theorem dX2_live_61 : decode cX2_live 61 = .ok (.iconst 1, 1) := by decide +kernel
theorem dX2_live_62 : decode cX2_live 62 = .ok (.iadd, 1) := by decide +kernel
theorem dX2_live_63 : decode cX2_live 63 = .ok (.invokestatic 106, 3) := by decide +kernel
theorem dX2_live_66 : decode cX2_live 66 = .ok (.iload_n 1, 1) := by decide +kernel
theorem dX2_live_67 : decode cX2_live 67 = .ok (.bipush 8, 2) := by decide +kernel
theorem dX2_live_69 : decode cX2_live 69 = .ok (.idiv, 1) := by decide +kernel
theorem dX2_live_70 : decode cX2_live 70 = .ok (.bipush 28, 2) := by decide +kernel
theorem dX2_live_72 : decode cX2_live 72 = .ok (.irem, 1) := by decide +kernel
theorem dX2_live_73 : decode cX2_live 73 = .ok (.invokevirtual 116, 3) := by decide +kernel
theorem dX2_live_76 : decode cX2_live 76 = .ok (.return_, 1) := by decide +kernel
end
section
theorem dX3_init_0 : decode cX3_init 0 = .ok (.aload_n 0, 1) := by decide +kernel
theorem dX3_init_1 : decode cX3_init 1 = .ok (.invokespecial 3, 3) := by decide +kernel
theorem dX3_init_4 : decode cX3_init 4 = .ok (.aload_n 0, 1) := by decide +kernel
theorem dX3_init_5 : decode cX3_init 5 = .ok (.sipush 200, 3) := by decide +kernel
theorem dX3_init_8 : decode cX3_init 8 = .ok (.newarray .int, 2) := by decide +kernel
theorem dX3_init_10 : decode cX3_init 10 = .ok (.putfield 9, 3) := by decide +kernel
theorem dX3_init_13 : decode cX3_init 13 = .ok (.aload_n 0, 1) := by decide +kernel
theorem dX3_init_14 : decode cX3_init 14 = .ok (.iconst 3, 1) := by decide +kernel
theorem dX3_init_15 : decode cX3_init 15 = .ok (.newarray .int, 2) := by decide +kernel
theorem dX3_init_17 : decode cX3_init 17 = .ok (.putfield 15, 3) := by decide +kernel
theorem dX3_init_20 : decode cX3_init 20 = .ok (.return_, 1) := by decide +kernel
theorem dX3_append_0 : decode cX3_append 0 = .ok (.aload_n 0, 1) := by decide +kernel
theorem dX3_append_1 : decode cX3_append 1 = .ok (.getfield 18, 3) := by decide +kernel
theorem dX3_append_4 : decode cX3_append 4 = .ok (.ifCond .lt 15, 3) := by decide +kernel
theorem dX3_append_7 : decode cX3_append 7 = .ok (.aload_n 0, 1) := by decide +kernel
theorem dX3_append_8 : decode cX3_append 8 = .ok (.getfield 18, 3) := by decide +kernel
theorem dX3_append_11 : decode cX3_append 11 = .ok (.aload_n 0, 1) := by decide +kernel
theorem dX3_append_12 : decode cX3_append 12 = .ok (.getfield 9, 3) := by decide +kernel
theorem dX3_append_15 : decode cX3_append 15 = .ok (.arraylength, 1) := by decide +kernel
theorem dX3_append_16 : decode cX3_append 16 = .ok (.if_icmp .lt 5, 3) := by decide +kernel
theorem dX3_append_19 : decode cX3_append 19 = .ok (.iconst 0, 1) := by decide +kernel
theorem dX3_append_20 : decode cX3_append 20 = .ok (.ireturn, 1) := by decide +kernel
theorem dX3_append_21 : decode cX3_append 21 = .ok (.aload_n 0, 1) := by decide +kernel
theorem dX3_append_22 : decode cX3_append 22 = .ok (.getfield 9, 3) := by decide +kernel
theorem dX3_append_25 : decode cX3_append 25 = .ok (.aload_n 0, 1) := by decide +kernel
theorem dX3_append_26 : decode cX3_append 26 = .ok (.getfield 18, 3) := by decide +kernel
theorem dX3_append_29 : decode cX3_append 29 = .ok (.iload_n 1, 1) := by decide +kernel
theorem dX3_append_30 : decode cX3_append 30 = .ok (.iastore, 1) := by decide +kernel
theorem dX3_append_31 : decode cX3_append 31 = .ok (.aload_n 0, 1) := by decide +kernel
theorem dX3_append_32 : decode cX3_append 32 = .ok (.dup, 1) := by decide +kernel
theorem dX3_append_33 : decode cX3_append 33 = .ok (.getfield 18, 3) := by decide +kernel
theorem dX3_append_36 : decode cX3_append 36 = .ok (.iconst 1, 1) := by decide +kernel
theorem dX3_append_37 : decode cX3_append 37 = .ok (.iadd, 1) := by decide +kernel
theorem dX3_append_38 : decode cX3_append 38 = .ok (.putfield 18, 3) := by decide +kernel
theorem dX3_append_41 : decode cX3_append 41 = .ok (.iconst 1, 1) := by decide +kernel
theorem dX3_append_42 : decode cX3_append 42 = .ok (.ireturn, 1) := by decide +kernel
theorem dX3_readInto_0 : decode cX3_readInto 0 = .ok (.aload_n 1, 1) := by decide +kernel
theorem dX3_readInto_1 : decode cX3_readInto 1 = .ok (.invokevirtual 22, 3) := by decide +kernel
theorem dX3_readInto_4 : decode cX3_readInto 4 = .ok (.iconst 0, 1) := by decide +kernel
theorem dX3_readInto_5 : decode cX3_readInto 5 = .ok (.istore_n 2, 1) := by decide +kernel
theorem dX3_readInto_6 : decode cX3_readInto 6 = .ok (.iconst 0, 1) := by decide +kernel
theorem dX3_readInto_7 : decode cX3_readInto 7 = .ok (.istore_n 3, 1) := by decide +kernel
theorem dX3_readInto_8 : decode cX3_readInto 8 = .ok (.iload_n 3, 1) := by decide +kernel
theorem dX3_readInto_9 : decode cX3_readInto 9 = .ok (.sipush 200, 3) := by decide +kernel
theorem dX3_readInto_12 : decode cX3_readInto 12 = .ok (.if_icmp .ge 47, 3) := by decide +kernel
theorem dX3_readInto_15 : decode cX3_readInto 15 = .ok (.iload_n 2, 1) := by decide +kernel
theorem dX3_readInto_16 : decode cX3_readInto 16 = .ok (.aload_n 0, 1) := by decide +kernel
theorem dX3_readInto_17 : decode cX3_readInto 17 = .ok (.getfield 18, 3) := by decide +kernel
theorem dX3_readInto_20 : decode cX3_readInto 20 = .ok (.if_icmp .ge 39, 3) := by decide +kernel
theorem dX3_readInto_23 : decode cX3_readInto 23 = .ok (.aload_n 0, 1) := by decide +kernel
theorem dX3_readInto_24 : decode cX3_readInto 24 = .ok (.iload_n 2, 1) := by decide +kernel
theorem dX3_readInto_25 : decode cX3_readInto 25 = .ok (.invokevirtual 27, 3) := by decide +kernel
theorem dX3_readInto_28 : decode cX3_readInto 28 = .ok (.istore 4, 2) := by decide +kernel
theorem dX3_readInto_30 : decode cX3_readInto 30 = .ok (.iload 4, 2) := by decide +kernel
theorem dX3_readInto_32 : decode cX3_readInto 32 = .ok (.ifCond .lt 14, 3) := by decide +kernel
theorem dX3_readInto_35 : decode cX3_readInto 35 = .ok (.aload_n 0, 1) := by decide +kernel
theorem dX3_readInto_36 : decode cX3_readInto 36 = .ok (.iload_n 2, 1) := by decide +kernel
theorem dX3_readInto_37 : decode cX3_readInto 37 = .ok (.iload 4, 2) := by decide +kernel
theorem dX3_readInto_39 : decode cX3_readInto 39 = .ok (.aload_n 1, 1) := by decide +kernel
theorem dX3_readInto_40 : decode cX3_readInto 40 = .ok (.invokevirtual 31, 3) := by decide +kernel
theorem dX3_readInto_43 : decode cX3_readInto 43 = .ok (.ifCond .ne 5, 3) := by decide +kernel
theorem dX3_readInto_46 : decode cX3_readInto 46 = .ok (.iload_n 2, 1) := by decide +kernel
theorem dX3_readInto_47 : decode cX3_readInto 47 = .ok (.ireturn, 1) := by decide +kernel
theorem dX3_readInto_48 : decode cX3_readInto 48 = .ok (.iload 4, 2) := by decide +kernel
theorem dX3_readInto_50 : decode cX3_readInto 50 = .ok (.iconst 1, 1) := by decide +kernel
theorem dX3_readInto_51 : decode cX3_readInto 51 = .ok (.iadd, 1) := by decide +kernel
theorem dX3_readInto_52 : decode cX3_readInto 52 = .ok (.istore_n 2, 1) := by decide +kernel
theorem dX3_readInto_53 : decode cX3_readInto 53 = .ok (.iinc 3 1, 3) := by decide +kernel
theorem dX3_readInto_56 : decode cX3_readInto 56 = .ok (.goto (-48), 3) := by decide +kernel
theorem dX3_readInto_59 : decode cX3_readInto 59 = .ok (.bipush (-4), 2) := by decide +kernel
theorem dX3_readInto_61 : decode cX3_readInto 61 = .ok (.ireturn, 1) := by decide +kernel
theorem dX3_endOfItem_0 : decode cX3_endOfItem 0 = .ok (.iload_n 1, 1) := by decide +kernel
theorem dX3_endOfItem_1 : decode cX3_endOfItem 1 = .ok (.istore_n 2, 1) := by decide +kernel
theorem dX3_endOfItem_2 : decode cX3_endOfItem 2 = .ok (.iload_n 2, 1) := by decide +kernel
theorem dX3_endOfItem_3 : decode cX3_endOfItem 3 = .ok (.aload_n 0, 1) := by decide +kernel
theorem dX3_endOfItem_4 : decode cX3_endOfItem 4 = .ok (.getfield 18, 3) := by decide +kernel
theorem dX3_endOfItem_7 : decode cX3_endOfItem 7 = .ok (.if_icmp .ge 22, 3) := by decide +kernel
theorem dX3_endOfItem_10 : decode cX3_endOfItem 10 = .ok (.aload_n 0, 1) := by decide +kernel
theorem dX3_endOfItem_11 : decode cX3_endOfItem 11 = .ok (.getfield 9, 3) := by decide +kernel
theorem dX3_endOfItem_14 : decode cX3_endOfItem 14 = .ok (.iload_n 2, 1) := by decide +kernel
theorem dX3_endOfItem_15 : decode cX3_endOfItem 15 = .ok (.iaload, 1) := by decide +kernel
theorem dX3_endOfItem_16 : decode cX3_endOfItem 16 = .ok (.bipush 59, 2) := by decide +kernel
theorem dX3_endOfItem_18 : decode cX3_endOfItem 18 = .ok (.if_icmp .ne 5, 3) := by decide +kernel
theorem dX3_endOfItem_21 : decode cX3_endOfItem 21 = .ok (.iload_n 2, 1) := by decide +kernel
theorem dX3_endOfItem_22 : decode cX3_endOfItem 22 = .ok (.ireturn, 1) := by decide +kernel
theorem dX3_endOfItem_23 : decode cX3_endOfItem 23 = .ok (.iinc 2 1, 3) := by decide +kernel
theorem dX3_endOfItem_26 : decode cX3_endOfItem 26 = .ok (.goto (-24), 3) := by decide +kernel
theorem dX3_endOfItem_29 : decode cX3_endOfItem 29 = .ok (.iconst (-1), 1) := by decide +kernel
theorem dX3_endOfItem_30 : decode cX3_endOfItem 30 = .ok (.ireturn, 1) := by decide +kernel
theorem dX3_readItem_0 : decode cX3_readItem 0 = .ok (.aload_n 0, 1) := by decide +kernel
theorem dX3_readItem_1 : decode cX3_readItem 1 = .ok (.getfield 9, 3) := by decide +kernel
theorem dX3_readItem_4 : decode cX3_readItem 4 = .ok (.iload_n 1, 1) := by decide +kernel
theorem dX3_readItem_5 : decode cX3_readItem 5 = .ok (.iaload, 1) := by decide +kernel
theorem dX3_readItem_6 : decode cX3_readItem 6 = .ok (.istore 4, 2) := by decide +kernel
theorem dX3_readItem_8 : decode cX3_readItem 8 = .ok (.iload 4, 2) := by decide +kernel
theorem dX3_readItem_10 : decode cX3_readItem 10 = .ok (.bipush 116, 2) := by decide +kernel
theorem dX3_readItem_12 : decode cX3_readItem 12 = .ok (.if_icmp .ne 25, 3) := by decide +kernel
theorem dX3_readItem_15 : decode cX3_readItem 15 = .ok (.iload_n 1, 1) := by decide +kernel
theorem dX3_readItem_16 : decode cX3_readItem 16 = .ok (.ifCond .ne 19, 3) := by decide +kernel
theorem dX3_readItem_19 : decode cX3_readItem 19 = .ok (.aload_n 0, 1) := by decide +kernel
theorem dX3_readItem_20 : decode cX3_readItem 20 = .ok (.iload_n 1, 1) := by decide +kernel
theorem dX3_readItem_21 : decode cX3_readItem 21 = .ok (.iconst 1, 1) := by decide +kernel
theorem dX3_readItem_22 : decode cX3_readItem 22 = .ok (.iadd, 1) := by decide +kernel
theorem dX3_readItem_23 : decode cX3_readItem 23 = .ok (.iload_n 2, 1) := by decide +kernel
theorem dX3_readItem_24 : decode cX3_readItem 24 = .ok (.aload_n 3, 1) := by decide +kernel
theorem dX3_readItem_25 : decode cX3_readItem 25 = .ok (.invokevirtual 35, 3) := by decide +kernel
theorem dX3_readItem_28 : decode cX3_readItem 28 = .ok (.ifCond .eq 7, 3) := by decide +kernel
theorem dX3_readItem_31 : decode cX3_readItem 31 = .ok (.iconst 1, 1) := by decide +kernel
theorem dX3_readItem_32 : decode cX3_readItem 32 = .ok (.goto 4, 3) := by decide +kernel
theorem dX3_readItem_35 : decode cX3_readItem 35 = .ok (.iconst 0, 1) := by decide +kernel
theorem dX3_readItem_36 : decode cX3_readItem 36 = .ok (.ireturn, 1) := by decide +kernel
theorem dX3_readItem_37 : decode cX3_readItem 37 = .ok (.aload_n 0, 1) := by decide +kernel
theorem dX3_readItem_38 : decode cX3_readItem 38 = .ok (.iload_n 1, 1) := by decide +kernel
theorem dX3_readItem_39 : decode cX3_readItem 39 = .ok (.iconst 1, 1) := by decide +kernel
theorem dX3_readItem_40 : decode cX3_readItem 40 = .ok (.iadd, 1) := by decide +kernel
theorem dX3_readItem_41 : decode cX3_readItem 41 = .ok (.iload_n 2, 1) := by decide +kernel
theorem dX3_readItem_42 : decode cX3_readItem 42 = .ok (.invokevirtual 38, 3) := by decide +kernel
theorem dX3_readItem_45 : decode cX3_readItem 45 = .ok (.istore 5, 2) := by decide +kernel
theorem dX3_readItem_47 : decode cX3_readItem 47 = .ok (.iload 4, 2) := by decide +kernel
theorem dX3_readItem_49 : decode cX3_readItem 49 = .ok (.lookupswitch 123 #[(98, 103), (102, 43), (104, 63), (119, 83)], 43) := by decide +kernel
theorem dX3_readItem_92 : decode cX3_readItem 92 = .ok (.iload 5, 2) := by decide +kernel
theorem dX3_readItem_94 : decode cX3_readItem 94 = .ok (.iconst 2, 1) := by decide +kernel
theorem dX3_readItem_95 : decode cX3_readItem 95 = .ok (.if_icmp .ne 15, 3) := by decide +kernel
theorem dX3_readItem_98 : decode cX3_readItem 98 = .ok (.aload_n 0, 1) := by decide +kernel
theorem dX3_readItem_99 : decode cX3_readItem 99 = .ok (.aload_n 3, 1) := by decide +kernel
theorem dX3_readItem_100 : decode cX3_readItem 100 = .ok (.invokevirtual 42, 3) := by decide +kernel
theorem dX3_readItem_103 : decode cX3_readItem 103 = .ok (.ifCond .eq 7, 3) := by decide +kernel
theorem dX3_readItem_106 : decode cX3_readItem 106 = .ok (.iconst 1, 1) := by decide +kernel
theorem dX3_readItem_107 : decode cX3_readItem 107 = .ok (.goto 4, 3) := by decide +kernel
theorem dX3_readItem_110 : decode cX3_readItem 110 = .ok (.iconst 0, 1) := by decide +kernel
theorem dX3_readItem_111 : decode cX3_readItem 111 = .ok (.ireturn, 1) := by decide +kernel
theorem dX3_readItem_112 : decode cX3_readItem 112 = .ok (.iload 5, 2) := by decide +kernel
theorem dX3_readItem_114 : decode cX3_readItem 114 = .ok (.iconst 2, 1) := by decide +kernel
theorem dX3_readItem_115 : decode cX3_readItem 115 = .ok (.if_icmp .ne 15, 3) := by decide +kernel
theorem dX3_readItem_118 : decode cX3_readItem 118 = .ok (.aload_n 0, 1) := by decide +kernel
theorem dX3_readItem_119 : decode cX3_readItem 119 = .ok (.aload_n 3, 1) := by decide +kernel
theorem dX3_readItem_120 : decode cX3_readItem 120 = .ok (.invokevirtual 46, 3) := by decide +kernel
theorem dX3_readItem_123 : decode cX3_readItem 123 = .ok (.ifCond .eq 7, 3) := by decide +kernel
theorem dX3_readItem_126 : decode cX3_readItem 126 = .ok (.iconst 1, 1) := by decide +kernel
theorem dX3_readItem_127 : decode cX3_readItem 127 = .ok (.goto 4, 3) := by decide +kernel
theorem dX3_readItem_130 : decode cX3_readItem 130 = .ok (.iconst 0, 1) := by decide +kernel
theorem dX3_readItem_131 : decode cX3_readItem 131 = .ok (.ireturn, 1) := by decide +kernel
theorem dX3_readItem_132 : decode cX3_readItem 132 = .ok (.iload 5, 2) := by decide +kernel
theorem dX3_readItem_134 : decode cX3_readItem 134 = .ok (.iconst 3, 1) := by decide +kernel
theorem dX3_readItem_135 : decode cX3_readItem 135 = .ok (.if_icmp .ne 15, 3) := by decide +kernel
theorem dX3_readItem_138 : decode cX3_readItem 138 = .ok (.aload_n 0, 1) := by decide +kernel
theorem dX3_readItem_139 : decode cX3_readItem 139 = .ok (.aload_n 3, 1) := by decide +kernel
theorem dX3_readItem_140 : decode cX3_readItem 140 = .ok (.invokevirtual 49, 3) := by decide +kernel
theorem dX3_readItem_143 : decode cX3_readItem 143 = .ok (.ifCond .eq 7, 3) := by decide +kernel
theorem dX3_readItem_146 : decode cX3_readItem 146 = .ok (.iconst 1, 1) := by decide +kernel
theorem dX3_readItem_147 : decode cX3_readItem 147 = .ok (.goto 4, 3) := by decide +kernel
theorem dX3_readItem_150 : decode cX3_readItem 150 = .ok (.iconst 0, 1) := by decide +kernel
theorem dX3_readItem_151 : decode cX3_readItem 151 = .ok (.ireturn, 1) := by decide +kernel
theorem dX3_readItem_152 : decode cX3_readItem 152 = .ok (.iload 5, 2) := by decide +kernel
theorem dX3_readItem_154 : decode cX3_readItem 154 = .ok (.iconst 1, 1) := by decide +kernel
theorem dX3_readItem_155 : decode cX3_readItem 155 = .ok (.if_icmp .ne 15, 3) := by decide +kernel
theorem dX3_readItem_158 : decode cX3_readItem 158 = .ok (.aload_n 0, 1) := by decide +kernel
theorem dX3_readItem_159 : decode cX3_readItem 159 = .ok (.aload_n 3, 1) := by decide +kernel
theorem dX3_readItem_160 : decode cX3_readItem 160 = .ok (.invokevirtual 52, 3) := by decide +kernel
theorem dX3_readItem_163 : decode cX3_readItem 163 = .ok (.ifCond .eq 7, 3) := by decide +kernel
theorem dX3_readItem_166 : decode cX3_readItem 166 = .ok (.iconst 1, 1) := by decide +kernel
theorem dX3_readItem_167 : decode cX3_readItem 167 = .ok (.goto 4, 3) := by decide +kernel
theorem dX3_readItem_170 : decode cX3_readItem 170 = .ok (.iconst 0, 1) := by decide +kernel
theorem dX3_readItem_171 : decode cX3_readItem 171 = .ok (.ireturn, 1) := by decide +kernel
theorem dX3_readItem_172 : decode cX3_readItem 172 = .ok (.iconst 0, 1) := by decide +kernel
theorem dX3_readItem_173 : decode cX3_readItem 173 = .ok (.ireturn, 1) := by decide +kernel
theorem dX3_readSigns_0 : decode cX3_readSigns 0 = .ok (.iload_n 1, 1) := by decide +kernel
theorem dX3_readSigns_1 : decode cX3_readSigns 1 = .ok (.istore 4, 2) := by decide +kernel
theorem dX3_readSigns_3 : decode cX3_readSigns 3 = .ok (.iload 4, 2) := by decide +kernel
theorem dX3_readSigns_5 : decode cX3_readSigns 5 = .ok (.iload_n 2, 1) := by decide +kernel
theorem dX3_readSigns_6 : decode cX3_readSigns 6 = .ok (.if_icmp .ge 45, 3) := by decide +kernel
theorem dX3_readSigns_9 : decode cX3_readSigns 9 = .ok (.aload_n 0, 1) := by decide +kernel
theorem dX3_readSigns_10 : decode cX3_readSigns 10 = .ok (.getfield 9, 3) := by decide +kernel
theorem dX3_readSigns_13 : decode cX3_readSigns 13 = .ok (.iload 4, 2) := by decide +kernel
theorem dX3_readSigns_15 : decode cX3_readSigns 15 = .ok (.iaload, 1) := by decide +kernel
theorem dX3_readSigns_16 : decode cX3_readSigns 16 = .ok (.invokestatic 55, 3) := by decide +kernel
theorem dX3_readSigns_19 : decode cX3_readSigns 19 = .ok (.istore 5, 2) := by decide +kernel
theorem dX3_readSigns_21 : decode cX3_readSigns 21 = .ok (.iload 5, 2) := by decide +kernel
theorem dX3_readSigns_23 : decode cX3_readSigns 23 = .ok (.ifCond .lt 10, 3) := by decide +kernel
theorem dX3_readSigns_26 : decode cX3_readSigns 26 = .ok (.aload_n 3, 1) := by decide +kernel
theorem dX3_readSigns_27 : decode cX3_readSigns 27 = .ok (.invokevirtual 58, 3) := by decide +kernel
theorem dX3_readSigns_30 : decode cX3_readSigns 30 = .ok (.ifCond .ne 5, 3) := by decide +kernel
theorem dX3_readSigns_33 : decode cX3_readSigns 33 = .ok (.iconst 0, 1) := by decide +kernel
theorem dX3_readSigns_34 : decode cX3_readSigns 34 = .ok (.ireturn, 1) := by decide +kernel
theorem dX3_readSigns_35 : decode cX3_readSigns 35 = .ok (.aload_n 3, 1) := by decide +kernel
theorem dX3_readSigns_36 : decode cX3_readSigns 36 = .ok (.aload_n 3, 1) := by decide +kernel
theorem dX3_readSigns_37 : decode cX3_readSigns 37 = .ok (.getfield 62, 3) := by decide +kernel
theorem dX3_readSigns_40 : decode cX3_readSigns 40 = .ok (.iload 5, 2) := by decide +kernel
theorem dX3_readSigns_42 : decode cX3_readSigns 42 = .ok (.invokevirtual 65, 3) := by decide +kernel
theorem dX3_readSigns_45 : decode cX3_readSigns 45 = .ok (.iinc 4 1, 3) := by decide +kernel
theorem dX3_readSigns_48 : decode cX3_readSigns 48 = .ok (.goto (-45), 3) := by decide +kernel
theorem dX3_readSigns_51 : decode cX3_readSigns 51 = .ok (.iconst 1, 1) := by decide +kernel
theorem dX3_readSigns_52 : decode cX3_readSigns 52 = .ok (.ireturn, 1) := by decide +kernel
theorem dX3_signOf_0 : decode cX3_signOf 0 = .ok (.iload_n 0, 1) := by decide +kernel
theorem dX3_signOf_1 : decode cX3_signOf 1 = .ok (.bipush 97, 2) := by decide +kernel
theorem dX3_signOf_3 : decode cX3_signOf 3 = .ok (.if_icmp .lt 14, 3) := by decide +kernel
theorem dX3_signOf_6 : decode cX3_signOf 6 = .ok (.iload_n 0, 1) := by decide +kernel
theorem dX3_signOf_7 : decode cX3_signOf 7 = .ok (.bipush 122, 2) := by decide +kernel
theorem dX3_signOf_9 : decode cX3_signOf 9 = .ok (.if_icmp .gt 8, 3) := by decide +kernel
theorem dX3_signOf_12 : decode cX3_signOf 12 = .ok (.iload_n 0, 1) := by decide +kernel
theorem dX3_signOf_13 : decode cX3_signOf 13 = .ok (.bipush 97, 2) := by decide +kernel
theorem dX3_signOf_15 : decode cX3_signOf 15 = .ok (.isub, 1) := by decide +kernel
theorem dX3_signOf_16 : decode cX3_signOf 16 = .ok (.ireturn, 1) := by decide +kernel
theorem dX3_signOf_17 : decode cX3_signOf 17 = .ok (.iload_n 0, 1) := by decide +kernel
theorem dX3_signOf_18 : decode cX3_signOf 18 = .ok (.bipush 62, 2) := by decide +kernel
theorem dX3_signOf_20 : decode cX3_signOf 20 = .ok (.if_icmp .ne 6, 3) := by decide +kernel
theorem dX3_signOf_23 : decode cX3_signOf 23 = .ok (.bipush 26, 2) := by decide +kernel
theorem dX3_signOf_25 : decode cX3_signOf 25 = .ok (.ireturn, 1) := by decide +kernel
theorem dX3_signOf_26 : decode cX3_signOf 26 = .ok (.iload_n 0, 1) := by decide +kernel
theorem dX3_signOf_27 : decode cX3_signOf 27 = .ok (.bipush 47, 2) := by decide +kernel
theorem dX3_signOf_29 : decode cX3_signOf 29 = .ok (.if_icmp .ne 8, 3) := by decide +kernel
theorem dX3_signOf_32 : decode cX3_signOf 32 = .ok (.bipush 27, 2) := by decide +kernel
theorem dX3_signOf_34 : decode cX3_signOf 34 = .ok (.goto 4, 3) := by decide +kernel
theorem dX3_signOf_37 : decode cX3_signOf 37 = .ok (.iconst (-1), 1) := by decide +kernel
theorem dX3_signOf_38 : decode cX3_signOf 38 = .ok (.ireturn, 1) := by decide +kernel
theorem dX3_readNumbers_0 : decode cX3_readNumbers 0 = .ok (.iconst 0, 1) := by decide +kernel
theorem dX3_readNumbers_1 : decode cX3_readNumbers 1 = .ok (.istore_n 3, 1) := by decide +kernel
theorem dX3_readNumbers_2 : decode cX3_readNumbers 2 = .ok (.iconst 0, 1) := by decide +kernel
theorem dX3_readNumbers_3 : decode cX3_readNumbers 3 = .ok (.istore 4, 2) := by decide +kernel
theorem dX3_readNumbers_5 : decode cX3_readNumbers 5 = .ok (.iconst 0, 1) := by decide +kernel
theorem dX3_readNumbers_6 : decode cX3_readNumbers 6 = .ok (.istore 5, 2) := by decide +kernel
theorem dX3_readNumbers_8 : decode cX3_readNumbers 8 = .ok (.iload_n 1, 1) := by decide +kernel
theorem dX3_readNumbers_9 : decode cX3_readNumbers 9 = .ok (.istore 6, 2) := by decide +kernel
theorem dX3_readNumbers_11 : decode cX3_readNumbers 11 = .ok (.iload 6, 2) := by decide +kernel
theorem dX3_readNumbers_13 : decode cX3_readNumbers 13 = .ok (.iload_n 2, 1) := by decide +kernel
theorem dX3_readNumbers_14 : decode cX3_readNumbers 14 = .ok (.if_icmp .gt 113, 3) := by decide +kernel
theorem dX3_readNumbers_17 : decode cX3_readNumbers 17 = .ok (.iload 6, 2) := by decide +kernel
theorem dX3_readNumbers_19 : decode cX3_readNumbers 19 = .ok (.iload_n 2, 1) := by decide +kernel
theorem dX3_readNumbers_20 : decode cX3_readNumbers 20 = .ok (.if_icmp .ge 13, 3) := by decide +kernel
theorem dX3_readNumbers_23 : decode cX3_readNumbers 23 = .ok (.aload_n 0, 1) := by decide +kernel
theorem dX3_readNumbers_24 : decode cX3_readNumbers 24 = .ok (.getfield 9, 3) := by decide +kernel
theorem dX3_readNumbers_27 : decode cX3_readNumbers 27 = .ok (.iload 6, 2) := by decide +kernel
theorem dX3_readNumbers_29 : decode cX3_readNumbers 29 = .ok (.iaload, 1) := by decide +kernel
theorem dX3_readNumbers_30 : decode cX3_readNumbers 30 = .ok (.goto 5, 3) := by decide +kernel
theorem dX3_readNumbers_33 : decode cX3_readNumbers 33 = .ok (.bipush 44, 2) := by decide +kernel
theorem dX3_readNumbers_35 : decode cX3_readNumbers 35 = .ok (.istore 7, 2) := by decide +kernel
theorem dX3_readNumbers_37 : decode cX3_readNumbers 37 = .ok (.iload 7, 2) := by decide +kernel
theorem dX3_readNumbers_39 : decode cX3_readNumbers 39 = .ok (.bipush 44, 2) := by decide +kernel
theorem dX3_readNumbers_41 : decode cX3_readNumbers 41 = .ok (.if_icmp .ne 39, 3) := by decide +kernel
theorem dX3_readNumbers_44 : decode cX3_readNumbers 44 = .ok (.iload 4, 2) := by decide +kernel
theorem dX3_readNumbers_46 : decode cX3_readNumbers 46 = .ok (.ifCond .eq 12, 3) := by decide +kernel
theorem dX3_readNumbers_49 : decode cX3_readNumbers 49 = .ok (.iload_n 3, 1) := by decide +kernel
theorem dX3_readNumbers_50 : decode cX3_readNumbers 50 = .ok (.aload_n 0, 1) := by decide +kernel
theorem dX3_readNumbers_51 : decode cX3_readNumbers 51 = .ok (.getfield 15, 3) := by decide +kernel
theorem dX3_readNumbers_54 : decode cX3_readNumbers 54 = .ok (.arraylength, 1) := by decide +kernel
theorem dX3_readNumbers_55 : decode cX3_readNumbers 55 = .ok (.if_icmp .lt 5, 3) := by decide +kernel
theorem dX3_readNumbers_58 : decode cX3_readNumbers 58 = .ok (.iconst (-1), 1) := by decide +kernel
theorem dX3_readNumbers_59 : decode cX3_readNumbers 59 = .ok (.ireturn, 1) := by decide +kernel
theorem dX3_readNumbers_60 : decode cX3_readNumbers 60 = .ok (.aload_n 0, 1) := by decide +kernel
theorem dX3_readNumbers_61 : decode cX3_readNumbers 61 = .ok (.getfield 15, 3) := by decide +kernel
theorem dX3_readNumbers_64 : decode cX3_readNumbers 64 = .ok (.iload_n 3, 1) := by decide +kernel
theorem dX3_readNumbers_65 : decode cX3_readNumbers 65 = .ok (.iload 5, 2) := by decide +kernel
theorem dX3_readNumbers_67 : decode cX3_readNumbers 67 = .ok (.iastore, 1) := by decide +kernel
theorem dX3_readNumbers_68 : decode cX3_readNumbers 68 = .ok (.iinc 3 1, 3) := by decide +kernel
theorem dX3_readNumbers_71 : decode cX3_readNumbers 71 = .ok (.iconst 0, 1) := by decide +kernel
theorem dX3_readNumbers_72 : decode cX3_readNumbers 72 = .ok (.istore 4, 2) := by decide +kernel
theorem dX3_readNumbers_74 : decode cX3_readNumbers 74 = .ok (.iconst 0, 1) := by decide +kernel
theorem dX3_readNumbers_75 : decode cX3_readNumbers 75 = .ok (.istore 5, 2) := by decide +kernel
theorem dX3_readNumbers_77 : decode cX3_readNumbers 77 = .ok (.goto 44, 3) := by decide +kernel
theorem dX3_readNumbers_80 : decode cX3_readNumbers 80 = .ok (.iload 7, 2) := by decide +kernel
theorem dX3_readNumbers_82 : decode cX3_readNumbers 82 = .ok (.bipush 48, 2) := by decide +kernel
theorem dX3_readNumbers_84 : decode cX3_readNumbers 84 = .ok (.if_icmp .lt 35, 3) := by decide +kernel
theorem dX3_readNumbers_87 : decode cX3_readNumbers 87 = .ok (.iload 7, 2) := by decide +kernel
theorem dX3_readNumbers_89 : decode cX3_readNumbers 89 = .ok (.bipush 57, 2) := by decide +kernel
theorem dX3_readNumbers_91 : decode cX3_readNumbers 91 = .ok (.if_icmp .gt 28, 3) := by decide +kernel
theorem dX3_readNumbers_94 : decode cX3_readNumbers 94 = .ok (.iload 4, 2) := by decide +kernel
theorem dX3_readNumbers_96 : decode cX3_readNumbers 96 = .ok (.iconst 2, 1) := by decide +kernel
theorem dX3_readNumbers_97 : decode cX3_readNumbers 97 = .ok (.if_icmp .ge 22, 3) := by decide +kernel
theorem dX3_readNumbers_100 : decode cX3_readNumbers 100 = .ok (.iload 5, 2) := by decide +kernel
theorem dX3_readNumbers_102 : decode cX3_readNumbers 102 = .ok (.bipush 10, 2) := by decide +kernel
theorem dX3_readNumbers_104 : decode cX3_readNumbers 104 = .ok (.imul, 1) := by decide +kernel
theorem dX3_readNumbers_105 : decode cX3_readNumbers 105 = .ok (.iload 7, 2) := by decide +kernel
theorem dX3_readNumbers_107 : decode cX3_readNumbers 107 = .ok (.bipush 48, 2) := by decide +kernel
theorem dX3_readNumbers_109 : decode cX3_readNumbers 109 = .ok (.isub, 1) := by decide +kernel
theorem dX3_readNumbers_110 : decode cX3_readNumbers 110 = .ok (.iadd, 1) := by decide +kernel
theorem dX3_readNumbers_111 : decode cX3_readNumbers 111 = .ok (.istore 5, 2) := by decide +kernel
theorem dX3_readNumbers_113 : decode cX3_readNumbers 113 = .ok (.iinc 4 1, 3) := by decide +kernel
theorem dX3_readNumbers_116 : decode cX3_readNumbers 116 = .ok (.goto 5, 3) := by decide +kernel
theorem dX3_readNumbers_119 : decode cX3_readNumbers 119 = .ok (.iconst (-1), 1) := by decide +kernel
theorem dX3_readNumbers_120 : decode cX3_readNumbers 120 = .ok (.ireturn, 1) := by decide +kernel
theorem dX3_readNumbers_121 : decode cX3_readNumbers 121 = .ok (.iinc 6 1, 3) := by decide +kernel
theorem dX3_readNumbers_124 : decode cX3_readNumbers 124 = .ok (.goto (-113), 3) := by decide +kernel
theorem dX3_readNumbers_127 : decode cX3_readNumbers 127 = .ok (.iload_n 3, 1) := by decide +kernel
theorem dX3_readNumbers_128 : decode cX3_readNumbers 128 = .ok (.ireturn, 1) := by decide +kernel
theorem dX3_readFold_0 : decode cX3_readFold 0 = .ok (.aload_n 1, 1) := by decide +kernel
theorem dX3_readFold_1 : decode cX3_readFold 1 = .ok (.aload_n 0, 1) := by decide +kernel
theorem dX3_readFold_2 : decode cX3_readFold 2 = .ok (.getfield 15, 3) := by decide +kernel
theorem dX3_readFold_5 : decode cX3_readFold 5 = .ok (.iconst 0, 1) := by decide +kernel
theorem dX3_readFold_6 : decode cX3_readFold 6 = .ok (.iaload, 1) := by decide +kernel
theorem dX3_readFold_7 : decode cX3_readFold 7 = .ok (.aload_n 0, 1) := by decide +kernel
theorem dX3_readFold_8 : decode cX3_readFold 8 = .ok (.getfield 15, 3) := by decide +kernel
theorem dX3_readFold_11 : decode cX3_readFold 11 = .ok (.iconst 1, 1) := by decide +kernel
theorem dX3_readFold_12 : decode cX3_readFold 12 = .ok (.iaload, 1) := by decide +kernel
theorem dX3_readFold_13 : decode cX3_readFold 13 = .ok (.invokevirtual 69, 3) := by decide +kernel
theorem dX3_readFold_16 : decode cX3_readFold 16 = .ok (.ifCond .eq 5, 3) := by decide +kernel
theorem dX3_readFold_19 : decode cX3_readFold 19 = .ok (.iconst 0, 1) := by decide +kernel
theorem dX3_readFold_20 : decode cX3_readFold 20 = .ok (.ireturn, 1) := by decide +kernel
theorem dX3_readFold_21 : decode cX3_readFold 21 = .ok (.aload_n 1, 1) := by decide +kernel
theorem dX3_readFold_22 : decode cX3_readFold 22 = .ok (.aload_n 0, 1) := by decide +kernel
theorem dX3_readFold_23 : decode cX3_readFold 23 = .ok (.getfield 15, 3) := by decide +kernel
theorem dX3_readFold_26 : decode cX3_readFold 26 = .ok (.iconst 0, 1) := by decide +kernel
theorem dX3_readFold_27 : decode cX3_readFold 27 = .ok (.iaload, 1) := by decide +kernel
theorem dX3_readFold_28 : decode cX3_readFold 28 = .ok (.aload_n 0, 1) := by decide +kernel
theorem dX3_readFold_29 : decode cX3_readFold 29 = .ok (.getfield 15, 3) := by decide +kernel
theorem dX3_readFold_32 : decode cX3_readFold 32 = .ok (.iconst 1, 1) := by decide +kernel
theorem dX3_readFold_33 : decode cX3_readFold 33 = .ok (.iaload, 1) := by decide +kernel
theorem dX3_readFold_34 : decode cX3_readFold 34 = .ok (.invokevirtual 72, 3) := by decide +kernel
theorem dX3_readFold_37 : decode cX3_readFold 37 = .ok (.pop, 1) := by decide +kernel
theorem dX3_readFold_38 : decode cX3_readFold 38 = .ok (.iconst 1, 1) := by decide +kernel
theorem dX3_readFold_39 : decode cX3_readFold 39 = .ok (.ireturn, 1) := by decide +kernel
theorem dX3_readHint_0 : decode cX3_readHint 0 = .ok (.aload_n 1, 1) := by decide +kernel
theorem dX3_readHint_1 : decode cX3_readHint 1 = .ok (.aload_n 0, 1) := by decide +kernel
theorem dX3_readHint_2 : decode cX3_readHint 2 = .ok (.getfield 15, 3) := by decide +kernel
theorem dX3_readHint_5 : decode cX3_readHint 5 = .ok (.iconst 0, 1) := by decide +kernel
theorem dX3_readHint_6 : decode cX3_readHint 6 = .ok (.iaload, 1) := by decide +kernel
theorem dX3_readHint_7 : decode cX3_readHint 7 = .ok (.aload_n 0, 1) := by decide +kernel
theorem dX3_readHint_8 : decode cX3_readHint 8 = .ok (.getfield 15, 3) := by decide +kernel
theorem dX3_readHint_11 : decode cX3_readHint 11 = .ok (.iconst 1, 1) := by decide +kernel
theorem dX3_readHint_12 : decode cX3_readHint 12 = .ok (.iaload, 1) := by decide +kernel
theorem dX3_readHint_13 : decode cX3_readHint 13 = .ok (.invokevirtual 75, 3) := by decide +kernel
theorem dX3_readHint_16 : decode cX3_readHint 16 = .ok (.ifCond .eq 5, 3) := by decide +kernel
theorem dX3_readHint_19 : decode cX3_readHint 19 = .ok (.iconst 0, 1) := by decide +kernel
theorem dX3_readHint_20 : decode cX3_readHint 20 = .ok (.ireturn, 1) := by decide +kernel
theorem dX3_readHint_21 : decode cX3_readHint 21 = .ok (.aload_n 1, 1) := by decide +kernel
theorem dX3_readHint_22 : decode cX3_readHint 22 = .ok (.aload_n 0, 1) := by decide +kernel
theorem dX3_readHint_23 : decode cX3_readHint 23 = .ok (.getfield 15, 3) := by decide +kernel
theorem dX3_readHint_26 : decode cX3_readHint 26 = .ok (.iconst 0, 1) := by decide +kernel
theorem dX3_readHint_27 : decode cX3_readHint 27 = .ok (.iaload, 1) := by decide +kernel
theorem dX3_readHint_28 : decode cX3_readHint 28 = .ok (.aload_n 0, 1) := by decide +kernel
theorem dX3_readHint_29 : decode cX3_readHint 29 = .ok (.getfield 15, 3) := by decide +kernel
theorem dX3_readHint_32 : decode cX3_readHint 32 = .ok (.iconst 1, 1) := by decide +kernel
theorem dX3_readHint_33 : decode cX3_readHint 33 = .ok (.iaload, 1) := by decide +kernel
theorem dX3_readHint_34 : decode cX3_readHint 34 = .ok (.invokevirtual 78, 3) := by decide +kernel
theorem dX3_readHint_37 : decode cX3_readHint 37 = .ok (.pop, 1) := by decide +kernel
theorem dX3_readHint_38 : decode cX3_readHint 38 = .ok (.iconst 1, 1) := by decide +kernel
theorem dX3_readHint_39 : decode cX3_readHint 39 = .ok (.ireturn, 1) := by decide +kernel
theorem dX3_readFlow_0 : decode cX3_readFlow 0 = .ok (.aload_n 0, 1) := by decide +kernel
theorem dX3_readFlow_1 : decode cX3_readFlow 1 = .ok (.getfield 15, 3) := by decide +kernel
theorem dX3_readFlow_4 : decode cX3_readFlow 4 = .ok (.iconst 0, 1) := by decide +kernel
theorem dX3_readFlow_5 : decode cX3_readFlow 5 = .ok (.iaload, 1) := by decide +kernel
theorem dX3_readFlow_6 : decode cX3_readFlow 6 = .ok (.aload_n 0, 1) := by decide +kernel
theorem dX3_readFlow_7 : decode cX3_readFlow 7 = .ok (.getfield 15, 3) := by decide +kernel
theorem dX3_readFlow_10 : decode cX3_readFlow 10 = .ok (.iconst 1, 1) := by decide +kernel
theorem dX3_readFlow_11 : decode cX3_readFlow 11 = .ok (.iaload, 1) := by decide +kernel
theorem dX3_readFlow_12 : decode cX3_readFlow 12 = .ok (.aload_n 0, 1) := by decide +kernel
theorem dX3_readFlow_13 : decode cX3_readFlow 13 = .ok (.getfield 15, 3) := by decide +kernel
theorem dX3_readFlow_16 : decode cX3_readFlow 16 = .ok (.iconst 2, 1) := by decide +kernel
theorem dX3_readFlow_17 : decode cX3_readFlow 17 = .ok (.iaload, 1) := by decide +kernel
theorem dX3_readFlow_18 : decode cX3_readFlow 18 = .ok (.invokestatic 81, 3) := by decide +kernel
theorem dX3_readFlow_21 : decode cX3_readFlow 21 = .ok (.ifCond .ne 5, 3) := by decide +kernel
theorem dX3_readFlow_24 : decode cX3_readFlow 24 = .ok (.iconst 0, 1) := by decide +kernel
theorem dX3_readFlow_25 : decode cX3_readFlow 25 = .ok (.ireturn, 1) := by decide +kernel
theorem dX3_readFlow_26 : decode cX3_readFlow 26 = .ok (.aload_n 1, 1) := by decide +kernel
theorem dX3_readFlow_27 : decode cX3_readFlow 27 = .ok (.aload_n 0, 1) := by decide +kernel
theorem dX3_readFlow_28 : decode cX3_readFlow 28 = .ok (.getfield 15, 3) := by decide +kernel
theorem dX3_readFlow_31 : decode cX3_readFlow 31 = .ok (.iconst 0, 1) := by decide +kernel
theorem dX3_readFlow_32 : decode cX3_readFlow 32 = .ok (.iaload, 1) := by decide +kernel
theorem dX3_readFlow_33 : decode cX3_readFlow 33 = .ok (.aload_n 0, 1) := by decide +kernel
theorem dX3_readFlow_34 : decode cX3_readFlow 34 = .ok (.getfield 15, 3) := by decide +kernel
theorem dX3_readFlow_37 : decode cX3_readFlow 37 = .ok (.iconst 1, 1) := by decide +kernel
theorem dX3_readFlow_38 : decode cX3_readFlow 38 = .ok (.iaload, 1) := by decide +kernel
theorem dX3_readFlow_39 : decode cX3_readFlow 39 = .ok (.aload_n 0, 1) := by decide +kernel
theorem dX3_readFlow_40 : decode cX3_readFlow 40 = .ok (.getfield 15, 3) := by decide +kernel
theorem dX3_readFlow_43 : decode cX3_readFlow 43 = .ok (.iconst 2, 1) := by decide +kernel
theorem dX3_readFlow_44 : decode cX3_readFlow 44 = .ok (.iaload, 1) := by decide +kernel
theorem dX3_readFlow_45 : decode cX3_readFlow 45 = .ok (.invokevirtual 85, 3) := by decide +kernel
theorem dX3_readFlow_48 : decode cX3_readFlow 48 = .ok (.iconst 1, 1) := by decide +kernel
theorem dX3_readFlow_49 : decode cX3_readFlow 49 = .ok (.ireturn, 1) := by decide +kernel
theorem dX3_readTabStep_0 : decode cX3_readTabStep 0 = .ok (.aload_n 0, 1) := by decide +kernel
theorem dX3_readTabStep_1 : decode cX3_readTabStep 1 = .ok (.getfield 15, 3) := by decide +kernel
theorem dX3_readTabStep_4 : decode cX3_readTabStep 4 = .ok (.iconst 0, 1) := by decide +kernel
theorem dX3_readTabStep_5 : decode cX3_readTabStep 5 = .ok (.iaload, 1) := by decide +kernel
theorem dX3_readTabStep_6 : decode cX3_readTabStep 6 = .ok (.invokestatic 89, 3) := by decide +kernel
theorem dX3_readTabStep_9 : decode cX3_readTabStep 9 = .ok (.ifCond .ne 5, 3) := by decide +kernel
theorem dX3_readTabStep_12 : decode cX3_readTabStep 12 = .ok (.iconst 0, 1) := by decide +kernel
theorem dX3_readTabStep_13 : decode cX3_readTabStep 13 = .ok (.ireturn, 1) := by decide +kernel
theorem dX3_readTabStep_14 : decode cX3_readTabStep 14 = .ok (.aload_n 1, 1) := by decide +kernel
theorem dX3_readTabStep_15 : decode cX3_readTabStep 15 = .ok (.aload_n 0, 1) := by decide +kernel
theorem dX3_readTabStep_16 : decode cX3_readTabStep 16 = .ok (.getfield 15, 3) := by decide +kernel
theorem dX3_readTabStep_19 : decode cX3_readTabStep 19 = .ok (.iconst 0, 1) := by decide +kernel
theorem dX3_readTabStep_20 : decode cX3_readTabStep 20 = .ok (.iaload, 1) := by decide +kernel
theorem dX3_readTabStep_21 : decode cX3_readTabStep 21 = .ok (.putfield 93, 3) := by decide +kernel
theorem dX3_readTabStep_24 : decode cX3_readTabStep 24 = .ok (.iconst 1, 1) := by decide +kernel
theorem dX3_readTabStep_25 : decode cX3_readTabStep 25 = .ok (.ireturn, 1) := by decide +kernel
theorem dX4_init_0 : decode cX4_init 0 = .ok (.aload_n 0, 1) := by decide +kernel
theorem dX4_init_1 : decode cX4_init 1 = .ok (.invokespecial 3, 3) := by decide +kernel
theorem dX4_init_4 : decode cX4_init 4 = .ok (.aload_n 0, 1) := by decide +kernel
theorem dX4_init_5 : decode cX4_init 5 = .ok (.new 9, 3) := by decide +kernel
theorem dX4_init_8 : decode cX4_init 8 = .ok (.dup, 1) := by decide +kernel
theorem dX4_init_9 : decode cX4_init 9 = .ok (.invokespecial 11, 3) := by decide +kernel
theorem dX4_init_12 : decode cX4_init 12 = .ok (.putfield 12, 3) := by decide +kernel
theorem dX4_init_15 : decode cX4_init 15 = .ok (.aload_n 0, 1) := by decide +kernel
theorem dX4_init_16 : decode cX4_init 16 = .ok (.new 16, 3) := by decide +kernel
theorem dX4_init_19 : decode cX4_init 19 = .ok (.dup, 1) := by decide +kernel
theorem dX4_init_20 : decode cX4_init 20 = .ok (.invokespecial 18, 3) := by decide +kernel
theorem dX4_init_23 : decode cX4_init 23 = .ok (.putfield 19, 3) := by decide +kernel
theorem dX4_init_26 : decode cX4_init 26 = .ok (.aload_n 0, 1) := by decide +kernel
theorem dX4_init_27 : decode cX4_init 27 = .ok (.new 23, 3) := by decide +kernel
theorem dX4_init_30 : decode cX4_init 30 = .ok (.dup, 1) := by decide +kernel
theorem dX4_init_31 : decode cX4_init 31 = .ok (.bipush 8, 2) := by decide +kernel
theorem dX4_init_33 : decode cX4_init 33 = .ok (.invokespecial 25, 3) := by decide +kernel
theorem dX4_init_36 : decode cX4_init 36 = .ok (.putfield 28, 3) := by decide +kernel
theorem dX4_init_39 : decode cX4_init 39 = .ok (.aload_n 0, 1) := by decide +kernel
theorem dX4_init_40 : decode cX4_init 40 = .ok (.new 23, 3) := by decide +kernel
theorem dX4_init_43 : decode cX4_init 43 = .ok (.dup, 1) := by decide +kernel
theorem dX4_init_44 : decode cX4_init 44 = .ok (.iconst 2, 1) := by decide +kernel
theorem dX4_init_45 : decode cX4_init 45 = .ok (.invokespecial 25, 3) := by decide +kernel
theorem dX4_init_48 : decode cX4_init 48 = .ok (.putfield 32, 3) := by decide +kernel
theorem dX4_init_51 : decode cX4_init 51 = .ok (.aload_n 0, 1) := by decide +kernel
theorem dX4_init_52 : decode cX4_init 52 = .ok (.new 35, 3) := by decide +kernel
theorem dX4_init_55 : decode cX4_init 55 = .ok (.dup, 1) := by decide +kernel
theorem dX4_init_56 : decode cX4_init 56 = .ok (.invokespecial 37, 3) := by decide +kernel
theorem dX4_init_59 : decode cX4_init 59 = .ok (.putfield 38, 3) := by decide +kernel
theorem dX4_init_62 : decode cX4_init 62 = .ok (.aload_n 0, 1) := by decide +kernel
theorem dX4_init_63 : decode cX4_init 63 = .ok (.new 35, 3) := by decide +kernel
theorem dX4_init_66 : decode cX4_init 66 = .ok (.dup, 1) := by decide +kernel
theorem dX4_init_67 : decode cX4_init 67 = .ok (.invokespecial 37, 3) := by decide +kernel
theorem dX4_init_70 : decode cX4_init 70 = .ok (.putfield 42, 3) := by decide +kernel
theorem dX4_init_73 : decode cX4_init 73 = .ok (.aload_n 0, 1) := by decide +kernel
theorem dX4_init_74 : decode cX4_init 74 = .ok (.new 16, 3) := by decide +kernel
theorem dX4_init_77 : decode cX4_init 77 = .ok (.dup, 1) := by decide +kernel
theorem dX4_init_78 : decode cX4_init 78 = .ok (.invokespecial 18, 3) := by decide +kernel
theorem dX4_init_81 : decode cX4_init 81 = .ok (.putfield 45, 3) := by decide +kernel
theorem dX4_init_84 : decode cX4_init 84 = .ok (.aload_n 0, 1) := by decide +kernel
theorem dX4_init_85 : decode cX4_init 85 = .ok (.new 35, 3) := by decide +kernel
theorem dX4_init_88 : decode cX4_init 88 = .ok (.dup, 1) := by decide +kernel
theorem dX4_init_89 : decode cX4_init 89 = .ok (.invokespecial 37, 3) := by decide +kernel
theorem dX4_init_92 : decode cX4_init 92 = .ok (.putfield 48, 3) := by decide +kernel
theorem dX4_init_95 : decode cX4_init 95 = .ok (.iconst 0, 1) := by decide +kernel
theorem dX4_init_96 : decode cX4_init 96 = .ok (.istore_n 1, 1) := by decide +kernel
theorem dX4_init_97 : decode cX4_init 97 = .ok (.iload_n 1, 1) := by decide +kernel
theorem dX4_init_98 : decode cX4_init 98 = .ok (.ldc 51, 2) := by decide +kernel
theorem dX4_init_100 : decode cX4_init 100 = .ok (.invokevirtual 53, 3) := by decide +kernel
theorem dX4_init_103 : decode cX4_init 103 = .ok (.if_icmp .ge 23, 3) := by decide +kernel
theorem dX4_init_106 : decode cX4_init 106 = .ok (.aload_n 0, 1) := by decide +kernel
theorem dX4_init_107 : decode cX4_init 107 = .ok (.getfield 12, 3) := by decide +kernel
theorem dX4_init_110 : decode cX4_init 110 = .ok (.ldc 51, 2) := by decide +kernel
theorem dX4_init_112 : decode cX4_init 112 = .ok (.iload_n 1, 1) := by decide +kernel
theorem dX4_init_113 : decode cX4_init 113 = .ok (.invokevirtual 59, 3) := by decide +kernel
theorem dX4_init_116 : decode cX4_init 116 = .ok (.invokevirtual 63, 3) := by decide +kernel
theorem dX4_init_119 : decode cX4_init 119 = .ok (.pop, 1) := by decide +kernel
theorem dX4_init_120 : decode cX4_init 120 = .ok (.iinc 1 1, 3) := by decide +kernel
theorem dX4_init_123 : decode cX4_init 123 = .ok (.goto (-26), 3) := by decide +kernel
theorem dX4_init_126 : decode cX4_init 126 = .ok (.aload_n 0, 1) := by decide +kernel
theorem dX4_init_127 : decode cX4_init 127 = .ok (.getfield 12, 3) := by decide +kernel
theorem dX4_init_130 : decode cX4_init 130 = .ok (.aload_n 0, 1) := by decide +kernel
theorem dX4_init_131 : decode cX4_init 131 = .ok (.getfield 19, 3) := by decide +kernel
theorem dX4_init_134 : decode cX4_init 134 = .ok (.invokevirtual 67, 3) := by decide +kernel
theorem dX4_init_137 : decode cX4_init 137 = .ok (.pop, 1) := by decide +kernel
theorem dX4_init_138 : decode cX4_init 138 = .ok (.aload_n 0, 1) := by decide +kernel
theorem dX4_init_139 : decode cX4_init 139 = .ok (.getfield 12, 3) := by decide +kernel
theorem dX4_init_142 : decode cX4_init 142 = .ok (.iconst 0, 1) := by decide +kernel
theorem dX4_init_143 : decode cX4_init 143 = .ok (.putfield 71, 3) := by decide +kernel
theorem dX4_init_146 : decode cX4_init 146 = .ok (.aload_n 0, 1) := by decide +kernel
theorem dX4_init_147 : decode cX4_init 147 = .ok (.getfield 38, 3) := by decide +kernel
theorem dX4_init_150 : decode cX4_init 150 = .ok (.aload_n 0, 1) := by decide +kernel
theorem dX4_init_151 : decode cX4_init 151 = .ok (.getfield 19, 3) := by decide +kernel
theorem dX4_init_154 : decode cX4_init 154 = .ok (.invokevirtual 74, 3) := by decide +kernel
theorem dX4_init_157 : decode cX4_init 157 = .ok (.pop, 1) := by decide +kernel
theorem dX4_init_158 : decode cX4_init 158 = .ok (.return_, 1) := by decide +kernel
theorem dX4_write_0 : decode cX4_write 0 = .ok (.iload_n 1, 1) := by decide +kernel
theorem dX4_write_1 : decode cX4_write 1 = .ok (.bipush 32, 2) := by decide +kernel
theorem dX4_write_3 : decode cX4_write 3 = .ok (.if_icmp .lt 9, 3) := by decide +kernel
theorem dX4_write_6 : decode cX4_write 6 = .ok (.iload_n 1, 1) := by decide +kernel
theorem dX4_write_7 : decode cX4_write 7 = .ok (.bipush 126, 2) := by decide +kernel
theorem dX4_write_9 : decode cX4_write 9 = .ok (.if_icmp .le 5, 3) := by decide +kernel
theorem dX4_write_12 : decode cX4_write 12 = .ok (.iconst (-1), 1) := by decide +kernel
theorem dX4_write_13 : decode cX4_write 13 = .ok (.ireturn, 1) := by decide +kernel
theorem dX4_write_14 : decode cX4_write 14 = .ok (.aload_n 0, 1) := by decide +kernel
theorem dX4_write_15 : decode cX4_write 15 = .ok (.getfield 12, 3) := by decide +kernel
theorem dX4_write_18 : decode cX4_write 18 = .ok (.iload_n 1, 1) := by decide +kernel
theorem dX4_write_19 : decode cX4_write 19 = .ok (.invokevirtual 63, 3) := by decide +kernel
theorem dX4_write_22 : decode cX4_write 22 = .ok (.ifCond .eq 13, 3) := by decide +kernel
theorem dX4_write_25 : decode cX4_write 25 = .ok (.aload_n 0, 1) := by decide +kernel
theorem dX4_write_26 : decode cX4_write 26 = .ok (.getfield 12, 3) := by decide +kernel
theorem dX4_write_29 : decode cX4_write 29 = .ok (.getfield 71, 3) := by decide +kernel
theorem dX4_write_32 : decode cX4_write 32 = .ok (.goto 5, 3) := by decide +kernel
theorem dX4_write_35 : decode cX4_write 35 = .ok (.bipush (-3), 2) := by decide +kernel
theorem dX4_write_37 : decode cX4_write 37 = .ok (.ireturn, 1) := by decide +kernel
theorem dX4_wipe_0 : decode cX4_wipe 0 = .ok (.aload_n 0, 1) := by decide +kernel
theorem dX4_wipe_1 : decode cX4_wipe 1 = .ok (.getfield 12, 3) := by decide +kernel
theorem dX4_wipe_4 : decode cX4_wipe 4 = .ok (.getfield 71, 3) := by decide +kernel
theorem dX4_wipe_7 : decode cX4_wipe 7 = .ok (.istore_n 1, 1) := by decide +kernel
theorem dX4_wipe_8 : decode cX4_wipe 8 = .ok (.aload_n 0, 1) := by decide +kernel
theorem dX4_wipe_9 : decode cX4_wipe 9 = .ok (.getfield 12, 3) := by decide +kernel
theorem dX4_wipe_12 : decode cX4_wipe 12 = .ok (.iconst 0, 1) := by decide +kernel
theorem dX4_wipe_13 : decode cX4_wipe 13 = .ok (.putfield 71, 3) := by decide +kernel
theorem dX4_wipe_16 : decode cX4_wipe 16 = .ok (.iload_n 1, 1) := by decide +kernel
theorem dX4_wipe_17 : decode cX4_wipe 17 = .ok (.ireturn, 1) := by decide +kernel
theorem dX4_fault_0 : decode cX4_fault 0 = .ok (.aload_n 0, 1) := by decide +kernel
theorem dX4_fault_1 : decode cX4_fault 1 = .ok (.getfield 12, 3) := by decide +kernel
theorem dX4_fault_4 : decode cX4_fault 4 = .ok (.aload_n 0, 1) := by decide +kernel
theorem dX4_fault_5 : decode cX4_fault 5 = .ok (.getfield 45, 3) := by decide +kernel
theorem dX4_fault_8 : decode cX4_fault 8 = .ok (.invokevirtual 67, 3) := by decide +kernel
theorem dX4_fault_11 : decode cX4_fault 11 = .ok (.ireturn, 1) := by decide +kernel
theorem dX4_lay_0 : decode cX4_lay 0 = .ok (.aload_n 0, 1) := by decide +kernel
theorem dX4_lay_1 : decode cX4_lay 1 = .ok (.getfield 12, 3) := by decide +kernel
theorem dX4_lay_4 : decode cX4_lay 4 = .ok (.aload_n 0, 1) := by decide +kernel
theorem dX4_lay_5 : decode cX4_lay 5 = .ok (.getfield 45, 3) := by decide +kernel
theorem dX4_lay_8 : decode cX4_lay 8 = .ok (.invokevirtual 67, 3) := by decide +kernel
theorem dX4_lay_11 : decode cX4_lay 11 = .ok (.bipush (-4), 2) := by decide +kernel
theorem dX4_lay_13 : decode cX4_lay 13 = .ok (.if_icmp .eq 6, 3) := by decide +kernel
theorem dX4_lay_16 : decode cX4_lay 16 = .ok (.bipush (-2), 2) := by decide +kernel
theorem dX4_lay_18 : decode cX4_lay 18 = .ok (.ireturn, 1) := by decide +kernel
theorem dX4_lay_19 : decode cX4_lay 19 = .ok (.aload_n 0, 1) := by decide +kernel
theorem dX4_lay_20 : decode cX4_lay 20 = .ok (.getfield 32, 3) := by decide +kernel
theorem dX4_lay_23 : decode cX4_lay 23 = .ok (.iconst 0, 1) := by decide +kernel
theorem dX4_lay_24 : decode cX4_lay 24 = .ok (.putfield 77, 3) := by decide +kernel
theorem dX4_lay_27 : decode cX4_lay 27 = .ok (.aload_n 0, 1) := by decide +kernel
theorem dX4_lay_28 : decode cX4_lay 28 = .ok (.aload_n 0, 1) := by decide +kernel
theorem dX4_lay_29 : decode cX4_lay 29 = .ok (.getfield 45, 3) := by decide +kernel
theorem dX4_lay_32 : decode cX4_lay 32 = .ok (.invokevirtual 80, 3) := by decide +kernel
theorem dX4_lay_35 : decode cX4_lay 35 = .ok (.aload_n 0, 1) := by decide +kernel
theorem dX4_lay_36 : decode cX4_lay 36 = .ok (.getfield 19, 3) := by decide +kernel
theorem dX4_lay_39 : decode cX4_lay 39 = .ok (.getfield 84, 3) := by decide +kernel
theorem dX4_lay_42 : decode cX4_lay 42 = .ok (.ireturn, 1) := by decide +kernel
theorem dX4_sign_0 : decode cX4_sign 0 = .ok (.aload_n 0, 1) := by decide +kernel
theorem dX4_sign_1 : decode cX4_sign 1 = .ok (.getfield 19, 3) := by decide +kernel
theorem dX4_sign_4 : decode cX4_sign 4 = .ok (.iload_n 1, 1) := by decide +kernel
theorem dX4_sign_5 : decode cX4_sign 5 = .ok (.invokevirtual 87, 3) := by decide +kernel
theorem dX4_sign_8 : decode cX4_sign 8 = .ok (.ifCond .ne 5, 3) := by decide +kernel
theorem dX4_sign_11 : decode cX4_sign 11 = .ok (.iconst (-1), 1) := by decide +kernel
theorem dX4_sign_12 : decode cX4_sign 12 = .ok (.ireturn, 1) := by decide +kernel
theorem dX4_sign_13 : decode cX4_sign 13 = .ok (.aload_n 0, 1) := by decide +kernel
theorem dX4_sign_14 : decode cX4_sign 14 = .ok (.getfield 19, 3) := by decide +kernel
theorem dX4_sign_17 : decode cX4_sign 17 = .ok (.iload_n 1, 1) := by decide +kernel
theorem dX4_sign_18 : decode cX4_sign 18 = .ok (.invokevirtual 90, 3) := by decide +kernel
theorem dX4_sign_21 : decode cX4_sign 21 = .ok (.ireturn, 1) := by decide +kernel
theorem dX4_fold_0 : decode cX4_fold 0 = .ok (.aload_n 0, 1) := by decide +kernel
theorem dX4_fold_1 : decode cX4_fold 1 = .ok (.getfield 19, 3) := by decide +kernel
theorem dX4_fold_4 : decode cX4_fold 4 = .ok (.iload_n 1, 1) := by decide +kernel
theorem dX4_fold_5 : decode cX4_fold 5 = .ok (.invokevirtual 94, 3) := by decide +kernel
theorem dX4_fold_8 : decode cX4_fold 8 = .ok (.ifCond .ne 5, 3) := by decide +kernel
theorem dX4_fold_11 : decode cX4_fold 11 = .ok (.iconst (-1), 1) := by decide +kernel
theorem dX4_fold_12 : decode cX4_fold 12 = .ok (.ireturn, 1) := by decide +kernel
theorem dX4_fold_13 : decode cX4_fold 13 = .ok (.iload_n 2, 1) := by decide +kernel
theorem dX4_fold_14 : decode cX4_fold 14 = .ok (.tableswitch 64 0 2 #[26, 36, 46], 26) := by decide +kernel
theorem dX4_fold_40 : decode cX4_fold 40 = .ok (.aload_n 0, 1) := by decide +kernel
theorem dX4_fold_41 : decode cX4_fold 41 = .ok (.getfield 19, 3) := by decide +kernel
theorem dX4_fold_44 : decode cX4_fold 44 = .ok (.getfield 97, 3) := by decide +kernel
theorem dX4_fold_47 : decode cX4_fold 47 = .ok (.iload_n 1, 1) := by decide +kernel
theorem dX4_fold_48 : decode cX4_fold 48 = .ok (.iaload, 1) := by decide +kernel
theorem dX4_fold_49 : decode cX4_fold 49 = .ok (.ireturn, 1) := by decide +kernel
theorem dX4_fold_50 : decode cX4_fold 50 = .ok (.aload_n 0, 1) := by decide +kernel
theorem dX4_fold_51 : decode cX4_fold 51 = .ok (.getfield 19, 3) := by decide +kernel
theorem dX4_fold_54 : decode cX4_fold 54 = .ok (.getfield 101, 3) := by decide +kernel
theorem dX4_fold_57 : decode cX4_fold 57 = .ok (.iload_n 1, 1) := by decide +kernel
theorem dX4_fold_58 : decode cX4_fold 58 = .ok (.iaload, 1) := by decide +kernel
theorem dX4_fold_59 : decode cX4_fold 59 = .ok (.ireturn, 1) := by decide +kernel
theorem dX4_fold_60 : decode cX4_fold 60 = .ok (.aload_n 0, 1) := by decide +kernel
theorem dX4_fold_61 : decode cX4_fold 61 = .ok (.getfield 19, 3) := by decide +kernel
theorem dX4_fold_64 : decode cX4_fold 64 = .ok (.getfield 104, 3) := by decide +kernel
theorem dX4_fold_67 : decode cX4_fold 67 = .ok (.iload_n 1, 1) := by decide +kernel
theorem dX4_fold_68 : decode cX4_fold 68 = .ok (.baload, 1) := by decide +kernel
theorem dX4_fold_69 : decode cX4_fold 69 = .ok (.ifCond .eq 7, 3) := by decide +kernel
theorem dX4_fold_72 : decode cX4_fold 72 = .ok (.iconst 1, 1) := by decide +kernel
theorem dX4_fold_73 : decode cX4_fold 73 = .ok (.goto 4, 3) := by decide +kernel
theorem dX4_fold_76 : decode cX4_fold 76 = .ok (.iconst 0, 1) := by decide +kernel
theorem dX4_fold_77 : decode cX4_fold 77 = .ok (.ireturn, 1) := by decide +kernel
theorem dX4_fold_78 : decode cX4_fold 78 = .ok (.iconst (-1), 1) := by decide +kernel
theorem dX4_fold_79 : decode cX4_fold 79 = .ok (.ireturn, 1) := by decide +kernel
theorem dX4_hint_0 : decode cX4_hint 0 = .ok (.aload_n 0, 1) := by decide +kernel
theorem dX4_hint_1 : decode cX4_hint 1 = .ok (.getfield 19, 3) := by decide +kernel
theorem dX4_hint_4 : decode cX4_hint 4 = .ok (.iload_n 1, 1) := by decide +kernel
theorem dX4_hint_5 : decode cX4_hint 5 = .ok (.invokevirtual 108, 3) := by decide +kernel
theorem dX4_hint_8 : decode cX4_hint 8 = .ok (.ifCond .ne 5, 3) := by decide +kernel
theorem dX4_hint_11 : decode cX4_hint 11 = .ok (.iconst (-1), 1) := by decide +kernel
theorem dX4_hint_12 : decode cX4_hint 12 = .ok (.ireturn, 1) := by decide +kernel
theorem dX4_hint_13 : decode cX4_hint 13 = .ok (.iload_n 2, 1) := by decide +kernel
theorem dX4_hint_14 : decode cX4_hint 14 = .ok (.tableswitch 71 0 2 #[26, 36, 46], 26) := by decide +kernel
theorem dX4_hint_40 : decode cX4_hint 40 = .ok (.aload_n 0, 1) := by decide +kernel
theorem dX4_hint_41 : decode cX4_hint 41 = .ok (.getfield 19, 3) := by decide +kernel
theorem dX4_hint_44 : decode cX4_hint 44 = .ok (.getfield 111, 3) := by decide +kernel
theorem dX4_hint_47 : decode cX4_hint 47 = .ok (.iload_n 1, 1) := by decide +kernel
theorem dX4_hint_48 : decode cX4_hint 48 = .ok (.iaload, 1) := by decide +kernel
theorem dX4_hint_49 : decode cX4_hint 49 = .ok (.ireturn, 1) := by decide +kernel
theorem dX4_hint_50 : decode cX4_hint 50 = .ok (.aload_n 0, 1) := by decide +kernel
theorem dX4_hint_51 : decode cX4_hint 51 = .ok (.getfield 19, 3) := by decide +kernel
theorem dX4_hint_54 : decode cX4_hint 54 = .ok (.getfield 114, 3) := by decide +kernel
theorem dX4_hint_57 : decode cX4_hint 57 = .ok (.iload_n 1, 1) := by decide +kernel
theorem dX4_hint_58 : decode cX4_hint 58 = .ok (.iaload, 1) := by decide +kernel
theorem dX4_hint_59 : decode cX4_hint 59 = .ok (.ireturn, 1) := by decide +kernel
theorem dX4_hint_60 : decode cX4_hint 60 = .ok (.aload_n 0, 1) := by decide +kernel
theorem dX4_hint_61 : decode cX4_hint 61 = .ok (.getfield 19, 3) := by decide +kernel
theorem dX4_hint_64 : decode cX4_hint 64 = .ok (.aload_n 0, 1) := by decide +kernel
theorem dX4_hint_65 : decode cX4_hint 65 = .ok (.getfield 19, 3) := by decide +kernel
theorem dX4_hint_68 : decode cX4_hint 68 = .ok (.getfield 111, 3) := by decide +kernel
theorem dX4_hint_71 : decode cX4_hint 71 = .ok (.iload_n 1, 1) := by decide +kernel
theorem dX4_hint_72 : decode cX4_hint 72 = .ok (.iaload, 1) := by decide +kernel
theorem dX4_hint_73 : decode cX4_hint 73 = .ok (.invokevirtual 117, 3) := by decide +kernel
theorem dX4_hint_76 : decode cX4_hint 76 = .ok (.ifCond .eq 7, 3) := by decide +kernel
theorem dX4_hint_79 : decode cX4_hint 79 = .ok (.iconst 1, 1) := by decide +kernel
theorem dX4_hint_80 : decode cX4_hint 80 = .ok (.goto 4, 3) := by decide +kernel
theorem dX4_hint_83 : decode cX4_hint 83 = .ok (.iconst 0, 1) := by decide +kernel
theorem dX4_hint_84 : decode cX4_hint 84 = .ok (.ireturn, 1) := by decide +kernel
theorem dX4_hint_85 : decode cX4_hint 85 = .ok (.iconst (-1), 1) := by decide +kernel
theorem dX4_hint_86 : decode cX4_hint 86 = .ok (.ireturn, 1) := by decide +kernel
theorem dX4_insert_0 : decode cX4_insert 0 = .ok (.aload_n 0, 1) := by decide +kernel
theorem dX4_insert_1 : decode cX4_insert 1 = .ok (.getfield 19, 3) := by decide +kernel
theorem dX4_insert_4 : decode cX4_insert 4 = .ok (.iload_n 1, 1) := by decide +kernel
theorem dX4_insert_5 : decode cX4_insert 5 = .ok (.invokevirtual 87, 3) := by decide +kernel
theorem dX4_insert_8 : decode cX4_insert 8 = .ok (.ifCond .eq 13, 3) := by decide +kernel
theorem dX4_insert_11 : decode cX4_insert 11 = .ok (.iload_n 2, 1) := by decide +kernel
theorem dX4_insert_12 : decode cX4_insert 12 = .ok (.ifCond .lt 9, 3) := by decide +kernel
theorem dX4_insert_15 : decode cX4_insert 15 = .ok (.iload_n 2, 1) := by decide +kernel
theorem dX4_insert_16 : decode cX4_insert 16 = .ok (.bipush 27, 2) := by decide +kernel
theorem dX4_insert_18 : decode cX4_insert 18 = .ok (.if_icmp .le 5, 3) := by decide +kernel
theorem dX4_insert_21 : decode cX4_insert 21 = .ok (.iconst (-1), 1) := by decide +kernel
theorem dX4_insert_22 : decode cX4_insert 22 = .ok (.ireturn, 1) := by decide +kernel
theorem dX4_insert_23 : decode cX4_insert 23 = .ok (.aload_n 0, 1) := by decide +kernel
theorem dX4_insert_24 : decode cX4_insert 24 = .ok (.getfield 19, 3) := by decide +kernel
theorem dX4_insert_27 : decode cX4_insert 27 = .ok (.invokevirtual 120, 3) := by decide +kernel
theorem dX4_insert_30 : decode cX4_insert 30 = .ok (.ifCond .ne 6, 3) := by decide +kernel
theorem dX4_insert_33 : decode cX4_insert 33 = .ok (.bipush (-3), 2) := by decide +kernel
theorem dX4_insert_35 : decode cX4_insert 35 = .ok (.ireturn, 1) := by decide +kernel
theorem dX4_insert_36 : decode cX4_insert 36 = .ok (.aload_n 0, 1) := by decide +kernel
theorem dX4_insert_37 : decode cX4_insert 37 = .ok (.getfield 28, 3) := by decide +kernel
theorem dX4_insert_40 : decode cX4_insert 40 = .ok (.aload_n 0, 1) := by decide +kernel
theorem dX4_insert_41 : decode cX4_insert 41 = .ok (.getfield 19, 3) := by decide +kernel
theorem dX4_insert_44 : decode cX4_insert 44 = .ok (.invokevirtual 124, 3) := by decide +kernel
theorem dX4_insert_47 : decode cX4_insert 47 = .ok (.aload_n 0, 1) := by decide +kernel
theorem dX4_insert_48 : decode cX4_insert 48 = .ok (.getfield 19, 3) := by decide +kernel
theorem dX4_insert_51 : decode cX4_insert 51 = .ok (.iload_n 1, 1) := by decide +kernel
theorem dX4_insert_52 : decode cX4_insert 52 = .ok (.iload_n 2, 1) := by decide +kernel
theorem dX4_insert_53 : decode cX4_insert 53 = .ok (.invokevirtual 127, 3) := by decide +kernel
theorem dX4_insert_56 : decode cX4_insert 56 = .ok (.aload_n 0, 1) := by decide +kernel
theorem dX4_insert_57 : decode cX4_insert 57 = .ok (.invokevirtual 131, 3) := by decide +kernel
theorem dX4_insert_60 : decode cX4_insert 60 = .ok (.aload_n 0, 1) := by decide +kernel
theorem dX4_insert_61 : decode cX4_insert 61 = .ok (.getfield 19, 3) := by decide +kernel
theorem dX4_insert_64 : decode cX4_insert 64 = .ok (.getfield 84, 3) := by decide +kernel
theorem dX4_insert_67 : decode cX4_insert 67 = .ok (.ireturn, 1) := by decide +kernel
theorem dX4_erase_0 : decode cX4_erase 0 = .ok (.aload_n 0, 1) := by decide +kernel
theorem dX4_erase_1 : decode cX4_erase 1 = .ok (.getfield 19, 3) := by decide +kernel
theorem dX4_erase_4 : decode cX4_erase 4 = .ok (.iload_n 1, 1) := by decide +kernel
theorem dX4_erase_5 : decode cX4_erase 5 = .ok (.invokevirtual 134, 3) := by decide +kernel
theorem dX4_erase_8 : decode cX4_erase 8 = .ok (.ifCond .ne 5, 3) := by decide +kernel
theorem dX4_erase_11 : decode cX4_erase 11 = .ok (.iconst (-1), 1) := by decide +kernel
theorem dX4_erase_12 : decode cX4_erase 12 = .ok (.ireturn, 1) := by decide +kernel
theorem dX4_erase_13 : decode cX4_erase 13 = .ok (.aload_n 0, 1) := by decide +kernel
theorem dX4_erase_14 : decode cX4_erase 14 = .ok (.getfield 19, 3) := by decide +kernel
theorem dX4_erase_17 : decode cX4_erase 17 = .ok (.iload_n 1, 1) := by decide +kernel
theorem dX4_erase_18 : decode cX4_erase 18 = .ok (.invokevirtual 90, 3) := by decide +kernel
theorem dX4_erase_21 : decode cX4_erase 21 = .ok (.istore_n 2, 1) := by decide +kernel
theorem dX4_erase_22 : decode cX4_erase 22 = .ok (.aload_n 0, 1) := by decide +kernel
theorem dX4_erase_23 : decode cX4_erase 23 = .ok (.getfield 28, 3) := by decide +kernel
theorem dX4_erase_26 : decode cX4_erase 26 = .ok (.aload_n 0, 1) := by decide +kernel
theorem dX4_erase_27 : decode cX4_erase 27 = .ok (.getfield 19, 3) := by decide +kernel
theorem dX4_erase_30 : decode cX4_erase 30 = .ok (.invokevirtual 124, 3) := by decide +kernel
theorem dX4_erase_33 : decode cX4_erase 33 = .ok (.aload_n 0, 1) := by decide +kernel
theorem dX4_erase_34 : decode cX4_erase 34 = .ok (.getfield 19, 3) := by decide +kernel
theorem dX4_erase_37 : decode cX4_erase 37 = .ok (.iload_n 1, 1) := by decide +kernel
theorem dX4_erase_38 : decode cX4_erase 38 = .ok (.invokevirtual 137, 3) := by decide +kernel
theorem dX4_erase_41 : decode cX4_erase 41 = .ok (.aload_n 0, 1) := by decide +kernel
theorem dX4_erase_42 : decode cX4_erase 42 = .ok (.invokevirtual 131, 3) := by decide +kernel
theorem dX4_erase_45 : decode cX4_erase 45 = .ok (.iload_n 2, 1) := by decide +kernel
theorem dX4_erase_46 : decode cX4_erase 46 = .ok (.ireturn, 1) := by decide +kernel
theorem dX4_toggle_0 : decode cX4_toggle 0 = .ok (.aload_n 0, 1) := by decide +kernel
theorem dX4_toggle_1 : decode cX4_toggle 1 = .ok (.getfield 19, 3) := by decide +kernel
theorem dX4_toggle_4 : decode cX4_toggle 4 = .ok (.iload_n 1, 1) := by decide +kernel
theorem dX4_toggle_5 : decode cX4_toggle 5 = .ok (.invokevirtual 94, 3) := by decide +kernel
theorem dX4_toggle_8 : decode cX4_toggle 8 = .ok (.ifCond .ne 5, 3) := by decide +kernel
theorem dX4_toggle_11 : decode cX4_toggle 11 = .ok (.iconst (-1), 1) := by decide +kernel
theorem dX4_toggle_12 : decode cX4_toggle 12 = .ok (.ireturn, 1) := by decide +kernel
theorem dX4_toggle_13 : decode cX4_toggle 13 = .ok (.aload_n 0, 1) := by decide +kernel
theorem dX4_toggle_14 : decode cX4_toggle 14 = .ok (.getfield 28, 3) := by decide +kernel
theorem dX4_toggle_17 : decode cX4_toggle 17 = .ok (.aload_n 0, 1) := by decide +kernel
theorem dX4_toggle_18 : decode cX4_toggle 18 = .ok (.getfield 19, 3) := by decide +kernel
theorem dX4_toggle_21 : decode cX4_toggle 21 = .ok (.invokevirtual 124, 3) := by decide +kernel
theorem dX4_toggle_24 : decode cX4_toggle 24 = .ok (.aload_n 0, 1) := by decide +kernel
theorem dX4_toggle_25 : decode cX4_toggle 25 = .ok (.getfield 19, 3) := by decide +kernel
theorem dX4_toggle_28 : decode cX4_toggle 28 = .ok (.iload_n 1, 1) := by decide +kernel
theorem dX4_toggle_29 : decode cX4_toggle 29 = .ok (.invokevirtual 140, 3) := by decide +kernel
theorem dX4_toggle_32 : decode cX4_toggle 32 = .ok (.aload_n 0, 1) := by decide +kernel
theorem dX4_toggle_33 : decode cX4_toggle 33 = .ok (.invokevirtual 131, 3) := by decide +kernel
theorem dX4_toggle_36 : decode cX4_toggle 36 = .ok (.aload_n 0, 1) := by decide +kernel
theorem dX4_toggle_37 : decode cX4_toggle 37 = .ok (.getfield 19, 3) := by decide +kernel
theorem dX4_toggle_40 : decode cX4_toggle 40 = .ok (.getfield 104, 3) := by decide +kernel
theorem dX4_toggle_43 : decode cX4_toggle 43 = .ok (.iload_n 1, 1) := by decide +kernel
theorem dX4_toggle_44 : decode cX4_toggle 44 = .ok (.baload, 1) := by decide +kernel
theorem dX4_toggle_45 : decode cX4_toggle 45 = .ok (.ifCond .eq 7, 3) := by decide +kernel
theorem dX4_toggle_48 : decode cX4_toggle 48 = .ok (.iconst 1, 1) := by decide +kernel
theorem dX4_toggle_49 : decode cX4_toggle 49 = .ok (.goto 4, 3) := by decide +kernel
theorem dX4_toggle_52 : decode cX4_toggle 52 = .ok (.iconst 0, 1) := by decide +kernel
theorem dX4_toggle_53 : decode cX4_toggle 53 = .ok (.ireturn, 1) := by decide +kernel
theorem dX4_make_0 : decode cX4_make 0 = .ok (.aload_n 0, 1) := by decide +kernel
theorem dX4_make_1 : decode cX4_make 1 = .ok (.getfield 19, 3) := by decide +kernel
theorem dX4_make_4 : decode cX4_make 4 = .ok (.iload_n 1, 1) := by decide +kernel
theorem dX4_make_5 : decode cX4_make 5 = .ok (.iload_n 2, 1) := by decide +kernel
theorem dX4_make_6 : decode cX4_make 6 = .ok (.invokevirtual 143, 3) := by decide +kernel
theorem dX4_make_9 : decode cX4_make 9 = .ok (.istore_n 3, 1) := by decide +kernel
theorem dX4_make_10 : decode cX4_make 10 = .ok (.iload_n 3, 1) := by decide +kernel
theorem dX4_make_11 : decode cX4_make 11 = .ok (.ifCond .eq 5, 3) := by decide +kernel
theorem dX4_make_14 : decode cX4_make 14 = .ok (.iload_n 3, 1) := by decide +kernel
theorem dX4_make_15 : decode cX4_make 15 = .ok (.ireturn, 1) := by decide +kernel
theorem dX4_make_16 : decode cX4_make 16 = .ok (.aload_n 0, 1) := by decide +kernel
theorem dX4_make_17 : decode cX4_make 17 = .ok (.getfield 28, 3) := by decide +kernel
theorem dX4_make_20 : decode cX4_make 20 = .ok (.aload_n 0, 1) := by decide +kernel
theorem dX4_make_21 : decode cX4_make 21 = .ok (.getfield 19, 3) := by decide +kernel
theorem dX4_make_24 : decode cX4_make 24 = .ok (.invokevirtual 124, 3) := by decide +kernel
theorem dX4_make_27 : decode cX4_make 27 = .ok (.aload_n 0, 1) := by decide +kernel
theorem dX4_make_28 : decode cX4_make 28 = .ok (.getfield 19, 3) := by decide +kernel
theorem dX4_make_31 : decode cX4_make 31 = .ok (.iload_n 1, 1) := by decide +kernel
theorem dX4_make_32 : decode cX4_make 32 = .ok (.iload_n 2, 1) := by decide +kernel
theorem dX4_make_33 : decode cX4_make 33 = .ok (.invokevirtual 147, 3) := by decide +kernel
theorem dX4_make_36 : decode cX4_make 36 = .ok (.istore 4, 2) := by decide +kernel
theorem dX4_make_38 : decode cX4_make 38 = .ok (.aload_n 0, 1) := by decide +kernel
theorem dX4_make_39 : decode cX4_make 39 = .ok (.invokevirtual 131, 3) := by decide +kernel
theorem dX4_make_42 : decode cX4_make 42 = .ok (.iload 4, 2) := by decide +kernel
theorem dX4_make_44 : decode cX4_make 44 = .ok (.ireturn, 1) := by decide +kernel
theorem dX4_unfold_0 : decode cX4_unfold 0 = .ok (.aload_n 0, 1) := by decide +kernel
theorem dX4_unfold_1 : decode cX4_unfold 1 = .ok (.getfield 19, 3) := by decide +kernel
theorem dX4_unfold_4 : decode cX4_unfold 4 = .ok (.iload_n 1, 1) := by decide +kernel
theorem dX4_unfold_5 : decode cX4_unfold 5 = .ok (.invokevirtual 94, 3) := by decide +kernel
theorem dX4_unfold_8 : decode cX4_unfold 8 = .ok (.ifCond .ne 5, 3) := by decide +kernel
theorem dX4_unfold_11 : decode cX4_unfold 11 = .ok (.iconst (-1), 1) := by decide +kernel
theorem dX4_unfold_12 : decode cX4_unfold 12 = .ok (.ireturn, 1) := by decide +kernel
theorem dX4_unfold_13 : decode cX4_unfold 13 = .ok (.aload_n 0, 1) := by decide +kernel
theorem dX4_unfold_14 : decode cX4_unfold 14 = .ok (.getfield 28, 3) := by decide +kernel
theorem dX4_unfold_17 : decode cX4_unfold 17 = .ok (.aload_n 0, 1) := by decide +kernel
theorem dX4_unfold_18 : decode cX4_unfold 18 = .ok (.getfield 19, 3) := by decide +kernel
theorem dX4_unfold_21 : decode cX4_unfold 21 = .ok (.invokevirtual 124, 3) := by decide +kernel
theorem dX4_unfold_24 : decode cX4_unfold 24 = .ok (.aload_n 0, 1) := by decide +kernel
theorem dX4_unfold_25 : decode cX4_unfold 25 = .ok (.getfield 19, 3) := by decide +kernel
theorem dX4_unfold_28 : decode cX4_unfold 28 = .ok (.iload_n 1, 1) := by decide +kernel
theorem dX4_unfold_29 : decode cX4_unfold 29 = .ok (.invokevirtual 150, 3) := by decide +kernel
theorem dX4_unfold_32 : decode cX4_unfold 32 = .ok (.aload_n 0, 1) := by decide +kernel
theorem dX4_unfold_33 : decode cX4_unfold 33 = .ok (.invokevirtual 131, 3) := by decide +kernel
theorem dX4_unfold_36 : decode cX4_unfold 36 = .ok (.aload_n 0, 1) := by decide +kernel
theorem dX4_unfold_37 : decode cX4_unfold 37 = .ok (.getfield 19, 3) := by decide +kernel
theorem dX4_unfold_40 : decode cX4_unfold 40 = .ok (.getfield 153, 3) := by decide +kernel
theorem dX4_unfold_43 : decode cX4_unfold 43 = .ok (.ireturn, 1) := by decide +kernel
theorem dX4_set_0 : decode cX4_set 0 = .ok (.aload_n 0, 1) := by decide +kernel
theorem dX4_set_1 : decode cX4_set 1 = .ok (.getfield 19, 3) := by decide +kernel
theorem dX4_set_4 : decode cX4_set 4 = .ok (.iload_n 1, 1) := by decide +kernel
theorem dX4_set_5 : decode cX4_set 5 = .ok (.iload_n 2, 1) := by decide +kernel
theorem dX4_set_6 : decode cX4_set 6 = .ok (.invokevirtual 156, 3) := by decide +kernel
theorem dX4_set_9 : decode cX4_set 9 = .ok (.istore_n 3, 1) := by decide +kernel
theorem dX4_set_10 : decode cX4_set 10 = .ok (.iload_n 3, 1) := by decide +kernel
theorem dX4_set_11 : decode cX4_set 11 = .ok (.ifCond .eq 5, 3) := by decide +kernel
theorem dX4_set_14 : decode cX4_set 14 = .ok (.iload_n 3, 1) := by decide +kernel
theorem dX4_set_15 : decode cX4_set 15 = .ok (.ireturn, 1) := by decide +kernel
theorem dX4_set_16 : decode cX4_set 16 = .ok (.aload_n 0, 1) := by decide +kernel
theorem dX4_set_17 : decode cX4_set 17 = .ok (.getfield 28, 3) := by decide +kernel
theorem dX4_set_20 : decode cX4_set 20 = .ok (.aload_n 0, 1) := by decide +kernel
theorem dX4_set_21 : decode cX4_set 21 = .ok (.getfield 19, 3) := by decide +kernel
theorem dX4_set_24 : decode cX4_set 24 = .ok (.invokevirtual 124, 3) := by decide +kernel
theorem dX4_set_27 : decode cX4_set 27 = .ok (.aload_n 0, 1) := by decide +kernel
theorem dX4_set_28 : decode cX4_set 28 = .ok (.getfield 19, 3) := by decide +kernel
theorem dX4_set_31 : decode cX4_set 31 = .ok (.iload_n 1, 1) := by decide +kernel
theorem dX4_set_32 : decode cX4_set 32 = .ok (.iload_n 2, 1) := by decide +kernel
theorem dX4_set_33 : decode cX4_set 33 = .ok (.invokevirtual 159, 3) := by decide +kernel
theorem dX4_set_36 : decode cX4_set 36 = .ok (.istore 4, 2) := by decide +kernel
theorem dX4_set_38 : decode cX4_set 38 = .ok (.aload_n 0, 1) := by decide +kernel
theorem dX4_set_39 : decode cX4_set 39 = .ok (.invokevirtual 131, 3) := by decide +kernel
theorem dX4_set_42 : decode cX4_set 42 = .ok (.iload 4, 2) := by decide +kernel
theorem dX4_set_44 : decode cX4_set 44 = .ok (.ireturn, 1) := by decide +kernel
theorem dX4_unset_0 : decode cX4_unset 0 = .ok (.aload_n 0, 1) := by decide +kernel
theorem dX4_unset_1 : decode cX4_unset 1 = .ok (.getfield 19, 3) := by decide +kernel
theorem dX4_unset_4 : decode cX4_unset 4 = .ok (.iload_n 1, 1) := by decide +kernel
theorem dX4_unset_5 : decode cX4_unset 5 = .ok (.invokevirtual 108, 3) := by decide +kernel
theorem dX4_unset_8 : decode cX4_unset 8 = .ok (.ifCond .ne 5, 3) := by decide +kernel
theorem dX4_unset_11 : decode cX4_unset 11 = .ok (.iconst (-1), 1) := by decide +kernel
theorem dX4_unset_12 : decode cX4_unset 12 = .ok (.ireturn, 1) := by decide +kernel
theorem dX4_unset_13 : decode cX4_unset 13 = .ok (.aload_n 0, 1) := by decide +kernel
theorem dX4_unset_14 : decode cX4_unset 14 = .ok (.getfield 19, 3) := by decide +kernel
theorem dX4_unset_17 : decode cX4_unset 17 = .ok (.getfield 114, 3) := by decide +kernel
theorem dX4_unset_20 : decode cX4_unset 20 = .ok (.iload_n 1, 1) := by decide +kernel
theorem dX4_unset_21 : decode cX4_unset 21 = .ok (.iaload, 1) := by decide +kernel
theorem dX4_unset_22 : decode cX4_unset 22 = .ok (.istore_n 2, 1) := by decide +kernel
theorem dX4_unset_23 : decode cX4_unset 23 = .ok (.aload_n 0, 1) := by decide +kernel
theorem dX4_unset_24 : decode cX4_unset 24 = .ok (.getfield 28, 3) := by decide +kernel
theorem dX4_unset_27 : decode cX4_unset 27 = .ok (.aload_n 0, 1) := by decide +kernel
theorem dX4_unset_28 : decode cX4_unset 28 = .ok (.getfield 19, 3) := by decide +kernel
theorem dX4_unset_31 : decode cX4_unset 31 = .ok (.invokevirtual 124, 3) := by decide +kernel
theorem dX4_unset_34 : decode cX4_unset 34 = .ok (.aload_n 0, 1) := by decide +kernel
theorem dX4_unset_35 : decode cX4_unset 35 = .ok (.getfield 19, 3) := by decide +kernel
theorem dX4_unset_38 : decode cX4_unset 38 = .ok (.iload_n 1, 1) := by decide +kernel
theorem dX4_unset_39 : decode cX4_unset 39 = .ok (.invokevirtual 162, 3) := by decide +kernel
theorem dX4_unset_42 : decode cX4_unset 42 = .ok (.aload_n 0, 1) := by decide +kernel
theorem dX4_unset_43 : decode cX4_unset 43 = .ok (.invokevirtual 131, 3) := by decide +kernel
theorem dX4_unset_46 : decode cX4_unset 46 = .ok (.iload_n 2, 1) := by decide +kernel
theorem dX4_unset_47 : decode cX4_unset 47 = .ok (.ireturn, 1) := by decide +kernel
theorem dX4_wide_0 : decode cX4_wide 0 = .ok (.iload_n 1, 1) := by decide +kernel
theorem dX4_wide_1 : decode cX4_wide 1 = .ok (.iload_n 2, 1) := by decide +kernel
theorem dX4_wide_2 : decode cX4_wide 2 = .ok (.iload_n 3, 1) := by decide +kernel
theorem dX4_wide_3 : decode cX4_wide 3 = .ok (.invokestatic 165, 3) := by decide +kernel
theorem dX4_wide_6 : decode cX4_wide 6 = .ok (.ifCond .ne 5, 3) := by decide +kernel
theorem dX4_wide_9 : decode cX4_wide 9 = .ok (.iconst (-1), 1) := by decide +kernel
theorem dX4_wide_10 : decode cX4_wide 10 = .ok (.ireturn, 1) := by decide +kernel
theorem dX4_wide_11 : decode cX4_wide 11 = .ok (.aload_n 0, 1) := by decide +kernel
theorem dX4_wide_12 : decode cX4_wide 12 = .ok (.getfield 19, 3) := by decide +kernel
theorem dX4_wide_15 : decode cX4_wide 15 = .ok (.getfield 169, 3) := by decide +kernel
theorem dX4_wide_18 : decode cX4_wide 18 = .ok (.iload_n 1, 1) := by decide +kernel
theorem dX4_wide_19 : decode cX4_wide 19 = .ok (.if_icmp .ne 28, 3) := by decide +kernel
theorem dX4_wide_22 : decode cX4_wide 22 = .ok (.aload_n 0, 1) := by decide +kernel
theorem dX4_wide_23 : decode cX4_wide 23 = .ok (.getfield 19, 3) := by decide +kernel
theorem dX4_wide_26 : decode cX4_wide 26 = .ok (.getfield 172, 3) := by decide +kernel
theorem dX4_wide_29 : decode cX4_wide 29 = .ok (.iload_n 2, 1) := by decide +kernel
theorem dX4_wide_30 : decode cX4_wide 30 = .ok (.if_icmp .ne 17, 3) := by decide +kernel
theorem dX4_wide_33 : decode cX4_wide 33 = .ok (.aload_n 0, 1) := by decide +kernel
theorem dX4_wide_34 : decode cX4_wide 34 = .ok (.getfield 19, 3) := by decide +kernel
theorem dX4_wide_37 : decode cX4_wide 37 = .ok (.getfield 175, 3) := by decide +kernel
theorem dX4_wide_40 : decode cX4_wide 40 = .ok (.iload_n 3, 1) := by decide +kernel
theorem dX4_wide_41 : decode cX4_wide 41 = .ok (.if_icmp .ne 6, 3) := by decide +kernel
theorem dX4_wide_44 : decode cX4_wide 44 = .ok (.bipush (-2), 2) := by decide +kernel
theorem dX4_wide_46 : decode cX4_wide 46 = .ok (.ireturn, 1) := by decide +kernel
theorem dX4_wide_47 : decode cX4_wide 47 = .ok (.aload_n 0, 1) := by decide +kernel
theorem dX4_wide_48 : decode cX4_wide 48 = .ok (.getfield 28, 3) := by decide +kernel
theorem dX4_wide_51 : decode cX4_wide 51 = .ok (.aload_n 0, 1) := by decide +kernel
theorem dX4_wide_52 : decode cX4_wide 52 = .ok (.getfield 19, 3) := by decide +kernel
theorem dX4_wide_55 : decode cX4_wide 55 = .ok (.invokevirtual 124, 3) := by decide +kernel
theorem dX4_wide_58 : decode cX4_wide 58 = .ok (.aload_n 0, 1) := by decide +kernel
theorem dX4_wide_59 : decode cX4_wide 59 = .ok (.getfield 19, 3) := by decide +kernel
theorem dX4_wide_62 : decode cX4_wide 62 = .ok (.iload_n 1, 1) := by decide +kernel
theorem dX4_wide_63 : decode cX4_wide 63 = .ok (.iload_n 2, 1) := by decide +kernel
theorem dX4_wide_64 : decode cX4_wide 64 = .ok (.iload_n 3, 1) := by decide +kernel
theorem dX4_wide_65 : decode cX4_wide 65 = .ok (.invokevirtual 178, 3) := by decide +kernel
theorem dX4_wide_68 : decode cX4_wide 68 = .ok (.aload_n 0, 1) := by decide +kernel
theorem dX4_wide_69 : decode cX4_wide 69 = .ok (.invokevirtual 131, 3) := by decide +kernel
theorem dX4_wide_72 : decode cX4_wide 72 = .ok (.iconst 1, 1) := by decide +kernel
theorem dX4_wide_73 : decode cX4_wide 73 = .ok (.ireturn, 1) := by decide +kernel
theorem dX4_tabs_0 : decode cX4_tabs 0 = .ok (.iload_n 1, 1) := by decide +kernel
theorem dX4_tabs_1 : decode cX4_tabs 1 = .ok (.invokestatic 182, 3) := by decide +kernel
theorem dX4_tabs_4 : decode cX4_tabs 4 = .ok (.ifCond .ne 5, 3) := by decide +kernel
theorem dX4_tabs_7 : decode cX4_tabs 7 = .ok (.iconst (-1), 1) := by decide +kernel
theorem dX4_tabs_8 : decode cX4_tabs 8 = .ok (.ireturn, 1) := by decide +kernel
theorem dX4_tabs_9 : decode cX4_tabs 9 = .ok (.aload_n 0, 1) := by decide +kernel
theorem dX4_tabs_10 : decode cX4_tabs 10 = .ok (.getfield 19, 3) := by decide +kernel
theorem dX4_tabs_13 : decode cX4_tabs 13 = .ok (.getfield 185, 3) := by decide +kernel
theorem dX4_tabs_16 : decode cX4_tabs 16 = .ok (.iload_n 1, 1) := by decide +kernel
theorem dX4_tabs_17 : decode cX4_tabs 17 = .ok (.if_icmp .ne 6, 3) := by decide +kernel
theorem dX4_tabs_20 : decode cX4_tabs 20 = .ok (.bipush (-2), 2) := by decide +kernel
theorem dX4_tabs_22 : decode cX4_tabs 22 = .ok (.ireturn, 1) := by decide +kernel
theorem dX4_tabs_23 : decode cX4_tabs 23 = .ok (.aload_n 0, 1) := by decide +kernel
theorem dX4_tabs_24 : decode cX4_tabs 24 = .ok (.getfield 19, 3) := by decide +kernel
theorem dX4_tabs_27 : decode cX4_tabs 27 = .ok (.getfield 185, 3) := by decide +kernel
theorem dX4_tabs_30 : decode cX4_tabs 30 = .ok (.istore_n 2, 1) := by decide +kernel
theorem dX4_tabs_31 : decode cX4_tabs 31 = .ok (.aload_n 0, 1) := by decide +kernel
theorem dX4_tabs_32 : decode cX4_tabs 32 = .ok (.getfield 28, 3) := by decide +kernel
theorem dX4_tabs_35 : decode cX4_tabs 35 = .ok (.aload_n 0, 1) := by decide +kernel
theorem dX4_tabs_36 : decode cX4_tabs 36 = .ok (.getfield 19, 3) := by decide +kernel
theorem dX4_tabs_39 : decode cX4_tabs 39 = .ok (.invokevirtual 124, 3) := by decide +kernel
theorem dX4_tabs_42 : decode cX4_tabs 42 = .ok (.aload_n 0, 1) := by decide +kernel
theorem dX4_tabs_43 : decode cX4_tabs 43 = .ok (.getfield 19, 3) := by decide +kernel
theorem dX4_tabs_46 : decode cX4_tabs 46 = .ok (.iload_n 1, 1) := by decide +kernel
theorem dX4_tabs_47 : decode cX4_tabs 47 = .ok (.putfield 185, 3) := by decide +kernel
theorem dX4_tabs_50 : decode cX4_tabs 50 = .ok (.aload_n 0, 1) := by decide +kernel
theorem dX4_tabs_51 : decode cX4_tabs 51 = .ok (.invokevirtual 131, 3) := by decide +kernel
theorem dX4_tabs_54 : decode cX4_tabs 54 = .ok (.iload_n 2, 1) := by decide +kernel
theorem dX4_tabs_55 : decode cX4_tabs 55 = .ok (.ireturn, 1) := by decide +kernel
theorem dX4_undo_0 : decode cX4_undo 0 = .ok (.aload_n 0, 1) := by decide +kernel
theorem dX4_undo_1 : decode cX4_undo 1 = .ok (.getfield 28, 3) := by decide +kernel
theorem dX4_undo_4 : decode cX4_undo 4 = .ok (.aload_n 0, 1) := by decide +kernel
theorem dX4_undo_5 : decode cX4_undo 5 = .ok (.getfield 19, 3) := by decide +kernel
theorem dX4_undo_8 : decode cX4_undo 8 = .ok (.invokevirtual 188, 3) := by decide +kernel
theorem dX4_undo_11 : decode cX4_undo 11 = .ok (.ifCond .ne 6, 3) := by decide +kernel
theorem dX4_undo_14 : decode cX4_undo 14 = .ok (.bipush (-2), 2) := by decide +kernel
theorem dX4_undo_16 : decode cX4_undo 16 = .ok (.ireturn, 1) := by decide +kernel
theorem dX4_undo_17 : decode cX4_undo 17 = .ok (.aload_n 0, 1) := by decide +kernel
theorem dX4_undo_18 : decode cX4_undo 18 = .ok (.invokevirtual 131, 3) := by decide +kernel
theorem dX4_undo_21 : decode cX4_undo 21 = .ok (.aload_n 0, 1) := by decide +kernel
theorem dX4_undo_22 : decode cX4_undo 22 = .ok (.getfield 28, 3) := by decide +kernel
theorem dX4_undo_25 : decode cX4_undo 25 = .ok (.getfield 77, 3) := by decide +kernel
theorem dX4_undo_28 : decode cX4_undo 28 = .ok (.ireturn, 1) := by decide +kernel
theorem dX4_stands_0 : decode cX4_stands 0 = .ok (.aload_n 0, 1) := by decide +kernel
theorem dX4_stands_1 : decode cX4_stands 1 = .ok (.getfield 19, 3) := by decide +kernel
theorem dX4_stands_4 : decode cX4_stands 4 = .ok (.iload_n 1, 1) := by decide +kernel
theorem dX4_stands_5 : decode cX4_stands 5 = .ok (.invokevirtual 87, 3) := by decide +kernel
theorem dX4_stands_8 : decode cX4_stands 8 = .ok (.ifCond .ne 5, 3) := by decide +kernel
theorem dX4_stands_11 : decode cX4_stands 11 = .ok (.iconst (-1), 1) := by decide +kernel
theorem dX4_stands_12 : decode cX4_stands 12 = .ok (.ireturn, 1) := by decide +kernel
theorem dX4_stands_13 : decode cX4_stands 13 = .ok (.iload_n 2, 1) := by decide +kernel
theorem dX4_stands_14 : decode cX4_stands 14 = .ok (.tableswitch 55 0 2 #[26, 32, 38], 26) := by decide +kernel
theorem dX4_stands_40 : decode cX4_stands 40 = .ok (.aload_n 0, 1) := by decide +kernel
theorem dX4_stands_41 : decode cX4_stands 41 = .ok (.iload_n 1, 1) := by decide +kernel
theorem dX4_stands_42 : decode cX4_stands 42 = .ok (.invokevirtual 192, 3) := by decide +kernel
theorem dX4_stands_45 : decode cX4_stands 45 = .ok (.ireturn, 1) := by decide +kernel
theorem dX4_stands_46 : decode cX4_stands 46 = .ok (.aload_n 0, 1) := by decide +kernel
theorem dX4_stands_47 : decode cX4_stands 47 = .ok (.iload_n 1, 1) := by decide +kernel
theorem dX4_stands_48 : decode cX4_stands 48 = .ok (.invokevirtual 195, 3) := by decide +kernel
theorem dX4_stands_51 : decode cX4_stands 51 = .ok (.ireturn, 1) := by decide +kernel
theorem dX4_stands_52 : decode cX4_stands 52 = .ok (.aload_n 0, 1) := by decide +kernel
theorem dX4_stands_53 : decode cX4_stands 53 = .ok (.getfield 19, 3) := by decide +kernel
theorem dX4_stands_56 : decode cX4_stands 56 = .ok (.iload_n 1, 1) := by decide +kernel
theorem dX4_stands_57 : decode cX4_stands 57 = .ok (.invokevirtual 117, 3) := by decide +kernel
theorem dX4_stands_60 : decode cX4_stands 60 = .ok (.ifCond .eq 7, 3) := by decide +kernel
theorem dX4_stands_63 : decode cX4_stands 63 = .ok (.iconst 1, 1) := by decide +kernel
theorem dX4_stands_64 : decode cX4_stands 64 = .ok (.goto 4, 3) := by decide +kernel
theorem dX4_stands_67 : decode cX4_stands 67 = .ok (.iconst 0, 1) := by decide +kernel
theorem dX4_stands_68 : decode cX4_stands 68 = .ok (.ireturn, 1) := by decide +kernel
theorem dX4_stands_69 : decode cX4_stands 69 = .ok (.iconst (-1), 1) := by decide +kernel
theorem dX4_stands_70 : decode cX4_stands 70 = .ok (.ireturn, 1) := by decide +kernel
theorem dX4_place_0 : decode cX4_place 0 = .ok (.aload_n 0, 1) := by decide +kernel
theorem dX4_place_1 : decode cX4_place 1 = .ok (.getfield 38, 3) := by decide +kernel
theorem dX4_place_4 : decode cX4_place 4 = .ok (.iload_n 1, 1) := by decide +kernel
theorem dX4_place_5 : decode cX4_place 5 = .ok (.invokevirtual 198, 3) := by decide +kernel
theorem dX4_place_8 : decode cX4_place 8 = .ok (.ifCond .eq 10, 3) := by decide +kernel
theorem dX4_place_11 : decode cX4_place 11 = .ok (.iload_n 2, 1) := by decide +kernel
theorem dX4_place_12 : decode cX4_place 12 = .ok (.invokestatic 201, 3) := by decide +kernel
theorem dX4_place_15 : decode cX4_place 15 = .ok (.ifCond .ne 5, 3) := by decide +kernel
theorem dX4_place_18 : decode cX4_place 18 = .ok (.iconst (-1), 1) := by decide +kernel
theorem dX4_place_19 : decode cX4_place 19 = .ok (.ireturn, 1) := by decide +kernel
theorem dX4_place_20 : decode cX4_place 20 = .ok (.aload_n 0, 1) := by decide +kernel
theorem dX4_place_21 : decode cX4_place 21 = .ok (.getfield 38, 3) := by decide +kernel
theorem dX4_place_24 : decode cX4_place 24 = .ok (.iload_n 1, 1) := by decide +kernel
theorem dX4_place_25 : decode cX4_place 25 = .ok (.iload_n 2, 1) := by decide +kernel
theorem dX4_place_26 : decode cX4_place 26 = .ok (.aload_n 0, 1) := by decide +kernel
theorem dX4_place_27 : decode cX4_place 27 = .ok (.getfield 19, 3) := by decide +kernel
theorem dX4_place_30 : decode cX4_place 30 = .ok (.getfield 84, 3) := by decide +kernel
theorem dX4_place_33 : decode cX4_place 33 = .ok (.invokevirtual 204, 3) := by decide +kernel
theorem dX4_place_36 : decode cX4_place 36 = .ok (.ireturn, 1) := by decide +kernel
theorem dX4_screen_0 : decode cX4_screen 0 = .ok (.aload_n 0, 1) := by decide +kernel
theorem dX4_screen_1 : decode cX4_screen 1 = .ok (.getfield 38, 3) := by decide +kernel
theorem dX4_screen_4 : decode cX4_screen 4 = .ok (.iload_n 1, 1) := by decide +kernel
theorem dX4_screen_5 : decode cX4_screen 5 = .ok (.invokevirtual 198, 3) := by decide +kernel
theorem dX4_screen_8 : decode cX4_screen 8 = .ok (.ifCond .eq 10, 3) := by decide +kernel
theorem dX4_screen_11 : decode cX4_screen 11 = .ok (.iload_n 2, 1) := by decide +kernel
theorem dX4_screen_12 : decode cX4_screen 12 = .ok (.invokestatic 201, 3) := by decide +kernel
theorem dX4_screen_15 : decode cX4_screen 15 = .ok (.ifCond .ne 5, 3) := by decide +kernel
theorem dX4_screen_18 : decode cX4_screen 18 = .ok (.iconst (-1), 1) := by decide +kernel
theorem dX4_screen_19 : decode cX4_screen 19 = .ok (.ireturn, 1) := by decide +kernel
theorem dX4_screen_20 : decode cX4_screen 20 = .ok (.aload_n 0, 1) := by decide +kernel
theorem dX4_screen_21 : decode cX4_screen 21 = .ok (.getfield 38, 3) := by decide +kernel
theorem dX4_screen_24 : decode cX4_screen 24 = .ok (.iload_n 1, 1) := by decide +kernel
theorem dX4_screen_25 : decode cX4_screen 25 = .ok (.iload_n 2, 1) := by decide +kernel
theorem dX4_screen_26 : decode cX4_screen 26 = .ok (.invokevirtual 208, 3) := by decide +kernel
theorem dX4_screen_29 : decode cX4_screen 29 = .ok (.ireturn, 1) := by decide +kernel
theorem dX4_go_0 : decode cX4_go 0 = .ok (.aload_n 0, 1) := by decide +kernel
theorem dX4_go_1 : decode cX4_go 1 = .ok (.getfield 19, 3) := by decide +kernel
theorem dX4_go_4 : decode cX4_go 4 = .ok (.iload_n 1, 1) := by decide +kernel
theorem dX4_go_5 : decode cX4_go 5 = .ok (.invokevirtual 87, 3) := by decide +kernel
theorem dX4_go_8 : decode cX4_go 8 = .ok (.ifCond .ne 5, 3) := by decide +kernel
theorem dX4_go_11 : decode cX4_go 11 = .ok (.iconst (-1), 1) := by decide +kernel
theorem dX4_go_12 : decode cX4_go 12 = .ok (.ireturn, 1) := by decide +kernel
theorem dX4_go_13 : decode cX4_go 13 = .ok (.iload_n 2, 1) := by decide +kernel
theorem dX4_go_14 : decode cX4_go 14 = .ok (.tableswitch 82 0 3 #[30, 39, 48, 65], 30) := by decide +kernel
theorem dX4_go_44 : decode cX4_go 44 = .ok (.aload_n 0, 1) := by decide +kernel
theorem dX4_go_45 : decode cX4_go 45 = .ok (.getfield 19, 3) := by decide +kernel
theorem dX4_go_48 : decode cX4_go 48 = .ok (.iload_n 1, 1) := by decide +kernel
theorem dX4_go_49 : decode cX4_go 49 = .ok (.invokevirtual 211, 3) := by decide +kernel
theorem dX4_go_52 : decode cX4_go 52 = .ok (.ireturn, 1) := by decide +kernel
theorem dX4_go_53 : decode cX4_go 53 = .ok (.aload_n 0, 1) := by decide +kernel
theorem dX4_go_54 : decode cX4_go 54 = .ok (.getfield 19, 3) := by decide +kernel
theorem dX4_go_57 : decode cX4_go 57 = .ok (.iload_n 1, 1) := by decide +kernel
theorem dX4_go_58 : decode cX4_go 58 = .ok (.invokevirtual 214, 3) := by decide +kernel
theorem dX4_go_61 : decode cX4_go 61 = .ok (.ireturn, 1) := by decide +kernel
theorem dX4_go_62 : decode cX4_go 62 = .ok (.aload_n 0, 1) := by decide +kernel
theorem dX4_go_63 : decode cX4_go 63 = .ok (.aload_n 0, 1) := by decide +kernel
theorem dX4_go_64 : decode cX4_go 64 = .ok (.iload_n 1, 1) := by decide +kernel
theorem dX4_go_65 : decode cX4_go 65 = .ok (.invokevirtual 192, 3) := by decide +kernel
theorem dX4_go_68 : decode cX4_go 68 = .ok (.iconst 1, 1) := by decide +kernel
theorem dX4_go_69 : decode cX4_go 69 = .ok (.isub, 1) := by decide +kernel
theorem dX4_go_70 : decode cX4_go 70 = .ok (.aload_n 0, 1) := by decide +kernel
theorem dX4_go_71 : decode cX4_go 71 = .ok (.iload_n 1, 1) := by decide +kernel
theorem dX4_go_72 : decode cX4_go 72 = .ok (.invokevirtual 195, 3) := by decide +kernel
theorem dX4_go_75 : decode cX4_go 75 = .ok (.invokevirtual 217, 3) := by decide +kernel
theorem dX4_go_78 : decode cX4_go 78 = .ok (.ireturn, 1) := by decide +kernel
theorem dX4_go_79 : decode cX4_go 79 = .ok (.aload_n 0, 1) := by decide +kernel
theorem dX4_go_80 : decode cX4_go 80 = .ok (.aload_n 0, 1) := by decide +kernel
theorem dX4_go_81 : decode cX4_go 81 = .ok (.iload_n 1, 1) := by decide +kernel
theorem dX4_go_82 : decode cX4_go 82 = .ok (.invokevirtual 192, 3) := by decide +kernel
theorem dX4_go_85 : decode cX4_go 85 = .ok (.iconst 1, 1) := by decide +kernel
theorem dX4_go_86 : decode cX4_go 86 = .ok (.iadd, 1) := by decide +kernel
theorem dX4_go_87 : decode cX4_go 87 = .ok (.aload_n 0, 1) := by decide +kernel
theorem dX4_go_88 : decode cX4_go 88 = .ok (.iload_n 1, 1) := by decide +kernel
theorem dX4_go_89 : decode cX4_go 89 = .ok (.invokevirtual 195, 3) := by decide +kernel
theorem dX4_go_92 : decode cX4_go 92 = .ok (.invokevirtual 217, 3) := by decide +kernel
theorem dX4_go_95 : decode cX4_go 95 = .ok (.ireturn, 1) := by decide +kernel
theorem dX4_go_96 : decode cX4_go 96 = .ok (.iconst (-1), 1) := by decide +kernel
theorem dX4_go_97 : decode cX4_go 97 = .ok (.ireturn, 1) := by decide +kernel
theorem dX4_row_0 : decode cX4_row 0 = .ok (.aload_n 0, 1) := by decide +kernel
theorem dX4_row_1 : decode cX4_row 1 = .ok (.getfield 38, 3) := by decide +kernel
theorem dX4_row_4 : decode cX4_row 4 = .ok (.iload_n 1, 1) := by decide +kernel
theorem dX4_row_5 : decode cX4_row 5 = .ok (.invokevirtual 198, 3) := by decide +kernel
theorem dX4_row_8 : decode cX4_row 8 = .ok (.ifCond .ne 5, 3) := by decide +kernel
theorem dX4_row_11 : decode cX4_row 11 = .ok (.iconst (-1), 1) := by decide +kernel
theorem dX4_row_12 : decode cX4_row 12 = .ok (.ireturn, 1) := by decide +kernel
theorem dX4_row_13 : decode cX4_row 13 = .ok (.iload_n 2, 1) := by decide +kernel
theorem dX4_row_14 : decode cX4_row 14 = .ok (.lookupswitch 54 #[(0, 26), (1, 36)], 26) := by decide +kernel
theorem dX4_row_40 : decode cX4_row 40 = .ok (.aload_n 0, 1) := by decide +kernel
theorem dX4_row_41 : decode cX4_row 41 = .ok (.getfield 38, 3) := by decide +kernel
theorem dX4_row_44 : decode cX4_row 44 = .ok (.getfield 220, 3) := by decide +kernel
theorem dX4_row_47 : decode cX4_row 47 = .ok (.iload_n 1, 1) := by decide +kernel
theorem dX4_row_48 : decode cX4_row 48 = .ok (.iaload, 1) := by decide +kernel
theorem dX4_row_49 : decode cX4_row 49 = .ok (.ireturn, 1) := by decide +kernel
theorem dX4_row_50 : decode cX4_row 50 = .ok (.aload_n 0, 1) := by decide +kernel
theorem dX4_row_51 : decode cX4_row 51 = .ok (.getfield 38, 3) := by decide +kernel
theorem dX4_row_54 : decode cX4_row 54 = .ok (.getfield 223, 3) := by decide +kernel
theorem dX4_row_57 : decode cX4_row 57 = .ok (.iload_n 1, 1) := by decide +kernel
theorem dX4_row_58 : decode cX4_row 58 = .ok (.baload, 1) := by decide +kernel
theorem dX4_row_59 : decode cX4_row 59 = .ok (.ifCond .eq 7, 3) := by decide +kernel
theorem dX4_row_62 : decode cX4_row 62 = .ok (.iconst 1, 1) := by decide +kernel
theorem dX4_row_63 : decode cX4_row 63 = .ok (.goto 4, 3) := by decide +kernel
theorem dX4_row_66 : decode cX4_row 66 = .ok (.iconst 0, 1) := by decide +kernel
theorem dX4_row_67 : decode cX4_row 67 = .ok (.ireturn, 1) := by decide +kernel
theorem dX4_row_68 : decode cX4_row 68 = .ok (.iconst (-1), 1) := by decide +kernel
theorem dX4_row_69 : decode cX4_row 69 = .ok (.ireturn, 1) := by decide +kernel
theorem dX4_changed_0 : decode cX4_changed 0 = .ok (.iload_n 1, 1) := by decide +kernel
theorem dX4_changed_1 : decode cX4_changed 1 = .ok (.lookupswitch 37 #[(0, 27), (1, 32)], 27) := by decide +kernel
theorem dX4_changed_28 : decode cX4_changed 28 = .ok (.aload_n 0, 1) := by decide +kernel
theorem dX4_changed_29 : decode cX4_changed 29 = .ok (.invokevirtual 226, 3) := by decide +kernel
theorem dX4_changed_32 : decode cX4_changed 32 = .ok (.ireturn, 1) := by decide +kernel
theorem dX4_changed_33 : decode cX4_changed 33 = .ok (.aload_n 0, 1) := by decide +kernel
theorem dX4_changed_34 : decode cX4_changed 34 = .ok (.invokevirtual 229, 3) := by decide +kernel
theorem dX4_changed_37 : decode cX4_changed 37 = .ok (.ireturn, 1) := by decide +kernel
theorem dX4_changed_38 : decode cX4_changed 38 = .ok (.iconst (-1), 1) := by decide +kernel
theorem dX4_changed_39 : decode cX4_changed 39 = .ok (.ireturn, 1) := by decide +kernel
theorem dX4_fit_0 : decode cX4_fit 0 = .ok (.iload_n 1, 1) := by decide +kernel
theorem dX4_fit_1 : decode cX4_fit 1 = .ok (.iconst 1, 1) := by decide +kernel
theorem dX4_fit_2 : decode cX4_fit 2 = .ok (.if_icmp .lt 9, 3) := by decide +kernel
theorem dX4_fit_5 : decode cX4_fit 5 = .ok (.iload_n 1, 1) := by decide +kernel
theorem dX4_fit_6 : decode cX4_fit 6 = .ok (.bipush 40, 2) := by decide +kernel
theorem dX4_fit_8 : decode cX4_fit 8 = .ok (.if_icmp .le 5, 3) := by decide +kernel
theorem dX4_fit_11 : decode cX4_fit 11 = .ok (.iconst (-1), 1) := by decide +kernel
theorem dX4_fit_12 : decode cX4_fit 12 = .ok (.ireturn, 1) := by decide +kernel
theorem dX4_fit_13 : decode cX4_fit 13 = .ok (.aload_n 0, 1) := by decide +kernel
theorem dX4_fit_14 : decode cX4_fit 14 = .ok (.getfield 45, 3) := by decide +kernel
theorem dX4_fit_17 : decode cX4_fit 17 = .ok (.aload_n 0, 1) := by decide +kernel
theorem dX4_fit_18 : decode cX4_fit 18 = .ok (.getfield 19, 3) := by decide +kernel
theorem dX4_fit_21 : decode cX4_fit 21 = .ok (.invokevirtual 232, 3) := by decide +kernel
theorem dX4_fit_24 : decode cX4_fit 24 = .ok (.iconst 4, 1) := by decide +kernel
theorem dX4_fit_25 : decode cX4_fit 25 = .ok (.istore_n 2, 1) := by decide +kernel
theorem dX4_fit_26 : decode cX4_fit 26 = .ok (.iload_n 2, 1) := by decide +kernel
theorem dX4_fit_27 : decode cX4_fit 27 = .ok (.bipush 20, 2) := by decide +kernel
theorem dX4_fit_29 : decode cX4_fit 29 = .ok (.if_icmp .gt 34, 3) := by decide +kernel
theorem dX4_fit_32 : decode cX4_fit 32 = .ok (.aload_n 0, 1) := by decide +kernel
theorem dX4_fit_33 : decode cX4_fit 33 = .ok (.getfield 45, 3) := by decide +kernel
theorem dX4_fit_36 : decode cX4_fit 36 = .ok (.iload_n 2, 1) := by decide +kernel
theorem dX4_fit_37 : decode cX4_fit 37 = .ok (.putfield 172, 3) := by decide +kernel
theorem dX4_fit_40 : decode cX4_fit 40 = .ok (.aload_n 0, 1) := by decide +kernel
theorem dX4_fit_41 : decode cX4_fit 41 = .ok (.getfield 48, 3) := by decide +kernel
theorem dX4_fit_44 : decode cX4_fit 44 = .ok (.aload_n 0, 1) := by decide +kernel
theorem dX4_fit_45 : decode cX4_fit 45 = .ok (.getfield 45, 3) := by decide +kernel
theorem dX4_fit_48 : decode cX4_fit 48 = .ok (.invokevirtual 74, 3) := by decide +kernel
theorem dX4_fit_51 : decode cX4_fit 51 = .ok (.iload_n 1, 1) := by decide +kernel
theorem dX4_fit_52 : decode cX4_fit 52 = .ok (.if_icmp .gt 5, 3) := by decide +kernel
theorem dX4_fit_55 : decode cX4_fit 55 = .ok (.iload_n 2, 1) := by decide +kernel
theorem dX4_fit_56 : decode cX4_fit 56 = .ok (.ireturn, 1) := by decide +kernel
theorem dX4_fit_57 : decode cX4_fit 57 = .ok (.iinc 2 1, 3) := by decide +kernel
theorem dX4_fit_60 : decode cX4_fit 60 = .ok (.goto (-34), 3) := by decide +kernel
theorem dX4_fit_63 : decode cX4_fit 63 = .ok (.bipush (-4), 2) := by decide +kernel
theorem dX4_fit_65 : decode cX4_fit 65 = .ok (.ireturn, 1) := by decide +kernel
theorem dX4_saves_0 : decode cX4_saves 0 = .ok (.iload_n 1, 1) := by decide +kernel
theorem dX4_saves_1 : decode cX4_saves 1 = .ok (.ifCond .eq 10, 3) := by decide +kernel
theorem dX4_saves_4 : decode cX4_saves 4 = .ok (.iload_n 1, 1) := by decide +kernel
theorem dX4_saves_5 : decode cX4_saves 5 = .ok (.iconst 1, 1) := by decide +kernel
theorem dX4_saves_6 : decode cX4_saves 6 = .ok (.if_icmp .eq 5, 3) := by decide +kernel
theorem dX4_saves_9 : decode cX4_saves 9 = .ok (.iconst (-1), 1) := by decide +kernel
theorem dX4_saves_10 : decode cX4_saves 10 = .ok (.ireturn, 1) := by decide +kernel
theorem dX4_saves_11 : decode cX4_saves 11 = .ok (.bipush (-4), 2) := by decide +kernel
theorem dX4_saves_13 : decode cX4_saves 13 = .ok (.istore_n 2, 1) := by decide +kernel
theorem dX4_saves_14 : decode cX4_saves 14 = .ok (.bipush (-4), 2) := by decide +kernel
theorem dX4_saves_16 : decode cX4_saves 16 = .ok (.istore_n 3, 1) := by decide +kernel
theorem dX4_saves_17 : decode cX4_saves 17 = .ok (.iconst 0, 1) := by decide +kernel
theorem dX4_saves_18 : decode cX4_saves 18 = .ok (.istore 4, 2) := by decide +kernel
theorem dX4_saves_20 : decode cX4_saves 20 = .ok (.iload 4, 2) := by decide +kernel
theorem dX4_saves_22 : decode cX4_saves 22 = .ok (.aload_n 0, 1) := by decide +kernel
theorem dX4_saves_23 : decode cX4_saves 23 = .ok (.getfield 19, 3) := by decide +kernel
theorem dX4_saves_26 : decode cX4_saves 26 = .ok (.getfield 153, 3) := by decide +kernel
theorem dX4_saves_29 : decode cX4_saves 29 = .ok (.if_icmp .ge 76, 3) := by decide +kernel
theorem dX4_saves_32 : decode cX4_saves 32 = .ok (.aload_n 0, 1) := by decide +kernel
theorem dX4_saves_33 : decode cX4_saves 33 = .ok (.getfield 19, 3) := by decide +kernel
theorem dX4_saves_36 : decode cX4_saves 36 = .ok (.getfield 104, 3) := by decide +kernel
theorem dX4_saves_39 : decode cX4_saves 39 = .ok (.iload 4, 2) := by decide +kernel
theorem dX4_saves_41 : decode cX4_saves 41 = .ok (.baload, 1) := by decide +kernel
theorem dX4_saves_42 : decode cX4_saves 42 = .ok (.ifCond .eq 6, 3) := by decide +kernel
theorem dX4_saves_45 : decode cX4_saves 45 = .ok (.goto 54, 3) := by decide +kernel
theorem dX4_saves_48 : decode cX4_saves 48 = .ok (.aload_n 0, 1) := by decide +kernel
theorem dX4_saves_49 : decode cX4_saves 49 = .ok (.getfield 45, 3) := by decide +kernel
theorem dX4_saves_52 : decode cX4_saves 52 = .ok (.aload_n 0, 1) := by decide +kernel
theorem dX4_saves_53 : decode cX4_saves 53 = .ok (.getfield 19, 3) := by decide +kernel
theorem dX4_saves_56 : decode cX4_saves 56 = .ok (.invokevirtual 232, 3) := by decide +kernel
theorem dX4_saves_59 : decode cX4_saves 59 = .ok (.aload_n 0, 1) := by decide +kernel
theorem dX4_saves_60 : decode cX4_saves 60 = .ok (.getfield 45, 3) := by decide +kernel
theorem dX4_saves_63 : decode cX4_saves 63 = .ok (.iload 4, 2) := by decide +kernel
theorem dX4_saves_65 : decode cX4_saves 65 = .ok (.invokevirtual 140, 3) := by decide +kernel
theorem dX4_saves_68 : decode cX4_saves 68 = .ok (.aload_n 0, 1) := by decide +kernel
theorem dX4_saves_69 : decode cX4_saves 69 = .ok (.getfield 48, 3) := by decide +kernel
theorem dX4_saves_72 : decode cX4_saves 72 = .ok (.aload_n 0, 1) := by decide +kernel
theorem dX4_saves_73 : decode cX4_saves 73 = .ok (.getfield 45, 3) := by decide +kernel
theorem dX4_saves_76 : decode cX4_saves 76 = .ok (.invokevirtual 74, 3) := by decide +kernel
theorem dX4_saves_79 : decode cX4_saves 79 = .ok (.istore 5, 2) := by decide +kernel
theorem dX4_saves_81 : decode cX4_saves 81 = .ok (.iload_n 2, 1) := by decide +kernel
theorem dX4_saves_82 : decode cX4_saves 82 = .ok (.bipush (-4), 2) := by decide +kernel
theorem dX4_saves_84 : decode cX4_saves 84 = .ok (.if_icmp .eq 9, 3) := by decide +kernel
theorem dX4_saves_87 : decode cX4_saves 87 = .ok (.iload 5, 2) := by decide +kernel
theorem dX4_saves_89 : decode cX4_saves 89 = .ok (.iload_n 3, 1) := by decide +kernel
theorem dX4_saves_90 : decode cX4_saves 90 = .ok (.if_icmp .ge 9, 3) := by decide +kernel
theorem dX4_saves_93 : decode cX4_saves 93 = .ok (.iload 4, 2) := by decide +kernel
theorem dX4_saves_95 : decode cX4_saves 95 = .ok (.istore_n 2, 1) := by decide +kernel
theorem dX4_saves_96 : decode cX4_saves 96 = .ok (.iload 5, 2) := by decide +kernel
theorem dX4_saves_98 : decode cX4_saves 98 = .ok (.istore_n 3, 1) := by decide +kernel
theorem dX4_saves_99 : decode cX4_saves 99 = .ok (.iinc 4 1, 3) := by decide +kernel
theorem dX4_saves_102 : decode cX4_saves 102 = .ok (.goto (-82), 3) := by decide +kernel
theorem dX4_saves_105 : decode cX4_saves 105 = .ok (.iload_n 1, 1) := by decide +kernel
theorem dX4_saves_106 : decode cX4_saves 106 = .ok (.ifCond .ne 7, 3) := by decide +kernel
theorem dX4_saves_109 : decode cX4_saves 109 = .ok (.iload_n 2, 1) := by decide +kernel
theorem dX4_saves_110 : decode cX4_saves 110 = .ok (.goto 4, 3) := by decide +kernel
theorem dX4_saves_113 : decode cX4_saves 113 = .ok (.iload_n 3, 1) := by decide +kernel
theorem dX4_saves_114 : decode cX4_saves 114 = .ok (.ireturn, 1) := by decide +kernel
theorem dX4_tight_0 : decode cX4_tight 0 = .ok (.iload_n 1, 1) := by decide +kernel
theorem dX4_tight_1 : decode cX4_tight 1 = .ok (.iconst (-1), 1) := by decide +kernel
theorem dX4_tight_2 : decode cX4_tight 2 = .ok (.if_icmp .ge 5, 3) := by decide +kernel
theorem dX4_tight_5 : decode cX4_tight 5 = .ok (.iconst (-1), 1) := by decide +kernel
theorem dX4_tight_6 : decode cX4_tight 6 = .ok (.ireturn, 1) := by decide +kernel
theorem dX4_tight_7 : decode cX4_tight 7 = .ok (.iconst 0, 1) := by decide +kernel
theorem dX4_tight_8 : decode cX4_tight 8 = .ok (.istore_n 2, 1) := by decide +kernel
theorem dX4_tight_9 : decode cX4_tight 9 = .ok (.iconst 0, 1) := by decide +kernel
theorem dX4_tight_10 : decode cX4_tight 10 = .ok (.istore_n 3, 1) := by decide +kernel
theorem dX4_tight_11 : decode cX4_tight 11 = .ok (.iload_n 3, 1) := by decide +kernel
theorem dX4_tight_12 : decode cX4_tight 12 = .ok (.aload_n 0, 1) := by decide +kernel
theorem dX4_tight_13 : decode cX4_tight 13 = .ok (.getfield 19, 3) := by decide +kernel
theorem dX4_tight_16 : decode cX4_tight 16 = .ok (.getfield 84, 3) := by decide +kernel
theorem dX4_tight_19 : decode cX4_tight 19 = .ok (.if_icmp .gt 30, 3) := by decide +kernel
theorem dX4_tight_22 : decode cX4_tight 22 = .ok (.aload_n 0, 1) := by decide +kernel
theorem dX4_tight_23 : decode cX4_tight 23 = .ok (.iload_n 3, 1) := by decide +kernel
theorem dX4_tight_24 : decode cX4_tight 24 = .ok (.invokevirtual 235, 3) := by decide +kernel
theorem dX4_tight_27 : decode cX4_tight 27 = .ok (.ifCond .ne 6, 3) := by decide +kernel
theorem dX4_tight_30 : decode cX4_tight 30 = .ok (.goto 13, 3) := by decide +kernel
theorem dX4_tight_33 : decode cX4_tight 33 = .ok (.iload_n 2, 1) := by decide +kernel
theorem dX4_tight_34 : decode cX4_tight 34 = .ok (.iload_n 1, 1) := by decide +kernel
theorem dX4_tight_35 : decode cX4_tight 35 = .ok (.if_icmp .ne 5, 3) := by decide +kernel
theorem dX4_tight_38 : decode cX4_tight 38 = .ok (.iload_n 3, 1) := by decide +kernel
theorem dX4_tight_39 : decode cX4_tight 39 = .ok (.ireturn, 1) := by decide +kernel
theorem dX4_tight_40 : decode cX4_tight 40 = .ok (.iinc 2 1, 3) := by decide +kernel
theorem dX4_tight_43 : decode cX4_tight 43 = .ok (.iinc 3 1, 3) := by decide +kernel
theorem dX4_tight_46 : decode cX4_tight 46 = .ok (.goto (-35), 3) := by decide +kernel
theorem dX4_tight_49 : decode cX4_tight 49 = .ok (.iload_n 1, 1) := by decide +kernel
theorem dX4_tight_50 : decode cX4_tight 50 = .ok (.iconst (-1), 1) := by decide +kernel
theorem dX4_tight_51 : decode cX4_tight 51 = .ok (.if_icmp .ne 7, 3) := by decide +kernel
theorem dX4_tight_54 : decode cX4_tight 54 = .ok (.iload_n 2, 1) := by decide +kernel
theorem dX4_tight_55 : decode cX4_tight 55 = .ok (.goto 5, 3) := by decide +kernel
theorem dX4_tight_58 : decode cX4_tight 58 = .ok (.bipush (-4), 2) := by decide +kernel
theorem dX4_tight_60 : decode cX4_tight 60 = .ok (.ireturn, 1) := by decide +kernel
theorem dX4_day_0 : decode cX4_day 0 = .ok (.iload_n 1, 1) := by decide +kernel
theorem dX4_day_1 : decode cX4_day 1 = .ok (.ifCond .lt 21, 3) := by decide +kernel
theorem dX4_day_4 : decode cX4_day 4 = .ok (.iload_n 1, 1) := by decide +kernel
theorem dX4_day_5 : decode cX4_day 5 = .ok (.sipush 9999, 3) := by decide +kernel
theorem dX4_day_8 : decode cX4_day 8 = .ok (.if_icmp .gt 14, 3) := by decide +kernel
theorem dX4_day_11 : decode cX4_day 11 = .ok (.iload_n 2, 1) := by decide +kernel
theorem dX4_day_12 : decode cX4_day 12 = .ok (.iconst 1, 1) := by decide +kernel
theorem dX4_day_13 : decode cX4_day 13 = .ok (.if_icmp .lt 9, 3) := by decide +kernel
theorem dX4_day_16 : decode cX4_day 16 = .ok (.iload_n 2, 1) := by decide +kernel
theorem dX4_day_17 : decode cX4_day 17 = .ok (.bipush 40, 2) := by decide +kernel
theorem dX4_day_19 : decode cX4_day 19 = .ok (.if_icmp .le 5, 3) := by decide +kernel
theorem dX4_day_22 : decode cX4_day 22 = .ok (.iconst (-1), 1) := by decide +kernel
theorem dX4_day_23 : decode cX4_day 23 = .ok (.ireturn, 1) := by decide +kernel
theorem dX4_day_24 : decode cX4_day 24 = .ok (.iload_n 3, 1) := by decide +kernel
theorem dX4_day_25 : decode cX4_day 25 = .ok (.ifCond .lt 8, 3) := by decide +kernel
theorem dX4_day_28 : decode cX4_day 28 = .ok (.iload_n 3, 1) := by decide +kernel
theorem dX4_day_29 : decode cX4_day 29 = .ok (.iconst 2, 1) := by decide +kernel
theorem dX4_day_30 : decode cX4_day 30 = .ok (.if_icmp .le 5, 3) := by decide +kernel
theorem dX4_day_33 : decode cX4_day 33 = .ok (.iconst (-1), 1) := by decide +kernel
theorem dX4_day_34 : decode cX4_day 34 = .ok (.ireturn, 1) := by decide +kernel
theorem dX4_day_35 : decode cX4_day 35 = .ok (.aload_n 0, 1) := by decide +kernel
theorem dX4_day_36 : decode cX4_day 36 = .ok (.getfield 45, 3) := by decide +kernel
theorem dX4_day_39 : decode cX4_day 39 = .ok (.aload_n 0, 1) := by decide +kernel
theorem dX4_day_40 : decode cX4_day 40 = .ok (.getfield 19, 3) := by decide +kernel
theorem dX4_day_43 : decode cX4_day 43 = .ok (.invokevirtual 232, 3) := by decide +kernel
theorem dX4_day_46 : decode cX4_day 46 = .ok (.iconst 0, 1) := by decide +kernel
theorem dX4_day_47 : decode cX4_day 47 = .ok (.istore 4, 2) := by decide +kernel
theorem dX4_day_49 : decode cX4_day 49 = .ok (.iload 4, 2) := by decide +kernel
theorem dX4_day_51 : decode cX4_day 51 = .ok (.iload_n 2, 1) := by decide +kernel
theorem dX4_day_52 : decode cX4_day 52 = .ok (.if_icmp .ge 22, 3) := by decide +kernel
theorem dX4_day_55 : decode cX4_day 55 = .ok (.aload_n 0, 1) := by decide +kernel
theorem dX4_day_56 : decode cX4_day 56 = .ok (.getfield 45, 3) := by decide +kernel
theorem dX4_day_59 : decode cX4_day 59 = .ok (.iload_n 1, 1) := by decide +kernel
theorem dX4_day_60 : decode cX4_day 60 = .ok (.iload 4, 2) := by decide +kernel
theorem dX4_day_62 : decode cX4_day 62 = .ok (.invokestatic 238, 3) := by decide +kernel
theorem dX4_day_65 : decode cX4_day 65 = .ok (.invokevirtual 240, 3) := by decide +kernel
theorem dX4_day_68 : decode cX4_day 68 = .ok (.iinc 4 1, 3) := by decide +kernel
theorem dX4_day_71 : decode cX4_day 71 = .ok (.goto (-22), 3) := by decide +kernel
theorem dX4_day_74 : decode cX4_day 74 = .ok (.aload_n 0, 1) := by decide +kernel
theorem dX4_day_75 : decode cX4_day 75 = .ok (.getfield 48, 3) := by decide +kernel
theorem dX4_day_78 : decode cX4_day 78 = .ok (.aload_n 0, 1) := by decide +kernel
theorem dX4_day_79 : decode cX4_day 79 = .ok (.getfield 45, 3) := by decide +kernel
theorem dX4_day_82 : decode cX4_day 82 = .ok (.invokevirtual 74, 3) := by decide +kernel
theorem dX4_day_85 : decode cX4_day 85 = .ok (.istore 4, 2) := by decide +kernel
theorem dX4_day_87 : decode cX4_day 87 = .ok (.iload_n 3, 1) := by decide +kernel
theorem dX4_day_88 : decode cX4_day 88 = .ok (.lookupswitch 39 #[(0, 28), (1, 36)], 28) := by decide +kernel
theorem dX4_day_116 : decode cX4_day 116 = .ok (.aload_n 0, 1) := by decide +kernel
theorem dX4_day_117 : decode cX4_day 117 = .ok (.getfield 45, 3) := by decide +kernel
theorem dX4_day_120 : decode cX4_day 120 = .ok (.getfield 84, 3) := by decide +kernel
theorem dX4_day_123 : decode cX4_day 123 = .ok (.ireturn, 1) := by decide +kernel
theorem dX4_day_124 : decode cX4_day 124 = .ok (.iload 4, 2) := by decide +kernel
theorem dX4_day_126 : decode cX4_day 126 = .ok (.ireturn, 1) := by decide +kernel
theorem dX4_day_127 : decode cX4_day 127 = .ok (.aload_n 0, 1) := by decide +kernel
theorem dX4_day_128 : decode cX4_day 128 = .ok (.getfield 48, 3) := by decide +kernel
theorem dX4_day_131 : decode cX4_day 131 = .ok (.invokevirtual 243, 3) := by decide +kernel
theorem dX4_day_134 : decode cX4_day 134 = .ok (.ireturn, 1) := by decide +kernel
theorem dX4_keep_0 : decode cX4_keep 0 = .ok (.aload_n 0, 1) := by decide +kernel
theorem dX4_keep_1 : decode cX4_keep 1 = .ok (.getfield 32, 3) := by decide +kernel
theorem dX4_keep_4 : decode cX4_keep 4 = .ok (.invokevirtual 246, 3) := by decide +kernel
theorem dX4_keep_7 : decode cX4_keep 7 = .ok (.ifCond .eq 6, 3) := by decide +kernel
theorem dX4_keep_10 : decode cX4_keep 10 = .ok (.bipush (-3), 2) := by decide +kernel
theorem dX4_keep_12 : decode cX4_keep 12 = .ok (.ireturn, 1) := by decide +kernel
theorem dX4_keep_13 : decode cX4_keep 13 = .ok (.aload_n 0, 1) := by decide +kernel
theorem dX4_keep_14 : decode cX4_keep 14 = .ok (.getfield 32, 3) := by decide +kernel
theorem dX4_keep_17 : decode cX4_keep 17 = .ok (.aload_n 0, 1) := by decide +kernel
theorem dX4_keep_18 : decode cX4_keep 18 = .ok (.getfield 19, 3) := by decide +kernel
theorem dX4_keep_21 : decode cX4_keep 21 = .ok (.invokevirtual 124, 3) := by decide +kernel
theorem dX4_keep_24 : decode cX4_keep 24 = .ok (.aload_n 0, 1) := by decide +kernel
theorem dX4_keep_25 : decode cX4_keep 25 = .ok (.getfield 32, 3) := by decide +kernel
theorem dX4_keep_28 : decode cX4_keep 28 = .ok (.getfield 77, 3) := by decide +kernel
theorem dX4_keep_31 : decode cX4_keep 31 = .ok (.ireturn, 1) := by decide +kernel
theorem dX4_back_0 : decode cX4_back 0 = .ok (.aload_n 0, 1) := by decide +kernel
theorem dX4_back_1 : decode cX4_back 1 = .ok (.getfield 32, 3) := by decide +kernel
theorem dX4_back_4 : decode cX4_back 4 = .ok (.aload_n 0, 1) := by decide +kernel
theorem dX4_back_5 : decode cX4_back 5 = .ok (.getfield 45, 3) := by decide +kernel
theorem dX4_back_8 : decode cX4_back 8 = .ok (.invokevirtual 188, 3) := by decide +kernel
theorem dX4_back_11 : decode cX4_back 11 = .ok (.ifCond .ne 6, 3) := by decide +kernel
theorem dX4_back_14 : decode cX4_back 14 = .ok (.bipush (-2), 2) := by decide +kernel
theorem dX4_back_16 : decode cX4_back 16 = .ok (.ireturn, 1) := by decide +kernel
theorem dX4_back_17 : decode cX4_back 17 = .ok (.aload_n 0, 1) := by decide +kernel
theorem dX4_back_18 : decode cX4_back 18 = .ok (.aload_n 0, 1) := by decide +kernel
theorem dX4_back_19 : decode cX4_back 19 = .ok (.getfield 45, 3) := by decide +kernel
theorem dX4_back_22 : decode cX4_back 22 = .ok (.invokevirtual 80, 3) := by decide +kernel
theorem dX4_back_25 : decode cX4_back 25 = .ok (.aload_n 0, 1) := by decide +kernel
theorem dX4_back_26 : decode cX4_back 26 = .ok (.getfield 32, 3) := by decide +kernel
theorem dX4_back_29 : decode cX4_back 29 = .ok (.getfield 77, 3) := by decide +kernel
theorem dX4_back_32 : decode cX4_back 32 = .ok (.ireturn, 1) := by decide +kernel
theorem dX4_count_0 : decode cX4_count 0 = .ok (.iload_n 1, 1) := by decide +kernel
theorem dX4_count_1 : decode cX4_count 1 = .ok (.tableswitch 159 0 11 #[63, 71, 79, 87, 95, 103, 111, 119, 127, 135, 143, 151], 63) := by decide +kernel
theorem dX4_count_64 : decode cX4_count 64 = .ok (.aload_n 0, 1) := by decide +kernel
theorem dX4_count_65 : decode cX4_count 65 = .ok (.getfield 19, 3) := by decide +kernel
theorem dX4_count_68 : decode cX4_count 68 = .ok (.getfield 84, 3) := by decide +kernel
theorem dX4_count_71 : decode cX4_count 71 = .ok (.ireturn, 1) := by decide +kernel
theorem dX4_count_72 : decode cX4_count 72 = .ok (.aload_n 0, 1) := by decide +kernel
theorem dX4_count_73 : decode cX4_count 73 = .ok (.getfield 19, 3) := by decide +kernel
theorem dX4_count_76 : decode cX4_count 76 = .ok (.getfield 153, 3) := by decide +kernel
theorem dX4_count_79 : decode cX4_count 79 = .ok (.ireturn, 1) := by decide +kernel
theorem dX4_count_80 : decode cX4_count 80 = .ok (.aload_n 0, 1) := by decide +kernel
theorem dX4_count_81 : decode cX4_count 81 = .ok (.getfield 19, 3) := by decide +kernel
theorem dX4_count_84 : decode cX4_count 84 = .ok (.getfield 249, 3) := by decide +kernel
theorem dX4_count_87 : decode cX4_count 87 = .ok (.ireturn, 1) := by decide +kernel
theorem dX4_count_88 : decode cX4_count 88 = .ok (.aload_n 0, 1) := by decide +kernel
theorem dX4_count_89 : decode cX4_count 89 = .ok (.getfield 38, 3) := by decide +kernel
theorem dX4_count_92 : decode cX4_count 92 = .ok (.getfield 252, 3) := by decide +kernel
theorem dX4_count_95 : decode cX4_count 95 = .ok (.ireturn, 1) := by decide +kernel
theorem dX4_count_96 : decode cX4_count 96 = .ok (.aload_n 0, 1) := by decide +kernel
theorem dX4_count_97 : decode cX4_count 97 = .ok (.getfield 38, 3) := by decide +kernel
theorem dX4_count_100 : decode cX4_count 100 = .ok (.invokevirtual 243, 3) := by decide +kernel
theorem dX4_count_103 : decode cX4_count 103 = .ok (.ireturn, 1) := by decide +kernel
theorem dX4_count_104 : decode cX4_count 104 = .ok (.aload_n 0, 1) := by decide +kernel
theorem dX4_count_105 : decode cX4_count 105 = .ok (.getfield 19, 3) := by decide +kernel
theorem dX4_count_108 : decode cX4_count 108 = .ok (.getfield 169, 3) := by decide +kernel
theorem dX4_count_111 : decode cX4_count 111 = .ok (.ireturn, 1) := by decide +kernel
theorem dX4_count_112 : decode cX4_count 112 = .ok (.aload_n 0, 1) := by decide +kernel
theorem dX4_count_113 : decode cX4_count 113 = .ok (.getfield 19, 3) := by decide +kernel
theorem dX4_count_116 : decode cX4_count 116 = .ok (.getfield 172, 3) := by decide +kernel
theorem dX4_count_119 : decode cX4_count 119 = .ok (.ireturn, 1) := by decide +kernel
theorem dX4_count_120 : decode cX4_count 120 = .ok (.aload_n 0, 1) := by decide +kernel
theorem dX4_count_121 : decode cX4_count 121 = .ok (.getfield 19, 3) := by decide +kernel
theorem dX4_count_124 : decode cX4_count 124 = .ok (.getfield 175, 3) := by decide +kernel
theorem dX4_count_127 : decode cX4_count 127 = .ok (.ireturn, 1) := by decide +kernel
theorem dX4_count_128 : decode cX4_count 128 = .ok (.aload_n 0, 1) := by decide +kernel
theorem dX4_count_129 : decode cX4_count 129 = .ok (.getfield 19, 3) := by decide +kernel
theorem dX4_count_132 : decode cX4_count 132 = .ok (.getfield 185, 3) := by decide +kernel
theorem dX4_count_135 : decode cX4_count 135 = .ok (.ireturn, 1) := by decide +kernel
theorem dX4_count_136 : decode cX4_count 136 = .ok (.aload_n 0, 1) := by decide +kernel
theorem dX4_count_137 : decode cX4_count 137 = .ok (.getfield 28, 3) := by decide +kernel
theorem dX4_count_140 : decode cX4_count 140 = .ok (.getfield 77, 3) := by decide +kernel
theorem dX4_count_143 : decode cX4_count 143 = .ok (.ireturn, 1) := by decide +kernel
theorem dX4_count_144 : decode cX4_count 144 = .ok (.aload_n 0, 1) := by decide +kernel
theorem dX4_count_145 : decode cX4_count 145 = .ok (.getfield 32, 3) := by decide +kernel
theorem dX4_count_148 : decode cX4_count 148 = .ok (.getfield 77, 3) := by decide +kernel
theorem dX4_count_151 : decode cX4_count 151 = .ok (.ireturn, 1) := by decide +kernel
theorem dX4_count_152 : decode cX4_count 152 = .ok (.aload_n 0, 1) := by decide +kernel
theorem dX4_count_153 : decode cX4_count 153 = .ok (.getfield 12, 3) := by decide +kernel
theorem dX4_count_156 : decode cX4_count 156 = .ok (.getfield 71, 3) := by decide +kernel
theorem dX4_count_159 : decode cX4_count 159 = .ok (.ireturn, 1) := by decide +kernel
theorem dX4_count_160 : decode cX4_count 160 = .ok (.iconst (-1), 1) := by decide +kernel
theorem dX4_count_161 : decode cX4_count 161 = .ok (.ireturn, 1) := by decide +kernel
theorem dX4_isColumn_0 : decode cX4_isColumn 0 = .ok (.iload_n 0, 1) := by decide +kernel
theorem dX4_isColumn_1 : decode cX4_isColumn 1 = .ok (.ifCond .lt 13, 3) := by decide +kernel
theorem dX4_isColumn_4 : decode cX4_isColumn 4 = .ok (.iload_n 0, 1) := by decide +kernel
theorem dX4_isColumn_5 : decode cX4_isColumn 5 = .ok (.bipush 99, 2) := by decide +kernel
theorem dX4_isColumn_7 : decode cX4_isColumn 7 = .ok (.if_icmp .gt 7, 3) := by decide +kernel
theorem dX4_isColumn_10 : decode cX4_isColumn 10 = .ok (.iconst 1, 1) := by decide +kernel
theorem dX4_isColumn_11 : decode cX4_isColumn 11 = .ok (.goto 4, 3) := by decide +kernel
theorem dX4_isColumn_14 : decode cX4_isColumn 14 = .ok (.iconst 0, 1) := by decide +kernel
theorem dX4_isColumn_15 : decode cX4_isColumn 15 = .ok (.ireturn, 1) := by decide +kernel
theorem dX4_draw_0 : decode cX4_draw 0 = .ok (.ldc2_w 255, 3) := by decide +kernel
theorem dX4_draw_3 : decode cX4_draw 3 = .ok (.iload_n 0, 1) := by decide +kernel
theorem dX4_draw_4 : decode cX4_draw 4 = .ok (.i2l, 1) := by decide +kernel
theorem dX4_draw_5 : decode cX4_draw 5 = .ok (.lmul, 1) := by decide +kernel
theorem dX4_draw_6 : decode cX4_draw 6 = .ok (.ldc2_w 257, 3) := by decide +kernel
theorem dX4_draw_9 : decode cX4_draw 9 = .ok (.iload_n 1, 1) := by decide +kernel
theorem dX4_draw_10 : decode cX4_draw 10 = .ok (.i2l, 1) := by decide +kernel
theorem dX4_draw_11 : decode cX4_draw 11 = .ok (.lmul, 1) := by decide +kernel
theorem dX4_draw_12 : decode cX4_draw 12 = .ok (.ladd, 1) := by decide +kernel
theorem dX4_draw_13 : decode cX4_draw 13 = .ok (.lconst 1, 1) := by decide +kernel
theorem dX4_draw_14 : decode cX4_draw 14 = .ok (.ladd, 1) := by decide +kernel
theorem dX4_draw_15 : decode cX4_draw 15 = .ok (.lstore_n 2, 1) := by decide +kernel
theorem dX4_draw_16 : decode cX4_draw 16 = .ok (.lload_n 2, 1) := by decide +kernel
theorem dX4_draw_17 : decode cX4_draw 17 = .ok (.lload_n 2, 1) := by decide +kernel
theorem dX4_draw_18 : decode cX4_draw 18 = .ok (.lmul, 1) := by decide +kernel
theorem dX4_draw_19 : decode cX4_draw 19 = .ok (.ldc2_w 259, 3) := by decide +kernel
theorem dX4_draw_22 : decode cX4_draw 22 = .ok (.lrem, 1) := by decide +kernel
theorem dX4_draw_23 : decode cX4_draw 23 = .ok (.l2i, 1) := by decide +kernel
theorem dX4_draw_24 : decode cX4_draw 24 = .ok (.ireturn, 1) := by decide +kernel
theorem dX4_startAnew_0 : decode cX4_startAnew 0 = .ok (.aload_n 0, 1) := by decide +kernel
theorem dX4_startAnew_1 : decode cX4_startAnew 1 = .ok (.getfield 19, 3) := by decide +kernel
theorem dX4_startAnew_4 : decode cX4_startAnew 4 = .ok (.aload_n 1, 1) := by decide +kernel
theorem dX4_startAnew_5 : decode cX4_startAnew 5 = .ok (.invokevirtual 232, 3) := by decide +kernel
theorem dX4_startAnew_8 : decode cX4_startAnew 8 = .ok (.aload_n 0, 1) := by decide +kernel
theorem dX4_startAnew_9 : decode cX4_startAnew 9 = .ok (.getfield 28, 3) := by decide +kernel
theorem dX4_startAnew_12 : decode cX4_startAnew 12 = .ok (.iconst 0, 1) := by decide +kernel
theorem dX4_startAnew_13 : decode cX4_startAnew 13 = .ok (.putfield 77, 3) := by decide +kernel
theorem dX4_startAnew_16 : decode cX4_startAnew 16 = .ok (.aload_n 0, 1) := by decide +kernel
theorem dX4_startAnew_17 : decode cX4_startAnew 17 = .ok (.iconst 0, 1) := by decide +kernel
theorem dX4_startAnew_18 : decode cX4_startAnew 18 = .ok (.putfield 261, 3) := by decide +kernel
theorem dX4_startAnew_21 : decode cX4_startAnew 21 = .ok (.aload_n 0, 1) := by decide +kernel
theorem dX4_startAnew_22 : decode cX4_startAnew 22 = .ok (.getfield 38, 3) := by decide +kernel
theorem dX4_startAnew_25 : decode cX4_startAnew 25 = .ok (.aload_n 0, 1) := by decide +kernel
theorem dX4_startAnew_26 : decode cX4_startAnew 26 = .ok (.getfield 19, 3) := by decide +kernel
theorem dX4_startAnew_29 : decode cX4_startAnew 29 = .ok (.invokevirtual 74, 3) := by decide +kernel
theorem dX4_startAnew_32 : decode cX4_startAnew 32 = .ok (.pop, 1) := by decide +kernel
theorem dX4_startAnew_33 : decode cX4_startAnew 33 = .ok (.return_, 1) := by decide +kernel
theorem dX4_redraw_0 : decode cX4_redraw 0 = .ok (.aload_n 0, 1) := by decide +kernel
theorem dX4_redraw_1 : decode cX4_redraw 1 = .ok (.getfield 42, 3) := by decide +kernel
theorem dX4_redraw_4 : decode cX4_redraw 4 = .ok (.astore_n 1, 1) := by decide +kernel
theorem dX4_redraw_5 : decode cX4_redraw 5 = .ok (.aload_n 0, 1) := by decide +kernel
theorem dX4_redraw_6 : decode cX4_redraw 6 = .ok (.aload_n 0, 1) := by decide +kernel
theorem dX4_redraw_7 : decode cX4_redraw 7 = .ok (.getfield 38, 3) := by decide +kernel
theorem dX4_redraw_10 : decode cX4_redraw 10 = .ok (.putfield 42, 3) := by decide +kernel
theorem dX4_redraw_13 : decode cX4_redraw 13 = .ok (.aload_n 0, 1) := by decide +kernel
theorem dX4_redraw_14 : decode cX4_redraw 14 = .ok (.aload_n 1, 1) := by decide +kernel
theorem dX4_redraw_15 : decode cX4_redraw 15 = .ok (.putfield 38, 3) := by decide +kernel
theorem dX4_redraw_18 : decode cX4_redraw 18 = .ok (.aload_n 0, 1) := by decide +kernel
theorem dX4_redraw_19 : decode cX4_redraw 19 = .ok (.getfield 38, 3) := by decide +kernel
theorem dX4_redraw_22 : decode cX4_redraw 22 = .ok (.aload_n 0, 1) := by decide +kernel
theorem dX4_redraw_23 : decode cX4_redraw 23 = .ok (.getfield 19, 3) := by decide +kernel
theorem dX4_redraw_26 : decode cX4_redraw 26 = .ok (.invokevirtual 74, 3) := by decide +kernel
theorem dX4_redraw_29 : decode cX4_redraw 29 = .ok (.pop, 1) := by decide +kernel
theorem dX4_redraw_30 : decode cX4_redraw 30 = .ok (.aload_n 0, 1) := by decide +kernel
theorem dX4_redraw_31 : decode cX4_redraw 31 = .ok (.iconst 1, 1) := by decide +kernel
theorem dX4_redraw_32 : decode cX4_redraw 32 = .ok (.putfield 261, 3) := by decide +kernel
theorem dX4_redraw_35 : decode cX4_redraw 35 = .ok (.return_, 1) := by decide +kernel
theorem dX4_rowOf_0 : decode cX4_rowOf 0 = .ok (.aload_n 0, 1) := by decide +kernel
theorem dX4_rowOf_1 : decode cX4_rowOf 1 = .ok (.getfield 38, 3) := by decide +kernel
theorem dX4_rowOf_4 : decode cX4_rowOf 4 = .ok (.aload_n 0, 1) := by decide +kernel
theorem dX4_rowOf_5 : decode cX4_rowOf 5 = .ok (.getfield 19, 3) := by decide +kernel
theorem dX4_rowOf_8 : decode cX4_rowOf 8 = .ok (.iload_n 1, 1) := by decide +kernel
theorem dX4_rowOf_9 : decode cX4_rowOf 9 = .ok (.invokevirtual 265, 3) := by decide +kernel
theorem dX4_rowOf_12 : decode cX4_rowOf 12 = .ok (.invokevirtual 268, 3) := by decide +kernel
theorem dX4_rowOf_15 : decode cX4_rowOf 15 = .ok (.istore_n 2, 1) := by decide +kernel
theorem dX4_rowOf_16 : decode cX4_rowOf 16 = .ok (.iload_n 2, 1) := by decide +kernel
theorem dX4_rowOf_17 : decode cX4_rowOf 17 = .ok (.ifCond .ge 15, 3) := by decide +kernel
theorem dX4_rowOf_20 : decode cX4_rowOf 20 = .ok (.aload_n 0, 1) := by decide +kernel
theorem dX4_rowOf_21 : decode cX4_rowOf 21 = .ok (.getfield 38, 3) := by decide +kernel
theorem dX4_rowOf_24 : decode cX4_rowOf 24 = .ok (.getfield 252, 3) := by decide +kernel
theorem dX4_rowOf_27 : decode cX4_rowOf 27 = .ok (.iconst 1, 1) := by decide +kernel
theorem dX4_rowOf_28 : decode cX4_rowOf 28 = .ok (.isub, 1) := by decide +kernel
theorem dX4_rowOf_29 : decode cX4_rowOf 29 = .ok (.goto 12, 3) := by decide +kernel
theorem dX4_rowOf_32 : decode cX4_rowOf 32 = .ok (.aload_n 0, 1) := by decide +kernel
theorem dX4_rowOf_33 : decode cX4_rowOf 33 = .ok (.getfield 38, 3) := by decide +kernel
theorem dX4_rowOf_36 : decode cX4_rowOf 36 = .ok (.getfield 271, 3) := by decide +kernel
theorem dX4_rowOf_39 : decode cX4_rowOf 39 = .ok (.iload_n 2, 1) := by decide +kernel
theorem dX4_rowOf_40 : decode cX4_rowOf 40 = .ok (.iaload, 1) := by decide +kernel
theorem dX4_rowOf_41 : decode cX4_rowOf 41 = .ok (.ireturn, 1) := by decide +kernel
theorem dX4_columnOf_0 : decode cX4_columnOf 0 = .ok (.aload_n 0, 1) := by decide +kernel
theorem dX4_columnOf_1 : decode cX4_columnOf 1 = .ok (.getfield 38, 3) := by decide +kernel
theorem dX4_columnOf_4 : decode cX4_columnOf 4 = .ok (.aload_n 0, 1) := by decide +kernel
theorem dX4_columnOf_5 : decode cX4_columnOf 5 = .ok (.getfield 19, 3) := by decide +kernel
theorem dX4_columnOf_8 : decode cX4_columnOf 8 = .ok (.iload_n 1, 1) := by decide +kernel
theorem dX4_columnOf_9 : decode cX4_columnOf 9 = .ok (.invokevirtual 265, 3) := by decide +kernel
theorem dX4_columnOf_12 : decode cX4_columnOf 12 = .ok (.invokevirtual 268, 3) := by decide +kernel
theorem dX4_columnOf_15 : decode cX4_columnOf 15 = .ok (.istore_n 2, 1) := by decide +kernel
theorem dX4_columnOf_16 : decode cX4_columnOf 16 = .ok (.iload_n 2, 1) := by decide +kernel
theorem dX4_columnOf_17 : decode cX4_columnOf 17 = .ok (.ifCond .ge 13, 3) := by decide +kernel
theorem dX4_columnOf_20 : decode cX4_columnOf 20 = .ok (.aload_n 0, 1) := by decide +kernel
theorem dX4_columnOf_21 : decode cX4_columnOf 21 = .ok (.getfield 38, 3) := by decide +kernel
theorem dX4_columnOf_24 : decode cX4_columnOf 24 = .ok (.getfield 274, 3) := by decide +kernel
theorem dX4_columnOf_27 : decode cX4_columnOf 27 = .ok (.goto 12, 3) := by decide +kernel
theorem dX4_columnOf_30 : decode cX4_columnOf 30 = .ok (.aload_n 0, 1) := by decide +kernel
theorem dX4_columnOf_31 : decode cX4_columnOf 31 = .ok (.getfield 38, 3) := by decide +kernel
theorem dX4_columnOf_34 : decode cX4_columnOf 34 = .ok (.getfield 277, 3) := by decide +kernel
theorem dX4_columnOf_37 : decode cX4_columnOf 37 = .ok (.iload_n 2, 1) := by decide +kernel
theorem dX4_columnOf_38 : decode cX4_columnOf 38 = .ok (.iaload, 1) := by decide +kernel
theorem dX4_columnOf_39 : decode cX4_columnOf 39 = .ok (.ireturn, 1) := by decide +kernel
theorem dX4_acrossTo_0 : decode cX4_acrossTo 0 = .ok (.aload_n 0, 1) := by decide +kernel
theorem dX4_acrossTo_1 : decode cX4_acrossTo 1 = .ok (.getfield 38, 3) := by decide +kernel
theorem dX4_acrossTo_4 : decode cX4_acrossTo 4 = .ok (.iload_n 1, 1) := by decide +kernel
theorem dX4_acrossTo_5 : decode cX4_acrossTo 5 = .ok (.invokevirtual 198, 3) := by decide +kernel
theorem dX4_acrossTo_8 : decode cX4_acrossTo 8 = .ok (.ifCond .eq 22, 3) := by decide +kernel
theorem dX4_acrossTo_11 : decode cX4_acrossTo 11 = .ok (.aload_n 0, 1) := by decide +kernel
theorem dX4_acrossTo_12 : decode cX4_acrossTo 12 = .ok (.getfield 38, 3) := by decide +kernel
theorem dX4_acrossTo_15 : decode cX4_acrossTo 15 = .ok (.iload_n 1, 1) := by decide +kernel
theorem dX4_acrossTo_16 : decode cX4_acrossTo 16 = .ok (.iload_n 2, 1) := by decide +kernel
theorem dX4_acrossTo_17 : decode cX4_acrossTo 17 = .ok (.aload_n 0, 1) := by decide +kernel
theorem dX4_acrossTo_18 : decode cX4_acrossTo 18 = .ok (.getfield 19, 3) := by decide +kernel
theorem dX4_acrossTo_21 : decode cX4_acrossTo 21 = .ok (.getfield 84, 3) := by decide +kernel
theorem dX4_acrossTo_24 : decode cX4_acrossTo 24 = .ok (.invokevirtual 204, 3) := by decide +kernel
theorem dX4_acrossTo_27 : decode cX4_acrossTo 27 = .ok (.goto 5, 3) := by decide +kernel
theorem dX4_acrossTo_30 : decode cX4_acrossTo 30 = .ok (.bipush (-4), 2) := by decide +kernel
theorem dX4_acrossTo_32 : decode cX4_acrossTo 32 = .ok (.ireturn, 1) := by decide +kernel
theorem dX4_rowsToCompare_0 : decode cX4_rowsToCompare 0 = .ok (.aload_n 0, 1) := by decide +kernel
theorem dX4_rowsToCompare_1 : decode cX4_rowsToCompare 1 = .ok (.getfield 261, 3) := by decide +kernel
theorem dX4_rowsToCompare_4 : decode cX4_rowsToCompare 4 = .ok (.ifCond .eq 23, 3) := by decide +kernel
theorem dX4_rowsToCompare_7 : decode cX4_rowsToCompare 7 = .ok (.aload_n 0, 1) := by decide +kernel
theorem dX4_rowsToCompare_8 : decode cX4_rowsToCompare 8 = .ok (.getfield 38, 3) := by decide +kernel
theorem dX4_rowsToCompare_11 : decode cX4_rowsToCompare 11 = .ok (.getfield 252, 3) := by decide +kernel
theorem dX4_rowsToCompare_14 : decode cX4_rowsToCompare 14 = .ok (.aload_n 0, 1) := by decide +kernel
theorem dX4_rowsToCompare_15 : decode cX4_rowsToCompare 15 = .ok (.getfield 42, 3) := by decide +kernel
theorem dX4_rowsToCompare_18 : decode cX4_rowsToCompare 18 = .ok (.getfield 252, 3) := by decide +kernel
theorem dX4_rowsToCompare_21 : decode cX4_rowsToCompare 21 = .ok (.invokestatic 280, 3) := by decide +kernel
theorem dX4_rowsToCompare_24 : decode cX4_rowsToCompare 24 = .ok (.goto 4, 3) := by decide +kernel
theorem dX4_rowsToCompare_27 : decode cX4_rowsToCompare 27 = .ok (.iconst 0, 1) := by decide +kernel
theorem dX4_rowsToCompare_28 : decode cX4_rowsToCompare 28 = .ok (.ireturn, 1) := by decide +kernel
theorem dX4_firstChanged_0 : decode cX4_firstChanged 0 = .ok (.aload_n 0, 1) := by decide +kernel
theorem dX4_firstChanged_1 : decode cX4_firstChanged 1 = .ok (.invokevirtual 285, 3) := by decide +kernel
theorem dX4_firstChanged_4 : decode cX4_firstChanged 4 = .ok (.istore_n 1, 1) := by decide +kernel
theorem dX4_firstChanged_5 : decode cX4_firstChanged 5 = .ok (.iconst 0, 1) := by decide +kernel
theorem dX4_firstChanged_6 : decode cX4_firstChanged 6 = .ok (.istore_n 2, 1) := by decide +kernel
theorem dX4_firstChanged_7 : decode cX4_firstChanged 7 = .ok (.iload_n 2, 1) := by decide +kernel
theorem dX4_firstChanged_8 : decode cX4_firstChanged 8 = .ok (.iload_n 1, 1) := by decide +kernel
theorem dX4_firstChanged_9 : decode cX4_firstChanged 9 = .ok (.if_icmp .ge 26, 3) := by decide +kernel
theorem dX4_firstChanged_12 : decode cX4_firstChanged 12 = .ok (.aload_n 0, 1) := by decide +kernel
theorem dX4_firstChanged_13 : decode cX4_firstChanged 13 = .ok (.getfield 38, 3) := by decide +kernel
theorem dX4_firstChanged_16 : decode cX4_firstChanged 16 = .ok (.aload_n 0, 1) := by decide +kernel
theorem dX4_firstChanged_17 : decode cX4_firstChanged 17 = .ok (.getfield 42, 3) := by decide +kernel
theorem dX4_firstChanged_20 : decode cX4_firstChanged 20 = .ok (.iload_n 2, 1) := by decide +kernel
theorem dX4_firstChanged_21 : decode cX4_firstChanged 21 = .ok (.invokevirtual 288, 3) := by decide +kernel
theorem dX4_firstChanged_24 : decode cX4_firstChanged 24 = .ok (.ifCond .ne 5, 3) := by decide +kernel
theorem dX4_firstChanged_27 : decode cX4_firstChanged 27 = .ok (.iload_n 2, 1) := by decide +kernel
theorem dX4_firstChanged_28 : decode cX4_firstChanged 28 = .ok (.ireturn, 1) := by decide +kernel
theorem dX4_firstChanged_29 : decode cX4_firstChanged 29 = .ok (.iinc 2 1, 3) := by decide +kernel
theorem dX4_firstChanged_32 : decode cX4_firstChanged 32 = .ok (.goto (-25), 3) := by decide +kernel
theorem dX4_firstChanged_35 : decode cX4_firstChanged 35 = .ok (.bipush (-4), 2) := by decide +kernel
theorem dX4_firstChanged_37 : decode cX4_firstChanged 37 = .ok (.ireturn, 1) := by decide +kernel
theorem dX4_countChanged_0 : decode cX4_countChanged 0 = .ok (.aload_n 0, 1) := by decide +kernel
theorem dX4_countChanged_1 : decode cX4_countChanged 1 = .ok (.invokevirtual 285, 3) := by decide +kernel
theorem dX4_countChanged_4 : decode cX4_countChanged 4 = .ok (.istore_n 1, 1) := by decide +kernel
theorem dX4_countChanged_5 : decode cX4_countChanged 5 = .ok (.iconst 0, 1) := by decide +kernel
theorem dX4_countChanged_6 : decode cX4_countChanged 6 = .ok (.istore_n 2, 1) := by decide +kernel
theorem dX4_countChanged_7 : decode cX4_countChanged 7 = .ok (.iconst 0, 1) := by decide +kernel
theorem dX4_countChanged_8 : decode cX4_countChanged 8 = .ok (.istore_n 3, 1) := by decide +kernel
theorem dX4_countChanged_9 : decode cX4_countChanged 9 = .ok (.iload_n 3, 1) := by decide +kernel
theorem dX4_countChanged_10 : decode cX4_countChanged 10 = .ok (.iload_n 1, 1) := by decide +kernel
theorem dX4_countChanged_11 : decode cX4_countChanged 11 = .ok (.if_icmp .ge 27, 3) := by decide +kernel
theorem dX4_countChanged_14 : decode cX4_countChanged 14 = .ok (.aload_n 0, 1) := by decide +kernel
theorem dX4_countChanged_15 : decode cX4_countChanged 15 = .ok (.getfield 38, 3) := by decide +kernel
theorem dX4_countChanged_18 : decode cX4_countChanged 18 = .ok (.aload_n 0, 1) := by decide +kernel
theorem dX4_countChanged_19 : decode cX4_countChanged 19 = .ok (.getfield 42, 3) := by decide +kernel
theorem dX4_countChanged_22 : decode cX4_countChanged 22 = .ok (.iload_n 3, 1) := by decide +kernel
theorem dX4_countChanged_23 : decode cX4_countChanged 23 = .ok (.invokevirtual 288, 3) := by decide +kernel
theorem dX4_countChanged_26 : decode cX4_countChanged 26 = .ok (.ifCond .ne 6, 3) := by decide +kernel
theorem dX4_countChanged_29 : decode cX4_countChanged 29 = .ok (.iinc 2 1, 3) := by decide +kernel
theorem dX4_countChanged_32 : decode cX4_countChanged 32 = .ok (.iinc 3 1, 3) := by decide +kernel
theorem dX4_countChanged_35 : decode cX4_countChanged 35 = .ok (.goto (-26), 3) := by decide +kernel
theorem dX4_countChanged_38 : decode cX4_countChanged 38 = .ok (.iload_n 2, 1) := by decide +kernel
theorem dX4_countChanged_39 : decode cX4_countChanged 39 = .ok (.ireturn, 1) := by decide +kernel
theorem dX4_isTight_0 : decode cX4_isTight 0 = .ok (.aload_n 0, 1) := by decide +kernel
theorem dX4_isTight_1 : decode cX4_isTight 1 = .ok (.getfield 19, 3) := by decide +kernel
theorem dX4_isTight_4 : decode cX4_isTight 4 = .ok (.invokevirtual 120, 3) := by decide +kernel
theorem dX4_isTight_7 : decode cX4_isTight 7 = .ok (.ifCond .ne 5, 3) := by decide +kernel
theorem dX4_isTight_10 : decode cX4_isTight 10 = .ok (.iconst 0, 1) := by decide +kernel
theorem dX4_isTight_11 : decode cX4_isTight 11 = .ok (.ireturn, 1) := by decide +kernel
theorem dX4_isTight_12 : decode cX4_isTight 12 = .ok (.aload_n 0, 1) := by decide +kernel
theorem dX4_isTight_13 : decode cX4_isTight 13 = .ok (.getfield 45, 3) := by decide +kernel
theorem dX4_isTight_16 : decode cX4_isTight 16 = .ok (.aload_n 0, 1) := by decide +kernel
theorem dX4_isTight_17 : decode cX4_isTight 17 = .ok (.getfield 19, 3) := by decide +kernel
theorem dX4_isTight_20 : decode cX4_isTight 20 = .ok (.invokevirtual 232, 3) := by decide +kernel
theorem dX4_isTight_23 : decode cX4_isTight 23 = .ok (.aload_n 0, 1) := by decide +kernel
theorem dX4_isTight_24 : decode cX4_isTight 24 = .ok (.getfield 45, 3) := by decide +kernel
theorem dX4_isTight_27 : decode cX4_isTight 27 = .ok (.iload_n 1, 1) := by decide +kernel
theorem dX4_isTight_28 : decode cX4_isTight 28 = .ok (.iconst 0, 1) := by decide +kernel
theorem dX4_isTight_29 : decode cX4_isTight 29 = .ok (.invokevirtual 127, 3) := by decide +kernel
theorem dX4_isTight_32 : decode cX4_isTight 32 = .ok (.aload_n 0, 1) := by decide +kernel
theorem dX4_isTight_33 : decode cX4_isTight 33 = .ok (.getfield 48, 3) := by decide +kernel
theorem dX4_isTight_36 : decode cX4_isTight 36 = .ok (.aload_n 0, 1) := by decide +kernel
theorem dX4_isTight_37 : decode cX4_isTight 37 = .ok (.getfield 45, 3) := by decide +kernel
theorem dX4_isTight_40 : decode cX4_isTight 40 = .ok (.invokevirtual 74, 3) := by decide +kernel
theorem dX4_isTight_43 : decode cX4_isTight 43 = .ok (.aload_n 0, 1) := by decide +kernel
theorem dX4_isTight_44 : decode cX4_isTight 44 = .ok (.getfield 38, 3) := by decide +kernel
theorem dX4_isTight_47 : decode cX4_isTight 47 = .ok (.getfield 252, 3) := by decide +kernel
theorem dX4_isTight_50 : decode cX4_isTight 50 = .ok (.if_icmp .le 7, 3) := by decide +kernel
theorem dX4_isTight_53 : decode cX4_isTight 53 = .ok (.iconst 1, 1) := by decide +kernel
theorem dX4_isTight_54 : decode cX4_isTight 54 = .ok (.goto 4, 3) := by decide +kernel
theorem dX4_isTight_57 : decode cX4_isTight 57 = .ok (.iconst 0, 1) := by decide +kernel
theorem dX4_isTight_58 : decode cX4_isTight 58 = .ok (.ireturn, 1) := by decide +kernel
end
section
theorem dX5_in_0 : decode cX5_in 0 = .ok (.iload_n 0, 1) := by decide +kernel
theorem dX5_in_1 : decode cX5_in 1 = .ok (.iload_n 1, 1) := by decide +kernel
theorem dX5_in_2 : decode cX5_in 2 = .ok (.if_icmp .lt 12, 3) := by decide +kernel
theorem dX5_in_5 : decode cX5_in 5 = .ok (.iload_n 0, 1) := by decide +kernel
theorem dX5_in_6 : decode cX5_in 6 = .ok (.iload_n 2, 1) := by decide +kernel
theorem dX5_in_7 : decode cX5_in 7 = .ok (.if_icmp .gt 7, 3) := by decide +kernel
theorem dX5_in_10 : decode cX5_in 10 = .ok (.iconst 1, 1) := by decide +kernel
theorem dX5_in_11 : decode cX5_in 11 = .ok (.goto 4, 3) := by decide +kernel
theorem dX5_in_14 : decode cX5_in 14 = .ok (.iconst 0, 1) := by decide +kernel
theorem dX5_in_15 : decode cX5_in 15 = .ok (.ireturn, 1) := by decide +kernel
theorem dX5_init_0 : decode cX5_init 0 = .ok (.aload_n 0, 1) := by decide +kernel
theorem dX5_init_1 : decode cX5_init 1 = .ok (.invokespecial 1, 3) := by decide +kernel
theorem dX5_init_4 : decode cX5_init 4 = .ok (.aload_n 0, 1) := by decide +kernel
theorem dX5_init_5 : decode cX5_init 5 = .ok (.bipush 41, 2) := by decide +kernel
theorem dX5_init_7 : decode cX5_init 7 = .ok (.newarray .int, 2) := by decide +kernel
theorem dX5_init_9 : decode cX5_init 9 = .ok (.putfield 7, 3) := by decide +kernel
theorem dX5_init_12 : decode cX5_init 12 = .ok (.aload_n 0, 1) := by decide +kernel
theorem dX5_init_13 : decode cX5_init 13 = .ok (.iconst 5, 1) := by decide +kernel
theorem dX5_init_14 : decode cX5_init 14 = .ok (.newarray .int, 2) := by decide +kernel
theorem dX5_init_16 : decode cX5_init 16 = .ok (.putfield 13, 3) := by decide +kernel
theorem dX5_init_19 : decode cX5_init 19 = .ok (.aload_n 0, 1) := by decide +kernel
theorem dX5_init_20 : decode cX5_init 20 = .ok (.iconst 5, 1) := by decide +kernel
theorem dX5_init_21 : decode cX5_init 21 = .ok (.newarray .int, 2) := by decide +kernel
theorem dX5_init_23 : decode cX5_init 23 = .ok (.putfield 16, 3) := by decide +kernel
theorem dX5_init_26 : decode cX5_init 26 = .ok (.aload_n 0, 1) := by decide +kernel
theorem dX5_init_27 : decode cX5_init 27 = .ok (.iconst 5, 1) := by decide +kernel
theorem dX5_init_28 : decode cX5_init 28 = .ok (.newarray .int, 2) := by decide +kernel
theorem dX5_init_30 : decode cX5_init 30 = .ok (.putfield 19, 3) := by decide +kernel
theorem dX5_init_33 : decode cX5_init 33 = .ok (.aload_n 0, 1) := by decide +kernel
theorem dX5_init_34 : decode cX5_init 34 = .ok (.iconst 5, 1) := by decide +kernel
theorem dX5_init_35 : decode cX5_init 35 = .ok (.newarray .int, 2) := by decide +kernel
theorem dX5_init_37 : decode cX5_init 37 = .ok (.putfield 22, 3) := by decide +kernel
theorem dX5_init_40 : decode cX5_init 40 = .ok (.aload_n 0, 1) := by decide +kernel
theorem dX5_init_41 : decode cX5_init 41 = .ok (.iconst 5, 1) := by decide +kernel
theorem dX5_init_42 : decode cX5_init 42 = .ok (.newarray .int, 2) := by decide +kernel
theorem dX5_init_44 : decode cX5_init 44 = .ok (.putfield 25, 3) := by decide +kernel
theorem dX5_init_47 : decode cX5_init 47 = .ok (.aload_n 0, 1) := by decide +kernel
theorem dX5_init_48 : decode cX5_init 48 = .ok (.iconst 1, 1) := by decide +kernel
theorem dX5_init_49 : decode cX5_init 49 = .ok (.putfield 28, 3) := by decide +kernel
theorem dX5_init_52 : decode cX5_init 52 = .ok (.aload_n 0, 1) := by decide +kernel
theorem dX5_init_53 : decode cX5_init 53 = .ok (.bipush 8, 2) := by decide +kernel
theorem dX5_init_55 : decode cX5_init 55 = .ok (.putfield 32, 3) := by decide +kernel
theorem dX5_init_58 : decode cX5_init 58 = .ok (.aload_n 0, 1) := by decide +kernel
theorem dX5_init_59 : decode cX5_init 59 = .ok (.iconst 4, 1) := by decide +kernel
theorem dX5_init_60 : decode cX5_init 60 = .ok (.putfield 35, 3) := by decide +kernel
theorem dX5_init_63 : decode cX5_init 63 = .ok (.aload_n 0, 1) := by decide +kernel
theorem dX5_init_64 : decode cX5_init 64 = .ok (.bipush 48, 2) := by decide +kernel
theorem dX5_init_66 : decode cX5_init 66 = .ok (.newarray .int, 2) := by decide +kernel
theorem dX5_init_68 : decode cX5_init 68 = .ok (.putfield 38, 3) := by decide +kernel
theorem dX5_init_71 : decode cX5_init 71 = .ok (.aload_n 0, 1) := by decide +kernel
theorem dX5_init_72 : decode cX5_init 72 = .ok (.bipush 48, 2) := by decide +kernel
theorem dX5_init_74 : decode cX5_init 74 = .ok (.newarray .int, 2) := by decide +kernel
theorem dX5_init_76 : decode cX5_init 76 = .ok (.putfield 41, 3) := by decide +kernel
theorem dX5_init_79 : decode cX5_init 79 = .ok (.aload_n 0, 1) := by decide +kernel
theorem dX5_init_80 : decode cX5_init 80 = .ok (.bipush 48, 2) := by decide +kernel
theorem dX5_init_82 : decode cX5_init 82 = .ok (.newarray .int, 2) := by decide +kernel
theorem dX5_init_84 : decode cX5_init 84 = .ok (.putfield 44, 3) := by decide +kernel
theorem dX5_init_87 : decode cX5_init 87 = .ok (.aload_n 0, 1) := by decide +kernel
theorem dX5_init_88 : decode cX5_init 88 = .ok (.bipush 48, 2) := by decide +kernel
theorem dX5_init_90 : decode cX5_init 90 = .ok (.newarray .int, 2) := by decide +kernel
theorem dX5_init_92 : decode cX5_init 92 = .ok (.putfield 47, 3) := by decide +kernel
theorem dX5_init_95 : decode cX5_init 95 = .ok (.aload_n 0, 1) := by decide +kernel
theorem dX5_init_96 : decode cX5_init 96 = .ok (.bipush 48, 2) := by decide +kernel
theorem dX5_init_98 : decode cX5_init 98 = .ok (.newarray .int, 2) := by decide +kernel
theorem dX5_init_100 : decode cX5_init 100 = .ok (.putfield 50, 3) := by decide +kernel
theorem dX5_init_103 : decode cX5_init 103 = .ok (.aload_n 0, 1) := by decide +kernel
theorem dX5_init_104 : decode cX5_init 104 = .ok (.bipush 90, 2) := by decide +kernel
theorem dX5_init_106 : decode cX5_init 106 = .ok (.newarray .int, 2) := by decide +kernel
theorem dX5_init_108 : decode cX5_init 108 = .ok (.putfield 53, 3) := by decide +kernel
theorem dX5_init_111 : decode cX5_init 111 = .ok (.aload_n 0, 1) := by decide +kernel
theorem dX5_init_112 : decode cX5_init 112 = .ok (.bipush 90, 2) := by decide +kernel
theorem dX5_init_114 : decode cX5_init 114 = .ok (.newarray .int, 2) := by decide +kernel
theorem dX5_init_116 : decode cX5_init 116 = .ok (.putfield 56, 3) := by decide +kernel
theorem dX5_init_119 : decode cX5_init 119 = .ok (.aload_n 0, 1) := by decide +kernel
theorem dX5_init_120 : decode cX5_init 120 = .ok (.sipush 544, 3) := by decide +kernel
theorem dX5_init_123 : decode cX5_init 123 = .ok (.newarray .int, 2) := by decide +kernel
theorem dX5_init_125 : decode cX5_init 125 = .ok (.putfield 59, 3) := by decide +kernel
theorem dX5_init_128 : decode cX5_init 128 = .ok (.aload_n 0, 1) := by decide +kernel
theorem dX5_init_129 : decode cX5_init 129 = .ok (.sipush 136, 3) := by decide +kernel
theorem dX5_init_132 : decode cX5_init 132 = .ok (.newarray .int, 2) := by decide +kernel
theorem dX5_init_134 : decode cX5_init 134 = .ok (.putfield 62, 3) := by decide +kernel
theorem dX5_init_137 : decode cX5_init 137 = .ok (.aload_n 0, 1) := by decide +kernel
theorem dX5_init_138 : decode cX5_init 138 = .ok (.bipush 68, 2) := by decide +kernel
theorem dX5_init_140 : decode cX5_init 140 = .ok (.newarray .int, 2) := by decide +kernel
theorem dX5_init_142 : decode cX5_init 142 = .ok (.putfield 65, 3) := by decide +kernel
theorem dX5_init_145 : decode cX5_init 145 = .ok (.aload_n 0, 1) := by decide +kernel
theorem dX5_init_146 : decode cX5_init 146 = .ok (.bipush 48, 2) := by decide +kernel
theorem dX5_init_148 : decode cX5_init 148 = .ok (.newarray .int, 2) := by decide +kernel
theorem dX5_init_150 : decode cX5_init 150 = .ok (.putfield 68, 3) := by decide +kernel
theorem dX5_init_153 : decode cX5_init 153 = .ok (.aload_n 0, 1) := by decide +kernel
theorem dX5_init_154 : decode cX5_init 154 = .ok (.bipush 48, 2) := by decide +kernel
theorem dX5_init_156 : decode cX5_init 156 = .ok (.newarray .int, 2) := by decide +kernel
theorem dX5_init_158 : decode cX5_init 158 = .ok (.putfield 71, 3) := by decide +kernel
theorem dX5_init_161 : decode cX5_init 161 = .ok (.aload_n 0, 1) := by decide +kernel
theorem dX5_init_162 : decode cX5_init 162 = .ok (.bipush 48, 2) := by decide +kernel
theorem dX5_init_164 : decode cX5_init 164 = .ok (.newarray .int, 2) := by decide +kernel
theorem dX5_init_166 : decode cX5_init 166 = .ok (.putfield 74, 3) := by decide +kernel
theorem dX5_init_169 : decode cX5_init 169 = .ok (.aload_n 0, 1) := by decide +kernel
theorem dX5_init_170 : decode cX5_init 170 = .ok (.bipush 48, 2) := by decide +kernel
theorem dX5_init_172 : decode cX5_init 172 = .ok (.newarray .int, 2) := by decide +kernel
theorem dX5_init_174 : decode cX5_init 174 = .ok (.putfield 77, 3) := by decide +kernel
theorem dX5_init_177 : decode cX5_init 177 = .ok (.aload_n 0, 1) := by decide +kernel
theorem dX5_init_178 : decode cX5_init 178 = .ok (.bipush 68, 2) := by decide +kernel
theorem dX5_init_180 : decode cX5_init 180 = .ok (.newarray .int, 2) := by decide +kernel
theorem dX5_init_182 : decode cX5_init 182 = .ok (.putfield 80, 3) := by decide +kernel
theorem dX5_init_185 : decode cX5_init 185 = .ok (.aload_n 0, 1) := by decide +kernel
theorem dX5_init_186 : decode cX5_init 186 = .ok (.sipush 200, 3) := by decide +kernel
theorem dX5_init_189 : decode cX5_init 189 = .ok (.newarray .int, 2) := by decide +kernel
theorem dX5_init_191 : decode cX5_init 191 = .ok (.putfield 83, 3) := by decide +kernel
theorem dX5_init_194 : decode cX5_init 194 = .ok (.aload_n 0, 1) := by decide +kernel
theorem dX5_init_195 : decode cX5_init 195 = .ok (.bipush 68, 2) := by decide +kernel
theorem dX5_init_197 : decode cX5_init 197 = .ok (.newarray .int, 2) := by decide +kernel
theorem dX5_init_199 : decode cX5_init 199 = .ok (.putfield 86, 3) := by decide +kernel
theorem dX5_init_202 : decode cX5_init 202 = .ok (.iconst 0, 1) := by decide +kernel
theorem dX5_init_203 : decode cX5_init 203 = .ok (.istore_n 1, 1) := by decide +kernel
theorem dX5_init_204 : decode cX5_init 204 = .ok (.iload_n 1, 1) := by decide +kernel
theorem dX5_init_205 : decode cX5_init 205 = .ok (.bipush 30, 2) := by decide +kernel
theorem dX5_init_207 : decode cX5_init 207 = .ok (.if_icmp .ge 96, 3) := by decide +kernel
theorem dX5_init_210 : decode cX5_init 210 = .ok (.aload_n 0, 1) := by decide +kernel
theorem dX5_init_211 : decode cX5_init 211 = .ok (.getfield 7, 3) := by decide +kernel
theorem dX5_init_214 : decode cX5_init 214 = .ok (.iload_n 1, 1) := by decide +kernel
theorem dX5_init_215 : decode cX5_init 215 = .ok (.iload_n 1, 1) := by decide +kernel
theorem dX5_init_216 : decode cX5_init 216 = .ok (.iconst 2, 1) := by decide +kernel
theorem dX5_init_217 : decode cX5_init 217 = .ok (.if_icmp .eq 9, 3) := by decide +kernel
theorem dX5_init_220 : decode cX5_init 220 = .ok (.iload_n 1, 1) := by decide +kernel
theorem dX5_init_221 : decode cX5_init 221 = .ok (.bipush 15, 2) := by decide +kernel
theorem dX5_init_223 : decode cX5_init 223 = .ok (.if_icmp .ne 8, 3) := by decide +kernel
theorem dX5_init_226 : decode cX5_init 226 = .ok (.bipush 26, 2) := by decide +kernel
theorem dX5_init_228 : decode cX5_init 228 = .ok (.goto 68, 3) := by decide +kernel
theorem dX5_init_231 : decode cX5_init 231 = .ok (.iload_n 1, 1) := by decide +kernel
theorem dX5_init_232 : decode cX5_init 232 = .ok (.bipush 11, 2) := by decide +kernel
theorem dX5_init_234 : decode cX5_init 234 = .ok (.if_icmp .eq 9, 3) := by decide +kernel
theorem dX5_init_237 : decode cX5_init 237 = .ok (.iload_n 1, 1) := by decide +kernel
theorem dX5_init_238 : decode cX5_init 238 = .ok (.bipush 18, 2) := by decide +kernel
theorem dX5_init_240 : decode cX5_init 240 = .ok (.if_icmp .ne 8, 3) := by decide +kernel
theorem dX5_init_243 : decode cX5_init 243 = .ok (.bipush 27, 2) := by decide +kernel
theorem dX5_init_245 : decode cX5_init 245 = .ok (.goto 51, 3) := by decide +kernel
theorem dX5_init_248 : decode cX5_init 248 = .ok (.iload_n 1, 1) := by decide +kernel
theorem dX5_init_249 : decode cX5_init 249 = .ok (.iconst 2, 1) := by decide +kernel
theorem dX5_init_250 : decode cX5_init 250 = .ok (.if_icmp .ge 7, 3) := by decide +kernel
theorem dX5_init_253 : decode cX5_init 253 = .ok (.iload_n 1, 1) := by decide +kernel
theorem dX5_init_254 : decode cX5_init 254 = .ok (.goto 42, 3) := by decide +kernel
theorem dX5_init_257 : decode cX5_init 257 = .ok (.iload_n 1, 1) := by decide +kernel
theorem dX5_init_258 : decode cX5_init 258 = .ok (.bipush 11, 2) := by decide +kernel
theorem dX5_init_260 : decode cX5_init 260 = .ok (.if_icmp .ge 9, 3) := by decide +kernel
theorem dX5_init_263 : decode cX5_init 263 = .ok (.iload_n 1, 1) := by decide +kernel
theorem dX5_init_264 : decode cX5_init 264 = .ok (.iconst 1, 1) := by decide +kernel
theorem dX5_init_265 : decode cX5_init 265 = .ok (.isub, 1) := by decide +kernel
theorem dX5_init_266 : decode cX5_init 266 = .ok (.goto 30, 3) := by decide +kernel
theorem dX5_init_269 : decode cX5_init 269 = .ok (.iload_n 1, 1) := by decide +kernel
theorem dX5_init_270 : decode cX5_init 270 = .ok (.bipush 15, 2) := by decide +kernel
theorem dX5_init_272 : decode cX5_init 272 = .ok (.if_icmp .ge 9, 3) := by decide +kernel
theorem dX5_init_275 : decode cX5_init 275 = .ok (.iload_n 1, 1) := by decide +kernel
theorem dX5_init_276 : decode cX5_init 276 = .ok (.iconst 2, 1) := by decide +kernel
theorem dX5_init_277 : decode cX5_init 277 = .ok (.isub, 1) := by decide +kernel
theorem dX5_init_278 : decode cX5_init 278 = .ok (.goto 18, 3) := by decide +kernel
theorem dX5_init_281 : decode cX5_init 281 = .ok (.iload_n 1, 1) := by decide +kernel
theorem dX5_init_282 : decode cX5_init 282 = .ok (.bipush 18, 2) := by decide +kernel
theorem dX5_init_284 : decode cX5_init 284 = .ok (.if_icmp .ge 9, 3) := by decide +kernel
theorem dX5_init_287 : decode cX5_init 287 = .ok (.iload_n 1, 1) := by decide +kernel
theorem dX5_init_288 : decode cX5_init 288 = .ok (.iconst 3, 1) := by decide +kernel
theorem dX5_init_289 : decode cX5_init 289 = .ok (.isub, 1) := by decide +kernel
theorem dX5_init_290 : decode cX5_init 290 = .ok (.goto 6, 3) := by decide +kernel
theorem dX5_init_293 : decode cX5_init 293 = .ok (.iload_n 1, 1) := by decide +kernel
theorem dX5_init_294 : decode cX5_init 294 = .ok (.iconst 4, 1) := by decide +kernel
theorem dX5_init_295 : decode cX5_init 295 = .ok (.isub, 1) := by decide +kernel
theorem dX5_init_296 : decode cX5_init 296 = .ok (.iastore, 1) := by decide +kernel
theorem dX5_init_297 : decode cX5_init 297 = .ok (.iinc 1 1, 3) := by decide +kernel
theorem dX5_init_300 : decode cX5_init 300 = .ok (.goto (-96), 3) := by decide +kernel
theorem dX5_init_303 : decode cX5_init 303 = .ok (.aload_n 0, 1) := by decide +kernel
theorem dX5_init_304 : decode cX5_init 304 = .ok (.bipush 30, 2) := by decide +kernel
theorem dX5_init_306 : decode cX5_init 306 = .ok (.putfield 89, 3) := by decide +kernel
theorem dX5_init_309 : decode cX5_init 309 = .ok (.aload_n 0, 1) := by decide +kernel
theorem dX5_init_310 : decode cX5_init 310 = .ok (.bipush 6, 2) := by decide +kernel
theorem dX5_init_312 : decode cX5_init 312 = .ok (.bipush 9, 2) := by decide +kernel
theorem dX5_init_314 : decode cX5_init 314 = .ok (.iconst 1, 1) := by decide +kernel
theorem dX5_init_315 : decode cX5_init 315 = .ok (.invokevirtual 92, 3) := by decide +kernel
theorem dX5_init_318 : decode cX5_init 318 = .ok (.pop, 1) := by decide +kernel
theorem dX5_init_319 : decode cX5_init 319 = .ok (.aload_n 0, 1) := by decide +kernel
theorem dX5_init_320 : decode cX5_init 320 = .ok (.bipush 18, 2) := by decide +kernel
theorem dX5_init_322 : decode cX5_init 322 = .ok (.bipush 21, 2) := by decide +kernel
theorem dX5_init_324 : decode cX5_init 324 = .ok (.iconst 1, 1) := by decide +kernel
theorem dX5_init_325 : decode cX5_init 325 = .ok (.invokevirtual 92, 3) := by decide +kernel
theorem dX5_init_328 : decode cX5_init 328 = .ok (.pop, 1) := by decide +kernel
theorem dX5_init_329 : decode cX5_init 329 = .ok (.aload_n 0, 1) := by decide +kernel
theorem dX5_init_330 : decode cX5_init 330 = .ok (.iconst 3, 1) := by decide +kernel
theorem dX5_init_331 : decode cX5_init 331 = .ok (.iconst 2, 1) := by decide +kernel
theorem dX5_init_332 : decode cX5_init 332 = .ok (.invokevirtual 96, 3) := by decide +kernel
theorem dX5_init_335 : decode cX5_init 335 = .ok (.pop, 1) := by decide +kernel
theorem dX5_init_336 : decode cX5_init 336 = .ok (.aload_n 0, 1) := by decide +kernel
theorem dX5_init_337 : decode cX5_init 337 = .ok (.bipush 11, 2) := by decide +kernel
theorem dX5_init_339 : decode cX5_init 339 = .ok (.iconst 4, 1) := by decide +kernel
theorem dX5_init_340 : decode cX5_init 340 = .ok (.invokevirtual 96, 3) := by decide +kernel
theorem dX5_init_343 : decode cX5_init 343 = .ok (.pop, 1) := by decide +kernel
theorem dX5_init_344 : decode cX5_init 344 = .ok (.aload_n 0, 1) := by decide +kernel
theorem dX5_init_345 : decode cX5_init 345 = .ok (.iconst 2, 1) := by decide +kernel
theorem dX5_init_346 : decode cX5_init 346 = .ok (.putfield 28, 3) := by decide +kernel
theorem dX5_init_349 : decode cX5_init 349 = .ok (.aload_n 0, 1) := by decide +kernel
theorem dX5_init_350 : decode cX5_init 350 = .ok (.bipush 7, 2) := by decide +kernel
theorem dX5_init_352 : decode cX5_init 352 = .ok (.putfield 32, 3) := by decide +kernel
theorem dX5_init_355 : decode cX5_init 355 = .ok (.aload_n 0, 1) := by decide +kernel
theorem dX5_init_356 : decode cX5_init 356 = .ok (.iconst 1, 1) := by decide +kernel
theorem dX5_init_357 : decode cX5_init 357 = .ok (.putfield 100, 3) := by decide +kernel
theorem dX5_init_360 : decode cX5_init 360 = .ok (.aload_n 0, 1) := by decide +kernel
theorem dX5_init_361 : decode cX5_init 361 = .ok (.iconst 3, 1) := by decide +kernel
theorem dX5_init_362 : decode cX5_init 362 = .ok (.putfield 35, 3) := by decide +kernel
theorem dX5_init_365 : decode cX5_init 365 = .ok (.return_, 1) := by decide +kernel
theorem dX5_isPlace_0 : decode cX5_isPlace 0 = .ok (.iload_n 1, 1) := by decide +kernel
theorem dX5_isPlace_1 : decode cX5_isPlace 1 = .ok (.iconst 0, 1) := by decide +kernel
theorem dX5_isPlace_2 : decode cX5_isPlace 2 = .ok (.aload_n 0, 1) := by decide +kernel
theorem dX5_isPlace_3 : decode cX5_isPlace 3 = .ok (.getfield 89, 3) := by decide +kernel
theorem dX5_isPlace_6 : decode cX5_isPlace 6 = .ok (.invokestatic 103, 3) := by decide +kernel
theorem dX5_isPlace_9 : decode cX5_isPlace 9 = .ok (.ireturn, 1) := by decide +kernel
theorem dX5_isSign_0 : decode cX5_isSign 0 = .ok (.iload_n 1, 1) := by decide +kernel
theorem dX5_isSign_1 : decode cX5_isSign 1 = .ok (.iconst 0, 1) := by decide +kernel
theorem dX5_isSign_2 : decode cX5_isSign 2 = .ok (.aload_n 0, 1) := by decide +kernel
theorem dX5_isSign_3 : decode cX5_isSign 3 = .ok (.getfield 89, 3) := by decide +kernel
theorem dX5_isSign_6 : decode cX5_isSign 6 = .ok (.iconst 1, 1) := by decide +kernel
theorem dX5_isSign_7 : decode cX5_isSign 7 = .ok (.isub, 1) := by decide +kernel
theorem dX5_isSign_8 : decode cX5_isSign 8 = .ok (.invokestatic 103, 3) := by decide +kernel
theorem dX5_isSign_11 : decode cX5_isSign 11 = .ok (.ireturn, 1) := by decide +kernel
theorem dX5_isFold_0 : decode cX5_isFold 0 = .ok (.iload_n 1, 1) := by decide +kernel
theorem dX5_isFold_1 : decode cX5_isFold 1 = .ok (.iconst 0, 1) := by decide +kernel
theorem dX5_isFold_2 : decode cX5_isFold 2 = .ok (.aload_n 0, 1) := by decide +kernel
theorem dX5_isFold_3 : decode cX5_isFold 3 = .ok (.getfield 107, 3) := by decide +kernel
theorem dX5_isFold_6 : decode cX5_isFold 6 = .ok (.iconst 1, 1) := by decide +kernel
theorem dX5_isFold_7 : decode cX5_isFold 7 = .ok (.isub, 1) := by decide +kernel
theorem dX5_isFold_8 : decode cX5_isFold 8 = .ok (.invokestatic 103, 3) := by decide +kernel
theorem dX5_isFold_11 : decode cX5_isFold 11 = .ok (.ireturn, 1) := by decide +kernel
theorem dX5_isHint_0 : decode cX5_isHint 0 = .ok (.iload_n 1, 1) := by decide +kernel
theorem dX5_isHint_1 : decode cX5_isHint 1 = .ok (.iconst 0, 1) := by decide +kernel
theorem dX5_isHint_2 : decode cX5_isHint 2 = .ok (.aload_n 0, 1) := by decide +kernel
theorem dX5_isHint_3 : decode cX5_isHint 3 = .ok (.getfield 110, 3) := by decide +kernel
theorem dX5_isHint_6 : decode cX5_isHint 6 = .ok (.iconst 1, 1) := by decide +kernel
theorem dX5_isHint_7 : decode cX5_isHint 7 = .ok (.isub, 1) := by decide +kernel
theorem dX5_isHint_8 : decode cX5_isHint 8 = .ok (.invokestatic 103, 3) := by decide +kernel
theorem dX5_isHint_11 : decode cX5_isHint 11 = .ok (.ireturn, 1) := by decide +kernel
theorem dX5_comesFold_0 : decode cX5_comesFold 0 = .ok (.aload_n 0, 1) := by decide +kernel
theorem dX5_comesFold_1 : decode cX5_comesFold 1 = .ok (.getfield 107, 3) := by decide +kernel
theorem dX5_comesFold_4 : decode cX5_comesFold 4 = .ok (.istore 4, 2) := by decide +kernel
theorem dX5_comesFold_6 : decode cX5_comesFold 6 = .ok (.iload 4, 2) := by decide +kernel
theorem dX5_comesFold_8 : decode cX5_comesFold 8 = .ok (.ifCond .le 70, 3) := by decide +kernel
theorem dX5_comesFold_11 : decode cX5_comesFold 11 = .ok (.aload_n 0, 1) := by decide +kernel
theorem dX5_comesFold_12 : decode cX5_comesFold 12 = .ok (.getfield 13, 3) := by decide +kernel
theorem dX5_comesFold_15 : decode cX5_comesFold 15 = .ok (.iload 4, 2) := by decide +kernel
theorem dX5_comesFold_17 : decode cX5_comesFold 17 = .ok (.iconst 1, 1) := by decide +kernel
theorem dX5_comesFold_18 : decode cX5_comesFold 18 = .ok (.isub, 1) := by decide +kernel
theorem dX5_comesFold_19 : decode cX5_comesFold 19 = .ok (.iaload, 1) := by decide +kernel
theorem dX5_comesFold_20 : decode cX5_comesFold 20 = .ok (.iload_n 1, 1) := by decide +kernel
theorem dX5_comesFold_21 : decode cX5_comesFold 21 = .ok (.if_icmp .le 57, 3) := by decide +kernel
theorem dX5_comesFold_24 : decode cX5_comesFold 24 = .ok (.aload_n 0, 1) := by decide +kernel
theorem dX5_comesFold_25 : decode cX5_comesFold 25 = .ok (.getfield 13, 3) := by decide +kernel
theorem dX5_comesFold_28 : decode cX5_comesFold 28 = .ok (.iload 4, 2) := by decide +kernel
theorem dX5_comesFold_30 : decode cX5_comesFold 30 = .ok (.aload_n 0, 1) := by decide +kernel
theorem dX5_comesFold_31 : decode cX5_comesFold 31 = .ok (.getfield 13, 3) := by decide +kernel
theorem dX5_comesFold_34 : decode cX5_comesFold 34 = .ok (.iload 4, 2) := by decide +kernel
theorem dX5_comesFold_36 : decode cX5_comesFold 36 = .ok (.iconst 1, 1) := by decide +kernel
theorem dX5_comesFold_37 : decode cX5_comesFold 37 = .ok (.isub, 1) := by decide +kernel
theorem dX5_comesFold_38 : decode cX5_comesFold 38 = .ok (.iaload, 1) := by decide +kernel
theorem dX5_comesFold_39 : decode cX5_comesFold 39 = .ok (.iastore, 1) := by decide +kernel
theorem dX5_comesFold_40 : decode cX5_comesFold 40 = .ok (.aload_n 0, 1) := by decide +kernel
theorem dX5_comesFold_41 : decode cX5_comesFold 41 = .ok (.getfield 16, 3) := by decide +kernel
theorem dX5_comesFold_44 : decode cX5_comesFold 44 = .ok (.iload 4, 2) := by decide +kernel
theorem dX5_comesFold_46 : decode cX5_comesFold 46 = .ok (.aload_n 0, 1) := by decide +kernel
theorem dX5_comesFold_47 : decode cX5_comesFold 47 = .ok (.getfield 16, 3) := by decide +kernel
theorem dX5_comesFold_50 : decode cX5_comesFold 50 = .ok (.iload 4, 2) := by decide +kernel
theorem dX5_comesFold_52 : decode cX5_comesFold 52 = .ok (.iconst 1, 1) := by decide +kernel
theorem dX5_comesFold_53 : decode cX5_comesFold 53 = .ok (.isub, 1) := by decide +kernel
theorem dX5_comesFold_54 : decode cX5_comesFold 54 = .ok (.iaload, 1) := by decide +kernel
theorem dX5_comesFold_55 : decode cX5_comesFold 55 = .ok (.iastore, 1) := by decide +kernel
theorem dX5_comesFold_56 : decode cX5_comesFold 56 = .ok (.aload_n 0, 1) := by decide +kernel
theorem dX5_comesFold_57 : decode cX5_comesFold 57 = .ok (.getfield 19, 3) := by decide +kernel
theorem dX5_comesFold_60 : decode cX5_comesFold 60 = .ok (.iload 4, 2) := by decide +kernel
theorem dX5_comesFold_62 : decode cX5_comesFold 62 = .ok (.aload_n 0, 1) := by decide +kernel
theorem dX5_comesFold_63 : decode cX5_comesFold 63 = .ok (.getfield 19, 3) := by decide +kernel
theorem dX5_comesFold_66 : decode cX5_comesFold 66 = .ok (.iload 4, 2) := by decide +kernel
theorem dX5_comesFold_68 : decode cX5_comesFold 68 = .ok (.iconst 1, 1) := by decide +kernel
theorem dX5_comesFold_69 : decode cX5_comesFold 69 = .ok (.isub, 1) := by decide +kernel
theorem dX5_comesFold_70 : decode cX5_comesFold 70 = .ok (.iaload, 1) := by decide +kernel
theorem dX5_comesFold_71 : decode cX5_comesFold 71 = .ok (.iastore, 1) := by decide +kernel
theorem dX5_comesFold_72 : decode cX5_comesFold 72 = .ok (.iinc 4 (-1), 3) := by decide +kernel
theorem dX5_comesFold_75 : decode cX5_comesFold 75 = .ok (.goto (-69), 3) := by decide +kernel
theorem dX5_comesFold_78 : decode cX5_comesFold 78 = .ok (.aload_n 0, 1) := by decide +kernel
theorem dX5_comesFold_79 : decode cX5_comesFold 79 = .ok (.getfield 13, 3) := by decide +kernel
theorem dX5_comesFold_82 : decode cX5_comesFold 82 = .ok (.iload 4, 2) := by decide +kernel
theorem dX5_comesFold_84 : decode cX5_comesFold 84 = .ok (.iload_n 1, 1) := by decide +kernel
theorem dX5_comesFold_85 : decode cX5_comesFold 85 = .ok (.iastore, 1) := by decide +kernel
theorem dX5_comesFold_86 : decode cX5_comesFold 86 = .ok (.aload_n 0, 1) := by decide +kernel
theorem dX5_comesFold_87 : decode cX5_comesFold 87 = .ok (.getfield 16, 3) := by decide +kernel
theorem dX5_comesFold_90 : decode cX5_comesFold 90 = .ok (.iload 4, 2) := by decide +kernel
theorem dX5_comesFold_92 : decode cX5_comesFold 92 = .ok (.iload_n 2, 1) := by decide +kernel
theorem dX5_comesFold_93 : decode cX5_comesFold 93 = .ok (.iastore, 1) := by decide +kernel
theorem dX5_comesFold_94 : decode cX5_comesFold 94 = .ok (.aload_n 0, 1) := by decide +kernel
theorem dX5_comesFold_95 : decode cX5_comesFold 95 = .ok (.getfield 19, 3) := by decide +kernel
theorem dX5_comesFold_98 : decode cX5_comesFold 98 = .ok (.iload 4, 2) := by decide +kernel
theorem dX5_comesFold_100 : decode cX5_comesFold 100 = .ok (.iload_n 3, 1) := by decide +kernel
theorem dX5_comesFold_101 : decode cX5_comesFold 101 = .ok (.iastore, 1) := by decide +kernel
theorem dX5_comesFold_102 : decode cX5_comesFold 102 = .ok (.aload_n 0, 1) := by decide +kernel
theorem dX5_comesFold_103 : decode cX5_comesFold 103 = .ok (.dup, 1) := by decide +kernel
theorem dX5_comesFold_104 : decode cX5_comesFold 104 = .ok (.getfield 107, 3) := by decide +kernel
theorem dX5_comesFold_107 : decode cX5_comesFold 107 = .ok (.iconst 1, 1) := by decide +kernel
theorem dX5_comesFold_108 : decode cX5_comesFold 108 = .ok (.iadd, 1) := by decide +kernel
theorem dX5_comesFold_109 : decode cX5_comesFold 109 = .ok (.putfield 107, 3) := by decide +kernel
theorem dX5_comesFold_112 : decode cX5_comesFold 112 = .ok (.iload 4, 2) := by decide +kernel
theorem dX5_comesFold_114 : decode cX5_comesFold 114 = .ok (.ireturn, 1) := by decide +kernel
theorem dX5_goesFold_0 : decode cX5_goesFold 0 = .ok (.aload_n 0, 1) := by decide +kernel
theorem dX5_goesFold_1 : decode cX5_goesFold 1 = .ok (.dup, 1) := by decide +kernel
theorem dX5_goesFold_2 : decode cX5_goesFold 2 = .ok (.getfield 107, 3) := by decide +kernel
theorem dX5_goesFold_5 : decode cX5_goesFold 5 = .ok (.iconst 1, 1) := by decide +kernel
theorem dX5_goesFold_6 : decode cX5_goesFold 6 = .ok (.isub, 1) := by decide +kernel
theorem dX5_goesFold_7 : decode cX5_goesFold 7 = .ok (.putfield 107, 3) := by decide +kernel
theorem dX5_goesFold_10 : decode cX5_goesFold 10 = .ok (.iload_n 1, 1) := by decide +kernel
theorem dX5_goesFold_11 : decode cX5_goesFold 11 = .ok (.istore_n 2, 1) := by decide +kernel
theorem dX5_goesFold_12 : decode cX5_goesFold 12 = .ok (.iload_n 2, 1) := by decide +kernel
theorem dX5_goesFold_13 : decode cX5_goesFold 13 = .ok (.aload_n 0, 1) := by decide +kernel
theorem dX5_goesFold_14 : decode cX5_goesFold 14 = .ok (.getfield 107, 3) := by decide +kernel
theorem dX5_goesFold_17 : decode cX5_goesFold 17 = .ok (.if_icmp .ge 51, 3) := by decide +kernel
theorem dX5_goesFold_20 : decode cX5_goesFold 20 = .ok (.aload_n 0, 1) := by decide +kernel
theorem dX5_goesFold_21 : decode cX5_goesFold 21 = .ok (.getfield 13, 3) := by decide +kernel
theorem dX5_goesFold_24 : decode cX5_goesFold 24 = .ok (.iload_n 2, 1) := by decide +kernel
theorem dX5_goesFold_25 : decode cX5_goesFold 25 = .ok (.aload_n 0, 1) := by decide +kernel
theorem dX5_goesFold_26 : decode cX5_goesFold 26 = .ok (.getfield 13, 3) := by decide +kernel
theorem dX5_goesFold_29 : decode cX5_goesFold 29 = .ok (.iload_n 2, 1) := by decide +kernel
theorem dX5_goesFold_30 : decode cX5_goesFold 30 = .ok (.iconst 1, 1) := by decide +kernel
theorem dX5_goesFold_31 : decode cX5_goesFold 31 = .ok (.iadd, 1) := by decide +kernel
theorem dX5_goesFold_32 : decode cX5_goesFold 32 = .ok (.iaload, 1) := by decide +kernel
theorem dX5_goesFold_33 : decode cX5_goesFold 33 = .ok (.iastore, 1) := by decide +kernel
theorem dX5_goesFold_34 : decode cX5_goesFold 34 = .ok (.aload_n 0, 1) := by decide +kernel
theorem dX5_goesFold_35 : decode cX5_goesFold 35 = .ok (.getfield 16, 3) := by decide +kernel
theorem dX5_goesFold_38 : decode cX5_goesFold 38 = .ok (.iload_n 2, 1) := by decide +kernel
theorem dX5_goesFold_39 : decode cX5_goesFold 39 = .ok (.aload_n 0, 1) := by decide +kernel
theorem dX5_goesFold_40 : decode cX5_goesFold 40 = .ok (.getfield 16, 3) := by decide +kernel
theorem dX5_goesFold_43 : decode cX5_goesFold 43 = .ok (.iload_n 2, 1) := by decide +kernel
theorem dX5_goesFold_44 : decode cX5_goesFold 44 = .ok (.iconst 1, 1) := by decide +kernel
theorem dX5_goesFold_45 : decode cX5_goesFold 45 = .ok (.iadd, 1) := by decide +kernel
theorem dX5_goesFold_46 : decode cX5_goesFold 46 = .ok (.iaload, 1) := by decide +kernel
theorem dX5_goesFold_47 : decode cX5_goesFold 47 = .ok (.iastore, 1) := by decide +kernel
theorem dX5_goesFold_48 : decode cX5_goesFold 48 = .ok (.aload_n 0, 1) := by decide +kernel
theorem dX5_goesFold_49 : decode cX5_goesFold 49 = .ok (.getfield 19, 3) := by decide +kernel
theorem dX5_goesFold_52 : decode cX5_goesFold 52 = .ok (.iload_n 2, 1) := by decide +kernel
theorem dX5_goesFold_53 : decode cX5_goesFold 53 = .ok (.aload_n 0, 1) := by decide +kernel
theorem dX5_goesFold_54 : decode cX5_goesFold 54 = .ok (.getfield 19, 3) := by decide +kernel
theorem dX5_goesFold_57 : decode cX5_goesFold 57 = .ok (.iload_n 2, 1) := by decide +kernel
theorem dX5_goesFold_58 : decode cX5_goesFold 58 = .ok (.iconst 1, 1) := by decide +kernel
theorem dX5_goesFold_59 : decode cX5_goesFold 59 = .ok (.iadd, 1) := by decide +kernel
theorem dX5_goesFold_60 : decode cX5_goesFold 60 = .ok (.iaload, 1) := by decide +kernel
theorem dX5_goesFold_61 : decode cX5_goesFold 61 = .ok (.iastore, 1) := by decide +kernel
theorem dX5_goesFold_62 : decode cX5_goesFold 62 = .ok (.iinc 2 1, 3) := by decide +kernel
theorem dX5_goesFold_65 : decode cX5_goesFold 65 = .ok (.goto (-53), 3) := by decide +kernel
theorem dX5_goesFold_68 : decode cX5_goesFold 68 = .ok (.return_, 1) := by decide +kernel
theorem dX5_comesHint_0 : decode cX5_comesHint 0 = .ok (.aload_n 0, 1) := by decide +kernel
theorem dX5_comesHint_1 : decode cX5_comesHint 1 = .ok (.getfield 110, 3) := by decide +kernel
theorem dX5_comesHint_4 : decode cX5_comesHint 4 = .ok (.istore_n 3, 1) := by decide +kernel
theorem dX5_comesHint_5 : decode cX5_comesHint 5 = .ok (.iload_n 3, 1) := by decide +kernel
theorem dX5_comesHint_6 : decode cX5_comesHint 6 = .ok (.ifCond .le 49, 3) := by decide +kernel
theorem dX5_comesHint_9 : decode cX5_comesHint 9 = .ok (.aload_n 0, 1) := by decide +kernel
theorem dX5_comesHint_10 : decode cX5_comesHint 10 = .ok (.getfield 22, 3) := by decide +kernel
theorem dX5_comesHint_13 : decode cX5_comesHint 13 = .ok (.iload_n 3, 1) := by decide +kernel
theorem dX5_comesHint_14 : decode cX5_comesHint 14 = .ok (.iconst 1, 1) := by decide +kernel
theorem dX5_comesHint_15 : decode cX5_comesHint 15 = .ok (.isub, 1) := by decide +kernel
theorem dX5_comesHint_16 : decode cX5_comesHint 16 = .ok (.iaload, 1) := by decide +kernel
theorem dX5_comesHint_17 : decode cX5_comesHint 17 = .ok (.iload_n 1, 1) := by decide +kernel
theorem dX5_comesHint_18 : decode cX5_comesHint 18 = .ok (.if_icmp .le 37, 3) := by decide +kernel
theorem dX5_comesHint_21 : decode cX5_comesHint 21 = .ok (.aload_n 0, 1) := by decide +kernel
theorem dX5_comesHint_22 : decode cX5_comesHint 22 = .ok (.getfield 22, 3) := by decide +kernel
theorem dX5_comesHint_25 : decode cX5_comesHint 25 = .ok (.iload_n 3, 1) := by decide +kernel
theorem dX5_comesHint_26 : decode cX5_comesHint 26 = .ok (.aload_n 0, 1) := by decide +kernel
theorem dX5_comesHint_27 : decode cX5_comesHint 27 = .ok (.getfield 22, 3) := by decide +kernel
theorem dX5_comesHint_30 : decode cX5_comesHint 30 = .ok (.iload_n 3, 1) := by decide +kernel
theorem dX5_comesHint_31 : decode cX5_comesHint 31 = .ok (.iconst 1, 1) := by decide +kernel
theorem dX5_comesHint_32 : decode cX5_comesHint 32 = .ok (.isub, 1) := by decide +kernel
theorem dX5_comesHint_33 : decode cX5_comesHint 33 = .ok (.iaload, 1) := by decide +kernel
theorem dX5_comesHint_34 : decode cX5_comesHint 34 = .ok (.iastore, 1) := by decide +kernel
theorem dX5_comesHint_35 : decode cX5_comesHint 35 = .ok (.aload_n 0, 1) := by decide +kernel
theorem dX5_comesHint_36 : decode cX5_comesHint 36 = .ok (.getfield 25, 3) := by decide +kernel
theorem dX5_comesHint_39 : decode cX5_comesHint 39 = .ok (.iload_n 3, 1) := by decide +kernel
theorem dX5_comesHint_40 : decode cX5_comesHint 40 = .ok (.aload_n 0, 1) := by decide +kernel
theorem dX5_comesHint_41 : decode cX5_comesHint 41 = .ok (.getfield 25, 3) := by decide +kernel
theorem dX5_comesHint_44 : decode cX5_comesHint 44 = .ok (.iload_n 3, 1) := by decide +kernel
theorem dX5_comesHint_45 : decode cX5_comesHint 45 = .ok (.iconst 1, 1) := by decide +kernel
theorem dX5_comesHint_46 : decode cX5_comesHint 46 = .ok (.isub, 1) := by decide +kernel
theorem dX5_comesHint_47 : decode cX5_comesHint 47 = .ok (.iaload, 1) := by decide +kernel
theorem dX5_comesHint_48 : decode cX5_comesHint 48 = .ok (.iastore, 1) := by decide +kernel
theorem dX5_comesHint_49 : decode cX5_comesHint 49 = .ok (.iinc 3 (-1), 3) := by decide +kernel
theorem dX5_comesHint_52 : decode cX5_comesHint 52 = .ok (.goto (-47), 3) := by decide +kernel
theorem dX5_comesHint_55 : decode cX5_comesHint 55 = .ok (.aload_n 0, 1) := by decide +kernel
theorem dX5_comesHint_56 : decode cX5_comesHint 56 = .ok (.getfield 22, 3) := by decide +kernel
theorem dX5_comesHint_59 : decode cX5_comesHint 59 = .ok (.iload_n 3, 1) := by decide +kernel
theorem dX5_comesHint_60 : decode cX5_comesHint 60 = .ok (.iload_n 1, 1) := by decide +kernel
theorem dX5_comesHint_61 : decode cX5_comesHint 61 = .ok (.iastore, 1) := by decide +kernel
theorem dX5_comesHint_62 : decode cX5_comesHint 62 = .ok (.aload_n 0, 1) := by decide +kernel
theorem dX5_comesHint_63 : decode cX5_comesHint 63 = .ok (.getfield 25, 3) := by decide +kernel
theorem dX5_comesHint_66 : decode cX5_comesHint 66 = .ok (.iload_n 3, 1) := by decide +kernel
theorem dX5_comesHint_67 : decode cX5_comesHint 67 = .ok (.iload_n 2, 1) := by decide +kernel
theorem dX5_comesHint_68 : decode cX5_comesHint 68 = .ok (.iastore, 1) := by decide +kernel
theorem dX5_comesHint_69 : decode cX5_comesHint 69 = .ok (.aload_n 0, 1) := by decide +kernel
theorem dX5_comesHint_70 : decode cX5_comesHint 70 = .ok (.dup, 1) := by decide +kernel
theorem dX5_comesHint_71 : decode cX5_comesHint 71 = .ok (.getfield 110, 3) := by decide +kernel
theorem dX5_comesHint_74 : decode cX5_comesHint 74 = .ok (.iconst 1, 1) := by decide +kernel
theorem dX5_comesHint_75 : decode cX5_comesHint 75 = .ok (.iadd, 1) := by decide +kernel
theorem dX5_comesHint_76 : decode cX5_comesHint 76 = .ok (.putfield 110, 3) := by decide +kernel
theorem dX5_comesHint_79 : decode cX5_comesHint 79 = .ok (.iload_n 3, 1) := by decide +kernel
theorem dX5_comesHint_80 : decode cX5_comesHint 80 = .ok (.ireturn, 1) := by decide +kernel
theorem dX5_goesHint_0 : decode cX5_goesHint 0 = .ok (.aload_n 0, 1) := by decide +kernel
theorem dX5_goesHint_1 : decode cX5_goesHint 1 = .ok (.dup, 1) := by decide +kernel
theorem dX5_goesHint_2 : decode cX5_goesHint 2 = .ok (.getfield 110, 3) := by decide +kernel
theorem dX5_goesHint_5 : decode cX5_goesHint 5 = .ok (.iconst 1, 1) := by decide +kernel
theorem dX5_goesHint_6 : decode cX5_goesHint 6 = .ok (.isub, 1) := by decide +kernel
theorem dX5_goesHint_7 : decode cX5_goesHint 7 = .ok (.putfield 110, 3) := by decide +kernel
theorem dX5_goesHint_10 : decode cX5_goesHint 10 = .ok (.iload_n 1, 1) := by decide +kernel
theorem dX5_goesHint_11 : decode cX5_goesHint 11 = .ok (.istore_n 2, 1) := by decide +kernel
theorem dX5_goesHint_12 : decode cX5_goesHint 12 = .ok (.iload_n 2, 1) := by decide +kernel
theorem dX5_goesHint_13 : decode cX5_goesHint 13 = .ok (.aload_n 0, 1) := by decide +kernel
theorem dX5_goesHint_14 : decode cX5_goesHint 14 = .ok (.getfield 110, 3) := by decide +kernel
theorem dX5_goesHint_17 : decode cX5_goesHint 17 = .ok (.if_icmp .ge 37, 3) := by decide +kernel
theorem dX5_goesHint_20 : decode cX5_goesHint 20 = .ok (.aload_n 0, 1) := by decide +kernel
theorem dX5_goesHint_21 : decode cX5_goesHint 21 = .ok (.getfield 22, 3) := by decide +kernel
theorem dX5_goesHint_24 : decode cX5_goesHint 24 = .ok (.iload_n 2, 1) := by decide +kernel
theorem dX5_goesHint_25 : decode cX5_goesHint 25 = .ok (.aload_n 0, 1) := by decide +kernel
theorem dX5_goesHint_26 : decode cX5_goesHint 26 = .ok (.getfield 22, 3) := by decide +kernel
theorem dX5_goesHint_29 : decode cX5_goesHint 29 = .ok (.iload_n 2, 1) := by decide +kernel
theorem dX5_goesHint_30 : decode cX5_goesHint 30 = .ok (.iconst 1, 1) := by decide +kernel
theorem dX5_goesHint_31 : decode cX5_goesHint 31 = .ok (.iadd, 1) := by decide +kernel
theorem dX5_goesHint_32 : decode cX5_goesHint 32 = .ok (.iaload, 1) := by decide +kernel
theorem dX5_goesHint_33 : decode cX5_goesHint 33 = .ok (.iastore, 1) := by decide +kernel
theorem dX5_goesHint_34 : decode cX5_goesHint 34 = .ok (.aload_n 0, 1) := by decide +kernel
theorem dX5_goesHint_35 : decode cX5_goesHint 35 = .ok (.getfield 25, 3) := by decide +kernel
theorem dX5_goesHint_38 : decode cX5_goesHint 38 = .ok (.iload_n 2, 1) := by decide +kernel
theorem dX5_goesHint_39 : decode cX5_goesHint 39 = .ok (.aload_n 0, 1) := by decide +kernel
theorem dX5_goesHint_40 : decode cX5_goesHint 40 = .ok (.getfield 25, 3) := by decide +kernel
theorem dX5_goesHint_43 : decode cX5_goesHint 43 = .ok (.iload_n 2, 1) := by decide +kernel
theorem dX5_goesHint_44 : decode cX5_goesHint 44 = .ok (.iconst 1, 1) := by decide +kernel
theorem dX5_goesHint_45 : decode cX5_goesHint 45 = .ok (.iadd, 1) := by decide +kernel
theorem dX5_goesHint_46 : decode cX5_goesHint 46 = .ok (.iaload, 1) := by decide +kernel
theorem dX5_goesHint_47 : decode cX5_goesHint 47 = .ok (.iastore, 1) := by decide +kernel
theorem dX5_goesHint_48 : decode cX5_goesHint 48 = .ok (.iinc 2 1, 3) := by decide +kernel
theorem dX5_goesHint_51 : decode cX5_goesHint 51 = .ok (.goto (-39), 3) := by decide +kernel
theorem dX5_goesHint_54 : decode cX5_goesHint 54 = .ok (.return_, 1) := by decide +kernel
theorem dX5_isApart_0 : decode cX5_isApart 0 = .ok (.iconst 1, 1) := by decide +kernel
theorem dX5_isApart_1 : decode cX5_isApart 1 = .ok (.istore_n 3, 1) := by decide +kernel
theorem dX5_isApart_2 : decode cX5_isApart 2 = .ok (.iconst 0, 1) := by decide +kernel
theorem dX5_isApart_3 : decode cX5_isApart 3 = .ok (.istore 4, 2) := by decide +kernel
theorem dX5_isApart_5 : decode cX5_isApart 5 = .ok (.iload 4, 2) := by decide +kernel
theorem dX5_isApart_7 : decode cX5_isApart 7 = .ok (.aload_n 0, 1) := by decide +kernel
theorem dX5_isApart_8 : decode cX5_isApart 8 = .ok (.getfield 107, 3) := by decide +kernel
theorem dX5_isApart_11 : decode cX5_isApart 11 = .ok (.if_icmp .ge 41, 3) := by decide +kernel
theorem dX5_isApart_14 : decode cX5_isApart 14 = .ok (.iload_n 3, 1) := by decide +kernel
theorem dX5_isApart_15 : decode cX5_isApart 15 = .ok (.ifCond .eq 29, 3) := by decide +kernel
theorem dX5_isApart_18 : decode cX5_isApart 18 = .ok (.iload_n 2, 1) := by decide +kernel
theorem dX5_isApart_19 : decode cX5_isApart 19 = .ok (.aload_n 0, 1) := by decide +kernel
theorem dX5_isApart_20 : decode cX5_isApart 20 = .ok (.getfield 13, 3) := by decide +kernel
theorem dX5_isApart_23 : decode cX5_isApart 23 = .ok (.iload 4, 2) := by decide +kernel
theorem dX5_isApart_25 : decode cX5_isApart 25 = .ok (.iaload, 1) := by decide +kernel
theorem dX5_isApart_26 : decode cX5_isApart 26 = .ok (.if_icmp .le 14, 3) := by decide +kernel
theorem dX5_isApart_29 : decode cX5_isApart 29 = .ok (.iload_n 1, 1) := by decide +kernel
theorem dX5_isApart_30 : decode cX5_isApart 30 = .ok (.aload_n 0, 1) := by decide +kernel
theorem dX5_isApart_31 : decode cX5_isApart 31 = .ok (.getfield 16, 3) := by decide +kernel
theorem dX5_isApart_34 : decode cX5_isApart 34 = .ok (.iload 4, 2) := by decide +kernel
theorem dX5_isApart_36 : decode cX5_isApart 36 = .ok (.iaload, 1) := by decide +kernel
theorem dX5_isApart_37 : decode cX5_isApart 37 = .ok (.if_icmp .lt 7, 3) := by decide +kernel
theorem dX5_isApart_40 : decode cX5_isApart 40 = .ok (.iconst 1, 1) := by decide +kernel
theorem dX5_isApart_41 : decode cX5_isApart 41 = .ok (.goto 4, 3) := by decide +kernel
theorem dX5_isApart_44 : decode cX5_isApart 44 = .ok (.iconst 0, 1) := by decide +kernel
theorem dX5_isApart_45 : decode cX5_isApart 45 = .ok (.istore_n 3, 1) := by decide +kernel
theorem dX5_isApart_46 : decode cX5_isApart 46 = .ok (.iinc 4 1, 3) := by decide +kernel
theorem dX5_isApart_49 : decode cX5_isApart 49 = .ok (.goto (-44), 3) := by decide +kernel
theorem dX5_isApart_52 : decode cX5_isApart 52 = .ok (.iload_n 3, 1) := by decide +kernel
theorem dX5_isApart_53 : decode cX5_isApart 53 = .ok (.ireturn, 1) := by decide +kernel
theorem dX5_hintOf_0 : decode cX5_hintOf 0 = .ok (.bipush (-4), 2) := by decide +kernel
theorem dX5_hintOf_2 : decode cX5_hintOf 2 = .ok (.istore_n 2, 1) := by decide +kernel
theorem dX5_hintOf_3 : decode cX5_hintOf 3 = .ok (.iconst 0, 1) := by decide +kernel
theorem dX5_hintOf_4 : decode cX5_hintOf 4 = .ok (.istore_n 3, 1) := by decide +kernel
theorem dX5_hintOf_5 : decode cX5_hintOf 5 = .ok (.iload_n 3, 1) := by decide +kernel
theorem dX5_hintOf_6 : decode cX5_hintOf 6 = .ok (.aload_n 0, 1) := by decide +kernel
theorem dX5_hintOf_7 : decode cX5_hintOf 7 = .ok (.getfield 110, 3) := by decide +kernel
theorem dX5_hintOf_10 : decode cX5_hintOf 10 = .ok (.if_icmp .ge 25, 3) := by decide +kernel
theorem dX5_hintOf_13 : decode cX5_hintOf 13 = .ok (.aload_n 0, 1) := by decide +kernel
theorem dX5_hintOf_14 : decode cX5_hintOf 14 = .ok (.getfield 22, 3) := by decide +kernel
theorem dX5_hintOf_17 : decode cX5_hintOf 17 = .ok (.iload_n 3, 1) := by decide +kernel
theorem dX5_hintOf_18 : decode cX5_hintOf 18 = .ok (.iaload, 1) := by decide +kernel
theorem dX5_hintOf_19 : decode cX5_hintOf 19 = .ok (.iload_n 1, 1) := by decide +kernel
theorem dX5_hintOf_20 : decode cX5_hintOf 20 = .ok (.if_icmp .ne 7, 3) := by decide +kernel
theorem dX5_hintOf_23 : decode cX5_hintOf 23 = .ok (.iload_n 3, 1) := by decide +kernel
theorem dX5_hintOf_24 : decode cX5_hintOf 24 = .ok (.goto 4, 3) := by decide +kernel
theorem dX5_hintOf_27 : decode cX5_hintOf 27 = .ok (.iload_n 2, 1) := by decide +kernel
theorem dX5_hintOf_28 : decode cX5_hintOf 28 = .ok (.istore_n 2, 1) := by decide +kernel
theorem dX5_hintOf_29 : decode cX5_hintOf 29 = .ok (.iinc 3 1, 3) := by decide +kernel
theorem dX5_hintOf_32 : decode cX5_hintOf 32 = .ok (.goto (-27), 3) := by decide +kernel
theorem dX5_hintOf_35 : decode cX5_hintOf 35 = .ok (.iload_n 2, 1) := by decide +kernel
theorem dX5_hintOf_36 : decode cX5_hintOf 36 = .ok (.ireturn, 1) := by decide +kernel
theorem dX5_shutOf_0 : decode cX5_shutOf 0 = .ok (.bipush (-4), 2) := by decide +kernel
theorem dX5_shutOf_2 : decode cX5_shutOf 2 = .ok (.istore_n 2, 1) := by decide +kernel
theorem dX5_shutOf_3 : decode cX5_shutOf 3 = .ok (.iconst 0, 1) := by decide +kernel
theorem dX5_shutOf_4 : decode cX5_shutOf 4 = .ok (.istore_n 3, 1) := by decide +kernel
theorem dX5_shutOf_5 : decode cX5_shutOf 5 = .ok (.iload_n 3, 1) := by decide +kernel
theorem dX5_shutOf_6 : decode cX5_shutOf 6 = .ok (.aload_n 0, 1) := by decide +kernel
theorem dX5_shutOf_7 : decode cX5_shutOf 7 = .ok (.getfield 107, 3) := by decide +kernel
theorem dX5_shutOf_10 : decode cX5_shutOf 10 = .ok (.if_icmp .ge 46, 3) := by decide +kernel
theorem dX5_shutOf_13 : decode cX5_shutOf 13 = .ok (.aload_n 0, 1) := by decide +kernel
theorem dX5_shutOf_14 : decode cX5_shutOf 14 = .ok (.getfield 19, 3) := by decide +kernel
theorem dX5_shutOf_17 : decode cX5_shutOf 17 = .ok (.iload_n 3, 1) := by decide +kernel
theorem dX5_shutOf_18 : decode cX5_shutOf 18 = .ok (.iaload, 1) := by decide +kernel
theorem dX5_shutOf_19 : decode cX5_shutOf 19 = .ok (.iconst 1, 1) := by decide +kernel
theorem dX5_shutOf_20 : decode cX5_shutOf 20 = .ok (.if_icmp .ne 28, 3) := by decide +kernel
theorem dX5_shutOf_23 : decode cX5_shutOf 23 = .ok (.iload_n 1, 1) := by decide +kernel
theorem dX5_shutOf_24 : decode cX5_shutOf 24 = .ok (.aload_n 0, 1) := by decide +kernel
theorem dX5_shutOf_25 : decode cX5_shutOf 25 = .ok (.getfield 13, 3) := by decide +kernel
theorem dX5_shutOf_28 : decode cX5_shutOf 28 = .ok (.iload_n 3, 1) := by decide +kernel
theorem dX5_shutOf_29 : decode cX5_shutOf 29 = .ok (.iaload, 1) := by decide +kernel
theorem dX5_shutOf_30 : decode cX5_shutOf 30 = .ok (.aload_n 0, 1) := by decide +kernel
theorem dX5_shutOf_31 : decode cX5_shutOf 31 = .ok (.getfield 16, 3) := by decide +kernel
theorem dX5_shutOf_34 : decode cX5_shutOf 34 = .ok (.iload_n 3, 1) := by decide +kernel
theorem dX5_shutOf_35 : decode cX5_shutOf 35 = .ok (.iaload, 1) := by decide +kernel
theorem dX5_shutOf_36 : decode cX5_shutOf 36 = .ok (.iconst 1, 1) := by decide +kernel
theorem dX5_shutOf_37 : decode cX5_shutOf 37 = .ok (.isub, 1) := by decide +kernel
theorem dX5_shutOf_38 : decode cX5_shutOf 38 = .ok (.invokestatic 103, 3) := by decide +kernel
theorem dX5_shutOf_41 : decode cX5_shutOf 41 = .ok (.ifCond .eq 7, 3) := by decide +kernel
theorem dX5_shutOf_44 : decode cX5_shutOf 44 = .ok (.iload_n 3, 1) := by decide +kernel
theorem dX5_shutOf_45 : decode cX5_shutOf 45 = .ok (.goto 4, 3) := by decide +kernel
theorem dX5_shutOf_48 : decode cX5_shutOf 48 = .ok (.iload_n 2, 1) := by decide +kernel
theorem dX5_shutOf_49 : decode cX5_shutOf 49 = .ok (.istore_n 2, 1) := by decide +kernel
theorem dX5_shutOf_50 : decode cX5_shutOf 50 = .ok (.iinc 3 1, 3) := by decide +kernel
theorem dX5_shutOf_53 : decode cX5_shutOf 53 = .ok (.goto (-48), 3) := by decide +kernel
theorem dX5_shutOf_56 : decode cX5_shutOf 56 = .ok (.iload_n 2, 1) := by decide +kernel
theorem dX5_shutOf_57 : decode cX5_shutOf 57 = .ok (.ireturn, 1) := by decide +kernel
theorem dX5_isShown_0 : decode cX5_isShown 0 = .ok (.aload_n 0, 1) := by decide +kernel
theorem dX5_isShown_1 : decode cX5_isShown 1 = .ok (.iload_n 1, 1) := by decide +kernel
theorem dX5_isShown_2 : decode cX5_isShown 2 = .ok (.invokevirtual 113, 3) := by decide +kernel
theorem dX5_isShown_5 : decode cX5_isShown 5 = .ok (.istore_n 2, 1) := by decide +kernel
theorem dX5_isShown_6 : decode cX5_isShown 6 = .ok (.iload_n 2, 1) := by decide +kernel
theorem dX5_isShown_7 : decode cX5_isShown 7 = .ok (.bipush (-4), 2) := by decide +kernel
theorem dX5_isShown_9 : decode cX5_isShown 9 = .ok (.if_icmp .eq 13, 3) := by decide +kernel
theorem dX5_isShown_12 : decode cX5_isShown 12 = .ok (.aload_n 0, 1) := by decide +kernel
theorem dX5_isShown_13 : decode cX5_isShown 13 = .ok (.getfield 13, 3) := by decide +kernel
theorem dX5_isShown_16 : decode cX5_isShown 16 = .ok (.iload_n 2, 1) := by decide +kernel
theorem dX5_isShown_17 : decode cX5_isShown 17 = .ok (.iaload, 1) := by decide +kernel
theorem dX5_isShown_18 : decode cX5_isShown 18 = .ok (.iload_n 1, 1) := by decide +kernel
theorem dX5_isShown_19 : decode cX5_isShown 19 = .ok (.if_icmp .ne 7, 3) := by decide +kernel
theorem dX5_isShown_22 : decode cX5_isShown 22 = .ok (.iconst 1, 1) := by decide +kernel
theorem dX5_isShown_23 : decode cX5_isShown 23 = .ok (.goto 4, 3) := by decide +kernel
theorem dX5_isShown_26 : decode cX5_isShown 26 = .ok (.iconst 0, 1) := by decide +kernel
theorem dX5_isShown_27 : decode cX5_isShown 27 = .ok (.ireturn, 1) := by decide +kernel
theorem dX5_comesPiece_0 : decode cX5_comesPiece 0 = .ok (.aload_n 0, 1) := by decide +kernel
theorem dX5_comesPiece_1 : decode cX5_comesPiece 1 = .ok (.getfield 38, 3) := by decide +kernel
theorem dX5_comesPiece_4 : decode cX5_comesPiece 4 = .ok (.aload_n 0, 1) := by decide +kernel
theorem dX5_comesPiece_5 : decode cX5_comesPiece 5 = .ok (.getfield 117, 3) := by decide +kernel
theorem dX5_comesPiece_8 : decode cX5_comesPiece 8 = .ok (.iload_n 1, 1) := by decide +kernel
theorem dX5_comesPiece_9 : decode cX5_comesPiece 9 = .ok (.iastore, 1) := by decide +kernel
theorem dX5_comesPiece_10 : decode cX5_comesPiece 10 = .ok (.aload_n 0, 1) := by decide +kernel
theorem dX5_comesPiece_11 : decode cX5_comesPiece 11 = .ok (.getfield 41, 3) := by decide +kernel
theorem dX5_comesPiece_14 : decode cX5_comesPiece 14 = .ok (.aload_n 0, 1) := by decide +kernel
theorem dX5_comesPiece_15 : decode cX5_comesPiece 15 = .ok (.getfield 117, 3) := by decide +kernel
theorem dX5_comesPiece_18 : decode cX5_comesPiece 18 = .ok (.iload_n 2, 1) := by decide +kernel
theorem dX5_comesPiece_19 : decode cX5_comesPiece 19 = .ok (.iastore, 1) := by decide +kernel
theorem dX5_comesPiece_20 : decode cX5_comesPiece 20 = .ok (.aload_n 0, 1) := by decide +kernel
theorem dX5_comesPiece_21 : decode cX5_comesPiece 21 = .ok (.getfield 50, 3) := by decide +kernel
theorem dX5_comesPiece_24 : decode cX5_comesPiece 24 = .ok (.aload_n 0, 1) := by decide +kernel
theorem dX5_comesPiece_25 : decode cX5_comesPiece 25 = .ok (.getfield 117, 3) := by decide +kernel
theorem dX5_comesPiece_28 : decode cX5_comesPiece 28 = .ok (.iload_n 3, 1) := by decide +kernel
theorem dX5_comesPiece_29 : decode cX5_comesPiece 29 = .ok (.iastore, 1) := by decide +kernel
theorem dX5_comesPiece_30 : decode cX5_comesPiece 30 = .ok (.aload_n 0, 1) := by decide +kernel
theorem dX5_comesPiece_31 : decode cX5_comesPiece 31 = .ok (.dup, 1) := by decide +kernel
theorem dX5_comesPiece_32 : decode cX5_comesPiece 32 = .ok (.getfield 117, 3) := by decide +kernel
theorem dX5_comesPiece_35 : decode cX5_comesPiece 35 = .ok (.iconst 1, 1) := by decide +kernel
theorem dX5_comesPiece_36 : decode cX5_comesPiece 36 = .ok (.iadd, 1) := by decide +kernel
theorem dX5_comesPiece_37 : decode cX5_comesPiece 37 = .ok (.putfield 117, 3) := by decide +kernel
theorem dX5_comesPiece_40 : decode cX5_comesPiece 40 = .ok (.return_, 1) := by decide +kernel
theorem dX5_setPieces_0 : decode cX5_setPieces 0 = .ok (.aload_n 0, 1) := by decide +kernel
theorem dX5_setPieces_1 : decode cX5_setPieces 1 = .ok (.iconst 0, 1) := by decide +kernel
theorem dX5_setPieces_2 : decode cX5_setPieces 2 = .ok (.putfield 117, 3) := by decide +kernel
theorem dX5_setPieces_5 : decode cX5_setPieces 5 = .ok (.iconst 0, 1) := by decide +kernel
theorem dX5_setPieces_6 : decode cX5_setPieces 6 = .ok (.istore_n 1, 1) := by decide +kernel
theorem dX5_setPieces_7 : decode cX5_setPieces 7 = .ok (.iload_n 1, 1) := by decide +kernel
theorem dX5_setPieces_8 : decode cX5_setPieces 8 = .ok (.aload_n 0, 1) := by decide +kernel
theorem dX5_setPieces_9 : decode cX5_setPieces 9 = .ok (.getfield 89, 3) := by decide +kernel
theorem dX5_setPieces_12 : decode cX5_setPieces 12 = .ok (.if_icmp .gt 105, 3) := by decide +kernel
theorem dX5_setPieces_15 : decode cX5_setPieces 15 = .ok (.aload_n 0, 1) := by decide +kernel
theorem dX5_setPieces_16 : decode cX5_setPieces 16 = .ok (.iload_n 1, 1) := by decide +kernel
theorem dX5_setPieces_17 : decode cX5_setPieces 17 = .ok (.invokevirtual 120, 3) := by decide +kernel
theorem dX5_setPieces_20 : decode cX5_setPieces 20 = .ok (.istore_n 2, 1) := by decide +kernel
theorem dX5_setPieces_21 : decode cX5_setPieces 21 = .ok (.iload_n 2, 1) := by decide +kernel
theorem dX5_setPieces_22 : decode cX5_setPieces 22 = .ok (.bipush (-4), 2) := by decide +kernel
theorem dX5_setPieces_24 : decode cX5_setPieces 24 = .ok (.if_icmp .eq 16, 3) := by decide +kernel
theorem dX5_setPieces_27 : decode cX5_setPieces 27 = .ok (.aload_n 0, 1) := by decide +kernel
theorem dX5_setPieces_28 : decode cX5_setPieces 28 = .ok (.bipush 29, 2) := by decide +kernel
theorem dX5_setPieces_30 : decode cX5_setPieces 30 = .ok (.iload_n 1, 1) := by decide +kernel
theorem dX5_setPieces_31 : decode cX5_setPieces 31 = .ok (.aload_n 0, 1) := by decide +kernel
theorem dX5_setPieces_32 : decode cX5_setPieces 32 = .ok (.getfield 25, 3) := by decide +kernel
theorem dX5_setPieces_35 : decode cX5_setPieces 35 = .ok (.iload_n 2, 1) := by decide +kernel
theorem dX5_setPieces_36 : decode cX5_setPieces 36 = .ok (.iaload, 1) := by decide +kernel
theorem dX5_setPieces_37 : decode cX5_setPieces 37 = .ok (.invokevirtual 123, 3) := by decide +kernel
theorem dX5_setPieces_40 : decode cX5_setPieces 40 = .ok (.aload_n 0, 1) := by decide +kernel
theorem dX5_setPieces_41 : decode cX5_setPieces 41 = .ok (.iload_n 1, 1) := by decide +kernel
theorem dX5_setPieces_42 : decode cX5_setPieces 42 = .ok (.invokevirtual 113, 3) := by decide +kernel
theorem dX5_setPieces_45 : decode cX5_setPieces 45 = .ok (.istore_n 3, 1) := by decide +kernel
theorem dX5_setPieces_46 : decode cX5_setPieces 46 = .ok (.iload_n 1, 1) := by decide +kernel
theorem dX5_setPieces_47 : decode cX5_setPieces 47 = .ok (.aload_n 0, 1) := by decide +kernel
theorem dX5_setPieces_48 : decode cX5_setPieces 48 = .ok (.getfield 89, 3) := by decide +kernel
theorem dX5_setPieces_51 : decode cX5_setPieces 51 = .ok (.if_icmp .ne 9, 3) := by decide +kernel
theorem dX5_setPieces_54 : decode cX5_setPieces 54 = .ok (.iinc 1 1, 3) := by decide +kernel
theorem dX5_setPieces_57 : decode cX5_setPieces 57 = .ok (.goto 57, 3) := by decide +kernel
theorem dX5_setPieces_60 : decode cX5_setPieces 60 = .ok (.iload_n 3, 1) := by decide +kernel
theorem dX5_setPieces_61 : decode cX5_setPieces 61 = .ok (.bipush (-4), 2) := by decide +kernel
theorem dX5_setPieces_63 : decode cX5_setPieces 63 = .ok (.if_icmp .eq 21, 3) := by decide +kernel
theorem dX5_setPieces_66 : decode cX5_setPieces 66 = .ok (.aload_n 0, 1) := by decide +kernel
theorem dX5_setPieces_67 : decode cX5_setPieces 67 = .ok (.bipush 28, 2) := by decide +kernel
theorem dX5_setPieces_69 : decode cX5_setPieces 69 = .ok (.iload_n 1, 1) := by decide +kernel
theorem dX5_setPieces_70 : decode cX5_setPieces 70 = .ok (.iconst 1, 1) := by decide +kernel
theorem dX5_setPieces_71 : decode cX5_setPieces 71 = .ok (.invokevirtual 123, 3) := by decide +kernel
theorem dX5_setPieces_74 : decode cX5_setPieces 74 = .ok (.aload_n 0, 1) := by decide +kernel
theorem dX5_setPieces_75 : decode cX5_setPieces 75 = .ok (.getfield 16, 3) := by decide +kernel
theorem dX5_setPieces_78 : decode cX5_setPieces 78 = .ok (.iload_n 3, 1) := by decide +kernel
theorem dX5_setPieces_79 : decode cX5_setPieces 79 = .ok (.iaload, 1) := by decide +kernel
theorem dX5_setPieces_80 : decode cX5_setPieces 80 = .ok (.istore_n 1, 1) := by decide +kernel
theorem dX5_setPieces_81 : decode cX5_setPieces 81 = .ok (.goto 33, 3) := by decide +kernel
theorem dX5_setPieces_84 : decode cX5_setPieces 84 = .ok (.aload_n 0, 1) := by decide +kernel
theorem dX5_setPieces_85 : decode cX5_setPieces 85 = .ok (.aload_n 0, 1) := by decide +kernel
theorem dX5_setPieces_86 : decode cX5_setPieces 86 = .ok (.getfield 7, 3) := by decide +kernel
theorem dX5_setPieces_89 : decode cX5_setPieces 89 = .ok (.iload_n 1, 1) := by decide +kernel
theorem dX5_setPieces_90 : decode cX5_setPieces 90 = .ok (.iaload, 1) := by decide +kernel
theorem dX5_setPieces_91 : decode cX5_setPieces 91 = .ok (.iload_n 1, 1) := by decide +kernel
theorem dX5_setPieces_92 : decode cX5_setPieces 92 = .ok (.aload_n 0, 1) := by decide +kernel
theorem dX5_setPieces_93 : decode cX5_setPieces 93 = .ok (.getfield 7, 3) := by decide +kernel
theorem dX5_setPieces_96 : decode cX5_setPieces 96 = .ok (.iload_n 1, 1) := by decide +kernel
theorem dX5_setPieces_97 : decode cX5_setPieces 97 = .ok (.iaload, 1) := by decide +kernel
theorem dX5_setPieces_98 : decode cX5_setPieces 98 = .ok (.bipush 27, 2) := by decide +kernel
theorem dX5_setPieces_100 : decode cX5_setPieces 100 = .ok (.if_icmp .ne 7, 3) := by decide +kernel
theorem dX5_setPieces_103 : decode cX5_setPieces 103 = .ok (.iconst 0, 1) := by decide +kernel
theorem dX5_setPieces_104 : decode cX5_setPieces 104 = .ok (.goto 4, 3) := by decide +kernel
theorem dX5_setPieces_107 : decode cX5_setPieces 107 = .ok (.iconst 1, 1) := by decide +kernel
theorem dX5_setPieces_108 : decode cX5_setPieces 108 = .ok (.invokevirtual 123, 3) := by decide +kernel
theorem dX5_setPieces_111 : decode cX5_setPieces 111 = .ok (.iinc 1 1, 3) := by decide +kernel
theorem dX5_setPieces_114 : decode cX5_setPieces 114 = .ok (.goto (-107), 3) := by decide +kernel
theorem dX5_setPieces_117 : decode cX5_setPieces 117 = .ok (.return_, 1) := by decide +kernel
theorem dX5_isWord_0 : decode cX5_isWord 0 = .ok (.aload_n 0, 1) := by decide +kernel
theorem dX5_isWord_1 : decode cX5_isWord 1 = .ok (.getfield 38, 3) := by decide +kernel
theorem dX5_isWord_4 : decode cX5_isWord 4 = .ok (.iload_n 1, 1) := by decide +kernel
theorem dX5_isWord_5 : decode cX5_isWord 5 = .ok (.iaload, 1) := by decide +kernel
theorem dX5_isWord_6 : decode cX5_isWord 6 = .ok (.bipush 26, 2) := by decide +kernel
theorem dX5_isWord_8 : decode cX5_isWord 8 = .ok (.if_icmp .eq 18, 3) := by decide +kernel
theorem dX5_isWord_11 : decode cX5_isWord 11 = .ok (.aload_n 0, 1) := by decide +kernel
theorem dX5_isWord_12 : decode cX5_isWord 12 = .ok (.getfield 38, 3) := by decide +kernel
theorem dX5_isWord_15 : decode cX5_isWord 15 = .ok (.iload_n 1, 1) := by decide +kernel
theorem dX5_isWord_16 : decode cX5_isWord 16 = .ok (.iaload, 1) := by decide +kernel
theorem dX5_isWord_17 : decode cX5_isWord 17 = .ok (.bipush 27, 2) := by decide +kernel
theorem dX5_isWord_19 : decode cX5_isWord 19 = .ok (.if_icmp .eq 7, 3) := by decide +kernel
theorem dX5_isWord_22 : decode cX5_isWord 22 = .ok (.iconst 1, 1) := by decide +kernel
theorem dX5_isWord_23 : decode cX5_isWord 23 = .ok (.goto 4, 3) := by decide +kernel
theorem dX5_isWord_26 : decode cX5_isWord 26 = .ok (.iconst 0, 1) := by decide +kernel
theorem dX5_isWord_27 : decode cX5_isWord 27 = .ok (.ireturn, 1) := by decide +kernel
theorem dX5_wordFrom_0 : decode cX5_wordFrom 0 = .ok (.iconst 0, 1) := by decide +kernel
theorem dX5_wordFrom_1 : decode cX5_wordFrom 1 = .ok (.istore_n 2, 1) := by decide +kernel
theorem dX5_wordFrom_2 : decode cX5_wordFrom 2 = .ok (.iload_n 1, 1) := by decide +kernel
theorem dX5_wordFrom_3 : decode cX5_wordFrom 3 = .ok (.istore_n 3, 1) := by decide +kernel
theorem dX5_wordFrom_4 : decode cX5_wordFrom 4 = .ok (.iload_n 3, 1) := by decide +kernel
theorem dX5_wordFrom_5 : decode cX5_wordFrom 5 = .ok (.aload_n 0, 1) := by decide +kernel
theorem dX5_wordFrom_6 : decode cX5_wordFrom 6 = .ok (.getfield 117, 3) := by decide +kernel
theorem dX5_wordFrom_9 : decode cX5_wordFrom 9 = .ok (.if_icmp .ge 26, 3) := by decide +kernel
theorem dX5_wordFrom_12 : decode cX5_wordFrom 12 = .ok (.aload_n 0, 1) := by decide +kernel
theorem dX5_wordFrom_13 : decode cX5_wordFrom 13 = .ok (.iload_n 3, 1) := by decide +kernel
theorem dX5_wordFrom_14 : decode cX5_wordFrom 14 = .ok (.invokevirtual 127, 3) := by decide +kernel
theorem dX5_wordFrom_17 : decode cX5_wordFrom 17 = .ok (.ifCond .eq 18, 3) := by decide +kernel
theorem dX5_wordFrom_20 : decode cX5_wordFrom 20 = .ok (.iload_n 2, 1) := by decide +kernel
theorem dX5_wordFrom_21 : decode cX5_wordFrom 21 = .ok (.aload_n 0, 1) := by decide +kernel
theorem dX5_wordFrom_22 : decode cX5_wordFrom 22 = .ok (.getfield 50, 3) := by decide +kernel
theorem dX5_wordFrom_25 : decode cX5_wordFrom 25 = .ok (.iload_n 3, 1) := by decide +kernel
theorem dX5_wordFrom_26 : decode cX5_wordFrom 26 = .ok (.iaload, 1) := by decide +kernel
theorem dX5_wordFrom_27 : decode cX5_wordFrom 27 = .ok (.iadd, 1) := by decide +kernel
theorem dX5_wordFrom_28 : decode cX5_wordFrom 28 = .ok (.istore_n 2, 1) := by decide +kernel
theorem dX5_wordFrom_29 : decode cX5_wordFrom 29 = .ok (.iinc 3 1, 3) := by decide +kernel
theorem dX5_wordFrom_32 : decode cX5_wordFrom 32 = .ok (.goto (-28), 3) := by decide +kernel
theorem dX5_wordFrom_35 : decode cX5_wordFrom 35 = .ok (.iload_n 2, 1) := by decide +kernel
theorem dX5_wordFrom_36 : decode cX5_wordFrom 36 = .ok (.ireturn, 1) := by decide +kernel
theorem dX5_goesOn_0 : decode cX5_goesOn 0 = .ok (.aload_n 0, 1) := by decide +kernel
theorem dX5_goesOn_1 : decode cX5_goesOn 1 = .ok (.getfield 28, 3) := by decide +kernel
theorem dX5_goesOn_4 : decode cX5_goesOn 4 = .ok (.ifCond .eq 14, 3) := by decide +kernel
theorem dX5_goesOn_7 : decode cX5_goesOn 7 = .ok (.aload_n 0, 1) := by decide +kernel
theorem dX5_goesOn_8 : decode cX5_goesOn 8 = .ok (.getfield 38, 3) := by decide +kernel
theorem dX5_goesOn_11 : decode cX5_goesOn 11 = .ok (.iload_n 1, 1) := by decide +kernel
theorem dX5_goesOn_12 : decode cX5_goesOn 12 = .ok (.iaload, 1) := by decide +kernel
theorem dX5_goesOn_13 : decode cX5_goesOn 13 = .ok (.bipush 27, 2) := by decide +kernel
theorem dX5_goesOn_15 : decode cX5_goesOn 15 = .ok (.if_icmp .ne 5, 3) := by decide +kernel
theorem dX5_goesOn_18 : decode cX5_goesOn 18 = .ok (.iconst 0, 1) := by decide +kernel
theorem dX5_goesOn_19 : decode cX5_goesOn 19 = .ok (.ireturn, 1) := by decide +kernel
theorem dX5_goesOn_20 : decode cX5_goesOn 20 = .ok (.iload_n 2, 1) := by decide +kernel
theorem dX5_goesOn_21 : decode cX5_goesOn 21 = .ok (.aload_n 0, 1) := by decide +kernel
theorem dX5_goesOn_22 : decode cX5_goesOn 22 = .ok (.getfield 50, 3) := by decide +kernel
theorem dX5_goesOn_25 : decode cX5_goesOn 25 = .ok (.iload_n 1, 1) := by decide +kernel
theorem dX5_goesOn_26 : decode cX5_goesOn 26 = .ok (.iaload, 1) := by decide +kernel
theorem dX5_goesOn_27 : decode cX5_goesOn 27 = .ok (.iadd, 1) := by decide +kernel
theorem dX5_goesOn_28 : decode cX5_goesOn 28 = .ok (.aload_n 0, 1) := by decide +kernel
theorem dX5_goesOn_29 : decode cX5_goesOn 29 = .ok (.getfield 32, 3) := by decide +kernel
theorem dX5_goesOn_32 : decode cX5_goesOn 32 = .ok (.if_icmp .le 5, 3) := by decide +kernel
theorem dX5_goesOn_35 : decode cX5_goesOn 35 = .ok (.iconst 1, 1) := by decide +kernel
theorem dX5_goesOn_36 : decode cX5_goesOn 36 = .ok (.ireturn, 1) := by decide +kernel
theorem dX5_goesOn_37 : decode cX5_goesOn 37 = .ok (.aload_n 0, 1) := by decide +kernel
theorem dX5_goesOn_38 : decode cX5_goesOn 38 = .ok (.iload_n 1, 1) := by decide +kernel
theorem dX5_goesOn_39 : decode cX5_goesOn 39 = .ok (.invokevirtual 127, 3) := by decide +kernel
theorem dX5_goesOn_42 : decode cX5_goesOn 42 = .ok (.ifCond .eq 21, 3) := by decide +kernel
theorem dX5_goesOn_45 : decode cX5_goesOn 45 = .ok (.iload_n 1, 1) := by decide +kernel
theorem dX5_goesOn_46 : decode cX5_goesOn 46 = .ok (.ifCond .eq 13, 3) := by decide +kernel
theorem dX5_goesOn_49 : decode cX5_goesOn 49 = .ok (.aload_n 0, 1) := by decide +kernel
theorem dX5_goesOn_50 : decode cX5_goesOn 50 = .ok (.iload_n 1, 1) := by decide +kernel
theorem dX5_goesOn_51 : decode cX5_goesOn 51 = .ok (.iconst 1, 1) := by decide +kernel
theorem dX5_goesOn_52 : decode cX5_goesOn 52 = .ok (.isub, 1) := by decide +kernel
theorem dX5_goesOn_53 : decode cX5_goesOn 53 = .ok (.invokevirtual 127, 3) := by decide +kernel
theorem dX5_goesOn_56 : decode cX5_goesOn 56 = .ok (.ifCond .ne 7, 3) := by decide +kernel
theorem dX5_goesOn_59 : decode cX5_goesOn 59 = .ok (.iconst 1, 1) := by decide +kernel
theorem dX5_goesOn_60 : decode cX5_goesOn 60 = .ok (.goto 4, 3) := by decide +kernel
theorem dX5_goesOn_63 : decode cX5_goesOn 63 = .ok (.iconst 0, 1) := by decide +kernel
theorem dX5_goesOn_64 : decode cX5_goesOn 64 = .ok (.istore_n 3, 1) := by decide +kernel
theorem dX5_goesOn_65 : decode cX5_goesOn 65 = .ok (.aload_n 0, 1) := by decide +kernel
theorem dX5_goesOn_66 : decode cX5_goesOn 66 = .ok (.getfield 28, 3) := by decide +kernel
theorem dX5_goesOn_69 : decode cX5_goesOn 69 = .ok (.iconst 1, 1) := by decide +kernel
theorem dX5_goesOn_70 : decode cX5_goesOn 70 = .ok (.if_icmp .eq 7, 3) := by decide +kernel
theorem dX5_goesOn_73 : decode cX5_goesOn 73 = .ok (.iload_n 3, 1) := by decide +kernel
theorem dX5_goesOn_74 : decode cX5_goesOn 74 = .ok (.ifCond .ne 5, 3) := by decide +kernel
theorem dX5_goesOn_77 : decode cX5_goesOn 77 = .ok (.iconst 0, 1) := by decide +kernel
theorem dX5_goesOn_78 : decode cX5_goesOn 78 = .ok (.ireturn, 1) := by decide +kernel
theorem dX5_goesOn_79 : decode cX5_goesOn 79 = .ok (.aload_n 0, 1) := by decide +kernel
theorem dX5_goesOn_80 : decode cX5_goesOn 80 = .ok (.iload_n 1, 1) := by decide +kernel
theorem dX5_goesOn_81 : decode cX5_goesOn 81 = .ok (.invokevirtual 131, 3) := by decide +kernel
theorem dX5_goesOn_84 : decode cX5_goesOn 84 = .ok (.istore 4, 2) := by decide +kernel
theorem dX5_goesOn_86 : decode cX5_goesOn 86 = .ok (.iload_n 2, 1) := by decide +kernel
theorem dX5_goesOn_87 : decode cX5_goesOn 87 = .ok (.iload 4, 2) := by decide +kernel
theorem dX5_goesOn_89 : decode cX5_goesOn 89 = .ok (.iadd, 1) := by decide +kernel
theorem dX5_goesOn_90 : decode cX5_goesOn 90 = .ok (.aload_n 0, 1) := by decide +kernel
theorem dX5_goesOn_91 : decode cX5_goesOn 91 = .ok (.getfield 32, 3) := by decide +kernel
theorem dX5_goesOn_94 : decode cX5_goesOn 94 = .ok (.if_icmp .le 21, 3) := by decide +kernel
theorem dX5_goesOn_97 : decode cX5_goesOn 97 = .ok (.iload 4, 2) := by decide +kernel
theorem dX5_goesOn_99 : decode cX5_goesOn 99 = .ok (.aload_n 0, 1) := by decide +kernel
theorem dX5_goesOn_100 : decode cX5_goesOn 100 = .ok (.getfield 32, 3) := by decide +kernel
theorem dX5_goesOn_103 : decode cX5_goesOn 103 = .ok (.aload_n 0, 1) := by decide +kernel
theorem dX5_goesOn_104 : decode cX5_goesOn 104 = .ok (.getfield 100, 3) := by decide +kernel
theorem dX5_goesOn_107 : decode cX5_goesOn 107 = .ok (.isub, 1) := by decide +kernel
theorem dX5_goesOn_108 : decode cX5_goesOn 108 = .ok (.if_icmp .gt 7, 3) := by decide +kernel
theorem dX5_goesOn_111 : decode cX5_goesOn 111 = .ok (.iconst 1, 1) := by decide +kernel
theorem dX5_goesOn_112 : decode cX5_goesOn 112 = .ok (.goto 4, 3) := by decide +kernel
theorem dX5_goesOn_115 : decode cX5_goesOn 115 = .ok (.iconst 0, 1) := by decide +kernel
theorem dX5_goesOn_116 : decode cX5_goesOn 116 = .ok (.ireturn, 1) := by decide +kernel
theorem dX5_toStop_0 : decode cX5_toStop 0 = .ok (.aload_n 0, 1) := by decide +kernel
theorem dX5_toStop_1 : decode cX5_toStop 1 = .ok (.getfield 35, 3) := by decide +kernel
theorem dX5_toStop_4 : decode cX5_toStop 4 = .ok (.iload_n 1, 1) := by decide +kernel
theorem dX5_toStop_5 : decode cX5_toStop 5 = .ok (.aload_n 0, 1) := by decide +kernel
theorem dX5_toStop_6 : decode cX5_toStop 6 = .ok (.getfield 35, 3) := by decide +kernel
theorem dX5_toStop_9 : decode cX5_toStop 9 = .ok (.irem, 1) := by decide +kernel
theorem dX5_toStop_10 : decode cX5_toStop 10 = .ok (.isub, 1) := by decide +kernel
theorem dX5_toStop_11 : decode cX5_toStop 11 = .ok (.ireturn, 1) := by decide +kernel
theorem dX5_setScreen_0 : decode cX5_setScreen 0 = .ok (.aload_n 0, 1) := by decide +kernel
theorem dX5_setScreen_1 : decode cX5_setScreen 1 = .ok (.invokevirtual 134, 3) := by decide +kernel
theorem dX5_setScreen_4 : decode cX5_setScreen 4 = .ok (.iconst 0, 1) := by decide +kernel
theorem dX5_setScreen_5 : decode cX5_setScreen 5 = .ok (.istore_n 1, 1) := by decide +kernel
theorem dX5_setScreen_6 : decode cX5_setScreen 6 = .ok (.iconst 0, 1) := by decide +kernel
theorem dX5_setScreen_7 : decode cX5_setScreen 7 = .ok (.istore_n 2, 1) := by decide +kernel
theorem dX5_setScreen_8 : decode cX5_setScreen 8 = .ok (.iconst 0, 1) := by decide +kernel
theorem dX5_setScreen_9 : decode cX5_setScreen 9 = .ok (.istore_n 3, 1) := by decide +kernel
theorem dX5_setScreen_10 : decode cX5_setScreen 10 = .ok (.aload_n 0, 1) := by decide +kernel
theorem dX5_setScreen_11 : decode cX5_setScreen 11 = .ok (.getfield 56, 3) := by decide +kernel
theorem dX5_setScreen_14 : decode cX5_setScreen 14 = .ok (.iconst 0, 1) := by decide +kernel
theorem dX5_setScreen_15 : decode cX5_setScreen 15 = .ok (.iconst 1, 1) := by decide +kernel
theorem dX5_setScreen_16 : decode cX5_setScreen 16 = .ok (.iastore, 1) := by decide +kernel
theorem dX5_setScreen_17 : decode cX5_setScreen 17 = .ok (.iconst 0, 1) := by decide +kernel
theorem dX5_setScreen_18 : decode cX5_setScreen 18 = .ok (.istore 4, 2) := by decide +kernel
theorem dX5_setScreen_20 : decode cX5_setScreen 20 = .ok (.iload 4, 2) := by decide +kernel
theorem dX5_setScreen_22 : decode cX5_setScreen 22 = .ok (.aload_n 0, 1) := by decide +kernel
theorem dX5_setScreen_23 : decode cX5_setScreen 23 = .ok (.getfield 117, 3) := by decide +kernel
theorem dX5_setScreen_26 : decode cX5_setScreen 26 = .ok (.if_icmp .ge 154, 3) := by decide +kernel
theorem dX5_setScreen_29 : decode cX5_setScreen 29 = .ok (.aload_n 0, 1) := by decide +kernel
theorem dX5_setScreen_30 : decode cX5_setScreen 30 = .ok (.getfield 38, 3) := by decide +kernel
theorem dX5_setScreen_33 : decode cX5_setScreen 33 = .ok (.iload 4, 2) := by decide +kernel
theorem dX5_setScreen_35 : decode cX5_setScreen 35 = .ok (.iaload, 1) := by decide +kernel
theorem dX5_setScreen_36 : decode cX5_setScreen 36 = .ok (.bipush 26, 2) := by decide +kernel
theorem dX5_setScreen_38 : decode cX5_setScreen 38 = .ok (.if_icmp .ne 15, 3) := by decide +kernel
theorem dX5_setScreen_41 : decode cX5_setScreen 41 = .ok (.aload_n 0, 1) := by decide +kernel
theorem dX5_setScreen_42 : decode cX5_setScreen 42 = .ok (.getfield 50, 3) := by decide +kernel
theorem dX5_setScreen_45 : decode cX5_setScreen 45 = .ok (.iload 4, 2) := by decide +kernel
theorem dX5_setScreen_47 : decode cX5_setScreen 47 = .ok (.aload_n 0, 1) := by decide +kernel
theorem dX5_setScreen_48 : decode cX5_setScreen 48 = .ok (.iload_n 2, 1) := by decide +kernel
theorem dX5_setScreen_49 : decode cX5_setScreen 49 = .ok (.invokevirtual 137, 3) := by decide +kernel
theorem dX5_setScreen_52 : decode cX5_setScreen 52 = .ok (.iastore, 1) := by decide +kernel
theorem dX5_setScreen_53 : decode cX5_setScreen 53 = .ok (.iload_n 3, 1) := by decide +kernel
theorem dX5_setScreen_54 : decode cX5_setScreen 54 = .ok (.ifCond .eq 59, 3) := by decide +kernel
theorem dX5_setScreen_57 : decode cX5_setScreen 57 = .ok (.aload_n 0, 1) := by decide +kernel
theorem dX5_setScreen_58 : decode cX5_setScreen 58 = .ok (.iload 4, 2) := by decide +kernel
theorem dX5_setScreen_60 : decode cX5_setScreen 60 = .ok (.iload_n 2, 1) := by decide +kernel
theorem dX5_setScreen_61 : decode cX5_setScreen 61 = .ok (.invokevirtual 140, 3) := by decide +kernel
theorem dX5_setScreen_64 : decode cX5_setScreen 64 = .ok (.ifCond .eq 49, 3) := by decide +kernel
theorem dX5_setScreen_67 : decode cX5_setScreen 67 = .ok (.aload_n 0, 1) := by decide +kernel
theorem dX5_setScreen_68 : decode cX5_setScreen 68 = .ok (.getfield 53, 3) := by decide +kernel
theorem dX5_setScreen_71 : decode cX5_setScreen 71 = .ok (.iload_n 1, 1) := by decide +kernel
theorem dX5_setScreen_72 : decode cX5_setScreen 72 = .ok (.iload_n 2, 1) := by decide +kernel
theorem dX5_setScreen_73 : decode cX5_setScreen 73 = .ok (.iastore, 1) := by decide +kernel
theorem dX5_setScreen_74 : decode cX5_setScreen 74 = .ok (.iinc 1 1, 3) := by decide +kernel
theorem dX5_setScreen_77 : decode cX5_setScreen 77 = .ok (.aload_n 0, 1) := by decide +kernel
theorem dX5_setScreen_78 : decode cX5_setScreen 78 = .ok (.getfield 56, 3) := by decide +kernel
theorem dX5_setScreen_81 : decode cX5_setScreen 81 = .ok (.iload_n 1, 1) := by decide +kernel
theorem dX5_setScreen_82 : decode cX5_setScreen 82 = .ok (.iconst 0, 1) := by decide +kernel
theorem dX5_setScreen_83 : decode cX5_setScreen 83 = .ok (.iastore, 1) := by decide +kernel
theorem dX5_setScreen_84 : decode cX5_setScreen 84 = .ok (.aload_n 0, 1) := by decide +kernel
theorem dX5_setScreen_85 : decode cX5_setScreen 85 = .ok (.getfield 100, 3) := by decide +kernel
theorem dX5_setScreen_88 : decode cX5_setScreen 88 = .ok (.istore_n 2, 1) := by decide +kernel
theorem dX5_setScreen_89 : decode cX5_setScreen 89 = .ok (.aload_n 0, 1) := by decide +kernel
theorem dX5_setScreen_90 : decode cX5_setScreen 90 = .ok (.getfield 38, 3) := by decide +kernel
theorem dX5_setScreen_93 : decode cX5_setScreen 93 = .ok (.iload 4, 2) := by decide +kernel
theorem dX5_setScreen_95 : decode cX5_setScreen 95 = .ok (.iaload, 1) := by decide +kernel
theorem dX5_setScreen_96 : decode cX5_setScreen 96 = .ok (.bipush 26, 2) := by decide +kernel
theorem dX5_setScreen_98 : decode cX5_setScreen 98 = .ok (.if_icmp .ne 15, 3) := by decide +kernel
theorem dX5_setScreen_101 : decode cX5_setScreen 101 = .ok (.aload_n 0, 1) := by decide +kernel
theorem dX5_setScreen_102 : decode cX5_setScreen 102 = .ok (.getfield 50, 3) := by decide +kernel
theorem dX5_setScreen_105 : decode cX5_setScreen 105 = .ok (.iload 4, 2) := by decide +kernel
theorem dX5_setScreen_107 : decode cX5_setScreen 107 = .ok (.aload_n 0, 1) := by decide +kernel
theorem dX5_setScreen_108 : decode cX5_setScreen 108 = .ok (.iload_n 2, 1) := by decide +kernel
theorem dX5_setScreen_109 : decode cX5_setScreen 109 = .ok (.invokevirtual 137, 3) := by decide +kernel
theorem dX5_setScreen_112 : decode cX5_setScreen 112 = .ok (.iastore, 1) := by decide +kernel
theorem dX5_setScreen_113 : decode cX5_setScreen 113 = .ok (.aload_n 0, 1) := by decide +kernel
theorem dX5_setScreen_114 : decode cX5_setScreen 114 = .ok (.getfield 44, 3) := by decide +kernel
theorem dX5_setScreen_117 : decode cX5_setScreen 117 = .ok (.iload 4, 2) := by decide +kernel
theorem dX5_setScreen_119 : decode cX5_setScreen 119 = .ok (.iload_n 1, 1) := by decide +kernel
theorem dX5_setScreen_120 : decode cX5_setScreen 120 = .ok (.iastore, 1) := by decide +kernel
theorem dX5_setScreen_121 : decode cX5_setScreen 121 = .ok (.aload_n 0, 1) := by decide +kernel
theorem dX5_setScreen_122 : decode cX5_setScreen 122 = .ok (.getfield 47, 3) := by decide +kernel
theorem dX5_setScreen_125 : decode cX5_setScreen 125 = .ok (.iload 4, 2) := by decide +kernel
theorem dX5_setScreen_127 : decode cX5_setScreen 127 = .ok (.iload_n 2, 1) := by decide +kernel
theorem dX5_setScreen_128 : decode cX5_setScreen 128 = .ok (.iastore, 1) := by decide +kernel
theorem dX5_setScreen_129 : decode cX5_setScreen 129 = .ok (.iload_n 2, 1) := by decide +kernel
theorem dX5_setScreen_130 : decode cX5_setScreen 130 = .ok (.aload_n 0, 1) := by decide +kernel
theorem dX5_setScreen_131 : decode cX5_setScreen 131 = .ok (.getfield 50, 3) := by decide +kernel
theorem dX5_setScreen_134 : decode cX5_setScreen 134 = .ok (.iload 4, 2) := by decide +kernel
theorem dX5_setScreen_136 : decode cX5_setScreen 136 = .ok (.iaload, 1) := by decide +kernel
theorem dX5_setScreen_137 : decode cX5_setScreen 137 = .ok (.iadd, 1) := by decide +kernel
theorem dX5_setScreen_138 : decode cX5_setScreen 138 = .ok (.istore_n 2, 1) := by decide +kernel
theorem dX5_setScreen_139 : decode cX5_setScreen 139 = .ok (.iconst 1, 1) := by decide +kernel
theorem dX5_setScreen_140 : decode cX5_setScreen 140 = .ok (.istore_n 3, 1) := by decide +kernel
theorem dX5_setScreen_141 : decode cX5_setScreen 141 = .ok (.aload_n 0, 1) := by decide +kernel
theorem dX5_setScreen_142 : decode cX5_setScreen 142 = .ok (.getfield 38, 3) := by decide +kernel
theorem dX5_setScreen_145 : decode cX5_setScreen 145 = .ok (.iload 4, 2) := by decide +kernel
theorem dX5_setScreen_147 : decode cX5_setScreen 147 = .ok (.iaload, 1) := by decide +kernel
theorem dX5_setScreen_148 : decode cX5_setScreen 148 = .ok (.bipush 27, 2) := by decide +kernel
theorem dX5_setScreen_150 : decode cX5_setScreen 150 = .ok (.if_icmp .ne 24, 3) := by decide +kernel
theorem dX5_setScreen_153 : decode cX5_setScreen 153 = .ok (.aload_n 0, 1) := by decide +kernel
theorem dX5_setScreen_154 : decode cX5_setScreen 154 = .ok (.getfield 53, 3) := by decide +kernel
theorem dX5_setScreen_157 : decode cX5_setScreen 157 = .ok (.iload_n 1, 1) := by decide +kernel
theorem dX5_setScreen_158 : decode cX5_setScreen 158 = .ok (.iload_n 2, 1) := by decide +kernel
theorem dX5_setScreen_159 : decode cX5_setScreen 159 = .ok (.iastore, 1) := by decide +kernel
theorem dX5_setScreen_160 : decode cX5_setScreen 160 = .ok (.iinc 1 1, 3) := by decide +kernel
theorem dX5_setScreen_163 : decode cX5_setScreen 163 = .ok (.aload_n 0, 1) := by decide +kernel
theorem dX5_setScreen_164 : decode cX5_setScreen 164 = .ok (.getfield 56, 3) := by decide +kernel
theorem dX5_setScreen_167 : decode cX5_setScreen 167 = .ok (.iload_n 1, 1) := by decide +kernel
theorem dX5_setScreen_168 : decode cX5_setScreen 168 = .ok (.iconst 1, 1) := by decide +kernel
theorem dX5_setScreen_169 : decode cX5_setScreen 169 = .ok (.iastore, 1) := by decide +kernel
theorem dX5_setScreen_170 : decode cX5_setScreen 170 = .ok (.iconst 0, 1) := by decide +kernel
theorem dX5_setScreen_171 : decode cX5_setScreen 171 = .ok (.istore_n 2, 1) := by decide +kernel
theorem dX5_setScreen_172 : decode cX5_setScreen 172 = .ok (.iconst 0, 1) := by decide +kernel
theorem dX5_setScreen_173 : decode cX5_setScreen 173 = .ok (.istore_n 3, 1) := by decide +kernel
theorem dX5_setScreen_174 : decode cX5_setScreen 174 = .ok (.iinc 4 1, 3) := by decide +kernel
theorem dX5_setScreen_177 : decode cX5_setScreen 177 = .ok (.goto (-157), 3) := by decide +kernel
theorem dX5_setScreen_180 : decode cX5_setScreen 180 = .ok (.aload_n 0, 1) := by decide +kernel
theorem dX5_setScreen_181 : decode cX5_setScreen 181 = .ok (.getfield 53, 3) := by decide +kernel
theorem dX5_setScreen_184 : decode cX5_setScreen 184 = .ok (.iload_n 1, 1) := by decide +kernel
theorem dX5_setScreen_185 : decode cX5_setScreen 185 = .ok (.iload_n 2, 1) := by decide +kernel
theorem dX5_setScreen_186 : decode cX5_setScreen 186 = .ok (.iastore, 1) := by decide +kernel
theorem dX5_setScreen_187 : decode cX5_setScreen 187 = .ok (.aload_n 0, 1) := by decide +kernel
theorem dX5_setScreen_188 : decode cX5_setScreen 188 = .ok (.iload_n 1, 1) := by decide +kernel
theorem dX5_setScreen_189 : decode cX5_setScreen 189 = .ok (.putfield 144, 3) := by decide +kernel
theorem dX5_setScreen_192 : decode cX5_setScreen 192 = .ok (.aload_n 0, 1) := by decide +kernel
theorem dX5_setScreen_193 : decode cX5_setScreen 193 = .ok (.iload_n 2, 1) := by decide +kernel
theorem dX5_setScreen_194 : decode cX5_setScreen 194 = .ok (.putfield 147, 3) := by decide +kernel
theorem dX5_setScreen_197 : decode cX5_setScreen 197 = .ok (.return_, 1) := by decide +kernel
theorem dX5_rows_0 : decode cX5_rows 0 = .ok (.aload_n 0, 1) := by decide +kernel
theorem dX5_rows_1 : decode cX5_rows 1 = .ok (.invokevirtual 150, 3) := by decide +kernel
theorem dX5_rows_4 : decode cX5_rows 4 = .ok (.aload_n 0, 1) := by decide +kernel
theorem dX5_rows_5 : decode cX5_rows 5 = .ok (.getfield 144, 3) := by decide +kernel
theorem dX5_rows_8 : decode cX5_rows 8 = .ok (.iconst 1, 1) := by decide +kernel
theorem dX5_rows_9 : decode cX5_rows 9 = .ok (.iadd, 1) := by decide +kernel
theorem dX5_rows_10 : decode cX5_rows 10 = .ok (.ireturn, 1) := by decide +kernel
theorem dX5_longest_0 : decode cX5_longest 0 = .ok (.aload_n 0, 1) := by decide +kernel
theorem dX5_longest_1 : decode cX5_longest 1 = .ok (.invokevirtual 150, 3) := by decide +kernel
theorem dX5_longest_4 : decode cX5_longest 4 = .ok (.iconst 0, 1) := by decide +kernel
theorem dX5_longest_5 : decode cX5_longest 5 = .ok (.istore_n 1, 1) := by decide +kernel
theorem dX5_longest_6 : decode cX5_longest 6 = .ok (.iconst 0, 1) := by decide +kernel
theorem dX5_longest_7 : decode cX5_longest 7 = .ok (.istore_n 2, 1) := by decide +kernel
theorem dX5_longest_8 : decode cX5_longest 8 = .ok (.iload_n 2, 1) := by decide +kernel
theorem dX5_longest_9 : decode cX5_longest 9 = .ok (.aload_n 0, 1) := by decide +kernel
theorem dX5_longest_10 : decode cX5_longest 10 = .ok (.getfield 144, 3) := by decide +kernel
theorem dX5_longest_13 : decode cX5_longest 13 = .ok (.if_icmp .gt 30, 3) := by decide +kernel
theorem dX5_longest_16 : decode cX5_longest 16 = .ok (.aload_n 0, 1) := by decide +kernel
theorem dX5_longest_17 : decode cX5_longest 17 = .ok (.getfield 53, 3) := by decide +kernel
theorem dX5_longest_20 : decode cX5_longest 20 = .ok (.iload_n 2, 1) := by decide +kernel
theorem dX5_longest_21 : decode cX5_longest 21 = .ok (.iaload, 1) := by decide +kernel
theorem dX5_longest_22 : decode cX5_longest 22 = .ok (.iload_n 1, 1) := by decide +kernel
theorem dX5_longest_23 : decode cX5_longest 23 = .ok (.if_icmp .le 12, 3) := by decide +kernel
theorem dX5_longest_26 : decode cX5_longest 26 = .ok (.aload_n 0, 1) := by decide +kernel
theorem dX5_longest_27 : decode cX5_longest 27 = .ok (.getfield 53, 3) := by decide +kernel
theorem dX5_longest_30 : decode cX5_longest 30 = .ok (.iload_n 2, 1) := by decide +kernel
theorem dX5_longest_31 : decode cX5_longest 31 = .ok (.iaload, 1) := by decide +kernel
theorem dX5_longest_32 : decode cX5_longest 32 = .ok (.goto 4, 3) := by decide +kernel
theorem dX5_longest_35 : decode cX5_longest 35 = .ok (.iload_n 1, 1) := by decide +kernel
theorem dX5_longest_36 : decode cX5_longest 36 = .ok (.istore_n 1, 1) := by decide +kernel
theorem dX5_longest_37 : decode cX5_longest 37 = .ok (.iinc 2 1, 3) := by decide +kernel
theorem dX5_longest_40 : decode cX5_longest 40 = .ok (.goto (-32), 3) := by decide +kernel
theorem dX5_longest_43 : decode cX5_longest 43 = .ok (.iload_n 1, 1) := by decide +kernel
theorem dX5_longest_44 : decode cX5_longest 44 = .ok (.ireturn, 1) := by decide +kernel
theorem dX5_sign_0 : decode cX5_sign 0 = .ok (.aload_n 0, 1) := by decide +kernel
theorem dX5_sign_1 : decode cX5_sign 1 = .ok (.iload_n 1, 1) := by decide +kernel
theorem dX5_sign_2 : decode cX5_sign 2 = .ok (.invokevirtual 153, 3) := by decide +kernel
theorem dX5_sign_5 : decode cX5_sign 5 = .ok (.ifCond .ne 5, 3) := by decide +kernel
theorem dX5_sign_8 : decode cX5_sign 8 = .ok (.iconst (-1), 1) := by decide +kernel
theorem dX5_sign_9 : decode cX5_sign 9 = .ok (.ireturn, 1) := by decide +kernel
theorem dX5_sign_10 : decode cX5_sign 10 = .ok (.iload_n 1, 1) := by decide +kernel
theorem dX5_sign_11 : decode cX5_sign 11 = .ok (.aload_n 0, 1) := by decide +kernel
theorem dX5_sign_12 : decode cX5_sign 12 = .ok (.getfield 89, 3) := by decide +kernel
theorem dX5_sign_15 : decode cX5_sign 15 = .ok (.if_icmp .ne 8, 3) := by decide +kernel
theorem dX5_sign_18 : decode cX5_sign 18 = .ok (.bipush (-4), 2) := by decide +kernel
theorem dX5_sign_20 : decode cX5_sign 20 = .ok (.goto 9, 3) := by decide +kernel
theorem dX5_sign_23 : decode cX5_sign 23 = .ok (.aload_n 0, 1) := by decide +kernel
theorem dX5_sign_24 : decode cX5_sign 24 = .ok (.getfield 7, 3) := by decide +kernel
theorem dX5_sign_27 : decode cX5_sign 27 = .ok (.iload_n 1, 1) := by decide +kernel
theorem dX5_sign_28 : decode cX5_sign 28 = .ok (.iaload, 1) := by decide +kernel
theorem dX5_sign_29 : decode cX5_sign 29 = .ok (.ireturn, 1) := by decide +kernel
theorem dX5_fold_0 : decode cX5_fold 0 = .ok (.aload_n 0, 1) := by decide +kernel
theorem dX5_fold_1 : decode cX5_fold 1 = .ok (.iload_n 1, 1) := by decide +kernel
theorem dX5_fold_2 : decode cX5_fold 2 = .ok (.invokevirtual 156, 3) := by decide +kernel
theorem dX5_fold_5 : decode cX5_fold 5 = .ok (.ifCond .eq 12, 3) := by decide +kernel
theorem dX5_fold_8 : decode cX5_fold 8 = .ok (.iload_n 2, 1) := by decide +kernel
theorem dX5_fold_9 : decode cX5_fold 9 = .ok (.iconst 0, 1) := by decide +kernel
theorem dX5_fold_10 : decode cX5_fold 10 = .ok (.iconst 2, 1) := by decide +kernel
theorem dX5_fold_11 : decode cX5_fold 11 = .ok (.invokestatic 103, 3) := by decide +kernel
theorem dX5_fold_14 : decode cX5_fold 14 = .ok (.ifCond .ne 5, 3) := by decide +kernel
theorem dX5_fold_17 : decode cX5_fold 17 = .ok (.iconst (-1), 1) := by decide +kernel
theorem dX5_fold_18 : decode cX5_fold 18 = .ok (.ireturn, 1) := by decide +kernel
theorem dX5_fold_19 : decode cX5_fold 19 = .ok (.iload_n 2, 1) := by decide +kernel
theorem dX5_fold_20 : decode cX5_fold 20 = .ok (.ifCond .ne 12, 3) := by decide +kernel
theorem dX5_fold_23 : decode cX5_fold 23 = .ok (.aload_n 0, 1) := by decide +kernel
theorem dX5_fold_24 : decode cX5_fold 24 = .ok (.getfield 13, 3) := by decide +kernel
theorem dX5_fold_27 : decode cX5_fold 27 = .ok (.iload_n 1, 1) := by decide +kernel
theorem dX5_fold_28 : decode cX5_fold 28 = .ok (.iaload, 1) := by decide +kernel
theorem dX5_fold_29 : decode cX5_fold 29 = .ok (.goto 23, 3) := by decide +kernel
theorem dX5_fold_32 : decode cX5_fold 32 = .ok (.iload_n 2, 1) := by decide +kernel
theorem dX5_fold_33 : decode cX5_fold 33 = .ok (.iconst 1, 1) := by decide +kernel
theorem dX5_fold_34 : decode cX5_fold 34 = .ok (.if_icmp .ne 12, 3) := by decide +kernel
theorem dX5_fold_37 : decode cX5_fold 37 = .ok (.aload_n 0, 1) := by decide +kernel
theorem dX5_fold_38 : decode cX5_fold 38 = .ok (.getfield 16, 3) := by decide +kernel
theorem dX5_fold_41 : decode cX5_fold 41 = .ok (.iload_n 1, 1) := by decide +kernel
theorem dX5_fold_42 : decode cX5_fold 42 = .ok (.iaload, 1) := by decide +kernel
theorem dX5_fold_43 : decode cX5_fold 43 = .ok (.goto 9, 3) := by decide +kernel
theorem dX5_fold_46 : decode cX5_fold 46 = .ok (.aload_n 0, 1) := by decide +kernel
theorem dX5_fold_47 : decode cX5_fold 47 = .ok (.getfield 19, 3) := by decide +kernel
theorem dX5_fold_50 : decode cX5_fold 50 = .ok (.iload_n 1, 1) := by decide +kernel
theorem dX5_fold_51 : decode cX5_fold 51 = .ok (.iaload, 1) := by decide +kernel
theorem dX5_fold_52 : decode cX5_fold 52 = .ok (.ireturn, 1) := by decide +kernel
theorem dX5_hint_0 : decode cX5_hint 0 = .ok (.aload_n 0, 1) := by decide +kernel
theorem dX5_hint_1 : decode cX5_hint 1 = .ok (.iload_n 1, 1) := by decide +kernel
theorem dX5_hint_2 : decode cX5_hint 2 = .ok (.invokevirtual 159, 3) := by decide +kernel
theorem dX5_hint_5 : decode cX5_hint 5 = .ok (.ifCond .eq 12, 3) := by decide +kernel
theorem dX5_hint_8 : decode cX5_hint 8 = .ok (.iload_n 2, 1) := by decide +kernel
theorem dX5_hint_9 : decode cX5_hint 9 = .ok (.iconst 0, 1) := by decide +kernel
theorem dX5_hint_10 : decode cX5_hint 10 = .ok (.iconst 2, 1) := by decide +kernel
theorem dX5_hint_11 : decode cX5_hint 11 = .ok (.invokestatic 103, 3) := by decide +kernel
theorem dX5_hint_14 : decode cX5_hint 14 = .ok (.ifCond .ne 5, 3) := by decide +kernel
theorem dX5_hint_17 : decode cX5_hint 17 = .ok (.iconst (-1), 1) := by decide +kernel
theorem dX5_hint_18 : decode cX5_hint 18 = .ok (.ireturn, 1) := by decide +kernel
theorem dX5_hint_19 : decode cX5_hint 19 = .ok (.iload_n 2, 1) := by decide +kernel
theorem dX5_hint_20 : decode cX5_hint 20 = .ok (.ifCond .ne 12, 3) := by decide +kernel
theorem dX5_hint_23 : decode cX5_hint 23 = .ok (.aload_n 0, 1) := by decide +kernel
theorem dX5_hint_24 : decode cX5_hint 24 = .ok (.getfield 22, 3) := by decide +kernel
theorem dX5_hint_27 : decode cX5_hint 27 = .ok (.iload_n 1, 1) := by decide +kernel
theorem dX5_hint_28 : decode cX5_hint 28 = .ok (.iaload, 1) := by decide +kernel
theorem dX5_hint_29 : decode cX5_hint 29 = .ok (.goto 35, 3) := by decide +kernel
theorem dX5_hint_32 : decode cX5_hint 32 = .ok (.iload_n 2, 1) := by decide +kernel
theorem dX5_hint_33 : decode cX5_hint 33 = .ok (.iconst 1, 1) := by decide +kernel
theorem dX5_hint_34 : decode cX5_hint 34 = .ok (.if_icmp .ne 12, 3) := by decide +kernel
theorem dX5_hint_37 : decode cX5_hint 37 = .ok (.aload_n 0, 1) := by decide +kernel
theorem dX5_hint_38 : decode cX5_hint 38 = .ok (.getfield 25, 3) := by decide +kernel
theorem dX5_hint_41 : decode cX5_hint 41 = .ok (.iload_n 1, 1) := by decide +kernel
theorem dX5_hint_42 : decode cX5_hint 42 = .ok (.iaload, 1) := by decide +kernel
theorem dX5_hint_43 : decode cX5_hint 43 = .ok (.goto 21, 3) := by decide +kernel
theorem dX5_hint_46 : decode cX5_hint 46 = .ok (.aload_n 0, 1) := by decide +kernel
theorem dX5_hint_47 : decode cX5_hint 47 = .ok (.aload_n 0, 1) := by decide +kernel
theorem dX5_hint_48 : decode cX5_hint 48 = .ok (.getfield 22, 3) := by decide +kernel
theorem dX5_hint_51 : decode cX5_hint 51 = .ok (.iload_n 1, 1) := by decide +kernel
theorem dX5_hint_52 : decode cX5_hint 52 = .ok (.iaload, 1) := by decide +kernel
theorem dX5_hint_53 : decode cX5_hint 53 = .ok (.invokevirtual 162, 3) := by decide +kernel
theorem dX5_hint_56 : decode cX5_hint 56 = .ok (.ifCond .eq 7, 3) := by decide +kernel
theorem dX5_hint_59 : decode cX5_hint 59 = .ok (.iconst 1, 1) := by decide +kernel
theorem dX5_hint_60 : decode cX5_hint 60 = .ok (.goto 4, 3) := by decide +kernel
theorem dX5_hint_63 : decode cX5_hint 63 = .ok (.iconst 0, 1) := by decide +kernel
theorem dX5_hint_64 : decode cX5_hint 64 = .ok (.ireturn, 1) := by decide +kernel
theorem dX5_lays_0 : decode cX5_lays 0 = .ok (.aload_n 1, 1) := by decide +kernel
theorem dX5_lays_1 : decode cX5_lays 1 = .ok (.iload_n 2, 1) := by decide +kernel
theorem dX5_lays_2 : decode cX5_lays 2 = .ok (.aload_n 0, 1) := by decide +kernel
theorem dX5_lays_3 : decode cX5_lays 3 = .ok (.getfield 89, 3) := by decide +kernel
theorem dX5_lays_6 : decode cX5_lays 6 = .ok (.iastore, 1) := by decide +kernel
theorem dX5_lays_7 : decode cX5_lays 7 = .ok (.aload_n 1, 1) := by decide +kernel
theorem dX5_lays_8 : decode cX5_lays 8 = .ok (.iload_n 2, 1) := by decide +kernel
theorem dX5_lays_9 : decode cX5_lays 9 = .ok (.iconst 1, 1) := by decide +kernel
theorem dX5_lays_10 : decode cX5_lays 10 = .ok (.iadd, 1) := by decide +kernel
theorem dX5_lays_11 : decode cX5_lays 11 = .ok (.aload_n 0, 1) := by decide +kernel
theorem dX5_lays_12 : decode cX5_lays 12 = .ok (.getfield 107, 3) := by decide +kernel
theorem dX5_lays_15 : decode cX5_lays 15 = .ok (.iastore, 1) := by decide +kernel
theorem dX5_lays_16 : decode cX5_lays 16 = .ok (.aload_n 1, 1) := by decide +kernel
theorem dX5_lays_17 : decode cX5_lays 17 = .ok (.iload_n 2, 1) := by decide +kernel
theorem dX5_lays_18 : decode cX5_lays 18 = .ok (.iconst 2, 1) := by decide +kernel
theorem dX5_lays_19 : decode cX5_lays 19 = .ok (.iadd, 1) := by decide +kernel
theorem dX5_lays_20 : decode cX5_lays 20 = .ok (.aload_n 0, 1) := by decide +kernel
theorem dX5_lays_21 : decode cX5_lays 21 = .ok (.getfield 110, 3) := by decide +kernel
theorem dX5_lays_24 : decode cX5_lays 24 = .ok (.iastore, 1) := by decide +kernel
theorem dX5_lays_25 : decode cX5_lays 25 = .ok (.aload_n 1, 1) := by decide +kernel
theorem dX5_lays_26 : decode cX5_lays 26 = .ok (.iload_n 2, 1) := by decide +kernel
theorem dX5_lays_27 : decode cX5_lays 27 = .ok (.iconst 3, 1) := by decide +kernel
theorem dX5_lays_28 : decode cX5_lays 28 = .ok (.iadd, 1) := by decide +kernel
theorem dX5_lays_29 : decode cX5_lays 29 = .ok (.aload_n 0, 1) := by decide +kernel
theorem dX5_lays_30 : decode cX5_lays 30 = .ok (.getfield 28, 3) := by decide +kernel
theorem dX5_lays_33 : decode cX5_lays 33 = .ok (.iastore, 1) := by decide +kernel
theorem dX5_lays_34 : decode cX5_lays 34 = .ok (.aload_n 1, 1) := by decide +kernel
theorem dX5_lays_35 : decode cX5_lays 35 = .ok (.iload_n 2, 1) := by decide +kernel
theorem dX5_lays_36 : decode cX5_lays 36 = .ok (.iconst 4, 1) := by decide +kernel
theorem dX5_lays_37 : decode cX5_lays 37 = .ok (.iadd, 1) := by decide +kernel
theorem dX5_lays_38 : decode cX5_lays 38 = .ok (.aload_n 0, 1) := by decide +kernel
theorem dX5_lays_39 : decode cX5_lays 39 = .ok (.getfield 32, 3) := by decide +kernel
theorem dX5_lays_42 : decode cX5_lays 42 = .ok (.iastore, 1) := by decide +kernel
theorem dX5_lays_43 : decode cX5_lays 43 = .ok (.aload_n 1, 1) := by decide +kernel
theorem dX5_lays_44 : decode cX5_lays 44 = .ok (.iload_n 2, 1) := by decide +kernel
theorem dX5_lays_45 : decode cX5_lays 45 = .ok (.iconst 5, 1) := by decide +kernel
theorem dX5_lays_46 : decode cX5_lays 46 = .ok (.iadd, 1) := by decide +kernel
theorem dX5_lays_47 : decode cX5_lays 47 = .ok (.aload_n 0, 1) := by decide +kernel
theorem dX5_lays_48 : decode cX5_lays 48 = .ok (.getfield 100, 3) := by decide +kernel
theorem dX5_lays_51 : decode cX5_lays 51 = .ok (.iastore, 1) := by decide +kernel
theorem dX5_lays_52 : decode cX5_lays 52 = .ok (.aload_n 1, 1) := by decide +kernel
theorem dX5_lays_53 : decode cX5_lays 53 = .ok (.iload_n 2, 1) := by decide +kernel
theorem dX5_lays_54 : decode cX5_lays 54 = .ok (.bipush 6, 2) := by decide +kernel
theorem dX5_lays_56 : decode cX5_lays 56 = .ok (.iadd, 1) := by decide +kernel
theorem dX5_lays_57 : decode cX5_lays 57 = .ok (.aload_n 0, 1) := by decide +kernel
theorem dX5_lays_58 : decode cX5_lays 58 = .ok (.getfield 35, 3) := by decide +kernel
theorem dX5_lays_61 : decode cX5_lays 61 = .ok (.iastore, 1) := by decide +kernel
theorem dX5_lays_62 : decode cX5_lays 62 = .ok (.iconst 0, 1) := by decide +kernel
theorem dX5_lays_63 : decode cX5_lays 63 = .ok (.istore_n 3, 1) := by decide +kernel
theorem dX5_lays_64 : decode cX5_lays 64 = .ok (.iload_n 3, 1) := by decide +kernel
theorem dX5_lays_65 : decode cX5_lays 65 = .ok (.iconst 4, 1) := by decide +kernel
theorem dX5_lays_66 : decode cX5_lays 66 = .ok (.if_icmp .ge 79, 3) := by decide +kernel
theorem dX5_lays_69 : decode cX5_lays 69 = .ok (.aload_n 1, 1) := by decide +kernel
theorem dX5_lays_70 : decode cX5_lays 70 = .ok (.iload_n 2, 1) := by decide +kernel
theorem dX5_lays_71 : decode cX5_lays 71 = .ok (.bipush 7, 2) := by decide +kernel
theorem dX5_lays_73 : decode cX5_lays 73 = .ok (.iadd, 1) := by decide +kernel
theorem dX5_lays_74 : decode cX5_lays 74 = .ok (.iload_n 3, 1) := by decide +kernel
theorem dX5_lays_75 : decode cX5_lays 75 = .ok (.iadd, 1) := by decide +kernel
theorem dX5_lays_76 : decode cX5_lays 76 = .ok (.aload_n 0, 1) := by decide +kernel
theorem dX5_lays_77 : decode cX5_lays 77 = .ok (.getfield 13, 3) := by decide +kernel
theorem dX5_lays_80 : decode cX5_lays 80 = .ok (.iload_n 3, 1) := by decide +kernel
theorem dX5_lays_81 : decode cX5_lays 81 = .ok (.iaload, 1) := by decide +kernel
theorem dX5_lays_82 : decode cX5_lays 82 = .ok (.iastore, 1) := by decide +kernel
theorem dX5_lays_83 : decode cX5_lays 83 = .ok (.aload_n 1, 1) := by decide +kernel
theorem dX5_lays_84 : decode cX5_lays 84 = .ok (.iload_n 2, 1) := by decide +kernel
theorem dX5_lays_85 : decode cX5_lays 85 = .ok (.bipush 11, 2) := by decide +kernel
theorem dX5_lays_87 : decode cX5_lays 87 = .ok (.iadd, 1) := by decide +kernel
theorem dX5_lays_88 : decode cX5_lays 88 = .ok (.iload_n 3, 1) := by decide +kernel
theorem dX5_lays_89 : decode cX5_lays 89 = .ok (.iadd, 1) := by decide +kernel
theorem dX5_lays_90 : decode cX5_lays 90 = .ok (.aload_n 0, 1) := by decide +kernel
theorem dX5_lays_91 : decode cX5_lays 91 = .ok (.getfield 16, 3) := by decide +kernel
theorem dX5_lays_94 : decode cX5_lays 94 = .ok (.iload_n 3, 1) := by decide +kernel
theorem dX5_lays_95 : decode cX5_lays 95 = .ok (.iaload, 1) := by decide +kernel
theorem dX5_lays_96 : decode cX5_lays 96 = .ok (.iastore, 1) := by decide +kernel
theorem dX5_lays_97 : decode cX5_lays 97 = .ok (.aload_n 1, 1) := by decide +kernel
theorem dX5_lays_98 : decode cX5_lays 98 = .ok (.iload_n 2, 1) := by decide +kernel
theorem dX5_lays_99 : decode cX5_lays 99 = .ok (.bipush 15, 2) := by decide +kernel
theorem dX5_lays_101 : decode cX5_lays 101 = .ok (.iadd, 1) := by decide +kernel
theorem dX5_lays_102 : decode cX5_lays 102 = .ok (.iload_n 3, 1) := by decide +kernel
theorem dX5_lays_103 : decode cX5_lays 103 = .ok (.iadd, 1) := by decide +kernel
theorem dX5_lays_104 : decode cX5_lays 104 = .ok (.aload_n 0, 1) := by decide +kernel
theorem dX5_lays_105 : decode cX5_lays 105 = .ok (.getfield 19, 3) := by decide +kernel
theorem dX5_lays_108 : decode cX5_lays 108 = .ok (.iload_n 3, 1) := by decide +kernel
theorem dX5_lays_109 : decode cX5_lays 109 = .ok (.iaload, 1) := by decide +kernel
theorem dX5_lays_110 : decode cX5_lays 110 = .ok (.iastore, 1) := by decide +kernel
theorem dX5_lays_111 : decode cX5_lays 111 = .ok (.aload_n 1, 1) := by decide +kernel
theorem dX5_lays_112 : decode cX5_lays 112 = .ok (.iload_n 2, 1) := by decide +kernel
theorem dX5_lays_113 : decode cX5_lays 113 = .ok (.bipush 19, 2) := by decide +kernel
theorem dX5_lays_115 : decode cX5_lays 115 = .ok (.iadd, 1) := by decide +kernel
theorem dX5_lays_116 : decode cX5_lays 116 = .ok (.iload_n 3, 1) := by decide +kernel
theorem dX5_lays_117 : decode cX5_lays 117 = .ok (.iadd, 1) := by decide +kernel
theorem dX5_lays_118 : decode cX5_lays 118 = .ok (.aload_n 0, 1) := by decide +kernel
theorem dX5_lays_119 : decode cX5_lays 119 = .ok (.getfield 22, 3) := by decide +kernel
theorem dX5_lays_122 : decode cX5_lays 122 = .ok (.iload_n 3, 1) := by decide +kernel
theorem dX5_lays_123 : decode cX5_lays 123 = .ok (.iaload, 1) := by decide +kernel
theorem dX5_lays_124 : decode cX5_lays 124 = .ok (.iastore, 1) := by decide +kernel
theorem dX5_lays_125 : decode cX5_lays 125 = .ok (.aload_n 1, 1) := by decide +kernel
theorem dX5_lays_126 : decode cX5_lays 126 = .ok (.iload_n 2, 1) := by decide +kernel
theorem dX5_lays_127 : decode cX5_lays 127 = .ok (.bipush 23, 2) := by decide +kernel
theorem dX5_lays_129 : decode cX5_lays 129 = .ok (.iadd, 1) := by decide +kernel
theorem dX5_lays_130 : decode cX5_lays 130 = .ok (.iload_n 3, 1) := by decide +kernel
theorem dX5_lays_131 : decode cX5_lays 131 = .ok (.iadd, 1) := by decide +kernel
theorem dX5_lays_132 : decode cX5_lays 132 = .ok (.aload_n 0, 1) := by decide +kernel
end
section
theorem dX5_lays_133 : decode cX5_lays 133 = .ok (.getfield 25, 3) := by decide +kernel
theorem dX5_lays_136 : decode cX5_lays 136 = .ok (.iload_n 3, 1) := by decide +kernel
theorem dX5_lays_137 : decode cX5_lays 137 = .ok (.iaload, 1) := by decide +kernel
theorem dX5_lays_138 : decode cX5_lays 138 = .ok (.iastore, 1) := by decide +kernel
theorem dX5_lays_139 : decode cX5_lays 139 = .ok (.iinc 3 1, 3) := by decide +kernel
theorem dX5_lays_142 : decode cX5_lays 142 = .ok (.goto (-78), 3) := by decide +kernel
theorem dX5_lays_145 : decode cX5_lays 145 = .ok (.iconst 0, 1) := by decide +kernel
theorem dX5_lays_146 : decode cX5_lays 146 = .ok (.istore_n 3, 1) := by decide +kernel
theorem dX5_lays_147 : decode cX5_lays 147 = .ok (.iload_n 3, 1) := by decide +kernel
theorem dX5_lays_148 : decode cX5_lays 148 = .ok (.bipush 40, 2) := by decide +kernel
theorem dX5_lays_150 : decode cX5_lays 150 = .ok (.if_icmp .ge 23, 3) := by decide +kernel
theorem dX5_lays_153 : decode cX5_lays 153 = .ok (.aload_n 1, 1) := by decide +kernel
theorem dX5_lays_154 : decode cX5_lays 154 = .ok (.iload_n 2, 1) := by decide +kernel
theorem dX5_lays_155 : decode cX5_lays 155 = .ok (.bipush 27, 2) := by decide +kernel
theorem dX5_lays_157 : decode cX5_lays 157 = .ok (.iadd, 1) := by decide +kernel
theorem dX5_lays_158 : decode cX5_lays 158 = .ok (.iload_n 3, 1) := by decide +kernel
theorem dX5_lays_159 : decode cX5_lays 159 = .ok (.iadd, 1) := by decide +kernel
theorem dX5_lays_160 : decode cX5_lays 160 = .ok (.aload_n 0, 1) := by decide +kernel
theorem dX5_lays_161 : decode cX5_lays 161 = .ok (.getfield 7, 3) := by decide +kernel
theorem dX5_lays_164 : decode cX5_lays 164 = .ok (.iload_n 3, 1) := by decide +kernel
theorem dX5_lays_165 : decode cX5_lays 165 = .ok (.iaload, 1) := by decide +kernel
theorem dX5_lays_166 : decode cX5_lays 166 = .ok (.iastore, 1) := by decide +kernel
theorem dX5_lays_167 : decode cX5_lays 167 = .ok (.iinc 3 1, 3) := by decide +kernel
theorem dX5_lays_170 : decode cX5_lays 170 = .ok (.goto (-23), 3) := by decide +kernel
theorem dX5_lays_173 : decode cX5_lays 173 = .ok (.return_, 1) := by decide +kernel
theorem dX5_takes_0 : decode cX5_takes 0 = .ok (.aload_n 0, 1) := by decide +kernel
theorem dX5_takes_1 : decode cX5_takes 1 = .ok (.aload_n 1, 1) := by decide +kernel
theorem dX5_takes_2 : decode cX5_takes 2 = .ok (.iload_n 2, 1) := by decide +kernel
theorem dX5_takes_3 : decode cX5_takes 3 = .ok (.iaload, 1) := by decide +kernel
theorem dX5_takes_4 : decode cX5_takes 4 = .ok (.putfield 89, 3) := by decide +kernel
theorem dX5_takes_7 : decode cX5_takes 7 = .ok (.aload_n 0, 1) := by decide +kernel
theorem dX5_takes_8 : decode cX5_takes 8 = .ok (.aload_n 1, 1) := by decide +kernel
theorem dX5_takes_9 : decode cX5_takes 9 = .ok (.iload_n 2, 1) := by decide +kernel
theorem dX5_takes_10 : decode cX5_takes 10 = .ok (.iconst 1, 1) := by decide +kernel
theorem dX5_takes_11 : decode cX5_takes 11 = .ok (.iadd, 1) := by decide +kernel
theorem dX5_takes_12 : decode cX5_takes 12 = .ok (.iaload, 1) := by decide +kernel
theorem dX5_takes_13 : decode cX5_takes 13 = .ok (.putfield 107, 3) := by decide +kernel
theorem dX5_takes_16 : decode cX5_takes 16 = .ok (.aload_n 0, 1) := by decide +kernel
theorem dX5_takes_17 : decode cX5_takes 17 = .ok (.aload_n 1, 1) := by decide +kernel
theorem dX5_takes_18 : decode cX5_takes 18 = .ok (.iload_n 2, 1) := by decide +kernel
theorem dX5_takes_19 : decode cX5_takes 19 = .ok (.iconst 2, 1) := by decide +kernel
theorem dX5_takes_20 : decode cX5_takes 20 = .ok (.iadd, 1) := by decide +kernel
theorem dX5_takes_21 : decode cX5_takes 21 = .ok (.iaload, 1) := by decide +kernel
theorem dX5_takes_22 : decode cX5_takes 22 = .ok (.putfield 110, 3) := by decide +kernel
theorem dX5_takes_25 : decode cX5_takes 25 = .ok (.aload_n 0, 1) := by decide +kernel
theorem dX5_takes_26 : decode cX5_takes 26 = .ok (.aload_n 1, 1) := by decide +kernel
theorem dX5_takes_27 : decode cX5_takes 27 = .ok (.iload_n 2, 1) := by decide +kernel
theorem dX5_takes_28 : decode cX5_takes 28 = .ok (.iconst 3, 1) := by decide +kernel
theorem dX5_takes_29 : decode cX5_takes 29 = .ok (.iadd, 1) := by decide +kernel
theorem dX5_takes_30 : decode cX5_takes 30 = .ok (.iaload, 1) := by decide +kernel
theorem dX5_takes_31 : decode cX5_takes 31 = .ok (.putfield 28, 3) := by decide +kernel
theorem dX5_takes_34 : decode cX5_takes 34 = .ok (.aload_n 0, 1) := by decide +kernel
theorem dX5_takes_35 : decode cX5_takes 35 = .ok (.aload_n 1, 1) := by decide +kernel
theorem dX5_takes_36 : decode cX5_takes 36 = .ok (.iload_n 2, 1) := by decide +kernel
theorem dX5_takes_37 : decode cX5_takes 37 = .ok (.iconst 4, 1) := by decide +kernel
theorem dX5_takes_38 : decode cX5_takes 38 = .ok (.iadd, 1) := by decide +kernel
theorem dX5_takes_39 : decode cX5_takes 39 = .ok (.iaload, 1) := by decide +kernel
theorem dX5_takes_40 : decode cX5_takes 40 = .ok (.putfield 32, 3) := by decide +kernel
theorem dX5_takes_43 : decode cX5_takes 43 = .ok (.aload_n 0, 1) := by decide +kernel
theorem dX5_takes_44 : decode cX5_takes 44 = .ok (.aload_n 1, 1) := by decide +kernel
theorem dX5_takes_45 : decode cX5_takes 45 = .ok (.iload_n 2, 1) := by decide +kernel
theorem dX5_takes_46 : decode cX5_takes 46 = .ok (.iconst 5, 1) := by decide +kernel
theorem dX5_takes_47 : decode cX5_takes 47 = .ok (.iadd, 1) := by decide +kernel
theorem dX5_takes_48 : decode cX5_takes 48 = .ok (.iaload, 1) := by decide +kernel
theorem dX5_takes_49 : decode cX5_takes 49 = .ok (.putfield 100, 3) := by decide +kernel
theorem dX5_takes_52 : decode cX5_takes 52 = .ok (.aload_n 0, 1) := by decide +kernel
theorem dX5_takes_53 : decode cX5_takes 53 = .ok (.aload_n 1, 1) := by decide +kernel
theorem dX5_takes_54 : decode cX5_takes 54 = .ok (.iload_n 2, 1) := by decide +kernel
theorem dX5_takes_55 : decode cX5_takes 55 = .ok (.bipush 6, 2) := by decide +kernel
theorem dX5_takes_57 : decode cX5_takes 57 = .ok (.iadd, 1) := by decide +kernel
theorem dX5_takes_58 : decode cX5_takes 58 = .ok (.iaload, 1) := by decide +kernel
theorem dX5_takes_59 : decode cX5_takes 59 = .ok (.putfield 35, 3) := by decide +kernel
theorem dX5_takes_62 : decode cX5_takes 62 = .ok (.iconst 0, 1) := by decide +kernel
theorem dX5_takes_63 : decode cX5_takes 63 = .ok (.istore_n 3, 1) := by decide +kernel
theorem dX5_takes_64 : decode cX5_takes 64 = .ok (.iload_n 3, 1) := by decide +kernel
theorem dX5_takes_65 : decode cX5_takes 65 = .ok (.iconst 4, 1) := by decide +kernel
theorem dX5_takes_66 : decode cX5_takes 66 = .ok (.if_icmp .ge 79, 3) := by decide +kernel
theorem dX5_takes_69 : decode cX5_takes 69 = .ok (.aload_n 0, 1) := by decide +kernel
theorem dX5_takes_70 : decode cX5_takes 70 = .ok (.getfield 13, 3) := by decide +kernel
theorem dX5_takes_73 : decode cX5_takes 73 = .ok (.iload_n 3, 1) := by decide +kernel
theorem dX5_takes_74 : decode cX5_takes 74 = .ok (.aload_n 1, 1) := by decide +kernel
theorem dX5_takes_75 : decode cX5_takes 75 = .ok (.iload_n 2, 1) := by decide +kernel
theorem dX5_takes_76 : decode cX5_takes 76 = .ok (.bipush 7, 2) := by decide +kernel
theorem dX5_takes_78 : decode cX5_takes 78 = .ok (.iadd, 1) := by decide +kernel
theorem dX5_takes_79 : decode cX5_takes 79 = .ok (.iload_n 3, 1) := by decide +kernel
theorem dX5_takes_80 : decode cX5_takes 80 = .ok (.iadd, 1) := by decide +kernel
theorem dX5_takes_81 : decode cX5_takes 81 = .ok (.iaload, 1) := by decide +kernel
theorem dX5_takes_82 : decode cX5_takes 82 = .ok (.iastore, 1) := by decide +kernel
theorem dX5_takes_83 : decode cX5_takes 83 = .ok (.aload_n 0, 1) := by decide +kernel
theorem dX5_takes_84 : decode cX5_takes 84 = .ok (.getfield 16, 3) := by decide +kernel
theorem dX5_takes_87 : decode cX5_takes 87 = .ok (.iload_n 3, 1) := by decide +kernel
theorem dX5_takes_88 : decode cX5_takes 88 = .ok (.aload_n 1, 1) := by decide +kernel
theorem dX5_takes_89 : decode cX5_takes 89 = .ok (.iload_n 2, 1) := by decide +kernel
theorem dX5_takes_90 : decode cX5_takes 90 = .ok (.bipush 11, 2) := by decide +kernel
theorem dX5_takes_92 : decode cX5_takes 92 = .ok (.iadd, 1) := by decide +kernel
theorem dX5_takes_93 : decode cX5_takes 93 = .ok (.iload_n 3, 1) := by decide +kernel
theorem dX5_takes_94 : decode cX5_takes 94 = .ok (.iadd, 1) := by decide +kernel
theorem dX5_takes_95 : decode cX5_takes 95 = .ok (.iaload, 1) := by decide +kernel
theorem dX5_takes_96 : decode cX5_takes 96 = .ok (.iastore, 1) := by decide +kernel
theorem dX5_takes_97 : decode cX5_takes 97 = .ok (.aload_n 0, 1) := by decide +kernel
theorem dX5_takes_98 : decode cX5_takes 98 = .ok (.getfield 19, 3) := by decide +kernel
theorem dX5_takes_101 : decode cX5_takes 101 = .ok (.iload_n 3, 1) := by decide +kernel
theorem dX5_takes_102 : decode cX5_takes 102 = .ok (.aload_n 1, 1) := by decide +kernel
theorem dX5_takes_103 : decode cX5_takes 103 = .ok (.iload_n 2, 1) := by decide +kernel
theorem dX5_takes_104 : decode cX5_takes 104 = .ok (.bipush 15, 2) := by decide +kernel
theorem dX5_takes_106 : decode cX5_takes 106 = .ok (.iadd, 1) := by decide +kernel
theorem dX5_takes_107 : decode cX5_takes 107 = .ok (.iload_n 3, 1) := by decide +kernel
theorem dX5_takes_108 : decode cX5_takes 108 = .ok (.iadd, 1) := by decide +kernel
theorem dX5_takes_109 : decode cX5_takes 109 = .ok (.iaload, 1) := by decide +kernel
theorem dX5_takes_110 : decode cX5_takes 110 = .ok (.iastore, 1) := by decide +kernel
theorem dX5_takes_111 : decode cX5_takes 111 = .ok (.aload_n 0, 1) := by decide +kernel
theorem dX5_takes_112 : decode cX5_takes 112 = .ok (.getfield 22, 3) := by decide +kernel
theorem dX5_takes_115 : decode cX5_takes 115 = .ok (.iload_n 3, 1) := by decide +kernel
theorem dX5_takes_116 : decode cX5_takes 116 = .ok (.aload_n 1, 1) := by decide +kernel
theorem dX5_takes_117 : decode cX5_takes 117 = .ok (.iload_n 2, 1) := by decide +kernel
theorem dX5_takes_118 : decode cX5_takes 118 = .ok (.bipush 19, 2) := by decide +kernel
theorem dX5_takes_120 : decode cX5_takes 120 = .ok (.iadd, 1) := by decide +kernel
theorem dX5_takes_121 : decode cX5_takes 121 = .ok (.iload_n 3, 1) := by decide +kernel
theorem dX5_takes_122 : decode cX5_takes 122 = .ok (.iadd, 1) := by decide +kernel
theorem dX5_takes_123 : decode cX5_takes 123 = .ok (.iaload, 1) := by decide +kernel
theorem dX5_takes_124 : decode cX5_takes 124 = .ok (.iastore, 1) := by decide +kernel
theorem dX5_takes_125 : decode cX5_takes 125 = .ok (.aload_n 0, 1) := by decide +kernel
theorem dX5_takes_126 : decode cX5_takes 126 = .ok (.getfield 25, 3) := by decide +kernel
theorem dX5_takes_129 : decode cX5_takes 129 = .ok (.iload_n 3, 1) := by decide +kernel
theorem dX5_takes_130 : decode cX5_takes 130 = .ok (.aload_n 1, 1) := by decide +kernel
theorem dX5_takes_131 : decode cX5_takes 131 = .ok (.iload_n 2, 1) := by decide +kernel
theorem dX5_takes_132 : decode cX5_takes 132 = .ok (.bipush 23, 2) := by decide +kernel
theorem dX5_takes_134 : decode cX5_takes 134 = .ok (.iadd, 1) := by decide +kernel
theorem dX5_takes_135 : decode cX5_takes 135 = .ok (.iload_n 3, 1) := by decide +kernel
theorem dX5_takes_136 : decode cX5_takes 136 = .ok (.iadd, 1) := by decide +kernel
theorem dX5_takes_137 : decode cX5_takes 137 = .ok (.iaload, 1) := by decide +kernel
theorem dX5_takes_138 : decode cX5_takes 138 = .ok (.iastore, 1) := by decide +kernel
theorem dX5_takes_139 : decode cX5_takes 139 = .ok (.iinc 3 1, 3) := by decide +kernel
theorem dX5_takes_142 : decode cX5_takes 142 = .ok (.goto (-78), 3) := by decide +kernel
theorem dX5_takes_145 : decode cX5_takes 145 = .ok (.iconst 0, 1) := by decide +kernel
theorem dX5_takes_146 : decode cX5_takes 146 = .ok (.istore_n 3, 1) := by decide +kernel
theorem dX5_takes_147 : decode cX5_takes 147 = .ok (.iload_n 3, 1) := by decide +kernel
theorem dX5_takes_148 : decode cX5_takes 148 = .ok (.bipush 40, 2) := by decide +kernel
theorem dX5_takes_150 : decode cX5_takes 150 = .ok (.if_icmp .ge 23, 3) := by decide +kernel
theorem dX5_takes_153 : decode cX5_takes 153 = .ok (.aload_n 0, 1) := by decide +kernel
theorem dX5_takes_154 : decode cX5_takes 154 = .ok (.getfield 7, 3) := by decide +kernel
theorem dX5_takes_157 : decode cX5_takes 157 = .ok (.iload_n 3, 1) := by decide +kernel
theorem dX5_takes_158 : decode cX5_takes 158 = .ok (.aload_n 1, 1) := by decide +kernel
theorem dX5_takes_159 : decode cX5_takes 159 = .ok (.iload_n 2, 1) := by decide +kernel
theorem dX5_takes_160 : decode cX5_takes 160 = .ok (.bipush 27, 2) := by decide +kernel
theorem dX5_takes_162 : decode cX5_takes 162 = .ok (.iadd, 1) := by decide +kernel
theorem dX5_takes_163 : decode cX5_takes 163 = .ok (.iload_n 3, 1) := by decide +kernel
theorem dX5_takes_164 : decode cX5_takes 164 = .ok (.iadd, 1) := by decide +kernel
theorem dX5_takes_165 : decode cX5_takes 165 = .ok (.iaload, 1) := by decide +kernel
theorem dX5_takes_166 : decode cX5_takes 166 = .ok (.iastore, 1) := by decide +kernel
theorem dX5_takes_167 : decode cX5_takes 167 = .ok (.iinc 3 1, 3) := by decide +kernel
theorem dX5_takes_170 : decode cX5_takes 170 = .ok (.goto (-23), 3) := by decide +kernel
theorem dX5_takes_173 : decode cX5_takes 173 = .ok (.return_, 1) := by decide +kernel
theorem dX5_remembers_0 : decode cX5_remembers 0 = .ok (.aload_n 0, 1) := by decide +kernel
theorem dX5_remembers_1 : decode cX5_remembers 1 = .ok (.invokevirtual 150, 3) := by decide +kernel
theorem dX5_remembers_4 : decode cX5_remembers 4 = .ok (.aload_n 0, 1) := by decide +kernel
theorem dX5_remembers_5 : decode cX5_remembers 5 = .ok (.aload_n 0, 1) := by decide +kernel
theorem dX5_remembers_6 : decode cX5_remembers 6 = .ok (.getfield 117, 3) := by decide +kernel
theorem dX5_remembers_9 : decode cX5_remembers 9 = .ok (.putfield 165, 3) := by decide +kernel
theorem dX5_remembers_12 : decode cX5_remembers 12 = .ok (.iconst 0, 1) := by decide +kernel
theorem dX5_remembers_13 : decode cX5_remembers 13 = .ok (.istore_n 1, 1) := by decide +kernel
theorem dX5_remembers_14 : decode cX5_remembers 14 = .ok (.iload_n 1, 1) := by decide +kernel
theorem dX5_remembers_15 : decode cX5_remembers 15 = .ok (.aload_n 0, 1) := by decide +kernel
theorem dX5_remembers_16 : decode cX5_remembers 16 = .ok (.getfield 117, 3) := by decide +kernel
theorem dX5_remembers_19 : decode cX5_remembers 19 = .ok (.if_icmp .ge 57, 3) := by decide +kernel
theorem dX5_remembers_22 : decode cX5_remembers 22 = .ok (.aload_n 0, 1) := by decide +kernel
theorem dX5_remembers_23 : decode cX5_remembers 23 = .ok (.getfield 68, 3) := by decide +kernel
theorem dX5_remembers_26 : decode cX5_remembers 26 = .ok (.iload_n 1, 1) := by decide +kernel
theorem dX5_remembers_27 : decode cX5_remembers 27 = .ok (.aload_n 0, 1) := by decide +kernel
theorem dX5_remembers_28 : decode cX5_remembers 28 = .ok (.getfield 38, 3) := by decide +kernel
theorem dX5_remembers_31 : decode cX5_remembers 31 = .ok (.iload_n 1, 1) := by decide +kernel
theorem dX5_remembers_32 : decode cX5_remembers 32 = .ok (.iaload, 1) := by decide +kernel
theorem dX5_remembers_33 : decode cX5_remembers 33 = .ok (.iastore, 1) := by decide +kernel
theorem dX5_remembers_34 : decode cX5_remembers 34 = .ok (.aload_n 0, 1) := by decide +kernel
theorem dX5_remembers_35 : decode cX5_remembers 35 = .ok (.getfield 71, 3) := by decide +kernel
theorem dX5_remembers_38 : decode cX5_remembers 38 = .ok (.iload_n 1, 1) := by decide +kernel
theorem dX5_remembers_39 : decode cX5_remembers 39 = .ok (.aload_n 0, 1) := by decide +kernel
theorem dX5_remembers_40 : decode cX5_remembers 40 = .ok (.getfield 44, 3) := by decide +kernel
theorem dX5_remembers_43 : decode cX5_remembers 43 = .ok (.iload_n 1, 1) := by decide +kernel
theorem dX5_remembers_44 : decode cX5_remembers 44 = .ok (.iaload, 1) := by decide +kernel
theorem dX5_remembers_45 : decode cX5_remembers 45 = .ok (.iastore, 1) := by decide +kernel
theorem dX5_remembers_46 : decode cX5_remembers 46 = .ok (.aload_n 0, 1) := by decide +kernel
theorem dX5_remembers_47 : decode cX5_remembers 47 = .ok (.getfield 74, 3) := by decide +kernel
theorem dX5_remembers_50 : decode cX5_remembers 50 = .ok (.iload_n 1, 1) := by decide +kernel
theorem dX5_remembers_51 : decode cX5_remembers 51 = .ok (.aload_n 0, 1) := by decide +kernel
theorem dX5_remembers_52 : decode cX5_remembers 52 = .ok (.getfield 47, 3) := by decide +kernel
theorem dX5_remembers_55 : decode cX5_remembers 55 = .ok (.iload_n 1, 1) := by decide +kernel
theorem dX5_remembers_56 : decode cX5_remembers 56 = .ok (.iaload, 1) := by decide +kernel
theorem dX5_remembers_57 : decode cX5_remembers 57 = .ok (.iastore, 1) := by decide +kernel
theorem dX5_remembers_58 : decode cX5_remembers 58 = .ok (.aload_n 0, 1) := by decide +kernel
theorem dX5_remembers_59 : decode cX5_remembers 59 = .ok (.getfield 77, 3) := by decide +kernel
theorem dX5_remembers_62 : decode cX5_remembers 62 = .ok (.iload_n 1, 1) := by decide +kernel
theorem dX5_remembers_63 : decode cX5_remembers 63 = .ok (.aload_n 0, 1) := by decide +kernel
theorem dX5_remembers_64 : decode cX5_remembers 64 = .ok (.getfield 50, 3) := by decide +kernel
theorem dX5_remembers_67 : decode cX5_remembers 67 = .ok (.iload_n 1, 1) := by decide +kernel
theorem dX5_remembers_68 : decode cX5_remembers 68 = .ok (.iaload, 1) := by decide +kernel
theorem dX5_remembers_69 : decode cX5_remembers 69 = .ok (.iastore, 1) := by decide +kernel
theorem dX5_remembers_70 : decode cX5_remembers 70 = .ok (.iinc 1 1, 3) := by decide +kernel
theorem dX5_remembers_73 : decode cX5_remembers 73 = .ok (.goto (-59), 3) := by decide +kernel
theorem dX5_remembers_76 : decode cX5_remembers 76 = .ok (.aload_n 0, 1) := by decide +kernel
theorem dX5_remembers_77 : decode cX5_remembers 77 = .ok (.aload_n 0, 1) := by decide +kernel
theorem dX5_remembers_78 : decode cX5_remembers 78 = .ok (.getfield 144, 3) := by decide +kernel
theorem dX5_remembers_81 : decode cX5_remembers 81 = .ok (.iconst 1, 1) := by decide +kernel
theorem dX5_remembers_82 : decode cX5_remembers 82 = .ok (.iadd, 1) := by decide +kernel
theorem dX5_remembers_83 : decode cX5_remembers 83 = .ok (.putfield 168, 3) := by decide +kernel
theorem dX5_remembers_86 : decode cX5_remembers 86 = .ok (.aload_n 0, 1) := by decide +kernel
theorem dX5_remembers_87 : decode cX5_remembers 87 = .ok (.iconst 1, 1) := by decide +kernel
theorem dX5_remembers_88 : decode cX5_remembers 88 = .ok (.putfield 171, 3) := by decide +kernel
theorem dX5_remembers_91 : decode cX5_remembers 91 = .ok (.return_, 1) := by decide +kernel
theorem dX5_notes_0 : decode cX5_notes 0 = .ok (.aload_n 0, 1) := by decide +kernel
theorem dX5_notes_1 : decode cX5_notes 1 = .ok (.invokevirtual 175, 3) := by decide +kernel
theorem dX5_notes_4 : decode cX5_notes 4 = .ok (.aload_n 0, 1) := by decide +kernel
theorem dX5_notes_5 : decode cX5_notes 5 = .ok (.getfield 178, 3) := by decide +kernel
theorem dX5_notes_8 : decode cX5_notes 8 = .ok (.bipush 8, 2) := by decide +kernel
theorem dX5_notes_10 : decode cX5_notes 10 = .ok (.if_icmp .ne 43, 3) := by decide +kernel
theorem dX5_notes_13 : decode cX5_notes 13 = .ok (.iconst 0, 1) := by decide +kernel
theorem dX5_notes_14 : decode cX5_notes 14 = .ok (.istore_n 1, 1) := by decide +kernel
theorem dX5_notes_15 : decode cX5_notes 15 = .ok (.iload_n 1, 1) := by decide +kernel
theorem dX5_notes_16 : decode cX5_notes 16 = .ok (.sipush 476, 3) := by decide +kernel
theorem dX5_notes_19 : decode cX5_notes 19 = .ok (.if_icmp .ge 24, 3) := by decide +kernel
theorem dX5_notes_22 : decode cX5_notes 22 = .ok (.aload_n 0, 1) := by decide +kernel
theorem dX5_notes_23 : decode cX5_notes 23 = .ok (.getfield 59, 3) := by decide +kernel
theorem dX5_notes_26 : decode cX5_notes 26 = .ok (.iload_n 1, 1) := by decide +kernel
theorem dX5_notes_27 : decode cX5_notes 27 = .ok (.aload_n 0, 1) := by decide +kernel
theorem dX5_notes_28 : decode cX5_notes 28 = .ok (.getfield 59, 3) := by decide +kernel
theorem dX5_notes_31 : decode cX5_notes 31 = .ok (.iload_n 1, 1) := by decide +kernel
theorem dX5_notes_32 : decode cX5_notes 32 = .ok (.bipush 68, 2) := by decide +kernel
theorem dX5_notes_34 : decode cX5_notes 34 = .ok (.iadd, 1) := by decide +kernel
theorem dX5_notes_35 : decode cX5_notes 35 = .ok (.iaload, 1) := by decide +kernel
theorem dX5_notes_36 : decode cX5_notes 36 = .ok (.iastore, 1) := by decide +kernel
theorem dX5_notes_37 : decode cX5_notes 37 = .ok (.iinc 1 1, 3) := by decide +kernel
theorem dX5_notes_40 : decode cX5_notes 40 = .ok (.goto (-25), 3) := by decide +kernel
theorem dX5_notes_43 : decode cX5_notes 43 = .ok (.aload_n 0, 1) := by decide +kernel
theorem dX5_notes_44 : decode cX5_notes 44 = .ok (.dup, 1) := by decide +kernel
theorem dX5_notes_45 : decode cX5_notes 45 = .ok (.getfield 178, 3) := by decide +kernel
theorem dX5_notes_48 : decode cX5_notes 48 = .ok (.iconst 1, 1) := by decide +kernel
theorem dX5_notes_49 : decode cX5_notes 49 = .ok (.isub, 1) := by decide +kernel
theorem dX5_notes_50 : decode cX5_notes 50 = .ok (.putfield 178, 3) := by decide +kernel
theorem dX5_notes_53 : decode cX5_notes 53 = .ok (.aload_n 0, 1) := by decide +kernel
theorem dX5_notes_54 : decode cX5_notes 54 = .ok (.aload_n 0, 1) := by decide +kernel
theorem dX5_notes_55 : decode cX5_notes 55 = .ok (.getfield 59, 3) := by decide +kernel
theorem dX5_notes_58 : decode cX5_notes 58 = .ok (.bipush 68, 2) := by decide +kernel
theorem dX5_notes_60 : decode cX5_notes 60 = .ok (.aload_n 0, 1) := by decide +kernel
theorem dX5_notes_61 : decode cX5_notes 61 = .ok (.getfield 178, 3) := by decide +kernel
theorem dX5_notes_64 : decode cX5_notes 64 = .ok (.imul, 1) := by decide +kernel
theorem dX5_notes_65 : decode cX5_notes 65 = .ok (.invokevirtual 181, 3) := by decide +kernel
theorem dX5_notes_68 : decode cX5_notes 68 = .ok (.aload_n 0, 1) := by decide +kernel
theorem dX5_notes_69 : decode cX5_notes 69 = .ok (.dup, 1) := by decide +kernel
theorem dX5_notes_70 : decode cX5_notes 70 = .ok (.getfield 178, 3) := by decide +kernel
theorem dX5_notes_73 : decode cX5_notes 73 = .ok (.iconst 1, 1) := by decide +kernel
theorem dX5_notes_74 : decode cX5_notes 74 = .ok (.iadd, 1) := by decide +kernel
theorem dX5_notes_75 : decode cX5_notes 75 = .ok (.putfield 178, 3) := by decide +kernel
theorem dX5_notes_78 : decode cX5_notes 78 = .ok (.return_, 1) := by decide +kernel
theorem dX5_putsIn_0 : decode cX5_putsIn 0 = .ok (.aload_n 0, 1) := by decide +kernel
theorem dX5_putsIn_1 : decode cX5_putsIn 1 = .ok (.getfield 89, 3) := by decide +kernel
theorem dX5_putsIn_4 : decode cX5_putsIn 4 = .ok (.istore_n 3, 1) := by decide +kernel
theorem dX5_putsIn_5 : decode cX5_putsIn 5 = .ok (.iload_n 3, 1) := by decide +kernel
theorem dX5_putsIn_6 : decode cX5_putsIn 6 = .ok (.iload_n 1, 1) := by decide +kernel
theorem dX5_putsIn_7 : decode cX5_putsIn 7 = .ok (.if_icmp .le 23, 3) := by decide +kernel
theorem dX5_putsIn_10 : decode cX5_putsIn 10 = .ok (.aload_n 0, 1) := by decide +kernel
theorem dX5_putsIn_11 : decode cX5_putsIn 11 = .ok (.getfield 7, 3) := by decide +kernel
theorem dX5_putsIn_14 : decode cX5_putsIn 14 = .ok (.iload_n 3, 1) := by decide +kernel
theorem dX5_putsIn_15 : decode cX5_putsIn 15 = .ok (.aload_n 0, 1) := by decide +kernel
theorem dX5_putsIn_16 : decode cX5_putsIn 16 = .ok (.getfield 7, 3) := by decide +kernel
theorem dX5_putsIn_19 : decode cX5_putsIn 19 = .ok (.iload_n 3, 1) := by decide +kernel
theorem dX5_putsIn_20 : decode cX5_putsIn 20 = .ok (.iconst 1, 1) := by decide +kernel
theorem dX5_putsIn_21 : decode cX5_putsIn 21 = .ok (.isub, 1) := by decide +kernel
theorem dX5_putsIn_22 : decode cX5_putsIn 22 = .ok (.iaload, 1) := by decide +kernel
theorem dX5_putsIn_23 : decode cX5_putsIn 23 = .ok (.iastore, 1) := by decide +kernel
theorem dX5_putsIn_24 : decode cX5_putsIn 24 = .ok (.iinc 3 (-1), 3) := by decide +kernel
theorem dX5_putsIn_27 : decode cX5_putsIn 27 = .ok (.goto (-22), 3) := by decide +kernel
theorem dX5_putsIn_30 : decode cX5_putsIn 30 = .ok (.aload_n 0, 1) := by decide +kernel
theorem dX5_putsIn_31 : decode cX5_putsIn 31 = .ok (.getfield 7, 3) := by decide +kernel
theorem dX5_putsIn_34 : decode cX5_putsIn 34 = .ok (.iload_n 1, 1) := by decide +kernel
theorem dX5_putsIn_35 : decode cX5_putsIn 35 = .ok (.iload_n 2, 1) := by decide +kernel
theorem dX5_putsIn_36 : decode cX5_putsIn 36 = .ok (.iastore, 1) := by decide +kernel
theorem dX5_putsIn_37 : decode cX5_putsIn 37 = .ok (.aload_n 0, 1) := by decide +kernel
theorem dX5_putsIn_38 : decode cX5_putsIn 38 = .ok (.dup, 1) := by decide +kernel
theorem dX5_putsIn_39 : decode cX5_putsIn 39 = .ok (.getfield 89, 3) := by decide +kernel
theorem dX5_putsIn_42 : decode cX5_putsIn 42 = .ok (.iconst 1, 1) := by decide +kernel
theorem dX5_putsIn_43 : decode cX5_putsIn 43 = .ok (.iadd, 1) := by decide +kernel
theorem dX5_putsIn_44 : decode cX5_putsIn 44 = .ok (.putfield 89, 3) := by decide +kernel
theorem dX5_putsIn_47 : decode cX5_putsIn 47 = .ok (.iconst 0, 1) := by decide +kernel
theorem dX5_putsIn_48 : decode cX5_putsIn 48 = .ok (.istore_n 3, 1) := by decide +kernel
theorem dX5_putsIn_49 : decode cX5_putsIn 49 = .ok (.iload_n 3, 1) := by decide +kernel
theorem dX5_putsIn_50 : decode cX5_putsIn 50 = .ok (.aload_n 0, 1) := by decide +kernel
theorem dX5_putsIn_51 : decode cX5_putsIn 51 = .ok (.getfield 107, 3) := by decide +kernel
theorem dX5_putsIn_54 : decode cX5_putsIn 54 = .ok (.if_icmp .ge 57, 3) := by decide +kernel
theorem dX5_putsIn_57 : decode cX5_putsIn 57 = .ok (.aload_n 0, 1) := by decide +kernel
theorem dX5_putsIn_58 : decode cX5_putsIn 58 = .ok (.getfield 16, 3) := by decide +kernel
theorem dX5_putsIn_61 : decode cX5_putsIn 61 = .ok (.iload_n 3, 1) := by decide +kernel
theorem dX5_putsIn_62 : decode cX5_putsIn 62 = .ok (.dup2, 1) := by decide +kernel
theorem dX5_putsIn_63 : decode cX5_putsIn 63 = .ok (.iaload, 1) := by decide +kernel
theorem dX5_putsIn_64 : decode cX5_putsIn 64 = .ok (.iload_n 1, 1) := by decide +kernel
theorem dX5_putsIn_65 : decode cX5_putsIn 65 = .ok (.aload_n 0, 1) := by decide +kernel
theorem dX5_putsIn_66 : decode cX5_putsIn 66 = .ok (.getfield 16, 3) := by decide +kernel
theorem dX5_putsIn_69 : decode cX5_putsIn 69 = .ok (.iload_n 3, 1) := by decide +kernel
theorem dX5_putsIn_70 : decode cX5_putsIn 70 = .ok (.iaload, 1) := by decide +kernel
theorem dX5_putsIn_71 : decode cX5_putsIn 71 = .ok (.if_icmp .ge 7, 3) := by decide +kernel
theorem dX5_putsIn_74 : decode cX5_putsIn 74 = .ok (.iconst 1, 1) := by decide +kernel
theorem dX5_putsIn_75 : decode cX5_putsIn 75 = .ok (.goto 4, 3) := by decide +kernel
theorem dX5_putsIn_78 : decode cX5_putsIn 78 = .ok (.iconst 0, 1) := by decide +kernel
theorem dX5_putsIn_79 : decode cX5_putsIn 79 = .ok (.iadd, 1) := by decide +kernel
theorem dX5_putsIn_80 : decode cX5_putsIn 80 = .ok (.iastore, 1) := by decide +kernel
theorem dX5_putsIn_81 : decode cX5_putsIn 81 = .ok (.aload_n 0, 1) := by decide +kernel
theorem dX5_putsIn_82 : decode cX5_putsIn 82 = .ok (.getfield 13, 3) := by decide +kernel
theorem dX5_putsIn_85 : decode cX5_putsIn 85 = .ok (.iload_n 3, 1) := by decide +kernel
theorem dX5_putsIn_86 : decode cX5_putsIn 86 = .ok (.dup2, 1) := by decide +kernel
theorem dX5_putsIn_87 : decode cX5_putsIn 87 = .ok (.iaload, 1) := by decide +kernel
theorem dX5_putsIn_88 : decode cX5_putsIn 88 = .ok (.iload_n 1, 1) := by decide +kernel
theorem dX5_putsIn_89 : decode cX5_putsIn 89 = .ok (.aload_n 0, 1) := by decide +kernel
theorem dX5_putsIn_90 : decode cX5_putsIn 90 = .ok (.getfield 13, 3) := by decide +kernel
theorem dX5_putsIn_93 : decode cX5_putsIn 93 = .ok (.iload_n 3, 1) := by decide +kernel
theorem dX5_putsIn_94 : decode cX5_putsIn 94 = .ok (.iaload, 1) := by decide +kernel
theorem dX5_putsIn_95 : decode cX5_putsIn 95 = .ok (.if_icmp .gt 7, 3) := by decide +kernel
theorem dX5_putsIn_98 : decode cX5_putsIn 98 = .ok (.iconst 1, 1) := by decide +kernel
theorem dX5_putsIn_99 : decode cX5_putsIn 99 = .ok (.goto 4, 3) := by decide +kernel
theorem dX5_putsIn_102 : decode cX5_putsIn 102 = .ok (.iconst 0, 1) := by decide +kernel
theorem dX5_putsIn_103 : decode cX5_putsIn 103 = .ok (.iadd, 1) := by decide +kernel
theorem dX5_putsIn_104 : decode cX5_putsIn 104 = .ok (.iastore, 1) := by decide +kernel
theorem dX5_putsIn_105 : decode cX5_putsIn 105 = .ok (.iinc 3 1, 3) := by decide +kernel
theorem dX5_putsIn_108 : decode cX5_putsIn 108 = .ok (.goto (-59), 3) := by decide +kernel
theorem dX5_putsIn_111 : decode cX5_putsIn 111 = .ok (.iconst 0, 1) := by decide +kernel
theorem dX5_putsIn_112 : decode cX5_putsIn 112 = .ok (.istore_n 3, 1) := by decide +kernel
theorem dX5_putsIn_113 : decode cX5_putsIn 113 = .ok (.iload_n 3, 1) := by decide +kernel
theorem dX5_putsIn_114 : decode cX5_putsIn 114 = .ok (.aload_n 0, 1) := by decide +kernel
theorem dX5_putsIn_115 : decode cX5_putsIn 115 = .ok (.getfield 110, 3) := by decide +kernel
theorem dX5_putsIn_118 : decode cX5_putsIn 118 = .ok (.if_icmp .ge 33, 3) := by decide +kernel
theorem dX5_putsIn_121 : decode cX5_putsIn 121 = .ok (.aload_n 0, 1) := by decide +kernel
theorem dX5_putsIn_122 : decode cX5_putsIn 122 = .ok (.getfield 22, 3) := by decide +kernel
theorem dX5_putsIn_125 : decode cX5_putsIn 125 = .ok (.iload_n 3, 1) := by decide +kernel
theorem dX5_putsIn_126 : decode cX5_putsIn 126 = .ok (.dup2, 1) := by decide +kernel
theorem dX5_putsIn_127 : decode cX5_putsIn 127 = .ok (.iaload, 1) := by decide +kernel
theorem dX5_putsIn_128 : decode cX5_putsIn 128 = .ok (.iload_n 1, 1) := by decide +kernel
theorem dX5_putsIn_129 : decode cX5_putsIn 129 = .ok (.aload_n 0, 1) := by decide +kernel
theorem dX5_putsIn_130 : decode cX5_putsIn 130 = .ok (.getfield 22, 3) := by decide +kernel
theorem dX5_putsIn_133 : decode cX5_putsIn 133 = .ok (.iload_n 3, 1) := by decide +kernel
theorem dX5_putsIn_134 : decode cX5_putsIn 134 = .ok (.iaload, 1) := by decide +kernel
theorem dX5_putsIn_135 : decode cX5_putsIn 135 = .ok (.if_icmp .gt 7, 3) := by decide +kernel
theorem dX5_putsIn_138 : decode cX5_putsIn 138 = .ok (.iconst 1, 1) := by decide +kernel
theorem dX5_putsIn_139 : decode cX5_putsIn 139 = .ok (.goto 4, 3) := by decide +kernel
theorem dX5_putsIn_142 : decode cX5_putsIn 142 = .ok (.iconst 0, 1) := by decide +kernel
theorem dX5_putsIn_143 : decode cX5_putsIn 143 = .ok (.iadd, 1) := by decide +kernel
theorem dX5_putsIn_144 : decode cX5_putsIn 144 = .ok (.iastore, 1) := by decide +kernel
theorem dX5_putsIn_145 : decode cX5_putsIn 145 = .ok (.iinc 3 1, 3) := by decide +kernel
theorem dX5_putsIn_148 : decode cX5_putsIn 148 = .ok (.goto (-35), 3) := by decide +kernel
theorem dX5_putsIn_151 : decode cX5_putsIn 151 = .ok (.return_, 1) := by decide +kernel
theorem dX5_takesOut_0 : decode cX5_takesOut 0 = .ok (.aload_n 0, 1) := by decide +kernel
theorem dX5_takesOut_1 : decode cX5_takesOut 1 = .ok (.dup, 1) := by decide +kernel
theorem dX5_takesOut_2 : decode cX5_takesOut 2 = .ok (.getfield 89, 3) := by decide +kernel
theorem dX5_takesOut_5 : decode cX5_takesOut 5 = .ok (.iconst 1, 1) := by decide +kernel
theorem dX5_takesOut_6 : decode cX5_takesOut 6 = .ok (.isub, 1) := by decide +kernel
theorem dX5_takesOut_7 : decode cX5_takesOut 7 = .ok (.putfield 89, 3) := by decide +kernel
theorem dX5_takesOut_10 : decode cX5_takesOut 10 = .ok (.iload_n 1, 1) := by decide +kernel
theorem dX5_takesOut_11 : decode cX5_takesOut 11 = .ok (.istore_n 2, 1) := by decide +kernel
theorem dX5_takesOut_12 : decode cX5_takesOut 12 = .ok (.iload_n 2, 1) := by decide +kernel
theorem dX5_takesOut_13 : decode cX5_takesOut 13 = .ok (.aload_n 0, 1) := by decide +kernel
theorem dX5_takesOut_14 : decode cX5_takesOut 14 = .ok (.getfield 89, 3) := by decide +kernel
theorem dX5_takesOut_17 : decode cX5_takesOut 17 = .ok (.if_icmp .ge 23, 3) := by decide +kernel
theorem dX5_takesOut_20 : decode cX5_takesOut 20 = .ok (.aload_n 0, 1) := by decide +kernel
theorem dX5_takesOut_21 : decode cX5_takesOut 21 = .ok (.getfield 7, 3) := by decide +kernel
theorem dX5_takesOut_24 : decode cX5_takesOut 24 = .ok (.iload_n 2, 1) := by decide +kernel
theorem dX5_takesOut_25 : decode cX5_takesOut 25 = .ok (.aload_n 0, 1) := by decide +kernel
theorem dX5_takesOut_26 : decode cX5_takesOut 26 = .ok (.getfield 7, 3) := by decide +kernel
theorem dX5_takesOut_29 : decode cX5_takesOut 29 = .ok (.iload_n 2, 1) := by decide +kernel
theorem dX5_takesOut_30 : decode cX5_takesOut 30 = .ok (.iconst 1, 1) := by decide +kernel
theorem dX5_takesOut_31 : decode cX5_takesOut 31 = .ok (.iadd, 1) := by decide +kernel
theorem dX5_takesOut_32 : decode cX5_takesOut 32 = .ok (.iaload, 1) := by decide +kernel
theorem dX5_takesOut_33 : decode cX5_takesOut 33 = .ok (.iastore, 1) := by decide +kernel
theorem dX5_takesOut_34 : decode cX5_takesOut 34 = .ok (.iinc 2 1, 3) := by decide +kernel
theorem dX5_takesOut_37 : decode cX5_takesOut 37 = .ok (.goto (-25), 3) := by decide +kernel
theorem dX5_takesOut_40 : decode cX5_takesOut 40 = .ok (.aload_n 0, 1) := by decide +kernel
theorem dX5_takesOut_41 : decode cX5_takesOut 41 = .ok (.getfield 107, 3) := by decide +kernel
theorem dX5_takesOut_44 : decode cX5_takesOut 44 = .ok (.iconst 1, 1) := by decide +kernel
theorem dX5_takesOut_45 : decode cX5_takesOut 45 = .ok (.isub, 1) := by decide +kernel
theorem dX5_takesOut_46 : decode cX5_takesOut 46 = .ok (.istore_n 2, 1) := by decide +kernel
theorem dX5_takesOut_47 : decode cX5_takesOut 47 = .ok (.iload_n 2, 1) := by decide +kernel
theorem dX5_takesOut_48 : decode cX5_takesOut 48 = .ok (.ifCond .lt 77, 3) := by decide +kernel
theorem dX5_takesOut_51 : decode cX5_takesOut 51 = .ok (.aload_n 0, 1) := by decide +kernel
theorem dX5_takesOut_52 : decode cX5_takesOut 52 = .ok (.getfield 16, 3) := by decide +kernel
theorem dX5_takesOut_55 : decode cX5_takesOut 55 = .ok (.iload_n 2, 1) := by decide +kernel
theorem dX5_takesOut_56 : decode cX5_takesOut 56 = .ok (.dup2, 1) := by decide +kernel
theorem dX5_takesOut_57 : decode cX5_takesOut 57 = .ok (.iaload, 1) := by decide +kernel
theorem dX5_takesOut_58 : decode cX5_takesOut 58 = .ok (.iload_n 1, 1) := by decide +kernel
theorem dX5_takesOut_59 : decode cX5_takesOut 59 = .ok (.aload_n 0, 1) := by decide +kernel
theorem dX5_takesOut_60 : decode cX5_takesOut 60 = .ok (.getfield 16, 3) := by decide +kernel
theorem dX5_takesOut_63 : decode cX5_takesOut 63 = .ok (.iload_n 2, 1) := by decide +kernel
theorem dX5_takesOut_64 : decode cX5_takesOut 64 = .ok (.iaload, 1) := by decide +kernel
theorem dX5_takesOut_65 : decode cX5_takesOut 65 = .ok (.if_icmp .ge 7, 3) := by decide +kernel
theorem dX5_takesOut_68 : decode cX5_takesOut 68 = .ok (.iconst 1, 1) := by decide +kernel
theorem dX5_takesOut_69 : decode cX5_takesOut 69 = .ok (.goto 4, 3) := by decide +kernel
theorem dX5_takesOut_72 : decode cX5_takesOut 72 = .ok (.iconst 0, 1) := by decide +kernel
theorem dX5_takesOut_73 : decode cX5_takesOut 73 = .ok (.isub, 1) := by decide +kernel
theorem dX5_takesOut_74 : decode cX5_takesOut 74 = .ok (.iastore, 1) := by decide +kernel
theorem dX5_takesOut_75 : decode cX5_takesOut 75 = .ok (.aload_n 0, 1) := by decide +kernel
theorem dX5_takesOut_76 : decode cX5_takesOut 76 = .ok (.getfield 13, 3) := by decide +kernel
theorem dX5_takesOut_79 : decode cX5_takesOut 79 = .ok (.iload_n 2, 1) := by decide +kernel
theorem dX5_takesOut_80 : decode cX5_takesOut 80 = .ok (.dup2, 1) := by decide +kernel
theorem dX5_takesOut_81 : decode cX5_takesOut 81 = .ok (.iaload, 1) := by decide +kernel
theorem dX5_takesOut_82 : decode cX5_takesOut 82 = .ok (.iload_n 1, 1) := by decide +kernel
theorem dX5_takesOut_83 : decode cX5_takesOut 83 = .ok (.aload_n 0, 1) := by decide +kernel
theorem dX5_takesOut_84 : decode cX5_takesOut 84 = .ok (.getfield 13, 3) := by decide +kernel
theorem dX5_takesOut_87 : decode cX5_takesOut 87 = .ok (.iload_n 2, 1) := by decide +kernel
theorem dX5_takesOut_88 : decode cX5_takesOut 88 = .ok (.iaload, 1) := by decide +kernel
theorem dX5_takesOut_89 : decode cX5_takesOut 89 = .ok (.if_icmp .ge 7, 3) := by decide +kernel
theorem dX5_takesOut_92 : decode cX5_takesOut 92 = .ok (.iconst 1, 1) := by decide +kernel
theorem dX5_takesOut_93 : decode cX5_takesOut 93 = .ok (.goto 4, 3) := by decide +kernel
theorem dX5_takesOut_96 : decode cX5_takesOut 96 = .ok (.iconst 0, 1) := by decide +kernel
theorem dX5_takesOut_97 : decode cX5_takesOut 97 = .ok (.isub, 1) := by decide +kernel
theorem dX5_takesOut_98 : decode cX5_takesOut 98 = .ok (.iastore, 1) := by decide +kernel
theorem dX5_takesOut_99 : decode cX5_takesOut 99 = .ok (.aload_n 0, 1) := by decide +kernel
theorem dX5_takesOut_100 : decode cX5_takesOut 100 = .ok (.getfield 13, 3) := by decide +kernel
theorem dX5_takesOut_103 : decode cX5_takesOut 103 = .ok (.iload_n 2, 1) := by decide +kernel
theorem dX5_takesOut_104 : decode cX5_takesOut 104 = .ok (.iaload, 1) := by decide +kernel
theorem dX5_takesOut_105 : decode cX5_takesOut 105 = .ok (.aload_n 0, 1) := by decide +kernel
theorem dX5_takesOut_106 : decode cX5_takesOut 106 = .ok (.getfield 16, 3) := by decide +kernel
theorem dX5_takesOut_109 : decode cX5_takesOut 109 = .ok (.iload_n 2, 1) := by decide +kernel
theorem dX5_takesOut_110 : decode cX5_takesOut 110 = .ok (.iaload, 1) := by decide +kernel
theorem dX5_takesOut_111 : decode cX5_takesOut 111 = .ok (.if_icmp .ne 8, 3) := by decide +kernel
theorem dX5_takesOut_114 : decode cX5_takesOut 114 = .ok (.aload_n 0, 1) := by decide +kernel
theorem dX5_takesOut_115 : decode cX5_takesOut 115 = .ok (.iload_n 2, 1) := by decide +kernel
theorem dX5_takesOut_116 : decode cX5_takesOut 116 = .ok (.invokevirtual 185, 3) := by decide +kernel
theorem dX5_takesOut_119 : decode cX5_takesOut 119 = .ok (.iinc 2 (-1), 3) := by decide +kernel
theorem dX5_takesOut_122 : decode cX5_takesOut 122 = .ok (.goto (-75), 3) := by decide +kernel
theorem dX5_takesOut_125 : decode cX5_takesOut 125 = .ok (.aload_n 0, 1) := by decide +kernel
theorem dX5_takesOut_126 : decode cX5_takesOut 126 = .ok (.iload_n 1, 1) := by decide +kernel
theorem dX5_takesOut_127 : decode cX5_takesOut 127 = .ok (.invokevirtual 120, 3) := by decide +kernel
theorem dX5_takesOut_130 : decode cX5_takesOut 130 = .ok (.bipush (-4), 2) := by decide +kernel
theorem dX5_takesOut_132 : decode cX5_takesOut 132 = .ok (.if_icmp .eq 24, 3) := by decide +kernel
theorem dX5_takesOut_135 : decode cX5_takesOut 135 = .ok (.aload_n 0, 1) := by decide +kernel
theorem dX5_takesOut_136 : decode cX5_takesOut 136 = .ok (.iload_n 1, 1) := by decide +kernel
theorem dX5_takesOut_137 : decode cX5_takesOut 137 = .ok (.iconst 1, 1) := by decide +kernel
theorem dX5_takesOut_138 : decode cX5_takesOut 138 = .ok (.iadd, 1) := by decide +kernel
theorem dX5_takesOut_139 : decode cX5_takesOut 139 = .ok (.invokevirtual 120, 3) := by decide +kernel
theorem dX5_takesOut_142 : decode cX5_takesOut 142 = .ok (.bipush (-4), 2) := by decide +kernel
theorem dX5_takesOut_144 : decode cX5_takesOut 144 = .ok (.if_icmp .eq 12, 3) := by decide +kernel
theorem dX5_takesOut_147 : decode cX5_takesOut 147 = .ok (.aload_n 0, 1) := by decide +kernel
theorem dX5_takesOut_148 : decode cX5_takesOut 148 = .ok (.aload_n 0, 1) := by decide +kernel
theorem dX5_takesOut_149 : decode cX5_takesOut 149 = .ok (.iload_n 1, 1) := by decide +kernel
theorem dX5_takesOut_150 : decode cX5_takesOut 150 = .ok (.invokevirtual 120, 3) := by decide +kernel
theorem dX5_takesOut_153 : decode cX5_takesOut 153 = .ok (.invokevirtual 189, 3) := by decide +kernel
theorem dX5_takesOut_156 : decode cX5_takesOut 156 = .ok (.iconst 0, 1) := by decide +kernel
theorem dX5_takesOut_157 : decode cX5_takesOut 157 = .ok (.istore_n 2, 1) := by decide +kernel
theorem dX5_takesOut_158 : decode cX5_takesOut 158 = .ok (.iload_n 2, 1) := by decide +kernel
theorem dX5_takesOut_159 : decode cX5_takesOut 159 = .ok (.aload_n 0, 1) := by decide +kernel
theorem dX5_takesOut_160 : decode cX5_takesOut 160 = .ok (.getfield 110, 3) := by decide +kernel
theorem dX5_takesOut_163 : decode cX5_takesOut 163 = .ok (.if_icmp .ge 33, 3) := by decide +kernel
theorem dX5_takesOut_166 : decode cX5_takesOut 166 = .ok (.aload_n 0, 1) := by decide +kernel
theorem dX5_takesOut_167 : decode cX5_takesOut 167 = .ok (.getfield 22, 3) := by decide +kernel
theorem dX5_takesOut_170 : decode cX5_takesOut 170 = .ok (.iload_n 2, 1) := by decide +kernel
theorem dX5_takesOut_171 : decode cX5_takesOut 171 = .ok (.dup2, 1) := by decide +kernel
theorem dX5_takesOut_172 : decode cX5_takesOut 172 = .ok (.iaload, 1) := by decide +kernel
theorem dX5_takesOut_173 : decode cX5_takesOut 173 = .ok (.iload_n 1, 1) := by decide +kernel
theorem dX5_takesOut_174 : decode cX5_takesOut 174 = .ok (.aload_n 0, 1) := by decide +kernel
theorem dX5_takesOut_175 : decode cX5_takesOut 175 = .ok (.getfield 22, 3) := by decide +kernel
theorem dX5_takesOut_178 : decode cX5_takesOut 178 = .ok (.iload_n 2, 1) := by decide +kernel
theorem dX5_takesOut_179 : decode cX5_takesOut 179 = .ok (.iaload, 1) := by decide +kernel
theorem dX5_takesOut_180 : decode cX5_takesOut 180 = .ok (.if_icmp .ge 7, 3) := by decide +kernel
theorem dX5_takesOut_183 : decode cX5_takesOut 183 = .ok (.iconst 1, 1) := by decide +kernel
theorem dX5_takesOut_184 : decode cX5_takesOut 184 = .ok (.goto 4, 3) := by decide +kernel
theorem dX5_takesOut_187 : decode cX5_takesOut 187 = .ok (.iconst 0, 1) := by decide +kernel
theorem dX5_takesOut_188 : decode cX5_takesOut 188 = .ok (.isub, 1) := by decide +kernel
theorem dX5_takesOut_189 : decode cX5_takesOut 189 = .ok (.iastore, 1) := by decide +kernel
theorem dX5_takesOut_190 : decode cX5_takesOut 190 = .ok (.iinc 2 1, 3) := by decide +kernel
theorem dX5_takesOut_193 : decode cX5_takesOut 193 = .ok (.goto (-35), 3) := by decide +kernel
theorem dX5_takesOut_196 : decode cX5_takesOut 196 = .ok (.return_, 1) := by decide +kernel
theorem dX5_insert_0 : decode cX5_insert 0 = .ok (.aload_n 0, 1) := by decide +kernel
theorem dX5_insert_1 : decode cX5_insert 1 = .ok (.iload_n 1, 1) := by decide +kernel
theorem dX5_insert_2 : decode cX5_insert 2 = .ok (.invokevirtual 153, 3) := by decide +kernel
theorem dX5_insert_5 : decode cX5_insert 5 = .ok (.ifCond .eq 13, 3) := by decide +kernel
theorem dX5_insert_8 : decode cX5_insert 8 = .ok (.iload_n 2, 1) := by decide +kernel
theorem dX5_insert_9 : decode cX5_insert 9 = .ok (.iconst 0, 1) := by decide +kernel
theorem dX5_insert_10 : decode cX5_insert 10 = .ok (.bipush 27, 2) := by decide +kernel
theorem dX5_insert_12 : decode cX5_insert 12 = .ok (.invokestatic 103, 3) := by decide +kernel
theorem dX5_insert_15 : decode cX5_insert 15 = .ok (.ifCond .ne 5, 3) := by decide +kernel
theorem dX5_insert_18 : decode cX5_insert 18 = .ok (.iconst (-1), 1) := by decide +kernel
theorem dX5_insert_19 : decode cX5_insert 19 = .ok (.ireturn, 1) := by decide +kernel
theorem dX5_insert_20 : decode cX5_insert 20 = .ok (.aload_n 0, 1) := by decide +kernel
theorem dX5_insert_21 : decode cX5_insert 21 = .ok (.getfield 89, 3) := by decide +kernel
theorem dX5_insert_24 : decode cX5_insert 24 = .ok (.bipush 40, 2) := by decide +kernel
theorem dX5_insert_26 : decode cX5_insert 26 = .ok (.if_icmp .ne 6, 3) := by decide +kernel
theorem dX5_insert_29 : decode cX5_insert 29 = .ok (.bipush (-3), 2) := by decide +kernel
theorem dX5_insert_31 : decode cX5_insert 31 = .ok (.ireturn, 1) := by decide +kernel
theorem dX5_insert_32 : decode cX5_insert 32 = .ok (.aload_n 0, 1) := by decide +kernel
theorem dX5_insert_33 : decode cX5_insert 33 = .ok (.invokevirtual 192, 3) := by decide +kernel
theorem dX5_insert_36 : decode cX5_insert 36 = .ok (.aload_n 0, 1) := by decide +kernel
theorem dX5_insert_37 : decode cX5_insert 37 = .ok (.iload_n 1, 1) := by decide +kernel
theorem dX5_insert_38 : decode cX5_insert 38 = .ok (.iload_n 2, 1) := by decide +kernel
theorem dX5_insert_39 : decode cX5_insert 39 = .ok (.invokevirtual 195, 3) := by decide +kernel
theorem dX5_insert_42 : decode cX5_insert 42 = .ok (.aload_n 0, 1) := by decide +kernel
theorem dX5_insert_43 : decode cX5_insert 43 = .ok (.getfield 89, 3) := by decide +kernel
theorem dX5_insert_46 : decode cX5_insert 46 = .ok (.ireturn, 1) := by decide +kernel
theorem dX5_erase_0 : decode cX5_erase 0 = .ok (.aload_n 0, 1) := by decide +kernel
theorem dX5_erase_1 : decode cX5_erase 1 = .ok (.iload_n 1, 1) := by decide +kernel
theorem dX5_erase_2 : decode cX5_erase 2 = .ok (.invokevirtual 199, 3) := by decide +kernel
theorem dX5_erase_5 : decode cX5_erase 5 = .ok (.ifCond .ne 5, 3) := by decide +kernel
theorem dX5_erase_8 : decode cX5_erase 8 = .ok (.iconst (-1), 1) := by decide +kernel
theorem dX5_erase_9 : decode cX5_erase 9 = .ok (.ireturn, 1) := by decide +kernel
theorem dX5_erase_10 : decode cX5_erase 10 = .ok (.aload_n 0, 1) := by decide +kernel
theorem dX5_erase_11 : decode cX5_erase 11 = .ok (.invokevirtual 192, 3) := by decide +kernel
theorem dX5_erase_14 : decode cX5_erase 14 = .ok (.aload_n 0, 1) := by decide +kernel
theorem dX5_erase_15 : decode cX5_erase 15 = .ok (.getfield 7, 3) := by decide +kernel
theorem dX5_erase_18 : decode cX5_erase 18 = .ok (.iload_n 1, 1) := by decide +kernel
theorem dX5_erase_19 : decode cX5_erase 19 = .ok (.iaload, 1) := by decide +kernel
theorem dX5_erase_20 : decode cX5_erase 20 = .ok (.istore_n 2, 1) := by decide +kernel
theorem dX5_erase_21 : decode cX5_erase 21 = .ok (.aload_n 0, 1) := by decide +kernel
theorem dX5_erase_22 : decode cX5_erase 22 = .ok (.iload_n 1, 1) := by decide +kernel
theorem dX5_erase_23 : decode cX5_erase 23 = .ok (.invokevirtual 202, 3) := by decide +kernel
theorem dX5_erase_26 : decode cX5_erase 26 = .ok (.iload_n 2, 1) := by decide +kernel
theorem dX5_erase_27 : decode cX5_erase 27 = .ok (.ireturn, 1) := by decide +kernel
theorem dX5_toggle_0 : decode cX5_toggle 0 = .ok (.aload_n 0, 1) := by decide +kernel
theorem dX5_toggle_1 : decode cX5_toggle 1 = .ok (.iload_n 1, 1) := by decide +kernel
theorem dX5_toggle_2 : decode cX5_toggle 2 = .ok (.invokevirtual 156, 3) := by decide +kernel
theorem dX5_toggle_5 : decode cX5_toggle 5 = .ok (.ifCond .ne 5, 3) := by decide +kernel
theorem dX5_toggle_8 : decode cX5_toggle 8 = .ok (.iconst (-1), 1) := by decide +kernel
theorem dX5_toggle_9 : decode cX5_toggle 9 = .ok (.ireturn, 1) := by decide +kernel
theorem dX5_toggle_10 : decode cX5_toggle 10 = .ok (.aload_n 0, 1) := by decide +kernel
theorem dX5_toggle_11 : decode cX5_toggle 11 = .ok (.invokevirtual 192, 3) := by decide +kernel
theorem dX5_toggle_14 : decode cX5_toggle 14 = .ok (.aload_n 0, 1) := by decide +kernel
theorem dX5_toggle_15 : decode cX5_toggle 15 = .ok (.getfield 19, 3) := by decide +kernel
theorem dX5_toggle_18 : decode cX5_toggle 18 = .ok (.iload_n 1, 1) := by decide +kernel
theorem dX5_toggle_19 : decode cX5_toggle 19 = .ok (.iconst 1, 1) := by decide +kernel
theorem dX5_toggle_20 : decode cX5_toggle 20 = .ok (.aload_n 0, 1) := by decide +kernel
theorem dX5_toggle_21 : decode cX5_toggle 21 = .ok (.getfield 19, 3) := by decide +kernel
theorem dX5_toggle_24 : decode cX5_toggle 24 = .ok (.iload_n 1, 1) := by decide +kernel
theorem dX5_toggle_25 : decode cX5_toggle 25 = .ok (.iaload, 1) := by decide +kernel
theorem dX5_toggle_26 : decode cX5_toggle 26 = .ok (.isub, 1) := by decide +kernel
theorem dX5_toggle_27 : decode cX5_toggle 27 = .ok (.iastore, 1) := by decide +kernel
theorem dX5_toggle_28 : decode cX5_toggle 28 = .ok (.aload_n 0, 1) := by decide +kernel
theorem dX5_toggle_29 : decode cX5_toggle 29 = .ok (.getfield 19, 3) := by decide +kernel
theorem dX5_toggle_32 : decode cX5_toggle 32 = .ok (.iload_n 1, 1) := by decide +kernel
theorem dX5_toggle_33 : decode cX5_toggle 33 = .ok (.iaload, 1) := by decide +kernel
theorem dX5_toggle_34 : decode cX5_toggle 34 = .ok (.ireturn, 1) := by decide +kernel
theorem dX5_make_0 : decode cX5_make 0 = .ok (.iload_n 1, 1) := by decide +kernel
theorem dX5_make_1 : decode cX5_make 1 = .ok (.iconst 0, 1) := by decide +kernel
theorem dX5_make_2 : decode cX5_make 2 = .ok (.aload_n 0, 1) := by decide +kernel
theorem dX5_make_3 : decode cX5_make 3 = .ok (.getfield 89, 3) := by decide +kernel
theorem dX5_make_6 : decode cX5_make 6 = .ok (.invokestatic 103, 3) := by decide +kernel
theorem dX5_make_9 : decode cX5_make 9 = .ok (.ifCond .eq 16, 3) := by decide +kernel
theorem dX5_make_12 : decode cX5_make 12 = .ok (.iload_n 2, 1) := by decide +kernel
theorem dX5_make_13 : decode cX5_make 13 = .ok (.iload_n 1, 1) := by decide +kernel
theorem dX5_make_14 : decode cX5_make 14 = .ok (.if_icmp .le 11, 3) := by decide +kernel
theorem dX5_make_17 : decode cX5_make 17 = .ok (.iload_n 2, 1) := by decide +kernel
theorem dX5_make_18 : decode cX5_make 18 = .ok (.aload_n 0, 1) := by decide +kernel
theorem dX5_make_19 : decode cX5_make 19 = .ok (.getfield 89, 3) := by decide +kernel
theorem dX5_make_22 : decode cX5_make 22 = .ok (.if_icmp .le 5, 3) := by decide +kernel
theorem dX5_make_25 : decode cX5_make 25 = .ok (.iconst (-1), 1) := by decide +kernel
theorem dX5_make_26 : decode cX5_make 26 = .ok (.ireturn, 1) := by decide +kernel
theorem dX5_make_27 : decode cX5_make 27 = .ok (.aload_n 0, 1) := by decide +kernel
theorem dX5_make_28 : decode cX5_make 28 = .ok (.iload_n 1, 1) := by decide +kernel
theorem dX5_make_29 : decode cX5_make 29 = .ok (.iload_n 2, 1) := by decide +kernel
theorem dX5_make_30 : decode cX5_make 30 = .ok (.invokevirtual 205, 3) := by decide +kernel
theorem dX5_make_33 : decode cX5_make 33 = .ok (.ifCond .ne 6, 3) := by decide +kernel
theorem dX5_make_36 : decode cX5_make 36 = .ok (.bipush (-2), 2) := by decide +kernel
theorem dX5_make_38 : decode cX5_make 38 = .ok (.ireturn, 1) := by decide +kernel
theorem dX5_make_39 : decode cX5_make 39 = .ok (.aload_n 0, 1) := by decide +kernel
theorem dX5_make_40 : decode cX5_make 40 = .ok (.getfield 107, 3) := by decide +kernel
theorem dX5_make_43 : decode cX5_make 43 = .ok (.iconst 4, 1) := by decide +kernel
theorem dX5_make_44 : decode cX5_make 44 = .ok (.if_icmp .ne 6, 3) := by decide +kernel
theorem dX5_make_47 : decode cX5_make 47 = .ok (.bipush (-3), 2) := by decide +kernel
theorem dX5_make_49 : decode cX5_make 49 = .ok (.ireturn, 1) := by decide +kernel
theorem dX5_make_50 : decode cX5_make 50 = .ok (.aload_n 0, 1) := by decide +kernel
theorem dX5_make_51 : decode cX5_make 51 = .ok (.invokevirtual 192, 3) := by decide +kernel
theorem dX5_make_54 : decode cX5_make 54 = .ok (.aload_n 0, 1) := by decide +kernel
theorem dX5_make_55 : decode cX5_make 55 = .ok (.iload_n 1, 1) := by decide +kernel
theorem dX5_make_56 : decode cX5_make 56 = .ok (.iload_n 2, 1) := by decide +kernel
theorem dX5_make_57 : decode cX5_make 57 = .ok (.iconst 1, 1) := by decide +kernel
theorem dX5_make_58 : decode cX5_make 58 = .ok (.invokevirtual 92, 3) := by decide +kernel
theorem dX5_make_61 : decode cX5_make 61 = .ok (.ireturn, 1) := by decide +kernel
theorem dX5_unfold_0 : decode cX5_unfold 0 = .ok (.aload_n 0, 1) := by decide +kernel
theorem dX5_unfold_1 : decode cX5_unfold 1 = .ok (.iload_n 1, 1) := by decide +kernel
theorem dX5_unfold_2 : decode cX5_unfold 2 = .ok (.invokevirtual 156, 3) := by decide +kernel
theorem dX5_unfold_5 : decode cX5_unfold 5 = .ok (.ifCond .ne 5, 3) := by decide +kernel
theorem dX5_unfold_8 : decode cX5_unfold 8 = .ok (.iconst (-1), 1) := by decide +kernel
theorem dX5_unfold_9 : decode cX5_unfold 9 = .ok (.ireturn, 1) := by decide +kernel
theorem dX5_unfold_10 : decode cX5_unfold 10 = .ok (.aload_n 0, 1) := by decide +kernel
theorem dX5_unfold_11 : decode cX5_unfold 11 = .ok (.invokevirtual 192, 3) := by decide +kernel
theorem dX5_unfold_14 : decode cX5_unfold 14 = .ok (.aload_n 0, 1) := by decide +kernel
theorem dX5_unfold_15 : decode cX5_unfold 15 = .ok (.iload_n 1, 1) := by decide +kernel
theorem dX5_unfold_16 : decode cX5_unfold 16 = .ok (.invokevirtual 185, 3) := by decide +kernel
theorem dX5_unfold_19 : decode cX5_unfold 19 = .ok (.aload_n 0, 1) := by decide +kernel
theorem dX5_unfold_20 : decode cX5_unfold 20 = .ok (.getfield 107, 3) := by decide +kernel
theorem dX5_unfold_23 : decode cX5_unfold 23 = .ok (.ireturn, 1) := by decide +kernel
theorem dX5_set_0 : decode cX5_set 0 = .ok (.aload_n 0, 1) := by decide +kernel
theorem dX5_set_1 : decode cX5_set 1 = .ok (.iload_n 1, 1) := by decide +kernel
theorem dX5_set_2 : decode cX5_set 2 = .ok (.invokevirtual 153, 3) := by decide +kernel
theorem dX5_set_5 : decode cX5_set 5 = .ok (.ifCond .eq 12, 3) := by decide +kernel
theorem dX5_set_8 : decode cX5_set 8 = .ok (.iload_n 2, 1) := by decide +kernel
theorem dX5_set_9 : decode cX5_set 9 = .ok (.iconst 1, 1) := by decide +kernel
theorem dX5_set_10 : decode cX5_set 10 = .ok (.iconst 5, 1) := by decide +kernel
theorem dX5_set_11 : decode cX5_set 11 = .ok (.invokestatic 103, 3) := by decide +kernel
theorem dX5_set_14 : decode cX5_set 14 = .ok (.ifCond .ne 5, 3) := by decide +kernel
theorem dX5_set_17 : decode cX5_set 17 = .ok (.iconst (-1), 1) := by decide +kernel
theorem dX5_set_18 : decode cX5_set 18 = .ok (.ireturn, 1) := by decide +kernel
theorem dX5_set_19 : decode cX5_set 19 = .ok (.aload_n 0, 1) := by decide +kernel
theorem dX5_set_20 : decode cX5_set 20 = .ok (.iload_n 1, 1) := by decide +kernel
theorem dX5_set_21 : decode cX5_set 21 = .ok (.invokevirtual 120, 3) := by decide +kernel
theorem dX5_set_24 : decode cX5_set 24 = .ok (.bipush (-4), 2) := by decide +kernel
theorem dX5_set_26 : decode cX5_set 26 = .ok (.if_icmp .eq 6, 3) := by decide +kernel
theorem dX5_set_29 : decode cX5_set 29 = .ok (.bipush (-2), 2) := by decide +kernel
theorem dX5_set_31 : decode cX5_set 31 = .ok (.ireturn, 1) := by decide +kernel
theorem dX5_set_32 : decode cX5_set 32 = .ok (.aload_n 0, 1) := by decide +kernel
theorem dX5_set_33 : decode cX5_set 33 = .ok (.getfield 110, 3) := by decide +kernel
theorem dX5_set_36 : decode cX5_set 36 = .ok (.iconst 4, 1) := by decide +kernel
theorem dX5_set_37 : decode cX5_set 37 = .ok (.if_icmp .ne 6, 3) := by decide +kernel
theorem dX5_set_40 : decode cX5_set 40 = .ok (.bipush (-3), 2) := by decide +kernel
theorem dX5_set_42 : decode cX5_set 42 = .ok (.ireturn, 1) := by decide +kernel
theorem dX5_set_43 : decode cX5_set 43 = .ok (.aload_n 0, 1) := by decide +kernel
theorem dX5_set_44 : decode cX5_set 44 = .ok (.invokevirtual 192, 3) := by decide +kernel
theorem dX5_set_47 : decode cX5_set 47 = .ok (.aload_n 0, 1) := by decide +kernel
theorem dX5_set_48 : decode cX5_set 48 = .ok (.iload_n 1, 1) := by decide +kernel
theorem dX5_set_49 : decode cX5_set 49 = .ok (.iload_n 2, 1) := by decide +kernel
theorem dX5_set_50 : decode cX5_set 50 = .ok (.invokevirtual 96, 3) := by decide +kernel
theorem dX5_set_53 : decode cX5_set 53 = .ok (.ireturn, 1) := by decide +kernel
theorem dX5_unset_0 : decode cX5_unset 0 = .ok (.aload_n 0, 1) := by decide +kernel
theorem dX5_unset_1 : decode cX5_unset 1 = .ok (.iload_n 1, 1) := by decide +kernel
theorem dX5_unset_2 : decode cX5_unset 2 = .ok (.invokevirtual 159, 3) := by decide +kernel
theorem dX5_unset_5 : decode cX5_unset 5 = .ok (.ifCond .ne 5, 3) := by decide +kernel
theorem dX5_unset_8 : decode cX5_unset 8 = .ok (.iconst (-1), 1) := by decide +kernel
theorem dX5_unset_9 : decode cX5_unset 9 = .ok (.ireturn, 1) := by decide +kernel
theorem dX5_unset_10 : decode cX5_unset 10 = .ok (.aload_n 0, 1) := by decide +kernel
theorem dX5_unset_11 : decode cX5_unset 11 = .ok (.invokevirtual 192, 3) := by decide +kernel
theorem dX5_unset_14 : decode cX5_unset 14 = .ok (.aload_n 0, 1) := by decide +kernel
theorem dX5_unset_15 : decode cX5_unset 15 = .ok (.getfield 25, 3) := by decide +kernel
theorem dX5_unset_18 : decode cX5_unset 18 = .ok (.iload_n 1, 1) := by decide +kernel
theorem dX5_unset_19 : decode cX5_unset 19 = .ok (.iaload, 1) := by decide +kernel
theorem dX5_unset_20 : decode cX5_unset 20 = .ok (.istore_n 2, 1) := by decide +kernel
theorem dX5_unset_21 : decode cX5_unset 21 = .ok (.aload_n 0, 1) := by decide +kernel
theorem dX5_unset_22 : decode cX5_unset 22 = .ok (.iload_n 1, 1) := by decide +kernel
theorem dX5_unset_23 : decode cX5_unset 23 = .ok (.invokevirtual 189, 3) := by decide +kernel
theorem dX5_unset_26 : decode cX5_unset 26 = .ok (.iload_n 2, 1) := by decide +kernel
theorem dX5_unset_27 : decode cX5_unset 27 = .ok (.ireturn, 1) := by decide +kernel
theorem dX5_isWide_0 : decode cX5_isWide 0 = .ok (.iload_n 0, 1) := by decide +kernel
theorem dX5_isWide_1 : decode cX5_isWide 1 = .ok (.iconst 0, 1) := by decide +kernel
theorem dX5_isWide_2 : decode cX5_isWide 2 = .ok (.iconst 2, 1) := by decide +kernel
theorem dX5_isWide_3 : decode cX5_isWide 3 = .ok (.invokestatic 103, 3) := by decide +kernel
theorem dX5_isWide_6 : decode cX5_isWide 6 = .ok (.ifCond .eq 26, 3) := by decide +kernel
theorem dX5_isWide_9 : decode cX5_isWide 9 = .ok (.iload_n 1, 1) := by decide +kernel
theorem dX5_isWide_10 : decode cX5_isWide 10 = .ok (.iconst 4, 1) := by decide +kernel
theorem dX5_isWide_11 : decode cX5_isWide 11 = .ok (.bipush 20, 2) := by decide +kernel
theorem dX5_isWide_13 : decode cX5_isWide 13 = .ok (.invokestatic 103, 3) := by decide +kernel
theorem dX5_isWide_16 : decode cX5_isWide 16 = .ok (.ifCond .eq 16, 3) := by decide +kernel
theorem dX5_isWide_19 : decode cX5_isWide 19 = .ok (.iload_n 2, 1) := by decide +kernel
theorem dX5_isWide_20 : decode cX5_isWide 20 = .ok (.iconst 0, 1) := by decide +kernel
theorem dX5_isWide_21 : decode cX5_isWide 21 = .ok (.iconst 3, 1) := by decide +kernel
theorem dX5_isWide_22 : decode cX5_isWide 22 = .ok (.invokestatic 103, 3) := by decide +kernel
theorem dX5_isWide_25 : decode cX5_isWide 25 = .ok (.ifCond .eq 7, 3) := by decide +kernel
theorem dX5_isWide_28 : decode cX5_isWide 28 = .ok (.iconst 1, 1) := by decide +kernel
theorem dX5_isWide_29 : decode cX5_isWide 29 = .ok (.goto 4, 3) := by decide +kernel
theorem dX5_isWide_32 : decode cX5_isWide 32 = .ok (.iconst 0, 1) := by decide +kernel
theorem dX5_isWide_33 : decode cX5_isWide 33 = .ok (.ireturn, 1) := by decide +kernel
theorem dX5_wide_0 : decode cX5_wide 0 = .ok (.iload_n 1, 1) := by decide +kernel
theorem dX5_wide_1 : decode cX5_wide 1 = .ok (.iload_n 2, 1) := by decide +kernel
theorem dX5_wide_2 : decode cX5_wide 2 = .ok (.iload_n 3, 1) := by decide +kernel
theorem dX5_wide_3 : decode cX5_wide 3 = .ok (.invokestatic 208, 3) := by decide +kernel
theorem dX5_wide_6 : decode cX5_wide 6 = .ok (.ifCond .ne 5, 3) := by decide +kernel
theorem dX5_wide_9 : decode cX5_wide 9 = .ok (.iconst (-1), 1) := by decide +kernel
theorem dX5_wide_10 : decode cX5_wide 10 = .ok (.ireturn, 1) := by decide +kernel
theorem dX5_wide_11 : decode cX5_wide 11 = .ok (.aload_n 0, 1) := by decide +kernel
theorem dX5_wide_12 : decode cX5_wide 12 = .ok (.getfield 28, 3) := by decide +kernel
theorem dX5_wide_15 : decode cX5_wide 15 = .ok (.iload_n 1, 1) := by decide +kernel
theorem dX5_wide_16 : decode cX5_wide 16 = .ok (.if_icmp .ne 22, 3) := by decide +kernel
theorem dX5_wide_19 : decode cX5_wide 19 = .ok (.aload_n 0, 1) := by decide +kernel
theorem dX5_wide_20 : decode cX5_wide 20 = .ok (.getfield 32, 3) := by decide +kernel
theorem dX5_wide_23 : decode cX5_wide 23 = .ok (.iload_n 2, 1) := by decide +kernel
theorem dX5_wide_24 : decode cX5_wide 24 = .ok (.if_icmp .ne 14, 3) := by decide +kernel
theorem dX5_wide_27 : decode cX5_wide 27 = .ok (.aload_n 0, 1) := by decide +kernel
theorem dX5_wide_28 : decode cX5_wide 28 = .ok (.getfield 100, 3) := by decide +kernel
theorem dX5_wide_31 : decode cX5_wide 31 = .ok (.iload_n 3, 1) := by decide +kernel
theorem dX5_wide_32 : decode cX5_wide 32 = .ok (.if_icmp .ne 6, 3) := by decide +kernel
theorem dX5_wide_35 : decode cX5_wide 35 = .ok (.bipush (-2), 2) := by decide +kernel
theorem dX5_wide_37 : decode cX5_wide 37 = .ok (.ireturn, 1) := by decide +kernel
theorem dX5_wide_38 : decode cX5_wide 38 = .ok (.aload_n 0, 1) := by decide +kernel
theorem dX5_wide_39 : decode cX5_wide 39 = .ok (.invokevirtual 192, 3) := by decide +kernel
theorem dX5_wide_42 : decode cX5_wide 42 = .ok (.aload_n 0, 1) := by decide +kernel
theorem dX5_wide_43 : decode cX5_wide 43 = .ok (.iload_n 1, 1) := by decide +kernel
theorem dX5_wide_44 : decode cX5_wide 44 = .ok (.putfield 28, 3) := by decide +kernel
theorem dX5_wide_47 : decode cX5_wide 47 = .ok (.aload_n 0, 1) := by decide +kernel
theorem dX5_wide_48 : decode cX5_wide 48 = .ok (.iload_n 2, 1) := by decide +kernel
theorem dX5_wide_49 : decode cX5_wide 49 = .ok (.putfield 32, 3) := by decide +kernel
theorem dX5_wide_52 : decode cX5_wide 52 = .ok (.aload_n 0, 1) := by decide +kernel
theorem dX5_wide_53 : decode cX5_wide 53 = .ok (.iload_n 3, 1) := by decide +kernel
theorem dX5_wide_54 : decode cX5_wide 54 = .ok (.putfield 100, 3) := by decide +kernel
theorem dX5_wide_57 : decode cX5_wide 57 = .ok (.iconst 1, 1) := by decide +kernel
theorem dX5_wide_58 : decode cX5_wide 58 = .ok (.ireturn, 1) := by decide +kernel
theorem dX5_tabs_0 : decode cX5_tabs 0 = .ok (.iload_n 1, 1) := by decide +kernel
theorem dX5_tabs_1 : decode cX5_tabs 1 = .ok (.iconst 1, 1) := by decide +kernel
theorem dX5_tabs_2 : decode cX5_tabs 2 = .ok (.bipush 8, 2) := by decide +kernel
theorem dX5_tabs_4 : decode cX5_tabs 4 = .ok (.invokestatic 103, 3) := by decide +kernel
theorem dX5_tabs_7 : decode cX5_tabs 7 = .ok (.ifCond .ne 5, 3) := by decide +kernel
theorem dX5_tabs_10 : decode cX5_tabs 10 = .ok (.iconst (-1), 1) := by decide +kernel
theorem dX5_tabs_11 : decode cX5_tabs 11 = .ok (.ireturn, 1) := by decide +kernel
theorem dX5_tabs_12 : decode cX5_tabs 12 = .ok (.aload_n 0, 1) := by decide +kernel
theorem dX5_tabs_13 : decode cX5_tabs 13 = .ok (.getfield 35, 3) := by decide +kernel
theorem dX5_tabs_16 : decode cX5_tabs 16 = .ok (.istore_n 2, 1) := by decide +kernel
theorem dX5_tabs_17 : decode cX5_tabs 17 = .ok (.iload_n 2, 1) := by decide +kernel
theorem dX5_tabs_18 : decode cX5_tabs 18 = .ok (.iload_n 1, 1) := by decide +kernel
theorem dX5_tabs_19 : decode cX5_tabs 19 = .ok (.if_icmp .ne 6, 3) := by decide +kernel
theorem dX5_tabs_22 : decode cX5_tabs 22 = .ok (.bipush (-2), 2) := by decide +kernel
theorem dX5_tabs_24 : decode cX5_tabs 24 = .ok (.ireturn, 1) := by decide +kernel
theorem dX5_tabs_25 : decode cX5_tabs 25 = .ok (.aload_n 0, 1) := by decide +kernel
theorem dX5_tabs_26 : decode cX5_tabs 26 = .ok (.invokevirtual 192, 3) := by decide +kernel
theorem dX5_tabs_29 : decode cX5_tabs 29 = .ok (.aload_n 0, 1) := by decide +kernel
theorem dX5_tabs_30 : decode cX5_tabs 30 = .ok (.iload_n 1, 1) := by decide +kernel
theorem dX5_tabs_31 : decode cX5_tabs 31 = .ok (.putfield 35, 3) := by decide +kernel
theorem dX5_tabs_34 : decode cX5_tabs 34 = .ok (.iload_n 2, 1) := by decide +kernel
theorem dX5_tabs_35 : decode cX5_tabs 35 = .ok (.ireturn, 1) := by decide +kernel
theorem dX5_undo_0 : decode cX5_undo 0 = .ok (.aload_n 0, 1) := by decide +kernel
theorem dX5_undo_1 : decode cX5_undo 1 = .ok (.getfield 178, 3) := by decide +kernel
theorem dX5_undo_4 : decode cX5_undo 4 = .ok (.ifCond .ne 6, 3) := by decide +kernel
theorem dX5_undo_7 : decode cX5_undo 7 = .ok (.bipush (-2), 2) := by decide +kernel
theorem dX5_undo_9 : decode cX5_undo 9 = .ok (.ireturn, 1) := by decide +kernel
theorem dX5_undo_10 : decode cX5_undo 10 = .ok (.aload_n 0, 1) := by decide +kernel
theorem dX5_undo_11 : decode cX5_undo 11 = .ok (.invokevirtual 175, 3) := by decide +kernel
theorem dX5_undo_14 : decode cX5_undo 14 = .ok (.aload_n 0, 1) := by decide +kernel
theorem dX5_undo_15 : decode cX5_undo 15 = .ok (.dup, 1) := by decide +kernel
theorem dX5_undo_16 : decode cX5_undo 16 = .ok (.getfield 178, 3) := by decide +kernel
theorem dX5_undo_19 : decode cX5_undo 19 = .ok (.iconst 1, 1) := by decide +kernel
theorem dX5_undo_20 : decode cX5_undo 20 = .ok (.isub, 1) := by decide +kernel
theorem dX5_undo_21 : decode cX5_undo 21 = .ok (.putfield 178, 3) := by decide +kernel
theorem dX5_undo_24 : decode cX5_undo 24 = .ok (.aload_n 0, 1) := by decide +kernel
theorem dX5_undo_25 : decode cX5_undo 25 = .ok (.aload_n 0, 1) := by decide +kernel
theorem dX5_undo_26 : decode cX5_undo 26 = .ok (.getfield 59, 3) := by decide +kernel
theorem dX5_undo_29 : decode cX5_undo 29 = .ok (.bipush 68, 2) := by decide +kernel
theorem dX5_undo_31 : decode cX5_undo 31 = .ok (.aload_n 0, 1) := by decide +kernel
theorem dX5_undo_32 : decode cX5_undo 32 = .ok (.getfield 178, 3) := by decide +kernel
theorem dX5_undo_35 : decode cX5_undo 35 = .ok (.imul, 1) := by decide +kernel
theorem dX5_undo_36 : decode cX5_undo 36 = .ok (.invokevirtual 211, 3) := by decide +kernel
theorem dX5_undo_39 : decode cX5_undo 39 = .ok (.aload_n 0, 1) := by decide +kernel
theorem dX5_undo_40 : decode cX5_undo 40 = .ok (.getfield 178, 3) := by decide +kernel
theorem dX5_undo_43 : decode cX5_undo 43 = .ok (.ireturn, 1) := by decide +kernel
theorem dX5_keep_0 : decode cX5_keep 0 = .ok (.aload_n 0, 1) := by decide +kernel
theorem dX5_keep_1 : decode cX5_keep 1 = .ok (.getfield 214, 3) := by decide +kernel
theorem dX5_keep_4 : decode cX5_keep 4 = .ok (.iconst 2, 1) := by decide +kernel
theorem dX5_keep_5 : decode cX5_keep 5 = .ok (.if_icmp .ne 6, 3) := by decide +kernel
theorem dX5_keep_8 : decode cX5_keep 8 = .ok (.bipush (-3), 2) := by decide +kernel
theorem dX5_keep_10 : decode cX5_keep 10 = .ok (.ireturn, 1) := by decide +kernel
theorem dX5_keep_11 : decode cX5_keep 11 = .ok (.aload_n 0, 1) := by decide +kernel
theorem dX5_keep_12 : decode cX5_keep 12 = .ok (.aload_n 0, 1) := by decide +kernel
theorem dX5_keep_13 : decode cX5_keep 13 = .ok (.getfield 62, 3) := by decide +kernel
theorem dX5_keep_16 : decode cX5_keep 16 = .ok (.bipush 68, 2) := by decide +kernel
theorem dX5_keep_18 : decode cX5_keep 18 = .ok (.aload_n 0, 1) := by decide +kernel
theorem dX5_keep_19 : decode cX5_keep 19 = .ok (.getfield 214, 3) := by decide +kernel
theorem dX5_keep_22 : decode cX5_keep 22 = .ok (.imul, 1) := by decide +kernel
theorem dX5_keep_23 : decode cX5_keep 23 = .ok (.invokevirtual 181, 3) := by decide +kernel
theorem dX5_keep_26 : decode cX5_keep 26 = .ok (.aload_n 0, 1) := by decide +kernel
theorem dX5_keep_27 : decode cX5_keep 27 = .ok (.dup, 1) := by decide +kernel
theorem dX5_keep_28 : decode cX5_keep 28 = .ok (.getfield 214, 3) := by decide +kernel
theorem dX5_keep_31 : decode cX5_keep 31 = .ok (.iconst 1, 1) := by decide +kernel
theorem dX5_keep_32 : decode cX5_keep 32 = .ok (.iadd, 1) := by decide +kernel
theorem dX5_keep_33 : decode cX5_keep 33 = .ok (.putfield 214, 3) := by decide +kernel
theorem dX5_keep_36 : decode cX5_keep 36 = .ok (.aload_n 0, 1) := by decide +kernel
theorem dX5_keep_37 : decode cX5_keep 37 = .ok (.getfield 214, 3) := by decide +kernel
theorem dX5_keep_40 : decode cX5_keep 40 = .ok (.ireturn, 1) := by decide +kernel
theorem dX5_back_0 : decode cX5_back 0 = .ok (.aload_n 0, 1) := by decide +kernel
theorem dX5_back_1 : decode cX5_back 1 = .ok (.getfield 214, 3) := by decide +kernel
theorem dX5_back_4 : decode cX5_back 4 = .ok (.ifCond .ne 6, 3) := by decide +kernel
theorem dX5_back_7 : decode cX5_back 7 = .ok (.bipush (-2), 2) := by decide +kernel
theorem dX5_back_9 : decode cX5_back 9 = .ok (.ireturn, 1) := by decide +kernel
theorem dX5_back_10 : decode cX5_back 10 = .ok (.aload_n 0, 1) := by decide +kernel
theorem dX5_back_11 : decode cX5_back 11 = .ok (.dup, 1) := by decide +kernel
theorem dX5_back_12 : decode cX5_back 12 = .ok (.getfield 214, 3) := by decide +kernel
theorem dX5_back_15 : decode cX5_back 15 = .ok (.iconst 1, 1) := by decide +kernel
theorem dX5_back_16 : decode cX5_back 16 = .ok (.isub, 1) := by decide +kernel
theorem dX5_back_17 : decode cX5_back 17 = .ok (.putfield 214, 3) := by decide +kernel
theorem dX5_back_20 : decode cX5_back 20 = .ok (.aload_n 0, 1) := by decide +kernel
theorem dX5_back_21 : decode cX5_back 21 = .ok (.aload_n 0, 1) := by decide +kernel
theorem dX5_back_22 : decode cX5_back 22 = .ok (.getfield 62, 3) := by decide +kernel
theorem dX5_back_25 : decode cX5_back 25 = .ok (.bipush 68, 2) := by decide +kernel
theorem dX5_back_27 : decode cX5_back 27 = .ok (.aload_n 0, 1) := by decide +kernel
theorem dX5_back_28 : decode cX5_back 28 = .ok (.getfield 214, 3) := by decide +kernel
theorem dX5_back_31 : decode cX5_back 31 = .ok (.imul, 1) := by decide +kernel
theorem dX5_back_32 : decode cX5_back 32 = .ok (.invokevirtual 211, 3) := by decide +kernel
theorem dX5_back_35 : decode cX5_back 35 = .ok (.aload_n 0, 1) := by decide +kernel
theorem dX5_back_36 : decode cX5_back 36 = .ok (.iconst 0, 1) := by decide +kernel
theorem dX5_back_37 : decode cX5_back 37 = .ok (.putfield 178, 3) := by decide +kernel
theorem dX5_back_40 : decode cX5_back 40 = .ok (.aload_n 0, 1) := by decide +kernel
theorem dX5_back_41 : decode cX5_back 41 = .ok (.iconst 0, 1) := by decide +kernel
theorem dX5_back_42 : decode cX5_back 42 = .ok (.putfield 171, 3) := by decide +kernel
theorem dX5_back_45 : decode cX5_back 45 = .ok (.aload_n 0, 1) := by decide +kernel
theorem dX5_back_46 : decode cX5_back 46 = .ok (.getfield 214, 3) := by decide +kernel
theorem dX5_back_49 : decode cX5_back 49 = .ok (.ireturn, 1) := by decide +kernel
theorem dX5_pieceOf_0 : decode cX5_pieceOf 0 = .ok (.aload_n 0, 1) := by decide +kernel
theorem dX5_pieceOf_1 : decode cX5_pieceOf 1 = .ok (.iload_n 1, 1) := by decide +kernel
theorem dX5_pieceOf_2 : decode cX5_pieceOf 2 = .ok (.invokevirtual 113, 3) := by decide +kernel
theorem dX5_pieceOf_5 : decode cX5_pieceOf 5 = .ok (.istore_n 2, 1) := by decide +kernel
theorem dX5_pieceOf_6 : decode cX5_pieceOf 6 = .ok (.iload_n 2, 1) := by decide +kernel
theorem dX5_pieceOf_7 : decode cX5_pieceOf 7 = .ok (.bipush (-4), 2) := by decide +kernel
theorem dX5_pieceOf_9 : decode cX5_pieceOf 9 = .ok (.if_icmp .ne 7, 3) := by decide +kernel
theorem dX5_pieceOf_12 : decode cX5_pieceOf 12 = .ok (.iload_n 1, 1) := by decide +kernel
theorem dX5_pieceOf_13 : decode cX5_pieceOf 13 = .ok (.goto 9, 3) := by decide +kernel
theorem dX5_pieceOf_16 : decode cX5_pieceOf 16 = .ok (.aload_n 0, 1) := by decide +kernel
theorem dX5_pieceOf_17 : decode cX5_pieceOf 17 = .ok (.getfield 13, 3) := by decide +kernel
theorem dX5_pieceOf_20 : decode cX5_pieceOf 20 = .ok (.iload_n 2, 1) := by decide +kernel
theorem dX5_pieceOf_21 : decode cX5_pieceOf 21 = .ok (.iaload, 1) := by decide +kernel
theorem dX5_pieceOf_22 : decode cX5_pieceOf 22 = .ok (.istore_n 3, 1) := by decide +kernel
theorem dX5_pieceOf_23 : decode cX5_pieceOf 23 = .ok (.bipush (-4), 2) := by decide +kernel
theorem dX5_pieceOf_25 : decode cX5_pieceOf 25 = .ok (.istore 4, 2) := by decide +kernel
theorem dX5_pieceOf_27 : decode cX5_pieceOf 27 = .ok (.iconst 0, 1) := by decide +kernel
theorem dX5_pieceOf_28 : decode cX5_pieceOf 28 = .ok (.istore 5, 2) := by decide +kernel
theorem dX5_pieceOf_30 : decode cX5_pieceOf 30 = .ok (.iload 5, 2) := by decide +kernel
theorem dX5_pieceOf_32 : decode cX5_pieceOf 32 = .ok (.aload_n 0, 1) := by decide +kernel
theorem dX5_pieceOf_33 : decode cX5_pieceOf 33 = .ok (.getfield 117, 3) := by decide +kernel
theorem dX5_pieceOf_36 : decode cX5_pieceOf 36 = .ok (.if_icmp .ge 41, 3) := by decide +kernel
theorem dX5_pieceOf_39 : decode cX5_pieceOf 39 = .ok (.aload_n 0, 1) := by decide +kernel
theorem dX5_pieceOf_40 : decode cX5_pieceOf 40 = .ok (.getfield 41, 3) := by decide +kernel
theorem dX5_pieceOf_43 : decode cX5_pieceOf 43 = .ok (.iload 5, 2) := by decide +kernel
theorem dX5_pieceOf_45 : decode cX5_pieceOf 45 = .ok (.iaload, 1) := by decide +kernel
theorem dX5_pieceOf_46 : decode cX5_pieceOf 46 = .ok (.iload_n 3, 1) := by decide +kernel
theorem dX5_pieceOf_47 : decode cX5_pieceOf 47 = .ok (.if_icmp .ne 20, 3) := by decide +kernel
theorem dX5_pieceOf_50 : decode cX5_pieceOf 50 = .ok (.aload_n 0, 1) := by decide +kernel
theorem dX5_pieceOf_51 : decode cX5_pieceOf 51 = .ok (.getfield 38, 3) := by decide +kernel
theorem dX5_pieceOf_54 : decode cX5_pieceOf 54 = .ok (.iload 5, 2) := by decide +kernel
theorem dX5_pieceOf_56 : decode cX5_pieceOf 56 = .ok (.iaload, 1) := by decide +kernel
theorem dX5_pieceOf_57 : decode cX5_pieceOf 57 = .ok (.bipush 29, 2) := by decide +kernel
theorem dX5_pieceOf_59 : decode cX5_pieceOf 59 = .ok (.if_icmp .eq 8, 3) := by decide +kernel
theorem dX5_pieceOf_62 : decode cX5_pieceOf 62 = .ok (.iload 5, 2) := by decide +kernel
theorem dX5_pieceOf_64 : decode cX5_pieceOf 64 = .ok (.goto 5, 3) := by decide +kernel
theorem dX5_pieceOf_67 : decode cX5_pieceOf 67 = .ok (.iload 4, 2) := by decide +kernel
theorem dX5_pieceOf_69 : decode cX5_pieceOf 69 = .ok (.istore 4, 2) := by decide +kernel
theorem dX5_pieceOf_71 : decode cX5_pieceOf 71 = .ok (.iinc 5 1, 3) := by decide +kernel
theorem dX5_pieceOf_74 : decode cX5_pieceOf 74 = .ok (.goto (-44), 3) := by decide +kernel
theorem dX5_pieceOf_77 : decode cX5_pieceOf 77 = .ok (.iload 4, 2) := by decide +kernel
theorem dX5_pieceOf_79 : decode cX5_pieceOf 79 = .ok (.ireturn, 1) := by decide +kernel
theorem dX5_stands_0 : decode cX5_stands 0 = .ok (.aload_n 0, 1) := by decide +kernel
theorem dX5_stands_1 : decode cX5_stands 1 = .ok (.iload_n 1, 1) := by decide +kernel
theorem dX5_stands_2 : decode cX5_stands 2 = .ok (.invokevirtual 153, 3) := by decide +kernel
theorem dX5_stands_5 : decode cX5_stands 5 = .ok (.ifCond .eq 12, 3) := by decide +kernel
theorem dX5_stands_8 : decode cX5_stands 8 = .ok (.iload_n 2, 1) := by decide +kernel
theorem dX5_stands_9 : decode cX5_stands 9 = .ok (.iconst 0, 1) := by decide +kernel
theorem dX5_stands_10 : decode cX5_stands 10 = .ok (.iconst 2, 1) := by decide +kernel
theorem dX5_stands_11 : decode cX5_stands 11 = .ok (.invokestatic 103, 3) := by decide +kernel
theorem dX5_stands_14 : decode cX5_stands 14 = .ok (.ifCond .ne 5, 3) := by decide +kernel
theorem dX5_stands_17 : decode cX5_stands 17 = .ok (.iconst (-1), 1) := by decide +kernel
theorem dX5_stands_18 : decode cX5_stands 18 = .ok (.ireturn, 1) := by decide +kernel
theorem dX5_stands_19 : decode cX5_stands 19 = .ok (.aload_n 0, 1) := by decide +kernel
theorem dX5_stands_20 : decode cX5_stands 20 = .ok (.invokevirtual 150, 3) := by decide +kernel
theorem dX5_stands_23 : decode cX5_stands 23 = .ok (.aload_n 0, 1) := by decide +kernel
theorem dX5_stands_24 : decode cX5_stands 24 = .ok (.iload_n 1, 1) := by decide +kernel
theorem dX5_stands_25 : decode cX5_stands 25 = .ok (.invokevirtual 217, 3) := by decide +kernel
theorem dX5_stands_28 : decode cX5_stands 28 = .ok (.istore_n 3, 1) := by decide +kernel
theorem dX5_stands_29 : decode cX5_stands 29 = .ok (.iload_n 2, 1) := by decide +kernel
theorem dX5_stands_30 : decode cX5_stands 30 = .ok (.iconst 2, 1) := by decide +kernel
theorem dX5_stands_31 : decode cX5_stands 31 = .ok (.if_icmp .ne 17, 3) := by decide +kernel
theorem dX5_stands_34 : decode cX5_stands 34 = .ok (.aload_n 0, 1) := by decide +kernel
theorem dX5_stands_35 : decode cX5_stands 35 = .ok (.iload_n 1, 1) := by decide +kernel
theorem dX5_stands_36 : decode cX5_stands 36 = .ok (.invokevirtual 162, 3) := by decide +kernel
theorem dX5_stands_39 : decode cX5_stands 39 = .ok (.ifCond .eq 7, 3) := by decide +kernel
theorem dX5_stands_42 : decode cX5_stands 42 = .ok (.iconst 1, 1) := by decide +kernel
theorem dX5_stands_43 : decode cX5_stands 43 = .ok (.goto 4, 3) := by decide +kernel
theorem dX5_stands_46 : decode cX5_stands 46 = .ok (.iconst 0, 1) := by decide +kernel
theorem dX5_stands_47 : decode cX5_stands 47 = .ok (.ireturn, 1) := by decide +kernel
theorem dX5_stands_48 : decode cX5_stands 48 = .ok (.iload_n 2, 1) := by decide +kernel
theorem dX5_stands_49 : decode cX5_stands 49 = .ok (.ifCond .ne 25, 3) := by decide +kernel
theorem dX5_stands_52 : decode cX5_stands 52 = .ok (.iload_n 3, 1) := by decide +kernel
theorem dX5_stands_53 : decode cX5_stands 53 = .ok (.bipush (-4), 2) := by decide +kernel
theorem dX5_stands_55 : decode cX5_stands 55 = .ok (.if_icmp .ne 10, 3) := by decide +kernel
theorem dX5_stands_58 : decode cX5_stands 58 = .ok (.aload_n 0, 1) := by decide +kernel
theorem dX5_stands_59 : decode cX5_stands 59 = .ok (.getfield 144, 3) := by decide +kernel
theorem dX5_stands_62 : decode cX5_stands 62 = .ok (.goto 31, 3) := by decide +kernel
theorem dX5_stands_65 : decode cX5_stands 65 = .ok (.aload_n 0, 1) := by decide +kernel
theorem dX5_stands_66 : decode cX5_stands 66 = .ok (.getfield 44, 3) := by decide +kernel
theorem dX5_stands_69 : decode cX5_stands 69 = .ok (.iload_n 3, 1) := by decide +kernel
theorem dX5_stands_70 : decode cX5_stands 70 = .ok (.iaload, 1) := by decide +kernel
theorem dX5_stands_71 : decode cX5_stands 71 = .ok (.goto 22, 3) := by decide +kernel
theorem dX5_stands_74 : decode cX5_stands 74 = .ok (.iload_n 3, 1) := by decide +kernel
theorem dX5_stands_75 : decode cX5_stands 75 = .ok (.bipush (-4), 2) := by decide +kernel
theorem dX5_stands_77 : decode cX5_stands 77 = .ok (.if_icmp .ne 10, 3) := by decide +kernel
theorem dX5_stands_80 : decode cX5_stands 80 = .ok (.aload_n 0, 1) := by decide +kernel
theorem dX5_stands_81 : decode cX5_stands 81 = .ok (.getfield 147, 3) := by decide +kernel
theorem dX5_stands_84 : decode cX5_stands 84 = .ok (.goto 9, 3) := by decide +kernel
theorem dX5_stands_87 : decode cX5_stands 87 = .ok (.aload_n 0, 1) := by decide +kernel
theorem dX5_stands_88 : decode cX5_stands 88 = .ok (.getfield 47, 3) := by decide +kernel
theorem dX5_stands_91 : decode cX5_stands 91 = .ok (.iload_n 3, 1) := by decide +kernel
theorem dX5_stands_92 : decode cX5_stands 92 = .ok (.iaload, 1) := by decide +kernel
theorem dX5_stands_93 : decode cX5_stands 93 = .ok (.ireturn, 1) := by decide +kernel
theorem dX5_pieceAt_0 : decode cX5_pieceAt 0 = .ok (.bipush (-4), 2) := by decide +kernel
theorem dX5_pieceAt_2 : decode cX5_pieceAt 2 = .ok (.istore_n 3, 1) := by decide +kernel
theorem dX5_pieceAt_3 : decode cX5_pieceAt 3 = .ok (.iconst 0, 1) := by decide +kernel
theorem dX5_pieceAt_4 : decode cX5_pieceAt 4 = .ok (.istore 4, 2) := by decide +kernel
theorem dX5_pieceAt_6 : decode cX5_pieceAt 6 = .ok (.iload 4, 2) := by decide +kernel
theorem dX5_pieceAt_8 : decode cX5_pieceAt 8 = .ok (.aload_n 0, 1) := by decide +kernel
theorem dX5_pieceAt_9 : decode cX5_pieceAt 9 = .ok (.getfield 117, 3) := by decide +kernel
theorem dX5_pieceAt_12 : decode cX5_pieceAt 12 = .ok (.if_icmp .ge 69, 3) := by decide +kernel
theorem dX5_pieceAt_15 : decode cX5_pieceAt 15 = .ok (.aload_n 0, 1) := by decide +kernel
theorem dX5_pieceAt_16 : decode cX5_pieceAt 16 = .ok (.getfield 44, 3) := by decide +kernel
theorem dX5_pieceAt_19 : decode cX5_pieceAt 19 = .ok (.iload 4, 2) := by decide +kernel
theorem dX5_pieceAt_21 : decode cX5_pieceAt 21 = .ok (.iaload, 1) := by decide +kernel
theorem dX5_pieceAt_22 : decode cX5_pieceAt 22 = .ok (.iload_n 1, 1) := by decide +kernel
theorem dX5_pieceAt_23 : decode cX5_pieceAt 23 = .ok (.if_icmp .ne 37, 3) := by decide +kernel
theorem dX5_pieceAt_26 : decode cX5_pieceAt 26 = .ok (.iload_n 2, 1) := by decide +kernel
theorem dX5_pieceAt_27 : decode cX5_pieceAt 27 = .ok (.aload_n 0, 1) := by decide +kernel
theorem dX5_pieceAt_28 : decode cX5_pieceAt 28 = .ok (.getfield 47, 3) := by decide +kernel
theorem dX5_pieceAt_31 : decode cX5_pieceAt 31 = .ok (.iload 4, 2) := by decide +kernel
theorem dX5_pieceAt_33 : decode cX5_pieceAt 33 = .ok (.iaload, 1) := by decide +kernel
theorem dX5_pieceAt_34 : decode cX5_pieceAt 34 = .ok (.if_icmp .lt 26, 3) := by decide +kernel
theorem dX5_pieceAt_37 : decode cX5_pieceAt 37 = .ok (.iload_n 2, 1) := by decide +kernel
theorem dX5_pieceAt_38 : decode cX5_pieceAt 38 = .ok (.aload_n 0, 1) := by decide +kernel
theorem dX5_pieceAt_39 : decode cX5_pieceAt 39 = .ok (.getfield 47, 3) := by decide +kernel
theorem dX5_pieceAt_42 : decode cX5_pieceAt 42 = .ok (.iload 4, 2) := by decide +kernel
theorem dX5_pieceAt_44 : decode cX5_pieceAt 44 = .ok (.iaload, 1) := by decide +kernel
theorem dX5_pieceAt_45 : decode cX5_pieceAt 45 = .ok (.aload_n 0, 1) := by decide +kernel
theorem dX5_pieceAt_46 : decode cX5_pieceAt 46 = .ok (.getfield 50, 3) := by decide +kernel
theorem dX5_pieceAt_49 : decode cX5_pieceAt 49 = .ok (.iload 4, 2) := by decide +kernel
theorem dX5_pieceAt_51 : decode cX5_pieceAt 51 = .ok (.iaload, 1) := by decide +kernel
theorem dX5_pieceAt_52 : decode cX5_pieceAt 52 = .ok (.iadd, 1) := by decide +kernel
theorem dX5_pieceAt_53 : decode cX5_pieceAt 53 = .ok (.if_icmp .ge 7, 3) := by decide +kernel
theorem dX5_pieceAt_56 : decode cX5_pieceAt 56 = .ok (.iconst 1, 1) := by decide +kernel
theorem dX5_pieceAt_57 : decode cX5_pieceAt 57 = .ok (.goto 4, 3) := by decide +kernel
theorem dX5_pieceAt_60 : decode cX5_pieceAt 60 = .ok (.iconst 0, 1) := by decide +kernel
theorem dX5_pieceAt_61 : decode cX5_pieceAt 61 = .ok (.istore 5, 2) := by decide +kernel
theorem dX5_pieceAt_63 : decode cX5_pieceAt 63 = .ok (.iload 5, 2) := by decide +kernel
theorem dX5_pieceAt_65 : decode cX5_pieceAt 65 = .ok (.ifCond .eq 8, 3) := by decide +kernel
theorem dX5_pieceAt_68 : decode cX5_pieceAt 68 = .ok (.iload 4, 2) := by decide +kernel
theorem dX5_pieceAt_70 : decode cX5_pieceAt 70 = .ok (.goto 4, 3) := by decide +kernel
theorem dX5_pieceAt_73 : decode cX5_pieceAt 73 = .ok (.iload_n 3, 1) := by decide +kernel
theorem dX5_pieceAt_74 : decode cX5_pieceAt 74 = .ok (.istore_n 3, 1) := by decide +kernel
theorem dX5_pieceAt_75 : decode cX5_pieceAt 75 = .ok (.iinc 4 1, 3) := by decide +kernel
theorem dX5_pieceAt_78 : decode cX5_pieceAt 78 = .ok (.goto (-72), 3) := by decide +kernel
theorem dX5_pieceAt_81 : decode cX5_pieceAt 81 = .ok (.iload_n 3, 1) := by decide +kernel
theorem dX5_pieceAt_82 : decode cX5_pieceAt 82 = .ok (.ireturn, 1) := by decide +kernel
theorem dX5_placeAt_0 : decode cX5_placeAt 0 = .ok (.aload_n 0, 1) := by decide +kernel
theorem dX5_placeAt_1 : decode cX5_placeAt 1 = .ok (.iload_n 1, 1) := by decide +kernel
theorem dX5_placeAt_2 : decode cX5_placeAt 2 = .ok (.iload_n 2, 1) := by decide +kernel
theorem dX5_placeAt_3 : decode cX5_placeAt 3 = .ok (.invokevirtual 220, 3) := by decide +kernel
theorem dX5_placeAt_6 : decode cX5_placeAt 6 = .ok (.istore_n 3, 1) := by decide +kernel
theorem dX5_placeAt_7 : decode cX5_placeAt 7 = .ok (.iload_n 3, 1) := by decide +kernel
theorem dX5_placeAt_8 : decode cX5_placeAt 8 = .ok (.bipush (-4), 2) := by decide +kernel
theorem dX5_placeAt_10 : decode cX5_placeAt 10 = .ok (.if_icmp .eq 10, 3) := by decide +kernel
theorem dX5_placeAt_13 : decode cX5_placeAt 13 = .ok (.aload_n 0, 1) := by decide +kernel
theorem dX5_placeAt_14 : decode cX5_placeAt 14 = .ok (.getfield 41, 3) := by decide +kernel
theorem dX5_placeAt_17 : decode cX5_placeAt 17 = .ok (.iload_n 3, 1) := by decide +kernel
theorem dX5_placeAt_18 : decode cX5_placeAt 18 = .ok (.iaload, 1) := by decide +kernel
theorem dX5_placeAt_19 : decode cX5_placeAt 19 = .ok (.ireturn, 1) := by decide +kernel
theorem dX5_placeAt_20 : decode cX5_placeAt 20 = .ok (.bipush (-4), 2) := by decide +kernel
theorem dX5_placeAt_22 : decode cX5_placeAt 22 = .ok (.istore 4, 2) := by decide +kernel
theorem dX5_placeAt_24 : decode cX5_placeAt 24 = .ok (.bipush (-4), 2) := by decide +kernel
theorem dX5_placeAt_26 : decode cX5_placeAt 26 = .ok (.istore 5, 2) := by decide +kernel
theorem dX5_placeAt_28 : decode cX5_placeAt 28 = .ok (.aload_n 0, 1) := by decide +kernel
theorem dX5_placeAt_29 : decode cX5_placeAt 29 = .ok (.getfield 117, 3) := by decide +kernel
theorem dX5_placeAt_32 : decode cX5_placeAt 32 = .ok (.iconst 1, 1) := by decide +kernel
theorem dX5_placeAt_33 : decode cX5_placeAt 33 = .ok (.isub, 1) := by decide +kernel
theorem dX5_placeAt_34 : decode cX5_placeAt 34 = .ok (.istore 6, 2) := by decide +kernel
theorem dX5_placeAt_36 : decode cX5_placeAt 36 = .ok (.iload 6, 2) := by decide +kernel
theorem dX5_placeAt_38 : decode cX5_placeAt 38 = .ok (.ifCond .lt 56, 3) := by decide +kernel
theorem dX5_placeAt_41 : decode cX5_placeAt 41 = .ok (.aload_n 0, 1) := by decide +kernel
theorem dX5_placeAt_42 : decode cX5_placeAt 42 = .ok (.getfield 44, 3) := by decide +kernel
theorem dX5_placeAt_45 : decode cX5_placeAt 45 = .ok (.iload 6, 2) := by decide +kernel
theorem dX5_placeAt_47 : decode cX5_placeAt 47 = .ok (.iaload, 1) := by decide +kernel
theorem dX5_placeAt_48 : decode cX5_placeAt 48 = .ok (.iload_n 1, 1) := by decide +kernel
theorem dX5_placeAt_49 : decode cX5_placeAt 49 = .ok (.if_icmp .ne 15, 3) := by decide +kernel
theorem dX5_placeAt_52 : decode cX5_placeAt 52 = .ok (.iload 5, 2) := by decide +kernel
theorem dX5_placeAt_54 : decode cX5_placeAt 54 = .ok (.bipush (-4), 2) := by decide +kernel
theorem dX5_placeAt_56 : decode cX5_placeAt 56 = .ok (.if_icmp .ne 8, 3) := by decide +kernel
theorem dX5_placeAt_59 : decode cX5_placeAt 59 = .ok (.iload 6, 2) := by decide +kernel
theorem dX5_placeAt_61 : decode cX5_placeAt 61 = .ok (.goto 5, 3) := by decide +kernel
theorem dX5_placeAt_64 : decode cX5_placeAt 64 = .ok (.iload 5, 2) := by decide +kernel
theorem dX5_placeAt_66 : decode cX5_placeAt 66 = .ok (.istore 5, 2) := by decide +kernel
theorem dX5_placeAt_68 : decode cX5_placeAt 68 = .ok (.aload_n 0, 1) := by decide +kernel
theorem dX5_placeAt_69 : decode cX5_placeAt 69 = .ok (.getfield 44, 3) := by decide +kernel
theorem dX5_placeAt_72 : decode cX5_placeAt 72 = .ok (.iload 6, 2) := by decide +kernel
theorem dX5_placeAt_74 : decode cX5_placeAt 74 = .ok (.iaload, 1) := by decide +kernel
theorem dX5_placeAt_75 : decode cX5_placeAt 75 = .ok (.iload_n 1, 1) := by decide +kernel
theorem dX5_placeAt_76 : decode cX5_placeAt 76 = .ok (.if_icmp .ne 8, 3) := by decide +kernel
theorem dX5_placeAt_79 : decode cX5_placeAt 79 = .ok (.iload 6, 2) := by decide +kernel
theorem dX5_placeAt_81 : decode cX5_placeAt 81 = .ok (.goto 5, 3) := by decide +kernel
theorem dX5_placeAt_84 : decode cX5_placeAt 84 = .ok (.iload 4, 2) := by decide +kernel
theorem dX5_placeAt_86 : decode cX5_placeAt 86 = .ok (.istore 4, 2) := by decide +kernel
theorem dX5_placeAt_88 : decode cX5_placeAt 88 = .ok (.iinc 6 (-1), 3) := by decide +kernel
theorem dX5_placeAt_91 : decode cX5_placeAt 91 = .ok (.goto (-55), 3) := by decide +kernel
theorem dX5_placeAt_94 : decode cX5_placeAt 94 = .ok (.iload 4, 2) := by decide +kernel
theorem dX5_placeAt_96 : decode cX5_placeAt 96 = .ok (.bipush (-4), 2) := by decide +kernel
theorem dX5_placeAt_98 : decode cX5_placeAt 98 = .ok (.if_icmp .eq 34, 3) := by decide +kernel
theorem dX5_placeAt_101 : decode cX5_placeAt 101 = .ok (.aload_n 0, 1) := by decide +kernel
theorem dX5_placeAt_102 : decode cX5_placeAt 102 = .ok (.getfield 38, 3) := by decide +kernel
theorem dX5_placeAt_105 : decode cX5_placeAt 105 = .ok (.iload 4, 2) := by decide +kernel
theorem dX5_placeAt_107 : decode cX5_placeAt 107 = .ok (.iaload, 1) := by decide +kernel
theorem dX5_placeAt_108 : decode cX5_placeAt 108 = .ok (.bipush 27, 2) := by decide +kernel
theorem dX5_placeAt_110 : decode cX5_placeAt 110 = .ok (.if_icmp .eq 22, 3) := by decide +kernel
theorem dX5_placeAt_113 : decode cX5_placeAt 113 = .ok (.iload_n 2, 1) := by decide +kernel
theorem dX5_placeAt_114 : decode cX5_placeAt 114 = .ok (.aload_n 0, 1) := by decide +kernel
theorem dX5_placeAt_115 : decode cX5_placeAt 115 = .ok (.getfield 47, 3) := by decide +kernel
theorem dX5_placeAt_118 : decode cX5_placeAt 118 = .ok (.iload 4, 2) := by decide +kernel
theorem dX5_placeAt_120 : decode cX5_placeAt 120 = .ok (.iaload, 1) := by decide +kernel
theorem dX5_placeAt_121 : decode cX5_placeAt 121 = .ok (.if_icmp .ge 11, 3) := by decide +kernel
theorem dX5_placeAt_124 : decode cX5_placeAt 124 = .ok (.aload_n 0, 1) := by decide +kernel
theorem dX5_placeAt_125 : decode cX5_placeAt 125 = .ok (.getfield 41, 3) := by decide +kernel
theorem dX5_placeAt_128 : decode cX5_placeAt 128 = .ok (.iload 4, 2) := by decide +kernel
theorem dX5_placeAt_130 : decode cX5_placeAt 130 = .ok (.iaload, 1) := by decide +kernel
theorem dX5_placeAt_131 : decode cX5_placeAt 131 = .ok (.ireturn, 1) := by decide +kernel
theorem dX5_placeAt_132 : decode cX5_placeAt 132 = .ok (.iload 5, 2) := by decide +kernel
theorem dX5_placeAt_134 : decode cX5_placeAt 134 = .ok (.bipush (-4), 2) := by decide +kernel
theorem dX5_placeAt_136 : decode cX5_placeAt 136 = .ok (.if_icmp .eq 19, 3) := by decide +kernel
theorem dX5_placeAt_139 : decode cX5_placeAt 139 = .ok (.aload_n 0, 1) := by decide +kernel
theorem dX5_placeAt_140 : decode cX5_placeAt 140 = .ok (.getfield 38, 3) := by decide +kernel
theorem dX5_placeAt_143 : decode cX5_placeAt 143 = .ok (.iload 5, 2) := by decide +kernel
theorem dX5_placeAt_145 : decode cX5_placeAt 145 = .ok (.iaload, 1) := by decide +kernel
theorem dX5_placeAt_146 : decode cX5_placeAt 146 = .ok (.bipush 27, 2) := by decide +kernel
theorem dX5_placeAt_148 : decode cX5_placeAt 148 = .ok (.if_icmp .ne 7, 3) := by decide +kernel
theorem dX5_placeAt_151 : decode cX5_placeAt 151 = .ok (.iconst 1, 1) := by decide +kernel
theorem dX5_placeAt_152 : decode cX5_placeAt 152 = .ok (.goto 4, 3) := by decide +kernel
theorem dX5_placeAt_155 : decode cX5_placeAt 155 = .ok (.iconst 0, 1) := by decide +kernel
theorem dX5_placeAt_156 : decode cX5_placeAt 156 = .ok (.istore 6, 2) := by decide +kernel
theorem dX5_placeAt_158 : decode cX5_placeAt 158 = .ok (.iload 6, 2) := by decide +kernel
theorem dX5_placeAt_160 : decode cX5_placeAt 160 = .ok (.ifCond .ne 18, 3) := by decide +kernel
theorem dX5_placeAt_163 : decode cX5_placeAt 163 = .ok (.iload_n 1, 1) := by decide +kernel
theorem dX5_placeAt_164 : decode cX5_placeAt 164 = .ok (.aload_n 0, 1) := by decide +kernel
theorem dX5_placeAt_165 : decode cX5_placeAt 165 = .ok (.getfield 144, 3) := by decide +kernel
theorem dX5_placeAt_168 : decode cX5_placeAt 168 = .ok (.if_icmp .ne 10, 3) := by decide +kernel
theorem dX5_placeAt_171 : decode cX5_placeAt 171 = .ok (.aload_n 0, 1) := by decide +kernel
theorem dX5_placeAt_172 : decode cX5_placeAt 172 = .ok (.getfield 89, 3) := by decide +kernel
theorem dX5_placeAt_175 : decode cX5_placeAt 175 = .ok (.goto 10, 3) := by decide +kernel
theorem dX5_placeAt_178 : decode cX5_placeAt 178 = .ok (.aload_n 0, 1) := by decide +kernel
theorem dX5_placeAt_179 : decode cX5_placeAt 179 = .ok (.getfield 41, 3) := by decide +kernel
theorem dX5_placeAt_182 : decode cX5_placeAt 182 = .ok (.iload 5, 2) := by decide +kernel
theorem dX5_placeAt_184 : decode cX5_placeAt 184 = .ok (.iaload, 1) := by decide +kernel
theorem dX5_placeAt_185 : decode cX5_placeAt 185 = .ok (.ireturn, 1) := by decide +kernel
theorem dX5_isRow_0 : decode cX5_isRow 0 = .ok (.iload_n 1, 1) := by decide +kernel
theorem dX5_isRow_1 : decode cX5_isRow 1 = .ok (.iconst 0, 1) := by decide +kernel
theorem dX5_isRow_2 : decode cX5_isRow 2 = .ok (.aload_n 0, 1) := by decide +kernel
theorem dX5_isRow_3 : decode cX5_isRow 3 = .ok (.getfield 144, 3) := by decide +kernel
theorem dX5_isRow_6 : decode cX5_isRow 6 = .ok (.invokestatic 103, 3) := by decide +kernel
theorem dX5_isRow_9 : decode cX5_isRow 9 = .ok (.ireturn, 1) := by decide +kernel
theorem dX5_place_0 : decode cX5_place 0 = .ok (.aload_n 0, 1) := by decide +kernel
theorem dX5_place_1 : decode cX5_place 1 = .ok (.invokevirtual 150, 3) := by decide +kernel
theorem dX5_place_4 : decode cX5_place 4 = .ok (.aload_n 0, 1) := by decide +kernel
theorem dX5_place_5 : decode cX5_place 5 = .ok (.iload_n 1, 1) := by decide +kernel
theorem dX5_place_6 : decode cX5_place 6 = .ok (.invokevirtual 223, 3) := by decide +kernel
theorem dX5_place_9 : decode cX5_place 9 = .ok (.ifCond .eq 22, 3) := by decide +kernel
theorem dX5_place_12 : decode cX5_place 12 = .ok (.iload_n 2, 1) := by decide +kernel
theorem dX5_place_13 : decode cX5_place 13 = .ok (.iconst 0, 1) := by decide +kernel
theorem dX5_place_14 : decode cX5_place 14 = .ok (.bipush 99, 2) := by decide +kernel
theorem dX5_place_16 : decode cX5_place 16 = .ok (.invokestatic 103, 3) := by decide +kernel
theorem dX5_place_19 : decode cX5_place 19 = .ok (.ifCond .eq 12, 3) := by decide +kernel
theorem dX5_place_22 : decode cX5_place 22 = .ok (.aload_n 0, 1) := by decide +kernel
theorem dX5_place_23 : decode cX5_place 23 = .ok (.iload_n 1, 1) := by decide +kernel
theorem dX5_place_24 : decode cX5_place 24 = .ok (.iload_n 2, 1) := by decide +kernel
theorem dX5_place_25 : decode cX5_place 25 = .ok (.invokevirtual 226, 3) := by decide +kernel
theorem dX5_place_28 : decode cX5_place 28 = .ok (.goto 4, 3) := by decide +kernel
theorem dX5_place_31 : decode cX5_place 31 = .ok (.iconst (-1), 1) := by decide +kernel
theorem dX5_place_32 : decode cX5_place 32 = .ok (.ireturn, 1) := by decide +kernel
theorem dX5_screen_0 : decode cX5_screen 0 = .ok (.aload_n 0, 1) := by decide +kernel
theorem dX5_screen_1 : decode cX5_screen 1 = .ok (.invokevirtual 150, 3) := by decide +kernel
theorem dX5_screen_4 : decode cX5_screen 4 = .ok (.aload_n 0, 1) := by decide +kernel
theorem dX5_screen_5 : decode cX5_screen 5 = .ok (.iload_n 1, 1) := by decide +kernel
theorem dX5_screen_6 : decode cX5_screen 6 = .ok (.invokevirtual 223, 3) := by decide +kernel
theorem dX5_screen_9 : decode cX5_screen 9 = .ok (.ifCond .eq 13, 3) := by decide +kernel
theorem dX5_screen_12 : decode cX5_screen 12 = .ok (.iload_n 2, 1) := by decide +kernel
theorem dX5_screen_13 : decode cX5_screen 13 = .ok (.iconst 0, 1) := by decide +kernel
theorem dX5_screen_14 : decode cX5_screen 14 = .ok (.bipush 99, 2) := by decide +kernel
theorem dX5_screen_16 : decode cX5_screen 16 = .ok (.invokestatic 103, 3) := by decide +kernel
theorem dX5_screen_19 : decode cX5_screen 19 = .ok (.ifCond .ne 5, 3) := by decide +kernel
theorem dX5_screen_22 : decode cX5_screen 22 = .ok (.iconst (-1), 1) := by decide +kernel
theorem dX5_screen_23 : decode cX5_screen 23 = .ok (.ireturn, 1) := by decide +kernel
theorem dX5_screen_24 : decode cX5_screen 24 = .ok (.aload_n 0, 1) := by decide +kernel
theorem dX5_screen_25 : decode cX5_screen 25 = .ok (.iload_n 1, 1) := by decide +kernel
theorem dX5_screen_26 : decode cX5_screen 26 = .ok (.iload_n 2, 1) := by decide +kernel
theorem dX5_screen_27 : decode cX5_screen 27 = .ok (.invokevirtual 220, 3) := by decide +kernel
theorem dX5_screen_30 : decode cX5_screen 30 = .ok (.istore_n 3, 1) := by decide +kernel
theorem dX5_screen_31 : decode cX5_screen 31 = .ok (.iload_n 3, 1) := by decide +kernel
theorem dX5_screen_32 : decode cX5_screen 32 = .ok (.bipush (-4), 2) := by decide +kernel
theorem dX5_screen_34 : decode cX5_screen 34 = .ok (.if_icmp .ne 8, 3) := by decide +kernel
theorem dX5_screen_37 : decode cX5_screen 37 = .ok (.bipush (-4), 2) := by decide +kernel
theorem dX5_screen_39 : decode cX5_screen 39 = .ok (.goto 9, 3) := by decide +kernel
theorem dX5_screen_42 : decode cX5_screen 42 = .ok (.aload_n 0, 1) := by decide +kernel
theorem dX5_screen_43 : decode cX5_screen 43 = .ok (.getfield 38, 3) := by decide +kernel
theorem dX5_screen_46 : decode cX5_screen 46 = .ok (.iload_n 3, 1) := by decide +kernel
theorem dX5_screen_47 : decode cX5_screen 47 = .ok (.iaload, 1) := by decide +kernel
theorem dX5_screen_48 : decode cX5_screen 48 = .ok (.ireturn, 1) := by decide +kernel
theorem dX5_go_0 : decode cX5_go 0 = .ok (.aload_n 0, 1) := by decide +kernel
theorem dX5_go_1 : decode cX5_go 1 = .ok (.iload_n 1, 1) := by decide +kernel
theorem dX5_go_2 : decode cX5_go 2 = .ok (.invokevirtual 153, 3) := by decide +kernel
theorem dX5_go_5 : decode cX5_go 5 = .ok (.ifCond .eq 12, 3) := by decide +kernel
theorem dX5_go_8 : decode cX5_go 8 = .ok (.iload_n 2, 1) := by decide +kernel
theorem dX5_go_9 : decode cX5_go 9 = .ok (.iconst 0, 1) := by decide +kernel
theorem dX5_go_10 : decode cX5_go 10 = .ok (.iconst 3, 1) := by decide +kernel
theorem dX5_go_11 : decode cX5_go 11 = .ok (.invokestatic 103, 3) := by decide +kernel
theorem dX5_go_14 : decode cX5_go 14 = .ok (.ifCond .ne 5, 3) := by decide +kernel
theorem dX5_go_17 : decode cX5_go 17 = .ok (.iconst (-1), 1) := by decide +kernel
theorem dX5_go_18 : decode cX5_go 18 = .ok (.ireturn, 1) := by decide +kernel
theorem dX5_go_19 : decode cX5_go 19 = .ok (.iload_n 2, 1) := by decide +kernel
theorem dX5_go_20 : decode cX5_go 20 = .ok (.iconst 2, 1) := by decide +kernel
theorem dX5_go_21 : decode cX5_go 21 = .ok (.if_icmp .ge 62, 3) := by decide +kernel
theorem dX5_go_24 : decode cX5_go 24 = .ok (.iload_n 2, 1) := by decide +kernel
theorem dX5_go_25 : decode cX5_go 25 = .ok (.ifCond .ne 7, 3) := by decide +kernel
theorem dX5_go_28 : decode cX5_go 28 = .ok (.iconst 1, 1) := by decide +kernel
theorem dX5_go_29 : decode cX5_go 29 = .ok (.goto 4, 3) := by decide +kernel
theorem dX5_go_32 : decode cX5_go 32 = .ok (.iconst (-1), 1) := by decide +kernel
theorem dX5_go_33 : decode cX5_go 33 = .ok (.istore_n 3, 1) := by decide +kernel
theorem dX5_go_34 : decode cX5_go 34 = .ok (.iload_n 1, 1) := by decide +kernel
end
section
theorem dX5_go_35 : decode cX5_go 35 = .ok (.iload_n 3, 1) := by decide +kernel
theorem dX5_go_36 : decode cX5_go 36 = .ok (.iadd, 1) := by decide +kernel
theorem dX5_go_37 : decode cX5_go 37 = .ok (.istore 4, 2) := by decide +kernel
theorem dX5_go_39 : decode cX5_go 39 = .ok (.aload_n 0, 1) := by decide +kernel
theorem dX5_go_40 : decode cX5_go 40 = .ok (.iload 4, 2) := by decide +kernel
theorem dX5_go_42 : decode cX5_go 42 = .ok (.invokevirtual 153, 3) := by decide +kernel
theorem dX5_go_45 : decode cX5_go 45 = .ok (.ifCond .eq 21, 3) := by decide +kernel
theorem dX5_go_48 : decode cX5_go 48 = .ok (.aload_n 0, 1) := by decide +kernel
theorem dX5_go_49 : decode cX5_go 49 = .ok (.iload 4, 2) := by decide +kernel
theorem dX5_go_51 : decode cX5_go 51 = .ok (.invokevirtual 162, 3) := by decide +kernel
theorem dX5_go_54 : decode cX5_go 54 = .ok (.ifCond .ne 12, 3) := by decide +kernel
theorem dX5_go_57 : decode cX5_go 57 = .ok (.iload 4, 2) := by decide +kernel
theorem dX5_go_59 : decode cX5_go 59 = .ok (.iload_n 3, 1) := by decide +kernel
theorem dX5_go_60 : decode cX5_go 60 = .ok (.iadd, 1) := by decide +kernel
theorem dX5_go_61 : decode cX5_go 61 = .ok (.istore 4, 2) := by decide +kernel
theorem dX5_go_63 : decode cX5_go 63 = .ok (.goto (-24), 3) := by decide +kernel
theorem dX5_go_66 : decode cX5_go 66 = .ok (.aload_n 0, 1) := by decide +kernel
theorem dX5_go_67 : decode cX5_go 67 = .ok (.iload 4, 2) := by decide +kernel
theorem dX5_go_69 : decode cX5_go 69 = .ok (.invokevirtual 153, 3) := by decide +kernel
theorem dX5_go_72 : decode cX5_go 72 = .ok (.ifCond .eq 8, 3) := by decide +kernel
theorem dX5_go_75 : decode cX5_go 75 = .ok (.iload 4, 2) := by decide +kernel
theorem dX5_go_77 : decode cX5_go 77 = .ok (.goto 5, 3) := by decide +kernel
theorem dX5_go_80 : decode cX5_go 80 = .ok (.bipush (-4), 2) := by decide +kernel
theorem dX5_go_82 : decode cX5_go 82 = .ok (.ireturn, 1) := by decide +kernel
theorem dX5_go_83 : decode cX5_go 83 = .ok (.aload_n 0, 1) := by decide +kernel
theorem dX5_go_84 : decode cX5_go 84 = .ok (.invokevirtual 150, 3) := by decide +kernel
theorem dX5_go_87 : decode cX5_go 87 = .ok (.aload_n 0, 1) := by decide +kernel
theorem dX5_go_88 : decode cX5_go 88 = .ok (.iload_n 1, 1) := by decide +kernel
theorem dX5_go_89 : decode cX5_go 89 = .ok (.invokevirtual 217, 3) := by decide +kernel
theorem dX5_go_92 : decode cX5_go 92 = .ok (.istore_n 3, 1) := by decide +kernel
theorem dX5_go_93 : decode cX5_go 93 = .ok (.iload_n 3, 1) := by decide +kernel
theorem dX5_go_94 : decode cX5_go 94 = .ok (.bipush (-4), 2) := by decide +kernel
theorem dX5_go_96 : decode cX5_go 96 = .ok (.if_icmp .ne 10, 3) := by decide +kernel
theorem dX5_go_99 : decode cX5_go 99 = .ok (.aload_n 0, 1) := by decide +kernel
theorem dX5_go_100 : decode cX5_go 100 = .ok (.getfield 144, 3) := by decide +kernel
theorem dX5_go_103 : decode cX5_go 103 = .ok (.goto 9, 3) := by decide +kernel
theorem dX5_go_106 : decode cX5_go 106 = .ok (.aload_n 0, 1) := by decide +kernel
theorem dX5_go_107 : decode cX5_go 107 = .ok (.getfield 44, 3) := by decide +kernel
theorem dX5_go_110 : decode cX5_go 110 = .ok (.iload_n 3, 1) := by decide +kernel
theorem dX5_go_111 : decode cX5_go 111 = .ok (.iaload, 1) := by decide +kernel
theorem dX5_go_112 : decode cX5_go 112 = .ok (.istore 4, 2) := by decide +kernel
theorem dX5_go_114 : decode cX5_go 114 = .ok (.iload_n 3, 1) := by decide +kernel
theorem dX5_go_115 : decode cX5_go 115 = .ok (.bipush (-4), 2) := by decide +kernel
theorem dX5_go_117 : decode cX5_go 117 = .ok (.if_icmp .ne 10, 3) := by decide +kernel
theorem dX5_go_120 : decode cX5_go 120 = .ok (.aload_n 0, 1) := by decide +kernel
theorem dX5_go_121 : decode cX5_go 121 = .ok (.getfield 147, 3) := by decide +kernel
theorem dX5_go_124 : decode cX5_go 124 = .ok (.goto 9, 3) := by decide +kernel
theorem dX5_go_127 : decode cX5_go 127 = .ok (.aload_n 0, 1) := by decide +kernel
theorem dX5_go_128 : decode cX5_go 128 = .ok (.getfield 47, 3) := by decide +kernel
theorem dX5_go_131 : decode cX5_go 131 = .ok (.iload_n 3, 1) := by decide +kernel
theorem dX5_go_132 : decode cX5_go 132 = .ok (.iaload, 1) := by decide +kernel
theorem dX5_go_133 : decode cX5_go 133 = .ok (.istore 5, 2) := by decide +kernel
theorem dX5_go_135 : decode cX5_go 135 = .ok (.iload_n 2, 1) := by decide +kernel
theorem dX5_go_136 : decode cX5_go 136 = .ok (.iconst 2, 1) := by decide +kernel
theorem dX5_go_137 : decode cX5_go 137 = .ok (.if_icmp .ne 10, 3) := by decide +kernel
theorem dX5_go_140 : decode cX5_go 140 = .ok (.iload 4, 2) := by decide +kernel
theorem dX5_go_142 : decode cX5_go 142 = .ok (.iconst 1, 1) := by decide +kernel
theorem dX5_go_143 : decode cX5_go 143 = .ok (.isub, 1) := by decide +kernel
theorem dX5_go_144 : decode cX5_go 144 = .ok (.goto 7, 3) := by decide +kernel
theorem dX5_go_147 : decode cX5_go 147 = .ok (.iload 4, 2) := by decide +kernel
theorem dX5_go_149 : decode cX5_go 149 = .ok (.iconst 1, 1) := by decide +kernel
theorem dX5_go_150 : decode cX5_go 150 = .ok (.iadd, 1) := by decide +kernel
theorem dX5_go_151 : decode cX5_go 151 = .ok (.istore 6, 2) := by decide +kernel
theorem dX5_go_153 : decode cX5_go 153 = .ok (.aload_n 0, 1) := by decide +kernel
theorem dX5_go_154 : decode cX5_go 154 = .ok (.iload 6, 2) := by decide +kernel
theorem dX5_go_156 : decode cX5_go 156 = .ok (.invokevirtual 223, 3) := by decide +kernel
theorem dX5_go_159 : decode cX5_go 159 = .ok (.ifCond .eq 14, 3) := by decide +kernel
theorem dX5_go_162 : decode cX5_go 162 = .ok (.aload_n 0, 1) := by decide +kernel
theorem dX5_go_163 : decode cX5_go 163 = .ok (.iload 6, 2) := by decide +kernel
theorem dX5_go_165 : decode cX5_go 165 = .ok (.iload 5, 2) := by decide +kernel
theorem dX5_go_167 : decode cX5_go 167 = .ok (.invokevirtual 226, 3) := by decide +kernel
theorem dX5_go_170 : decode cX5_go 170 = .ok (.goto 5, 3) := by decide +kernel
theorem dX5_go_173 : decode cX5_go 173 = .ok (.bipush (-4), 2) := by decide +kernel
theorem dX5_go_175 : decode cX5_go 175 = .ok (.ireturn, 1) := by decide +kernel
theorem dX5_row_0 : decode cX5_row 0 = .ok (.aload_n 0, 1) := by decide +kernel
theorem dX5_row_1 : decode cX5_row 1 = .ok (.invokevirtual 150, 3) := by decide +kernel
theorem dX5_row_4 : decode cX5_row 4 = .ok (.aload_n 0, 1) := by decide +kernel
theorem dX5_row_5 : decode cX5_row 5 = .ok (.iload_n 1, 1) := by decide +kernel
theorem dX5_row_6 : decode cX5_row 6 = .ok (.invokevirtual 223, 3) := by decide +kernel
theorem dX5_row_9 : decode cX5_row 9 = .ok (.ifCond .eq 12, 3) := by decide +kernel
theorem dX5_row_12 : decode cX5_row 12 = .ok (.iload_n 2, 1) := by decide +kernel
theorem dX5_row_13 : decode cX5_row 13 = .ok (.iconst 0, 1) := by decide +kernel
theorem dX5_row_14 : decode cX5_row 14 = .ok (.iconst 1, 1) := by decide +kernel
theorem dX5_row_15 : decode cX5_row 15 = .ok (.invokestatic 103, 3) := by decide +kernel
theorem dX5_row_18 : decode cX5_row 18 = .ok (.ifCond .ne 5, 3) := by decide +kernel
theorem dX5_row_21 : decode cX5_row 21 = .ok (.iconst (-1), 1) := by decide +kernel
theorem dX5_row_22 : decode cX5_row 22 = .ok (.ireturn, 1) := by decide +kernel
theorem dX5_row_23 : decode cX5_row 23 = .ok (.iload_n 2, 1) := by decide +kernel
theorem dX5_row_24 : decode cX5_row 24 = .ok (.ifCond .ne 12, 3) := by decide +kernel
theorem dX5_row_27 : decode cX5_row 27 = .ok (.aload_n 0, 1) := by decide +kernel
theorem dX5_row_28 : decode cX5_row 28 = .ok (.getfield 53, 3) := by decide +kernel
theorem dX5_row_31 : decode cX5_row 31 = .ok (.iload_n 1, 1) := by decide +kernel
theorem dX5_row_32 : decode cX5_row 32 = .ok (.iaload, 1) := by decide +kernel
theorem dX5_row_33 : decode cX5_row 33 = .ok (.goto 9, 3) := by decide +kernel
theorem dX5_row_36 : decode cX5_row 36 = .ok (.aload_n 0, 1) := by decide +kernel
theorem dX5_row_37 : decode cX5_row 37 = .ok (.getfield 56, 3) := by decide +kernel
theorem dX5_row_40 : decode cX5_row 40 = .ok (.iload_n 1, 1) := by decide +kernel
theorem dX5_row_41 : decode cX5_row 41 = .ok (.iaload, 1) := by decide +kernel
theorem dX5_row_42 : decode cX5_row 42 = .ok (.ireturn, 1) := by decide +kernel
theorem dX5_nowMany_0 : decode cX5_nowMany 0 = .ok (.iconst 0, 1) := by decide +kernel
theorem dX5_nowMany_1 : decode cX5_nowMany 1 = .ok (.istore_n 2, 1) := by decide +kernel
theorem dX5_nowMany_2 : decode cX5_nowMany 2 = .ok (.iconst 0, 1) := by decide +kernel
theorem dX5_nowMany_3 : decode cX5_nowMany 3 = .ok (.istore_n 3, 1) := by decide +kernel
theorem dX5_nowMany_4 : decode cX5_nowMany 4 = .ok (.iload_n 3, 1) := by decide +kernel
theorem dX5_nowMany_5 : decode cX5_nowMany 5 = .ok (.aload_n 0, 1) := by decide +kernel
theorem dX5_nowMany_6 : decode cX5_nowMany 6 = .ok (.getfield 117, 3) := by decide +kernel
theorem dX5_nowMany_9 : decode cX5_nowMany 9 = .ok (.if_icmp .ge 38, 3) := by decide +kernel
theorem dX5_nowMany_12 : decode cX5_nowMany 12 = .ok (.iload_n 2, 1) := by decide +kernel
theorem dX5_nowMany_13 : decode cX5_nowMany 13 = .ok (.aload_n 0, 1) := by decide +kernel
theorem dX5_nowMany_14 : decode cX5_nowMany 14 = .ok (.getfield 44, 3) := by decide +kernel
theorem dX5_nowMany_17 : decode cX5_nowMany 17 = .ok (.iload_n 3, 1) := by decide +kernel
theorem dX5_nowMany_18 : decode cX5_nowMany 18 = .ok (.iaload, 1) := by decide +kernel
theorem dX5_nowMany_19 : decode cX5_nowMany 19 = .ok (.iload_n 1, 1) := by decide +kernel
theorem dX5_nowMany_20 : decode cX5_nowMany 20 = .ok (.if_icmp .ne 18, 3) := by decide +kernel
theorem dX5_nowMany_23 : decode cX5_nowMany 23 = .ok (.aload_n 0, 1) := by decide +kernel
theorem dX5_nowMany_24 : decode cX5_nowMany 24 = .ok (.getfield 38, 3) := by decide +kernel
theorem dX5_nowMany_27 : decode cX5_nowMany 27 = .ok (.iload_n 3, 1) := by decide +kernel
theorem dX5_nowMany_28 : decode cX5_nowMany 28 = .ok (.iaload, 1) := by decide +kernel
theorem dX5_nowMany_29 : decode cX5_nowMany 29 = .ok (.bipush 27, 2) := by decide +kernel
theorem dX5_nowMany_31 : decode cX5_nowMany 31 = .ok (.if_icmp .eq 7, 3) := by decide +kernel
theorem dX5_nowMany_34 : decode cX5_nowMany 34 = .ok (.iconst 1, 1) := by decide +kernel
theorem dX5_nowMany_35 : decode cX5_nowMany 35 = .ok (.goto 4, 3) := by decide +kernel
theorem dX5_nowMany_38 : decode cX5_nowMany 38 = .ok (.iconst 0, 1) := by decide +kernel
theorem dX5_nowMany_39 : decode cX5_nowMany 39 = .ok (.iadd, 1) := by decide +kernel
theorem dX5_nowMany_40 : decode cX5_nowMany 40 = .ok (.istore_n 2, 1) := by decide +kernel
theorem dX5_nowMany_41 : decode cX5_nowMany 41 = .ok (.iinc 3 1, 3) := by decide +kernel
theorem dX5_nowMany_44 : decode cX5_nowMany 44 = .ok (.goto (-40), 3) := by decide +kernel
theorem dX5_nowMany_47 : decode cX5_nowMany 47 = .ok (.iload_n 2, 1) := by decide +kernel
theorem dX5_nowMany_48 : decode cX5_nowMany 48 = .ok (.ireturn, 1) := by decide +kernel
theorem dX5_wereMany_0 : decode cX5_wereMany 0 = .ok (.iconst 0, 1) := by decide +kernel
theorem dX5_wereMany_1 : decode cX5_wereMany 1 = .ok (.istore_n 2, 1) := by decide +kernel
theorem dX5_wereMany_2 : decode cX5_wereMany 2 = .ok (.iconst 0, 1) := by decide +kernel
theorem dX5_wereMany_3 : decode cX5_wereMany 3 = .ok (.istore_n 3, 1) := by decide +kernel
theorem dX5_wereMany_4 : decode cX5_wereMany 4 = .ok (.iload_n 3, 1) := by decide +kernel
theorem dX5_wereMany_5 : decode cX5_wereMany 5 = .ok (.aload_n 0, 1) := by decide +kernel
theorem dX5_wereMany_6 : decode cX5_wereMany 6 = .ok (.getfield 165, 3) := by decide +kernel
theorem dX5_wereMany_9 : decode cX5_wereMany 9 = .ok (.if_icmp .ge 38, 3) := by decide +kernel
theorem dX5_wereMany_12 : decode cX5_wereMany 12 = .ok (.iload_n 2, 1) := by decide +kernel
theorem dX5_wereMany_13 : decode cX5_wereMany 13 = .ok (.aload_n 0, 1) := by decide +kernel
theorem dX5_wereMany_14 : decode cX5_wereMany 14 = .ok (.getfield 71, 3) := by decide +kernel
theorem dX5_wereMany_17 : decode cX5_wereMany 17 = .ok (.iload_n 3, 1) := by decide +kernel
theorem dX5_wereMany_18 : decode cX5_wereMany 18 = .ok (.iaload, 1) := by decide +kernel
theorem dX5_wereMany_19 : decode cX5_wereMany 19 = .ok (.iload_n 1, 1) := by decide +kernel
theorem dX5_wereMany_20 : decode cX5_wereMany 20 = .ok (.if_icmp .ne 18, 3) := by decide +kernel
theorem dX5_wereMany_23 : decode cX5_wereMany 23 = .ok (.aload_n 0, 1) := by decide +kernel
theorem dX5_wereMany_24 : decode cX5_wereMany 24 = .ok (.getfield 68, 3) := by decide +kernel
theorem dX5_wereMany_27 : decode cX5_wereMany 27 = .ok (.iload_n 3, 1) := by decide +kernel
theorem dX5_wereMany_28 : decode cX5_wereMany 28 = .ok (.iaload, 1) := by decide +kernel
theorem dX5_wereMany_29 : decode cX5_wereMany 29 = .ok (.bipush 27, 2) := by decide +kernel
theorem dX5_wereMany_31 : decode cX5_wereMany 31 = .ok (.if_icmp .eq 7, 3) := by decide +kernel
theorem dX5_wereMany_34 : decode cX5_wereMany 34 = .ok (.iconst 1, 1) := by decide +kernel
theorem dX5_wereMany_35 : decode cX5_wereMany 35 = .ok (.goto 4, 3) := by decide +kernel
theorem dX5_wereMany_38 : decode cX5_wereMany 38 = .ok (.iconst 0, 1) := by decide +kernel
theorem dX5_wereMany_39 : decode cX5_wereMany 39 = .ok (.iadd, 1) := by decide +kernel
theorem dX5_wereMany_40 : decode cX5_wereMany 40 = .ok (.istore_n 2, 1) := by decide +kernel
theorem dX5_wereMany_41 : decode cX5_wereMany 41 = .ok (.iinc 3 1, 3) := by decide +kernel
theorem dX5_wereMany_44 : decode cX5_wereMany 44 = .ok (.goto (-40), 3) := by decide +kernel
theorem dX5_wereMany_47 : decode cX5_wereMany 47 = .ok (.iload_n 2, 1) := by decide +kernel
theorem dX5_wereMany_48 : decode cX5_wereMany 48 = .ok (.ireturn, 1) := by decide +kernel
theorem dX5_stood_0 : decode cX5_stood 0 = .ok (.iconst 0, 1) := by decide +kernel
theorem dX5_stood_1 : decode cX5_stood 1 = .ok (.istore_n 2, 1) := by decide +kernel
theorem dX5_stood_2 : decode cX5_stood 2 = .ok (.iconst 0, 1) := by decide +kernel
theorem dX5_stood_3 : decode cX5_stood 3 = .ok (.istore_n 3, 1) := by decide +kernel
theorem dX5_stood_4 : decode cX5_stood 4 = .ok (.iload_n 3, 1) := by decide +kernel
theorem dX5_stood_5 : decode cX5_stood 5 = .ok (.aload_n 0, 1) := by decide +kernel
theorem dX5_stood_6 : decode cX5_stood 6 = .ok (.getfield 165, 3) := by decide +kernel
theorem dX5_stood_9 : decode cX5_stood 9 = .ok (.if_icmp .ge 79, 3) := by decide +kernel
theorem dX5_stood_12 : decode cX5_stood 12 = .ok (.iload_n 2, 1) := by decide +kernel
theorem dX5_stood_13 : decode cX5_stood 13 = .ok (.ifCond .ne 63, 3) := by decide +kernel
theorem dX5_stood_16 : decode cX5_stood 16 = .ok (.aload_n 0, 1) := by decide +kernel
theorem dX5_stood_17 : decode cX5_stood 17 = .ok (.getfield 71, 3) := by decide +kernel
theorem dX5_stood_20 : decode cX5_stood 20 = .ok (.iload_n 3, 1) := by decide +kernel
theorem dX5_stood_21 : decode cX5_stood 21 = .ok (.iaload, 1) := by decide +kernel
theorem dX5_stood_22 : decode cX5_stood 22 = .ok (.aload_n 0, 1) := by decide +kernel
theorem dX5_stood_23 : decode cX5_stood 23 = .ok (.getfield 44, 3) := by decide +kernel
theorem dX5_stood_26 : decode cX5_stood 26 = .ok (.iload_n 1, 1) := by decide +kernel
theorem dX5_stood_27 : decode cX5_stood 27 = .ok (.iaload, 1) := by decide +kernel
theorem dX5_stood_28 : decode cX5_stood 28 = .ok (.if_icmp .ne 52, 3) := by decide +kernel
theorem dX5_stood_31 : decode cX5_stood 31 = .ok (.aload_n 0, 1) := by decide +kernel
theorem dX5_stood_32 : decode cX5_stood 32 = .ok (.getfield 68, 3) := by decide +kernel
theorem dX5_stood_35 : decode cX5_stood 35 = .ok (.iload_n 3, 1) := by decide +kernel
theorem dX5_stood_36 : decode cX5_stood 36 = .ok (.iaload, 1) := by decide +kernel
theorem dX5_stood_37 : decode cX5_stood 37 = .ok (.aload_n 0, 1) := by decide +kernel
theorem dX5_stood_38 : decode cX5_stood 38 = .ok (.getfield 38, 3) := by decide +kernel
theorem dX5_stood_41 : decode cX5_stood 41 = .ok (.iload_n 1, 1) := by decide +kernel
theorem dX5_stood_42 : decode cX5_stood 42 = .ok (.iaload, 1) := by decide +kernel
theorem dX5_stood_43 : decode cX5_stood 43 = .ok (.if_icmp .ne 37, 3) := by decide +kernel
theorem dX5_stood_46 : decode cX5_stood 46 = .ok (.aload_n 0, 1) := by decide +kernel
theorem dX5_stood_47 : decode cX5_stood 47 = .ok (.getfield 74, 3) := by decide +kernel
theorem dX5_stood_50 : decode cX5_stood 50 = .ok (.iload_n 3, 1) := by decide +kernel
theorem dX5_stood_51 : decode cX5_stood 51 = .ok (.iaload, 1) := by decide +kernel
theorem dX5_stood_52 : decode cX5_stood 52 = .ok (.aload_n 0, 1) := by decide +kernel
theorem dX5_stood_53 : decode cX5_stood 53 = .ok (.getfield 47, 3) := by decide +kernel
theorem dX5_stood_56 : decode cX5_stood 56 = .ok (.iload_n 1, 1) := by decide +kernel
theorem dX5_stood_57 : decode cX5_stood 57 = .ok (.iaload, 1) := by decide +kernel
theorem dX5_stood_58 : decode cX5_stood 58 = .ok (.if_icmp .ne 22, 3) := by decide +kernel
theorem dX5_stood_61 : decode cX5_stood 61 = .ok (.aload_n 0, 1) := by decide +kernel
theorem dX5_stood_62 : decode cX5_stood 62 = .ok (.getfield 77, 3) := by decide +kernel
theorem dX5_stood_65 : decode cX5_stood 65 = .ok (.iload_n 3, 1) := by decide +kernel
theorem dX5_stood_66 : decode cX5_stood 66 = .ok (.iaload, 1) := by decide +kernel
theorem dX5_stood_67 : decode cX5_stood 67 = .ok (.aload_n 0, 1) := by decide +kernel
theorem dX5_stood_68 : decode cX5_stood 68 = .ok (.getfield 50, 3) := by decide +kernel
theorem dX5_stood_71 : decode cX5_stood 71 = .ok (.iload_n 1, 1) := by decide +kernel
theorem dX5_stood_72 : decode cX5_stood 72 = .ok (.iaload, 1) := by decide +kernel
theorem dX5_stood_73 : decode cX5_stood 73 = .ok (.if_icmp .ne 7, 3) := by decide +kernel
theorem dX5_stood_76 : decode cX5_stood 76 = .ok (.iconst 1, 1) := by decide +kernel
theorem dX5_stood_77 : decode cX5_stood 77 = .ok (.goto 4, 3) := by decide +kernel
theorem dX5_stood_80 : decode cX5_stood 80 = .ok (.iconst 0, 1) := by decide +kernel
theorem dX5_stood_81 : decode cX5_stood 81 = .ok (.istore_n 2, 1) := by decide +kernel
theorem dX5_stood_82 : decode cX5_stood 82 = .ok (.iinc 3 1, 3) := by decide +kernel
theorem dX5_stood_85 : decode cX5_stood 85 = .ok (.goto (-81), 3) := by decide +kernel
theorem dX5_stood_88 : decode cX5_stood 88 = .ok (.iload_n 2, 1) := by decide +kernel
theorem dX5_stood_89 : decode cX5_stood 89 = .ok (.ireturn, 1) := by decide +kernel
theorem dX5_isChanged_0 : decode cX5_isChanged 0 = .ok (.iload_n 1, 1) := by decide +kernel
theorem dX5_isChanged_1 : decode cX5_isChanged 1 = .ok (.aload_n 0, 1) := by decide +kernel
theorem dX5_isChanged_2 : decode cX5_isChanged 2 = .ok (.getfield 168, 3) := by decide +kernel
theorem dX5_isChanged_5 : decode cX5_isChanged 5 = .ok (.if_icmp .ge 24, 3) := by decide +kernel
theorem dX5_isChanged_8 : decode cX5_isChanged 8 = .ok (.iload_n 1, 1) := by decide +kernel
theorem dX5_isChanged_9 : decode cX5_isChanged 9 = .ok (.aload_n 0, 1) := by decide +kernel
theorem dX5_isChanged_10 : decode cX5_isChanged 10 = .ok (.getfield 144, 3) := by decide +kernel
theorem dX5_isChanged_13 : decode cX5_isChanged 13 = .ok (.if_icmp .gt 16, 3) := by decide +kernel
theorem dX5_isChanged_16 : decode cX5_isChanged 16 = .ok (.aload_n 0, 1) := by decide +kernel
theorem dX5_isChanged_17 : decode cX5_isChanged 17 = .ok (.iload_n 1, 1) := by decide +kernel
theorem dX5_isChanged_18 : decode cX5_isChanged 18 = .ok (.invokevirtual 229, 3) := by decide +kernel
theorem dX5_isChanged_21 : decode cX5_isChanged 21 = .ok (.aload_n 0, 1) := by decide +kernel
theorem dX5_isChanged_22 : decode cX5_isChanged 22 = .ok (.iload_n 1, 1) := by decide +kernel
theorem dX5_isChanged_23 : decode cX5_isChanged 23 = .ok (.invokevirtual 232, 3) := by decide +kernel
theorem dX5_isChanged_26 : decode cX5_isChanged 26 = .ok (.if_icmp .eq 5, 3) := by decide +kernel
theorem dX5_isChanged_29 : decode cX5_isChanged 29 = .ok (.iconst 1, 1) := by decide +kernel
theorem dX5_isChanged_30 : decode cX5_isChanged 30 = .ok (.ireturn, 1) := by decide +kernel
theorem dX5_isChanged_31 : decode cX5_isChanged 31 = .ok (.iconst 0, 1) := by decide +kernel
theorem dX5_isChanged_32 : decode cX5_isChanged 32 = .ok (.istore_n 2, 1) := by decide +kernel
theorem dX5_isChanged_33 : decode cX5_isChanged 33 = .ok (.iconst 0, 1) := by decide +kernel
theorem dX5_isChanged_34 : decode cX5_isChanged 34 = .ok (.istore_n 3, 1) := by decide +kernel
theorem dX5_isChanged_35 : decode cX5_isChanged 35 = .ok (.iload_n 3, 1) := by decide +kernel
theorem dX5_isChanged_36 : decode cX5_isChanged 36 = .ok (.aload_n 0, 1) := by decide +kernel
theorem dX5_isChanged_37 : decode cX5_isChanged 37 = .ok (.getfield 117, 3) := by decide +kernel
theorem dX5_isChanged_40 : decode cX5_isChanged 40 = .ok (.if_icmp .ge 48, 3) := by decide +kernel
theorem dX5_isChanged_43 : decode cX5_isChanged 43 = .ok (.iload_n 2, 1) := by decide +kernel
theorem dX5_isChanged_44 : decode cX5_isChanged 44 = .ok (.ifCond .ne 32, 3) := by decide +kernel
theorem dX5_isChanged_47 : decode cX5_isChanged 47 = .ok (.aload_n 0, 1) := by decide +kernel
theorem dX5_isChanged_48 : decode cX5_isChanged 48 = .ok (.getfield 44, 3) := by decide +kernel
theorem dX5_isChanged_51 : decode cX5_isChanged 51 = .ok (.iload_n 3, 1) := by decide +kernel
theorem dX5_isChanged_52 : decode cX5_isChanged 52 = .ok (.iaload, 1) := by decide +kernel
theorem dX5_isChanged_53 : decode cX5_isChanged 53 = .ok (.iload_n 1, 1) := by decide +kernel
theorem dX5_isChanged_54 : decode cX5_isChanged 54 = .ok (.if_icmp .ne 26, 3) := by decide +kernel
theorem dX5_isChanged_57 : decode cX5_isChanged 57 = .ok (.aload_n 0, 1) := by decide +kernel
theorem dX5_isChanged_58 : decode cX5_isChanged 58 = .ok (.getfield 38, 3) := by decide +kernel
theorem dX5_isChanged_61 : decode cX5_isChanged 61 = .ok (.iload_n 3, 1) := by decide +kernel
theorem dX5_isChanged_62 : decode cX5_isChanged 62 = .ok (.iaload, 1) := by decide +kernel
theorem dX5_isChanged_63 : decode cX5_isChanged 63 = .ok (.bipush 27, 2) := by decide +kernel
theorem dX5_isChanged_65 : decode cX5_isChanged 65 = .ok (.if_icmp .eq 15, 3) := by decide +kernel
theorem dX5_isChanged_68 : decode cX5_isChanged 68 = .ok (.aload_n 0, 1) := by decide +kernel
theorem dX5_isChanged_69 : decode cX5_isChanged 69 = .ok (.iload_n 3, 1) := by decide +kernel
theorem dX5_isChanged_70 : decode cX5_isChanged 70 = .ok (.invokevirtual 235, 3) := by decide +kernel
theorem dX5_isChanged_73 : decode cX5_isChanged 73 = .ok (.ifCond .ne 7, 3) := by decide +kernel
theorem dX5_isChanged_76 : decode cX5_isChanged 76 = .ok (.iconst 1, 1) := by decide +kernel
theorem dX5_isChanged_77 : decode cX5_isChanged 77 = .ok (.goto 4, 3) := by decide +kernel
theorem dX5_isChanged_80 : decode cX5_isChanged 80 = .ok (.iconst 0, 1) := by decide +kernel
theorem dX5_isChanged_81 : decode cX5_isChanged 81 = .ok (.istore_n 2, 1) := by decide +kernel
theorem dX5_isChanged_82 : decode cX5_isChanged 82 = .ok (.iinc 3 1, 3) := by decide +kernel
theorem dX5_isChanged_85 : decode cX5_isChanged 85 = .ok (.goto (-50), 3) := by decide +kernel
theorem dX5_isChanged_88 : decode cX5_isChanged 88 = .ok (.iload_n 2, 1) := by decide +kernel
theorem dX5_isChanged_89 : decode cX5_isChanged 89 = .ok (.ireturn, 1) := by decide +kernel
theorem dX5_changed_0 : decode cX5_changed 0 = .ok (.iload_n 1, 1) := by decide +kernel
theorem dX5_changed_1 : decode cX5_changed 1 = .ok (.iconst 0, 1) := by decide +kernel
theorem dX5_changed_2 : decode cX5_changed 2 = .ok (.iconst 1, 1) := by decide +kernel
theorem dX5_changed_3 : decode cX5_changed 3 = .ok (.invokestatic 103, 3) := by decide +kernel
theorem dX5_changed_6 : decode cX5_changed 6 = .ok (.ifCond .ne 5, 3) := by decide +kernel
theorem dX5_changed_9 : decode cX5_changed 9 = .ok (.iconst (-1), 1) := by decide +kernel
theorem dX5_changed_10 : decode cX5_changed 10 = .ok (.ireturn, 1) := by decide +kernel
theorem dX5_changed_11 : decode cX5_changed 11 = .ok (.aload_n 0, 1) := by decide +kernel
theorem dX5_changed_12 : decode cX5_changed 12 = .ok (.invokevirtual 150, 3) := by decide +kernel
theorem dX5_changed_15 : decode cX5_changed 15 = .ok (.bipush (-4), 2) := by decide +kernel
theorem dX5_changed_17 : decode cX5_changed 17 = .ok (.istore_n 2, 1) := by decide +kernel
theorem dX5_changed_18 : decode cX5_changed 18 = .ok (.iconst 0, 1) := by decide +kernel
theorem dX5_changed_19 : decode cX5_changed 19 = .ok (.istore_n 3, 1) := by decide +kernel
theorem dX5_changed_20 : decode cX5_changed 20 = .ok (.iconst 0, 1) := by decide +kernel
theorem dX5_changed_21 : decode cX5_changed 21 = .ok (.istore 4, 2) := by decide +kernel
theorem dX5_changed_23 : decode cX5_changed 23 = .ok (.aload_n 0, 1) := by decide +kernel
theorem dX5_changed_24 : decode cX5_changed 24 = .ok (.getfield 171, 3) := by decide +kernel
theorem dX5_changed_27 : decode cX5_changed 27 = .ok (.ifCond .eq 50, 3) := by decide +kernel
theorem dX5_changed_30 : decode cX5_changed 30 = .ok (.iload 4, 2) := by decide +kernel
theorem dX5_changed_32 : decode cX5_changed 32 = .ok (.aload_n 0, 1) := by decide +kernel
theorem dX5_changed_33 : decode cX5_changed 33 = .ok (.getfield 168, 3) := by decide +kernel
theorem dX5_changed_36 : decode cX5_changed 36 = .ok (.if_icmp .lt 12, 3) := by decide +kernel
theorem dX5_changed_39 : decode cX5_changed 39 = .ok (.iload 4, 2) := by decide +kernel
theorem dX5_changed_41 : decode cX5_changed 41 = .ok (.aload_n 0, 1) := by decide +kernel
theorem dX5_changed_42 : decode cX5_changed 42 = .ok (.getfield 144, 3) := by decide +kernel
theorem dX5_changed_45 : decode cX5_changed 45 = .ok (.if_icmp .gt 32, 3) := by decide +kernel
theorem dX5_changed_48 : decode cX5_changed 48 = .ok (.aload_n 0, 1) := by decide +kernel
theorem dX5_changed_49 : decode cX5_changed 49 = .ok (.iload 4, 2) := by decide +kernel
theorem dX5_changed_51 : decode cX5_changed 51 = .ok (.invokevirtual 238, 3) := by decide +kernel
theorem dX5_changed_54 : decode cX5_changed 54 = .ok (.ifCond .eq 17, 3) := by decide +kernel
theorem dX5_changed_57 : decode cX5_changed 57 = .ok (.iload_n 3, 1) := by decide +kernel
theorem dX5_changed_58 : decode cX5_changed 58 = .ok (.ifCond .ne 8, 3) := by decide +kernel
theorem dX5_changed_61 : decode cX5_changed 61 = .ok (.iload 4, 2) := by decide +kernel
theorem dX5_changed_63 : decode cX5_changed 63 = .ok (.goto 4, 3) := by decide +kernel
theorem dX5_changed_66 : decode cX5_changed 66 = .ok (.iload_n 2, 1) := by decide +kernel
theorem dX5_changed_67 : decode cX5_changed 67 = .ok (.istore_n 2, 1) := by decide +kernel
theorem dX5_changed_68 : decode cX5_changed 68 = .ok (.iinc 3 1, 3) := by decide +kernel
theorem dX5_changed_71 : decode cX5_changed 71 = .ok (.iinc 4 1, 3) := by decide +kernel
theorem dX5_changed_74 : decode cX5_changed 74 = .ok (.goto (-51), 3) := by decide +kernel
theorem dX5_changed_77 : decode cX5_changed 77 = .ok (.iload_n 1, 1) := by decide +kernel
theorem dX5_changed_78 : decode cX5_changed 78 = .ok (.ifCond .ne 7, 3) := by decide +kernel
theorem dX5_changed_81 : decode cX5_changed 81 = .ok (.iload_n 2, 1) := by decide +kernel
theorem dX5_changed_82 : decode cX5_changed 82 = .ok (.goto 4, 3) := by decide +kernel
theorem dX5_changed_85 : decode cX5_changed 85 = .ok (.iload_n 3, 1) := by decide +kernel
theorem dX5_changed_86 : decode cX5_changed 86 = .ok (.ireturn, 1) := by decide +kernel
theorem dX5_fit_0 : decode cX5_fit 0 = .ok (.iload_n 1, 1) := by decide +kernel
theorem dX5_fit_1 : decode cX5_fit 1 = .ok (.iconst 1, 1) := by decide +kernel
theorem dX5_fit_2 : decode cX5_fit 2 = .ok (.bipush 40, 2) := by decide +kernel
theorem dX5_fit_4 : decode cX5_fit 4 = .ok (.invokestatic 103, 3) := by decide +kernel
theorem dX5_fit_7 : decode cX5_fit 7 = .ok (.ifCond .ne 5, 3) := by decide +kernel
theorem dX5_fit_10 : decode cX5_fit 10 = .ok (.iconst (-1), 1) := by decide +kernel
theorem dX5_fit_11 : decode cX5_fit 11 = .ok (.ireturn, 1) := by decide +kernel
theorem dX5_fit_12 : decode cX5_fit 12 = .ok (.aload_n 0, 1) := by decide +kernel
theorem dX5_fit_13 : decode cX5_fit 13 = .ok (.getfield 32, 3) := by decide +kernel
theorem dX5_fit_16 : decode cX5_fit 16 = .ok (.istore_n 2, 1) := by decide +kernel
theorem dX5_fit_17 : decode cX5_fit 17 = .ok (.bipush (-4), 2) := by decide +kernel
theorem dX5_fit_19 : decode cX5_fit 19 = .ok (.istore_n 3, 1) := by decide +kernel
theorem dX5_fit_20 : decode cX5_fit 20 = .ok (.bipush 20, 2) := by decide +kernel
theorem dX5_fit_22 : decode cX5_fit 22 = .ok (.istore 4, 2) := by decide +kernel
theorem dX5_fit_24 : decode cX5_fit 24 = .ok (.iload 4, 2) := by decide +kernel
theorem dX5_fit_26 : decode cX5_fit 26 = .ok (.iconst 4, 1) := by decide +kernel
theorem dX5_fit_27 : decode cX5_fit 27 = .ok (.if_icmp .lt 30, 3) := by decide +kernel
theorem dX5_fit_30 : decode cX5_fit 30 = .ok (.aload_n 0, 1) := by decide +kernel
theorem dX5_fit_31 : decode cX5_fit 31 = .ok (.iload 4, 2) := by decide +kernel
theorem dX5_fit_33 : decode cX5_fit 33 = .ok (.putfield 32, 3) := by decide +kernel
theorem dX5_fit_36 : decode cX5_fit 36 = .ok (.aload_n 0, 1) := by decide +kernel
theorem dX5_fit_37 : decode cX5_fit 37 = .ok (.invokevirtual 241, 3) := by decide +kernel
theorem dX5_fit_40 : decode cX5_fit 40 = .ok (.iload_n 1, 1) := by decide +kernel
theorem dX5_fit_41 : decode cX5_fit 41 = .ok (.if_icmp .gt 8, 3) := by decide +kernel
theorem dX5_fit_44 : decode cX5_fit 44 = .ok (.iload 4, 2) := by decide +kernel
theorem dX5_fit_46 : decode cX5_fit 46 = .ok (.goto 4, 3) := by decide +kernel
theorem dX5_fit_49 : decode cX5_fit 49 = .ok (.iload_n 3, 1) := by decide +kernel
theorem dX5_fit_50 : decode cX5_fit 50 = .ok (.istore_n 3, 1) := by decide +kernel
theorem dX5_fit_51 : decode cX5_fit 51 = .ok (.iinc 4 (-1), 3) := by decide +kernel
theorem dX5_fit_54 : decode cX5_fit 54 = .ok (.goto (-30), 3) := by decide +kernel
theorem dX5_fit_57 : decode cX5_fit 57 = .ok (.aload_n 0, 1) := by decide +kernel
theorem dX5_fit_58 : decode cX5_fit 58 = .ok (.iload_n 2, 1) := by decide +kernel
theorem dX5_fit_59 : decode cX5_fit 59 = .ok (.putfield 32, 3) := by decide +kernel
theorem dX5_fit_62 : decode cX5_fit 62 = .ok (.iload_n 3, 1) := by decide +kernel
theorem dX5_fit_63 : decode cX5_fit 63 = .ok (.ireturn, 1) := by decide +kernel
theorem dX5_saves_0 : decode cX5_saves 0 = .ok (.iload_n 1, 1) := by decide +kernel
theorem dX5_saves_1 : decode cX5_saves 1 = .ok (.iconst 0, 1) := by decide +kernel
theorem dX5_saves_2 : decode cX5_saves 2 = .ok (.iconst 1, 1) := by decide +kernel
theorem dX5_saves_3 : decode cX5_saves 3 = .ok (.invokestatic 103, 3) := by decide +kernel
theorem dX5_saves_6 : decode cX5_saves 6 = .ok (.ifCond .ne 5, 3) := by decide +kernel
theorem dX5_saves_9 : decode cX5_saves 9 = .ok (.iconst (-1), 1) := by decide +kernel
theorem dX5_saves_10 : decode cX5_saves 10 = .ok (.ireturn, 1) := by decide +kernel
theorem dX5_saves_11 : decode cX5_saves 11 = .ok (.bipush (-4), 2) := by decide +kernel
theorem dX5_saves_13 : decode cX5_saves 13 = .ok (.istore_n 2, 1) := by decide +kernel
theorem dX5_saves_14 : decode cX5_saves 14 = .ok (.ldc 245, 2) := by decide +kernel
theorem dX5_saves_16 : decode cX5_saves 16 = .ok (.istore_n 3, 1) := by decide +kernel
theorem dX5_saves_17 : decode cX5_saves 17 = .ok (.iconst 0, 1) := by decide +kernel
theorem dX5_saves_18 : decode cX5_saves 18 = .ok (.istore 4, 2) := by decide +kernel
theorem dX5_saves_20 : decode cX5_saves 20 = .ok (.iload 4, 2) := by decide +kernel
theorem dX5_saves_22 : decode cX5_saves 22 = .ok (.aload_n 0, 1) := by decide +kernel
theorem dX5_saves_23 : decode cX5_saves 23 = .ok (.getfield 107, 3) := by decide +kernel
theorem dX5_saves_26 : decode cX5_saves 26 = .ok (.if_icmp .ge 67, 3) := by decide +kernel
theorem dX5_saves_29 : decode cX5_saves 29 = .ok (.aload_n 0, 1) := by decide +kernel
theorem dX5_saves_30 : decode cX5_saves 30 = .ok (.getfield 19, 3) := by decide +kernel
theorem dX5_saves_33 : decode cX5_saves 33 = .ok (.iload 4, 2) := by decide +kernel
theorem dX5_saves_35 : decode cX5_saves 35 = .ok (.iaload, 1) := by decide +kernel
theorem dX5_saves_36 : decode cX5_saves 36 = .ok (.ifCond .ne 51, 3) := by decide +kernel
theorem dX5_saves_39 : decode cX5_saves 39 = .ok (.aload_n 0, 1) := by decide +kernel
theorem dX5_saves_40 : decode cX5_saves 40 = .ok (.getfield 19, 3) := by decide +kernel
theorem dX5_saves_43 : decode cX5_saves 43 = .ok (.iload 4, 2) := by decide +kernel
theorem dX5_saves_45 : decode cX5_saves 45 = .ok (.iconst 1, 1) := by decide +kernel
theorem dX5_saves_46 : decode cX5_saves 46 = .ok (.iastore, 1) := by decide +kernel
theorem dX5_saves_47 : decode cX5_saves 47 = .ok (.aload_n 0, 1) := by decide +kernel
theorem dX5_saves_48 : decode cX5_saves 48 = .ok (.invokevirtual 241, 3) := by decide +kernel
theorem dX5_saves_51 : decode cX5_saves 51 = .ok (.istore 5, 2) := by decide +kernel
theorem dX5_saves_53 : decode cX5_saves 53 = .ok (.aload_n 0, 1) := by decide +kernel
theorem dX5_saves_54 : decode cX5_saves 54 = .ok (.getfield 19, 3) := by decide +kernel
theorem dX5_saves_57 : decode cX5_saves 57 = .ok (.iload 4, 2) := by decide +kernel
theorem dX5_saves_59 : decode cX5_saves 59 = .ok (.iconst 0, 1) := by decide +kernel
theorem dX5_saves_60 : decode cX5_saves 60 = .ok (.iastore, 1) := by decide +kernel
theorem dX5_saves_61 : decode cX5_saves 61 = .ok (.iload 5, 2) := by decide +kernel
theorem dX5_saves_63 : decode cX5_saves 63 = .ok (.iload_n 3, 1) := by decide +kernel
theorem dX5_saves_64 : decode cX5_saves 64 = .ok (.if_icmp .ge 8, 3) := by decide +kernel
theorem dX5_saves_67 : decode cX5_saves 67 = .ok (.iload 4, 2) := by decide +kernel
theorem dX5_saves_69 : decode cX5_saves 69 = .ok (.goto 4, 3) := by decide +kernel
theorem dX5_saves_72 : decode cX5_saves 72 = .ok (.iload_n 2, 1) := by decide +kernel
theorem dX5_saves_73 : decode cX5_saves 73 = .ok (.istore_n 2, 1) := by decide +kernel
theorem dX5_saves_74 : decode cX5_saves 74 = .ok (.iload 5, 2) := by decide +kernel
theorem dX5_saves_76 : decode cX5_saves 76 = .ok (.iload_n 3, 1) := by decide +kernel
theorem dX5_saves_77 : decode cX5_saves 77 = .ok (.if_icmp .ge 8, 3) := by decide +kernel
theorem dX5_saves_80 : decode cX5_saves 80 = .ok (.iload 5, 2) := by decide +kernel
theorem dX5_saves_82 : decode cX5_saves 82 = .ok (.goto 4, 3) := by decide +kernel
theorem dX5_saves_85 : decode cX5_saves 85 = .ok (.iload_n 3, 1) := by decide +kernel
theorem dX5_saves_86 : decode cX5_saves 86 = .ok (.istore_n 3, 1) := by decide +kernel
theorem dX5_saves_87 : decode cX5_saves 87 = .ok (.iinc 4 1, 3) := by decide +kernel
theorem dX5_saves_90 : decode cX5_saves 90 = .ok (.goto (-70), 3) := by decide +kernel
theorem dX5_saves_93 : decode cX5_saves 93 = .ok (.iload_n 2, 1) := by decide +kernel
theorem dX5_saves_94 : decode cX5_saves 94 = .ok (.bipush (-4), 2) := by decide +kernel
theorem dX5_saves_96 : decode cX5_saves 96 = .ok (.if_icmp .eq 7, 3) := by decide +kernel
theorem dX5_saves_99 : decode cX5_saves 99 = .ok (.iload_n 1, 1) := by decide +kernel
theorem dX5_saves_100 : decode cX5_saves 100 = .ok (.ifCond .ne 7, 3) := by decide +kernel
theorem dX5_saves_103 : decode cX5_saves 103 = .ok (.iload_n 2, 1) := by decide +kernel
theorem dX5_saves_104 : decode cX5_saves 104 = .ok (.goto 4, 3) := by decide +kernel
theorem dX5_saves_107 : decode cX5_saves 107 = .ok (.iload_n 3, 1) := by decide +kernel
theorem dX5_saves_108 : decode cX5_saves 108 = .ok (.ireturn, 1) := by decide +kernel
theorem dX5_isTight_0 : decode cX5_isTight 0 = .ok (.aload_n 0, 1) := by decide +kernel
theorem dX5_isTight_1 : decode cX5_isTight 1 = .ok (.aload_n 0, 1) := by decide +kernel
theorem dX5_isTight_2 : decode cX5_isTight 2 = .ok (.getfield 65, 3) := by decide +kernel
theorem dX5_isTight_5 : decode cX5_isTight 5 = .ok (.iconst 0, 1) := by decide +kernel
theorem dX5_isTight_6 : decode cX5_isTight 6 = .ok (.invokevirtual 181, 3) := by decide +kernel
theorem dX5_isTight_9 : decode cX5_isTight 9 = .ok (.aload_n 0, 1) := by decide +kernel
theorem dX5_isTight_10 : decode cX5_isTight 10 = .ok (.iload_n 1, 1) := by decide +kernel
theorem dX5_isTight_11 : decode cX5_isTight 11 = .ok (.iconst 0, 1) := by decide +kernel
theorem dX5_isTight_12 : decode cX5_isTight 12 = .ok (.invokevirtual 195, 3) := by decide +kernel
theorem dX5_isTight_15 : decode cX5_isTight 15 = .ok (.aload_n 0, 1) := by decide +kernel
theorem dX5_isTight_16 : decode cX5_isTight 16 = .ok (.invokevirtual 241, 3) := by decide +kernel
theorem dX5_isTight_19 : decode cX5_isTight 19 = .ok (.iload_n 2, 1) := by decide +kernel
theorem dX5_isTight_20 : decode cX5_isTight 20 = .ok (.if_icmp .le 7, 3) := by decide +kernel
theorem dX5_isTight_23 : decode cX5_isTight 23 = .ok (.iconst 1, 1) := by decide +kernel
theorem dX5_isTight_24 : decode cX5_isTight 24 = .ok (.goto 4, 3) := by decide +kernel
theorem dX5_isTight_27 : decode cX5_isTight 27 = .ok (.iconst 0, 1) := by decide +kernel
theorem dX5_isTight_28 : decode cX5_isTight 28 = .ok (.istore_n 3, 1) := by decide +kernel
theorem dX5_isTight_29 : decode cX5_isTight 29 = .ok (.aload_n 0, 1) := by decide +kernel
theorem dX5_isTight_30 : decode cX5_isTight 30 = .ok (.aload_n 0, 1) := by decide +kernel
theorem dX5_isTight_31 : decode cX5_isTight 31 = .ok (.getfield 65, 3) := by decide +kernel
theorem dX5_isTight_34 : decode cX5_isTight 34 = .ok (.iconst 0, 1) := by decide +kernel
theorem dX5_isTight_35 : decode cX5_isTight 35 = .ok (.invokevirtual 211, 3) := by decide +kernel
theorem dX5_isTight_38 : decode cX5_isTight 38 = .ok (.iload_n 3, 1) := by decide +kernel
theorem dX5_isTight_39 : decode cX5_isTight 39 = .ok (.ireturn, 1) := by decide +kernel
theorem dX5_tight_0 : decode cX5_tight 0 = .ok (.iload_n 1, 1) := by decide +kernel
theorem dX5_tight_1 : decode cX5_tight 1 = .ok (.iconst (-1), 1) := by decide +kernel
theorem dX5_tight_2 : decode cX5_tight 2 = .ok (.if_icmp .ge 5, 3) := by decide +kernel
theorem dX5_tight_5 : decode cX5_tight 5 = .ok (.iconst (-1), 1) := by decide +kernel
theorem dX5_tight_6 : decode cX5_tight 6 = .ok (.ireturn, 1) := by decide +kernel
theorem dX5_tight_7 : decode cX5_tight 7 = .ok (.aload_n 0, 1) := by decide +kernel
theorem dX5_tight_8 : decode cX5_tight 8 = .ok (.invokevirtual 241, 3) := by decide +kernel
theorem dX5_tight_11 : decode cX5_tight 11 = .ok (.istore_n 2, 1) := by decide +kernel
theorem dX5_tight_12 : decode cX5_tight 12 = .ok (.iconst 0, 1) := by decide +kernel
theorem dX5_tight_13 : decode cX5_tight 13 = .ok (.istore_n 3, 1) := by decide +kernel
theorem dX5_tight_14 : decode cX5_tight 14 = .ok (.bipush (-4), 2) := by decide +kernel
theorem dX5_tight_16 : decode cX5_tight 16 = .ok (.istore 4, 2) := by decide +kernel
theorem dX5_tight_18 : decode cX5_tight 18 = .ok (.iconst 0, 1) := by decide +kernel
theorem dX5_tight_19 : decode cX5_tight 19 = .ok (.istore 5, 2) := by decide +kernel
theorem dX5_tight_21 : decode cX5_tight 21 = .ok (.iload 5, 2) := by decide +kernel
theorem dX5_tight_23 : decode cX5_tight 23 = .ok (.aload_n 0, 1) := by decide +kernel
theorem dX5_tight_24 : decode cX5_tight 24 = .ok (.getfield 89, 3) := by decide +kernel
theorem dX5_tight_27 : decode cX5_tight 27 = .ok (.if_icmp .gt 45, 3) := by decide +kernel
theorem dX5_tight_30 : decode cX5_tight 30 = .ok (.aload_n 0, 1) := by decide +kernel
theorem dX5_tight_31 : decode cX5_tight 31 = .ok (.getfield 89, 3) := by decide +kernel
theorem dX5_tight_34 : decode cX5_tight 34 = .ok (.bipush 40, 2) := by decide +kernel
theorem dX5_tight_36 : decode cX5_tight 36 = .ok (.if_icmp .ge 36, 3) := by decide +kernel
theorem dX5_tight_39 : decode cX5_tight 39 = .ok (.aload_n 0, 1) := by decide +kernel
theorem dX5_tight_40 : decode cX5_tight 40 = .ok (.iload 5, 2) := by decide +kernel
theorem dX5_tight_42 : decode cX5_tight 42 = .ok (.iload_n 2, 1) := by decide +kernel
theorem dX5_tight_43 : decode cX5_tight 43 = .ok (.invokevirtual 246, 3) := by decide +kernel
theorem dX5_tight_46 : decode cX5_tight 46 = .ok (.ifCond .eq 20, 3) := by decide +kernel
theorem dX5_tight_49 : decode cX5_tight 49 = .ok (.iload_n 3, 1) := by decide +kernel
theorem dX5_tight_50 : decode cX5_tight 50 = .ok (.iload_n 1, 1) := by decide +kernel
theorem dX5_tight_51 : decode cX5_tight 51 = .ok (.if_icmp .ne 8, 3) := by decide +kernel
theorem dX5_tight_54 : decode cX5_tight 54 = .ok (.iload 5, 2) := by decide +kernel
theorem dX5_tight_56 : decode cX5_tight 56 = .ok (.goto 5, 3) := by decide +kernel
theorem dX5_tight_59 : decode cX5_tight 59 = .ok (.iload 4, 2) := by decide +kernel
theorem dX5_tight_61 : decode cX5_tight 61 = .ok (.istore 4, 2) := by decide +kernel
theorem dX5_tight_63 : decode cX5_tight 63 = .ok (.iinc 3 1, 3) := by decide +kernel
theorem dX5_tight_66 : decode cX5_tight 66 = .ok (.iinc 5 1, 3) := by decide +kernel
theorem dX5_tight_69 : decode cX5_tight 69 = .ok (.goto (-48), 3) := by decide +kernel
theorem dX5_tight_72 : decode cX5_tight 72 = .ok (.iload_n 1, 1) := by decide +kernel
theorem dX5_tight_73 : decode cX5_tight 73 = .ok (.iconst (-1), 1) := by decide +kernel
theorem dX5_tight_74 : decode cX5_tight 74 = .ok (.if_icmp .ne 7, 3) := by decide +kernel
theorem dX5_tight_77 : decode cX5_tight 77 = .ok (.iload_n 3, 1) := by decide +kernel
theorem dX5_tight_78 : decode cX5_tight 78 = .ok (.goto 5, 3) := by decide +kernel
theorem dX5_tight_81 : decode cX5_tight 81 = .ok (.iload 4, 2) := by decide +kernel
theorem dX5_tight_83 : decode cX5_tight 83 = .ok (.ireturn, 1) := by decide +kernel
theorem dX5_turns_0 : decode cX5_turns 0 = .ok (.iload_n 1, 1) := by decide +kernel
theorem dX5_turns_1 : decode cX5_turns 1 = .ok (.iconst 4, 1) := by decide +kernel
theorem dX5_turns_2 : decode cX5_turns 2 = .ok (.irem, 1) := by decide +kernel
theorem dX5_turns_3 : decode cX5_turns 3 = .ok (.istore_n 2, 1) := by decide +kernel
theorem dX5_turns_4 : decode cX5_turns 4 = .ok (.iload_n 2, 1) := by decide +kernel
theorem dX5_turns_5 : decode cX5_turns 5 = .ok (.iconst 2, 1) := by decide +kernel
theorem dX5_turns_6 : decode cX5_turns 6 = .ok (.if_icmp .ge 38, 3) := by decide +kernel
theorem dX5_turns_9 : decode cX5_turns 9 = .ok (.aload_n 0, 1) := by decide +kernel
theorem dX5_turns_10 : decode cX5_turns 10 = .ok (.getfield 89, 3) := by decide +kernel
theorem dX5_turns_13 : decode cX5_turns 13 = .ok (.bipush 40, 2) := by decide +kernel
theorem dX5_turns_15 : decode cX5_turns 15 = .ok (.if_icmp .ge 89, 3) := by decide +kernel
theorem dX5_turns_18 : decode cX5_turns 18 = .ok (.aload_n 0, 1) := by decide +kernel
theorem dX5_turns_19 : decode cX5_turns 19 = .ok (.iload_n 1, 1) := by decide +kernel
theorem dX5_turns_20 : decode cX5_turns 20 = .ok (.sipush 256, 3) := by decide +kernel
theorem dX5_turns_23 : decode cX5_turns 23 = .ok (.idiv, 1) := by decide +kernel
theorem dX5_turns_24 : decode cX5_turns 24 = .ok (.aload_n 0, 1) := by decide +kernel
theorem dX5_turns_25 : decode cX5_turns 25 = .ok (.getfield 89, 3) := by decide +kernel
theorem dX5_turns_28 : decode cX5_turns 28 = .ok (.iconst 1, 1) := by decide +kernel
theorem dX5_turns_29 : decode cX5_turns 29 = .ok (.iadd, 1) := by decide +kernel
theorem dX5_turns_30 : decode cX5_turns 30 = .ok (.irem, 1) := by decide +kernel
theorem dX5_turns_31 : decode cX5_turns 31 = .ok (.iload_n 1, 1) := by decide +kernel
theorem dX5_turns_32 : decode cX5_turns 32 = .ok (.bipush 8, 2) := by decide +kernel
theorem dX5_turns_34 : decode cX5_turns 34 = .ok (.idiv, 1) := by decide +kernel
theorem dX5_turns_35 : decode cX5_turns 35 = .ok (.bipush 28, 2) := by decide +kernel
theorem dX5_turns_37 : decode cX5_turns 37 = .ok (.irem, 1) := by decide +kernel
theorem dX5_turns_38 : decode cX5_turns 38 = .ok (.invokevirtual 195, 3) := by decide +kernel
theorem dX5_turns_41 : decode cX5_turns 41 = .ok (.goto 63, 3) := by decide +kernel
theorem dX5_turns_44 : decode cX5_turns 44 = .ok (.iload_n 2, 1) := by decide +kernel
theorem dX5_turns_45 : decode cX5_turns 45 = .ok (.iconst 2, 1) := by decide +kernel
theorem dX5_turns_46 : decode cX5_turns 46 = .ok (.if_icmp .ne 27, 3) := by decide +kernel
theorem dX5_turns_49 : decode cX5_turns 49 = .ok (.aload_n 0, 1) := by decide +kernel
theorem dX5_turns_50 : decode cX5_turns 50 = .ok (.getfield 89, 3) := by decide +kernel
theorem dX5_turns_53 : decode cX5_turns 53 = .ok (.ifCond .le 51, 3) := by decide +kernel
theorem dX5_turns_56 : decode cX5_turns 56 = .ok (.aload_n 0, 1) := by decide +kernel
theorem dX5_turns_57 : decode cX5_turns 57 = .ok (.iload_n 1, 1) := by decide +kernel
theorem dX5_turns_58 : decode cX5_turns 58 = .ok (.sipush 256, 3) := by decide +kernel
theorem dX5_turns_61 : decode cX5_turns 61 = .ok (.idiv, 1) := by decide +kernel
theorem dX5_turns_62 : decode cX5_turns 62 = .ok (.aload_n 0, 1) := by decide +kernel
theorem dX5_turns_63 : decode cX5_turns 63 = .ok (.getfield 89, 3) := by decide +kernel
theorem dX5_turns_66 : decode cX5_turns 66 = .ok (.irem, 1) := by decide +kernel
theorem dX5_turns_67 : decode cX5_turns 67 = .ok (.invokevirtual 202, 3) := by decide +kernel
theorem dX5_turns_70 : decode cX5_turns 70 = .ok (.goto 34, 3) := by decide +kernel
theorem dX5_turns_73 : decode cX5_turns 73 = .ok (.aload_n 0, 1) := by decide +kernel
theorem dX5_turns_74 : decode cX5_turns 74 = .ok (.getfield 107, 3) := by decide +kernel
theorem dX5_turns_77 : decode cX5_turns 77 = .ok (.ifCond .le 27, 3) := by decide +kernel
theorem dX5_turns_80 : decode cX5_turns 80 = .ok (.iload_n 1, 1) := by decide +kernel
theorem dX5_turns_81 : decode cX5_turns 81 = .ok (.bipush 8, 2) := by decide +kernel
theorem dX5_turns_83 : decode cX5_turns 83 = .ok (.idiv, 1) := by decide +kernel
theorem dX5_turns_84 : decode cX5_turns 84 = .ok (.aload_n 0, 1) := by decide +kernel
theorem dX5_turns_85 : decode cX5_turns 85 = .ok (.getfield 107, 3) := by decide +kernel
theorem dX5_turns_88 : decode cX5_turns 88 = .ok (.irem, 1) := by decide +kernel
theorem dX5_turns_89 : decode cX5_turns 89 = .ok (.istore_n 3, 1) := by decide +kernel
theorem dX5_turns_90 : decode cX5_turns 90 = .ok (.aload_n 0, 1) := by decide +kernel
theorem dX5_turns_91 : decode cX5_turns 91 = .ok (.getfield 19, 3) := by decide +kernel
theorem dX5_turns_94 : decode cX5_turns 94 = .ok (.iload_n 3, 1) := by decide +kernel
theorem dX5_turns_95 : decode cX5_turns 95 = .ok (.iconst 1, 1) := by decide +kernel
theorem dX5_turns_96 : decode cX5_turns 96 = .ok (.aload_n 0, 1) := by decide +kernel
theorem dX5_turns_97 : decode cX5_turns 97 = .ok (.getfield 19, 3) := by decide +kernel
theorem dX5_turns_100 : decode cX5_turns 100 = .ok (.iload_n 3, 1) := by decide +kernel
theorem dX5_turns_101 : decode cX5_turns 101 = .ok (.iaload, 1) := by decide +kernel
theorem dX5_turns_102 : decode cX5_turns 102 = .ok (.isub, 1) := by decide +kernel
theorem dX5_turns_103 : decode cX5_turns 103 = .ok (.iastore, 1) := by decide +kernel
theorem dX5_turns_104 : decode cX5_turns 104 = .ok (.return_, 1) := by decide +kernel
theorem dX5_day_0 : decode cX5_day 0 = .ok (.iload_n 1, 1) := by decide +kernel
theorem dX5_day_1 : decode cX5_day 1 = .ok (.iconst 0, 1) := by decide +kernel
theorem dX5_day_2 : decode cX5_day 2 = .ok (.sipush 9999, 3) := by decide +kernel
theorem dX5_day_5 : decode cX5_day 5 = .ok (.invokestatic 103, 3) := by decide +kernel
theorem dX5_day_8 : decode cX5_day 8 = .ok (.ifCond .eq 22, 3) := by decide +kernel
theorem dX5_day_11 : decode cX5_day 11 = .ok (.iload_n 2, 1) := by decide +kernel
theorem dX5_day_12 : decode cX5_day 12 = .ok (.iconst 1, 1) := by decide +kernel
theorem dX5_day_13 : decode cX5_day 13 = .ok (.bipush 40, 2) := by decide +kernel
theorem dX5_day_15 : decode cX5_day 15 = .ok (.invokestatic 103, 3) := by decide +kernel
theorem dX5_day_18 : decode cX5_day 18 = .ok (.ifCond .eq 12, 3) := by decide +kernel
theorem dX5_day_21 : decode cX5_day 21 = .ok (.iload_n 3, 1) := by decide +kernel
theorem dX5_day_22 : decode cX5_day 22 = .ok (.iconst 0, 1) := by decide +kernel
theorem dX5_day_23 : decode cX5_day 23 = .ok (.iconst 2, 1) := by decide +kernel
theorem dX5_day_24 : decode cX5_day 24 = .ok (.invokestatic 103, 3) := by decide +kernel
theorem dX5_day_27 : decode cX5_day 27 = .ok (.ifCond .ne 5, 3) := by decide +kernel
theorem dX5_day_30 : decode cX5_day 30 = .ok (.iconst (-1), 1) := by decide +kernel
theorem dX5_day_31 : decode cX5_day 31 = .ok (.ireturn, 1) := by decide +kernel
theorem dX5_day_32 : decode cX5_day 32 = .ok (.aload_n 0, 1) := by decide +kernel
theorem dX5_day_33 : decode cX5_day 33 = .ok (.aload_n 0, 1) := by decide +kernel
theorem dX5_day_34 : decode cX5_day 34 = .ok (.getfield 80, 3) := by decide +kernel
theorem dX5_day_37 : decode cX5_day 37 = .ok (.iconst 0, 1) := by decide +kernel
theorem dX5_day_38 : decode cX5_day 38 = .ok (.invokevirtual 181, 3) := by decide +kernel
theorem dX5_day_41 : decode cX5_day 41 = .ok (.iconst 0, 1) := by decide +kernel
theorem dX5_day_42 : decode cX5_day 42 = .ok (.istore 4, 2) := by decide +kernel
theorem dX5_day_44 : decode cX5_day 44 = .ok (.iload 4, 2) := by decide +kernel
theorem dX5_day_46 : decode cX5_day 46 = .ok (.iload_n 2, 1) := by decide +kernel
theorem dX5_day_47 : decode cX5_day 47 = .ok (.if_icmp .ge 41, 3) := by decide +kernel
theorem dX5_day_50 : decode cX5_day 50 = .ok (.ldc2_w 249, 3) := by decide +kernel
theorem dX5_day_53 : decode cX5_day 53 = .ok (.iload_n 1, 1) := by decide +kernel
theorem dX5_day_54 : decode cX5_day 54 = .ok (.i2l, 1) := by decide +kernel
theorem dX5_day_55 : decode cX5_day 55 = .ok (.lmul, 1) := by decide +kernel
theorem dX5_day_56 : decode cX5_day 56 = .ok (.ldc2_w 251, 3) := by decide +kernel
theorem dX5_day_59 : decode cX5_day 59 = .ok (.iload 4, 2) := by decide +kernel
theorem dX5_day_61 : decode cX5_day 61 = .ok (.i2l, 1) := by decide +kernel
theorem dX5_day_62 : decode cX5_day 62 = .ok (.lmul, 1) := by decide +kernel
theorem dX5_day_63 : decode cX5_day 63 = .ok (.ladd, 1) := by decide +kernel
theorem dX5_day_64 : decode cX5_day 64 = .ok (.lconst 1, 1) := by decide +kernel
theorem dX5_day_65 : decode cX5_day 65 = .ok (.ladd, 1) := by decide +kernel
theorem dX5_day_66 : decode cX5_day 66 = .ok (.lstore 5, 2) := by decide +kernel
theorem dX5_day_68 : decode cX5_day 68 = .ok (.aload_n 0, 1) := by decide +kernel
theorem dX5_day_69 : decode cX5_day 69 = .ok (.lload 5, 2) := by decide +kernel
theorem dX5_day_71 : decode cX5_day 71 = .ok (.lload 5, 2) := by decide +kernel
theorem dX5_day_73 : decode cX5_day 73 = .ok (.lmul, 1) := by decide +kernel
theorem dX5_day_74 : decode cX5_day 74 = .ok (.ldc2_w 253, 3) := by decide +kernel
theorem dX5_day_77 : decode cX5_day 77 = .ok (.lrem, 1) := by decide +kernel
theorem dX5_day_78 : decode cX5_day 78 = .ok (.l2i, 1) := by decide +kernel
theorem dX5_day_79 : decode cX5_day 79 = .ok (.invokevirtual 255, 3) := by decide +kernel
theorem dX5_day_82 : decode cX5_day 82 = .ok (.iinc 4 1, 3) := by decide +kernel
theorem dX5_day_85 : decode cX5_day 85 = .ok (.goto (-41), 3) := by decide +kernel
theorem dX5_day_88 : decode cX5_day 88 = .ok (.iload_n 3, 1) := by decide +kernel
theorem dX5_day_89 : decode cX5_day 89 = .ok (.ifCond .ne 10, 3) := by decide +kernel
theorem dX5_day_92 : decode cX5_day 92 = .ok (.aload_n 0, 1) := by decide +kernel
theorem dX5_day_93 : decode cX5_day 93 = .ok (.getfield 89, 3) := by decide +kernel
theorem dX5_day_96 : decode cX5_day 96 = .ok (.goto 19, 3) := by decide +kernel
theorem dX5_day_99 : decode cX5_day 99 = .ok (.iload_n 3, 1) := by decide +kernel
theorem dX5_day_100 : decode cX5_day 100 = .ok (.iconst 1, 1) := by decide +kernel
theorem dX5_day_101 : decode cX5_day 101 = .ok (.if_icmp .ne 10, 3) := by decide +kernel
theorem dX5_day_104 : decode cX5_day 104 = .ok (.aload_n 0, 1) := by decide +kernel
theorem dX5_day_105 : decode cX5_day 105 = .ok (.invokevirtual 241, 3) := by decide +kernel
theorem dX5_day_108 : decode cX5_day 108 = .ok (.goto 7, 3) := by decide +kernel
theorem dX5_day_111 : decode cX5_day 111 = .ok (.aload_n 0, 1) := by decide +kernel
theorem dX5_day_112 : decode cX5_day 112 = .ok (.invokevirtual 258, 3) := by decide +kernel
theorem dX5_day_115 : decode cX5_day 115 = .ok (.istore 4, 2) := by decide +kernel
theorem dX5_day_117 : decode cX5_day 117 = .ok (.aload_n 0, 1) := by decide +kernel
theorem dX5_day_118 : decode cX5_day 118 = .ok (.aload_n 0, 1) := by decide +kernel
theorem dX5_day_119 : decode cX5_day 119 = .ok (.getfield 80, 3) := by decide +kernel
theorem dX5_day_122 : decode cX5_day 122 = .ok (.iconst 0, 1) := by decide +kernel
theorem dX5_day_123 : decode cX5_day 123 = .ok (.invokevirtual 211, 3) := by decide +kernel
theorem dX5_day_126 : decode cX5_day 126 = .ok (.iload 4, 2) := by decide +kernel
theorem dX5_day_128 : decode cX5_day 128 = .ok (.ireturn, 1) := by decide +kernel
theorem dX5_count_0 : decode cX5_count 0 = .ok (.iload_n 1, 1) := by decide +kernel
theorem dX5_count_1 : decode cX5_count 1 = .ok (.iconst 0, 1) := by decide +kernel
theorem dX5_count_2 : decode cX5_count 2 = .ok (.bipush 11, 2) := by decide +kernel
theorem dX5_count_4 : decode cX5_count 4 = .ok (.invokestatic 103, 3) := by decide +kernel
theorem dX5_count_7 : decode cX5_count 7 = .ok (.ifCond .ne 5, 3) := by decide +kernel
theorem dX5_count_10 : decode cX5_count 10 = .ok (.iconst (-1), 1) := by decide +kernel
theorem dX5_count_11 : decode cX5_count 11 = .ok (.ireturn, 1) := by decide +kernel
theorem dX5_count_12 : decode cX5_count 12 = .ok (.iload_n 1, 1) := by decide +kernel
theorem dX5_count_13 : decode cX5_count 13 = .ok (.tableswitch 114 0 10 #[59, 64, 69, 74, 79, 84, 89, 94, 99, 104, 109], 59) := by decide +kernel
theorem dX5_count_72 : decode cX5_count 72 = .ok (.aload_n 0, 1) := by decide +kernel
theorem dX5_count_73 : decode cX5_count 73 = .ok (.getfield 89, 3) := by decide +kernel
theorem dX5_count_76 : decode cX5_count 76 = .ok (.ireturn, 1) := by decide +kernel
theorem dX5_count_77 : decode cX5_count 77 = .ok (.aload_n 0, 1) := by decide +kernel
theorem dX5_count_78 : decode cX5_count 78 = .ok (.getfield 107, 3) := by decide +kernel
theorem dX5_count_81 : decode cX5_count 81 = .ok (.ireturn, 1) := by decide +kernel
theorem dX5_count_82 : decode cX5_count 82 = .ok (.aload_n 0, 1) := by decide +kernel
theorem dX5_count_83 : decode cX5_count 83 = .ok (.getfield 110, 3) := by decide +kernel
theorem dX5_count_86 : decode cX5_count 86 = .ok (.ireturn, 1) := by decide +kernel
theorem dX5_count_87 : decode cX5_count 87 = .ok (.aload_n 0, 1) := by decide +kernel
theorem dX5_count_88 : decode cX5_count 88 = .ok (.invokevirtual 241, 3) := by decide +kernel
theorem dX5_count_91 : decode cX5_count 91 = .ok (.ireturn, 1) := by decide +kernel
theorem dX5_count_92 : decode cX5_count 92 = .ok (.aload_n 0, 1) := by decide +kernel
theorem dX5_count_93 : decode cX5_count 93 = .ok (.invokevirtual 258, 3) := by decide +kernel
theorem dX5_count_96 : decode cX5_count 96 = .ok (.ireturn, 1) := by decide +kernel
theorem dX5_count_97 : decode cX5_count 97 = .ok (.aload_n 0, 1) := by decide +kernel
theorem dX5_count_98 : decode cX5_count 98 = .ok (.getfield 28, 3) := by decide +kernel
theorem dX5_count_101 : decode cX5_count 101 = .ok (.ireturn, 1) := by decide +kernel
theorem dX5_count_102 : decode cX5_count 102 = .ok (.aload_n 0, 1) := by decide +kernel
theorem dX5_count_103 : decode cX5_count 103 = .ok (.getfield 32, 3) := by decide +kernel
theorem dX5_count_106 : decode cX5_count 106 = .ok (.ireturn, 1) := by decide +kernel
theorem dX5_count_107 : decode cX5_count 107 = .ok (.aload_n 0, 1) := by decide +kernel
theorem dX5_count_108 : decode cX5_count 108 = .ok (.getfield 100, 3) := by decide +kernel
theorem dX5_count_111 : decode cX5_count 111 = .ok (.ireturn, 1) := by decide +kernel
theorem dX5_count_112 : decode cX5_count 112 = .ok (.aload_n 0, 1) := by decide +kernel
theorem dX5_count_113 : decode cX5_count 113 = .ok (.getfield 35, 3) := by decide +kernel
theorem dX5_count_116 : decode cX5_count 116 = .ok (.ireturn, 1) := by decide +kernel
theorem dX5_count_117 : decode cX5_count 117 = .ok (.aload_n 0, 1) := by decide +kernel
theorem dX5_count_118 : decode cX5_count 118 = .ok (.getfield 178, 3) := by decide +kernel
theorem dX5_count_121 : decode cX5_count 121 = .ok (.ireturn, 1) := by decide +kernel
theorem dX5_count_122 : decode cX5_count 122 = .ok (.aload_n 0, 1) := by decide +kernel
theorem dX5_count_123 : decode cX5_count 123 = .ok (.getfield 214, 3) := by decide +kernel
theorem dX5_count_126 : decode cX5_count 126 = .ok (.ireturn, 1) := by decide +kernel
theorem dX5_count_127 : decode cX5_count 127 = .ok (.aload_n 0, 1) := by decide +kernel
theorem dX5_count_128 : decode cX5_count 128 = .ok (.getfield 261, 3) := by decide +kernel
theorem dX5_count_131 : decode cX5_count 131 = .ok (.ireturn, 1) := by decide +kernel
theorem dX5_write_0 : decode cX5_write 0 = .ok (.iload_n 1, 1) := by decide +kernel
theorem dX5_write_1 : decode cX5_write 1 = .ok (.bipush 32, 2) := by decide +kernel
theorem dX5_write_3 : decode cX5_write 3 = .ok (.bipush 126, 2) := by decide +kernel
theorem dX5_write_5 : decode cX5_write 5 = .ok (.invokestatic 103, 3) := by decide +kernel
theorem dX5_write_8 : decode cX5_write 8 = .ok (.ifCond .ne 5, 3) := by decide +kernel
theorem dX5_write_11 : decode cX5_write 11 = .ok (.iconst (-1), 1) := by decide +kernel
theorem dX5_write_12 : decode cX5_write 12 = .ok (.ireturn, 1) := by decide +kernel
theorem dX5_write_13 : decode cX5_write 13 = .ok (.aload_n 0, 1) := by decide +kernel
theorem dX5_write_14 : decode cX5_write 14 = .ok (.getfield 261, 3) := by decide +kernel
theorem dX5_write_17 : decode cX5_write 17 = .ok (.sipush 200, 3) := by decide +kernel
theorem dX5_write_20 : decode cX5_write 20 = .ok (.if_icmp .ne 6, 3) := by decide +kernel
theorem dX5_write_23 : decode cX5_write 23 = .ok (.bipush (-3), 2) := by decide +kernel
theorem dX5_write_25 : decode cX5_write 25 = .ok (.ireturn, 1) := by decide +kernel
theorem dX5_write_26 : decode cX5_write 26 = .ok (.aload_n 0, 1) := by decide +kernel
theorem dX5_write_27 : decode cX5_write 27 = .ok (.getfield 83, 3) := by decide +kernel
theorem dX5_write_30 : decode cX5_write 30 = .ok (.aload_n 0, 1) := by decide +kernel
theorem dX5_write_31 : decode cX5_write 31 = .ok (.getfield 261, 3) := by decide +kernel
theorem dX5_write_34 : decode cX5_write 34 = .ok (.iload_n 1, 1) := by decide +kernel
theorem dX5_write_35 : decode cX5_write 35 = .ok (.iastore, 1) := by decide +kernel
theorem dX5_write_36 : decode cX5_write 36 = .ok (.aload_n 0, 1) := by decide +kernel
theorem dX5_write_37 : decode cX5_write 37 = .ok (.dup, 1) := by decide +kernel
theorem dX5_write_38 : decode cX5_write 38 = .ok (.getfield 261, 3) := by decide +kernel
theorem dX5_write_41 : decode cX5_write 41 = .ok (.iconst 1, 1) := by decide +kernel
theorem dX5_write_42 : decode cX5_write 42 = .ok (.iadd, 1) := by decide +kernel
theorem dX5_write_43 : decode cX5_write 43 = .ok (.putfield 261, 3) := by decide +kernel
theorem dX5_write_46 : decode cX5_write 46 = .ok (.aload_n 0, 1) := by decide +kernel
theorem dX5_write_47 : decode cX5_write 47 = .ok (.getfield 261, 3) := by decide +kernel
theorem dX5_write_50 : decode cX5_write 50 = .ok (.ireturn, 1) := by decide +kernel
theorem dX5_wipe_0 : decode cX5_wipe 0 = .ok (.aload_n 0, 1) := by decide +kernel
theorem dX5_wipe_1 : decode cX5_wipe 1 = .ok (.getfield 261, 3) := by decide +kernel
theorem dX5_wipe_4 : decode cX5_wipe 4 = .ok (.istore_n 1, 1) := by decide +kernel
theorem dX5_wipe_5 : decode cX5_wipe 5 = .ok (.aload_n 0, 1) := by decide +kernel
theorem dX5_wipe_6 : decode cX5_wipe 6 = .ok (.iconst 0, 1) := by decide +kernel
theorem dX5_wipe_7 : decode cX5_wipe 7 = .ok (.putfield 261, 3) := by decide +kernel
theorem dX5_wipe_10 : decode cX5_wipe 10 = .ok (.iload_n 1, 1) := by decide +kernel
theorem dX5_wipe_11 : decode cX5_wipe 11 = .ok (.ireturn, 1) := by decide +kernel
theorem dX5_here_0 : decode cX5_here 0 = .ok (.aload_n 0, 1) := by decide +kernel
theorem dX5_here_1 : decode cX5_here 1 = .ok (.getfield 264, 3) := by decide +kernel
theorem dX5_here_4 : decode cX5_here 4 = .ok (.aload_n 0, 1) := by decide +kernel
theorem dX5_here_5 : decode cX5_here 5 = .ok (.getfield 261, 3) := by decide +kernel
theorem dX5_here_8 : decode cX5_here 8 = .ok (.if_icmp .ge 15, 3) := by decide +kernel
theorem dX5_here_11 : decode cX5_here 11 = .ok (.aload_n 0, 1) := by decide +kernel
theorem dX5_here_12 : decode cX5_here 12 = .ok (.getfield 83, 3) := by decide +kernel
theorem dX5_here_15 : decode cX5_here 15 = .ok (.aload_n 0, 1) := by decide +kernel
theorem dX5_here_16 : decode cX5_here 16 = .ok (.getfield 264, 3) := by decide +kernel
theorem dX5_here_19 : decode cX5_here 19 = .ok (.iaload, 1) := by decide +kernel
theorem dX5_here_20 : decode cX5_here 20 = .ok (.goto 4, 3) := by decide +kernel
theorem dX5_here_23 : decode cX5_here 23 = .ok (.iconst 0, 1) := by decide +kernel
theorem dX5_here_24 : decode cX5_here 24 = .ok (.ireturn, 1) := by decide +kernel
theorem dX5_isFigure_0 : decode cX5_isFigure 0 = .ok (.aload_n 0, 1) := by decide +kernel
theorem dX5_isFigure_1 : decode cX5_isFigure 1 = .ok (.invokevirtual 267, 3) := by decide +kernel
theorem dX5_isFigure_4 : decode cX5_isFigure 4 = .ok (.bipush 48, 2) := by decide +kernel
theorem dX5_isFigure_6 : decode cX5_isFigure 6 = .ok (.bipush 57, 2) := by decide +kernel
theorem dX5_isFigure_8 : decode cX5_isFigure 8 = .ok (.invokestatic 103, 3) := by decide +kernel
theorem dX5_isFigure_11 : decode cX5_isFigure 11 = .ok (.ireturn, 1) := by decide +kernel
theorem dX5_number_0 : decode cX5_number 0 = .ok (.aload_n 0, 1) := by decide +kernel
theorem dX5_number_1 : decode cX5_number 1 = .ok (.invokevirtual 270, 3) := by decide +kernel
theorem dX5_number_4 : decode cX5_number 4 = .ok (.ifCond .ne 5, 3) := by decide +kernel
theorem dX5_number_7 : decode cX5_number 7 = .ok (.iconst 0, 1) := by decide +kernel
theorem dX5_number_8 : decode cX5_number 8 = .ok (.ireturn, 1) := by decide +kernel
theorem dX5_number_9 : decode cX5_number 9 = .ok (.aload_n 0, 1) := by decide +kernel
theorem dX5_number_10 : decode cX5_number 10 = .ok (.invokevirtual 267, 3) := by decide +kernel
theorem dX5_number_13 : decode cX5_number 13 = .ok (.bipush 48, 2) := by decide +kernel
theorem dX5_number_15 : decode cX5_number 15 = .ok (.isub, 1) := by decide +kernel
theorem dX5_number_16 : decode cX5_number 16 = .ok (.istore 4, 2) := by decide +kernel
theorem dX5_number_18 : decode cX5_number 18 = .ok (.aload_n 0, 1) := by decide +kernel
theorem dX5_number_19 : decode cX5_number 19 = .ok (.dup, 1) := by decide +kernel
theorem dX5_number_20 : decode cX5_number 20 = .ok (.getfield 264, 3) := by decide +kernel
theorem dX5_number_23 : decode cX5_number 23 = .ok (.iconst 1, 1) := by decide +kernel
theorem dX5_number_24 : decode cX5_number 24 = .ok (.iadd, 1) := by decide +kernel
theorem dX5_number_25 : decode cX5_number 25 = .ok (.putfield 264, 3) := by decide +kernel
theorem dX5_number_28 : decode cX5_number 28 = .ok (.aload_n 0, 1) := by decide +kernel
theorem dX5_number_29 : decode cX5_number 29 = .ok (.invokevirtual 270, 3) := by decide +kernel
theorem dX5_number_32 : decode cX5_number 32 = .ok (.ifCond .eq 28, 3) := by decide +kernel
theorem dX5_number_35 : decode cX5_number 35 = .ok (.bipush 10, 2) := by decide +kernel
theorem dX5_number_37 : decode cX5_number 37 = .ok (.iload 4, 2) := by decide +kernel
theorem dX5_number_39 : decode cX5_number 39 = .ok (.imul, 1) := by decide +kernel
theorem dX5_number_40 : decode cX5_number 40 = .ok (.aload_n 0, 1) := by decide +kernel
theorem dX5_number_41 : decode cX5_number 41 = .ok (.invokevirtual 267, 3) := by decide +kernel
theorem dX5_number_44 : decode cX5_number 44 = .ok (.iadd, 1) := by decide +kernel
theorem dX5_number_45 : decode cX5_number 45 = .ok (.bipush 48, 2) := by decide +kernel
theorem dX5_number_47 : decode cX5_number 47 = .ok (.isub, 1) := by decide +kernel
theorem dX5_number_48 : decode cX5_number 48 = .ok (.istore 4, 2) := by decide +kernel
theorem dX5_number_50 : decode cX5_number 50 = .ok (.aload_n 0, 1) := by decide +kernel
theorem dX5_number_51 : decode cX5_number 51 = .ok (.dup, 1) := by decide +kernel
theorem dX5_number_52 : decode cX5_number 52 = .ok (.getfield 264, 3) := by decide +kernel
theorem dX5_number_55 : decode cX5_number 55 = .ok (.iconst 1, 1) := by decide +kernel
theorem dX5_number_56 : decode cX5_number 56 = .ok (.iadd, 1) := by decide +kernel
theorem dX5_number_57 : decode cX5_number 57 = .ok (.putfield 264, 3) := by decide +kernel
theorem dX5_number_60 : decode cX5_number 60 = .ok (.aload_n 0, 1) := by decide +kernel
theorem dX5_number_61 : decode cX5_number 61 = .ok (.iload 4, 2) := by decide +kernel
theorem dX5_number_63 : decode cX5_number 63 = .ok (.putfield 274, 3) := by decide +kernel
theorem dX5_number_66 : decode cX5_number 66 = .ok (.aload_n 0, 1) := by decide +kernel
theorem dX5_number_67 : decode cX5_number 67 = .ok (.invokevirtual 267, 3) := by decide +kernel
theorem dX5_number_70 : decode cX5_number 70 = .ok (.iload_n 3, 1) := by decide +kernel
theorem dX5_number_71 : decode cX5_number 71 = .ok (.if_icmp .ne 13, 3) := by decide +kernel
theorem dX5_number_74 : decode cX5_number 74 = .ok (.iload 4, 2) := by decide +kernel
theorem dX5_number_76 : decode cX5_number 76 = .ok (.iload_n 1, 1) := by decide +kernel
theorem dX5_number_77 : decode cX5_number 77 = .ok (.iload_n 2, 1) := by decide +kernel
theorem dX5_number_78 : decode cX5_number 78 = .ok (.invokestatic 103, 3) := by decide +kernel
theorem dX5_number_81 : decode cX5_number 81 = .ok (.ifCond .ne 5, 3) := by decide +kernel
theorem dX5_number_84 : decode cX5_number 84 = .ok (.iconst 0, 1) := by decide +kernel
theorem dX5_number_85 : decode cX5_number 85 = .ok (.ireturn, 1) := by decide +kernel
theorem dX5_number_86 : decode cX5_number 86 = .ok (.aload_n 0, 1) := by decide +kernel
theorem dX5_number_87 : decode cX5_number 87 = .ok (.dup, 1) := by decide +kernel
theorem dX5_number_88 : decode cX5_number 88 = .ok (.getfield 264, 3) := by decide +kernel
theorem dX5_number_91 : decode cX5_number 91 = .ok (.iconst 1, 1) := by decide +kernel
theorem dX5_number_92 : decode cX5_number 92 = .ok (.iadd, 1) := by decide +kernel
theorem dX5_number_93 : decode cX5_number 93 = .ok (.putfield 264, 3) := by decide +kernel
theorem dX5_number_96 : decode cX5_number 96 = .ok (.iconst 1, 1) := by decide +kernel
theorem dX5_number_97 : decode cX5_number 97 = .ok (.ireturn, 1) := by decide +kernel
theorem dX5_readsSigns_0 : decode cX5_readsSigns 0 = .ok (.aload_n 0, 1) := by decide +kernel
theorem dX5_readsSigns_1 : decode cX5_readsSigns 1 = .ok (.invokevirtual 267, 3) := by decide +kernel
theorem dX5_readsSigns_4 : decode cX5_readsSigns 4 = .ok (.bipush 59, 2) := by decide +kernel
theorem dX5_readsSigns_6 : decode cX5_readsSigns 6 = .ok (.if_icmp .eq 110, 3) := by decide +kernel
theorem dX5_readsSigns_9 : decode cX5_readsSigns 9 = .ok (.aload_n 0, 1) := by decide +kernel
theorem dX5_readsSigns_10 : decode cX5_readsSigns 10 = .ok (.invokevirtual 267, 3) := by decide +kernel
theorem dX5_readsSigns_13 : decode cX5_readsSigns 13 = .ok (.istore_n 1, 1) := by decide +kernel
theorem dX5_readsSigns_14 : decode cX5_readsSigns 14 = .ok (.iload_n 1, 1) := by decide +kernel
theorem dX5_readsSigns_15 : decode cX5_readsSigns 15 = .ok (.bipush 97, 2) := by decide +kernel
theorem dX5_readsSigns_17 : decode cX5_readsSigns 17 = .ok (.bipush 122, 2) := by decide +kernel
theorem dX5_readsSigns_19 : decode cX5_readsSigns 19 = .ok (.invokestatic 103, 3) := by decide +kernel
theorem dX5_readsSigns_22 : decode cX5_readsSigns 22 = .ok (.ifCond .ne 15, 3) := by decide +kernel
theorem dX5_readsSigns_25 : decode cX5_readsSigns 25 = .ok (.iload_n 1, 1) := by decide +kernel
theorem dX5_readsSigns_26 : decode cX5_readsSigns 26 = .ok (.bipush 62, 2) := by decide +kernel
theorem dX5_readsSigns_28 : decode cX5_readsSigns 28 = .ok (.if_icmp .eq 9, 3) := by decide +kernel
theorem dX5_readsSigns_31 : decode cX5_readsSigns 31 = .ok (.iload_n 1, 1) := by decide +kernel
theorem dX5_readsSigns_32 : decode cX5_readsSigns 32 = .ok (.bipush 47, 2) := by decide +kernel
theorem dX5_readsSigns_34 : decode cX5_readsSigns 34 = .ok (.if_icmp .ne 7, 3) := by decide +kernel
theorem dX5_readsSigns_37 : decode cX5_readsSigns 37 = .ok (.iconst 1, 1) := by decide +kernel
theorem dX5_readsSigns_38 : decode cX5_readsSigns 38 = .ok (.goto 4, 3) := by decide +kernel
theorem dX5_readsSigns_41 : decode cX5_readsSigns 41 = .ok (.iconst 0, 1) := by decide +kernel
theorem dX5_readsSigns_42 : decode cX5_readsSigns 42 = .ok (.istore_n 2, 1) := by decide +kernel
theorem dX5_readsSigns_43 : decode cX5_readsSigns 43 = .ok (.iload_n 2, 1) := by decide +kernel
theorem dX5_readsSigns_44 : decode cX5_readsSigns 44 = .ok (.ifCond .eq 12, 3) := by decide +kernel
theorem dX5_readsSigns_47 : decode cX5_readsSigns 47 = .ok (.aload_n 0, 1) := by decide +kernel
theorem dX5_readsSigns_48 : decode cX5_readsSigns 48 = .ok (.getfield 89, 3) := by decide +kernel
theorem dX5_readsSigns_51 : decode cX5_readsSigns 51 = .ok (.bipush 40, 2) := by decide +kernel
theorem dX5_readsSigns_53 : decode cX5_readsSigns 53 = .ok (.if_icmp .ne 5, 3) := by decide +kernel
theorem dX5_readsSigns_56 : decode cX5_readsSigns 56 = .ok (.iconst 0, 1) := by decide +kernel
theorem dX5_readsSigns_57 : decode cX5_readsSigns 57 = .ok (.ireturn, 1) := by decide +kernel
theorem dX5_readsSigns_58 : decode cX5_readsSigns 58 = .ok (.aload_n 0, 1) := by decide +kernel
theorem dX5_readsSigns_59 : decode cX5_readsSigns 59 = .ok (.getfield 7, 3) := by decide +kernel
theorem dX5_readsSigns_62 : decode cX5_readsSigns 62 = .ok (.aload_n 0, 1) := by decide +kernel
theorem dX5_readsSigns_63 : decode cX5_readsSigns 63 = .ok (.getfield 89, 3) := by decide +kernel
theorem dX5_readsSigns_66 : decode cX5_readsSigns 66 = .ok (.iload_n 1, 1) := by decide +kernel
theorem dX5_readsSigns_67 : decode cX5_readsSigns 67 = .ok (.bipush 62, 2) := by decide +kernel
theorem dX5_readsSigns_69 : decode cX5_readsSigns 69 = .ok (.if_icmp .ne 8, 3) := by decide +kernel
theorem dX5_readsSigns_72 : decode cX5_readsSigns 72 = .ok (.bipush 26, 2) := by decide +kernel
theorem dX5_readsSigns_74 : decode cX5_readsSigns 74 = .ok (.goto 18, 3) := by decide +kernel
theorem dX5_readsSigns_77 : decode cX5_readsSigns 77 = .ok (.iload_n 1, 1) := by decide +kernel
theorem dX5_readsSigns_78 : decode cX5_readsSigns 78 = .ok (.bipush 47, 2) := by decide +kernel
theorem dX5_readsSigns_80 : decode cX5_readsSigns 80 = .ok (.if_icmp .ne 8, 3) := by decide +kernel
theorem dX5_readsSigns_83 : decode cX5_readsSigns 83 = .ok (.bipush 27, 2) := by decide +kernel
theorem dX5_readsSigns_85 : decode cX5_readsSigns 85 = .ok (.goto 7, 3) := by decide +kernel
theorem dX5_readsSigns_88 : decode cX5_readsSigns 88 = .ok (.iload_n 1, 1) := by decide +kernel
theorem dX5_readsSigns_89 : decode cX5_readsSigns 89 = .ok (.bipush 97, 2) := by decide +kernel
theorem dX5_readsSigns_91 : decode cX5_readsSigns 91 = .ok (.isub, 1) := by decide +kernel
theorem dX5_readsSigns_92 : decode cX5_readsSigns 92 = .ok (.iastore, 1) := by decide +kernel
theorem dX5_readsSigns_93 : decode cX5_readsSigns 93 = .ok (.aload_n 0, 1) := by decide +kernel
theorem dX5_readsSigns_94 : decode cX5_readsSigns 94 = .ok (.dup, 1) := by decide +kernel
theorem dX5_readsSigns_95 : decode cX5_readsSigns 95 = .ok (.getfield 89, 3) := by decide +kernel
theorem dX5_readsSigns_98 : decode cX5_readsSigns 98 = .ok (.iconst 1, 1) := by decide +kernel
theorem dX5_readsSigns_99 : decode cX5_readsSigns 99 = .ok (.iadd, 1) := by decide +kernel
theorem dX5_readsSigns_100 : decode cX5_readsSigns 100 = .ok (.putfield 89, 3) := by decide +kernel
theorem dX5_readsSigns_103 : decode cX5_readsSigns 103 = .ok (.aload_n 0, 1) := by decide +kernel
theorem dX5_readsSigns_104 : decode cX5_readsSigns 104 = .ok (.dup, 1) := by decide +kernel
theorem dX5_readsSigns_105 : decode cX5_readsSigns 105 = .ok (.getfield 264, 3) := by decide +kernel
theorem dX5_readsSigns_108 : decode cX5_readsSigns 108 = .ok (.iconst 1, 1) := by decide +kernel
theorem dX5_readsSigns_109 : decode cX5_readsSigns 109 = .ok (.iadd, 1) := by decide +kernel
theorem dX5_readsSigns_110 : decode cX5_readsSigns 110 = .ok (.putfield 264, 3) := by decide +kernel
theorem dX5_readsSigns_113 : decode cX5_readsSigns 113 = .ok (.goto (-113), 3) := by decide +kernel
theorem dX5_readsSigns_116 : decode cX5_readsSigns 116 = .ok (.aload_n 0, 1) := by decide +kernel
theorem dX5_readsSigns_117 : decode cX5_readsSigns 117 = .ok (.dup, 1) := by decide +kernel
theorem dX5_readsSigns_118 : decode cX5_readsSigns 118 = .ok (.getfield 264, 3) := by decide +kernel
theorem dX5_readsSigns_121 : decode cX5_readsSigns 121 = .ok (.iconst 1, 1) := by decide +kernel
theorem dX5_readsSigns_122 : decode cX5_readsSigns 122 = .ok (.iadd, 1) := by decide +kernel
theorem dX5_readsSigns_123 : decode cX5_readsSigns 123 = .ok (.putfield 264, 3) := by decide +kernel
theorem dX5_readsSigns_126 : decode cX5_readsSigns 126 = .ok (.iconst 1, 1) := by decide +kernel
theorem dX5_readsSigns_127 : decode cX5_readsSigns 127 = .ok (.ireturn, 1) := by decide +kernel
theorem dX5_readsFold_0 : decode cX5_readsFold 0 = .ok (.aload_n 0, 1) := by decide +kernel
theorem dX5_readsFold_1 : decode cX5_readsFold 1 = .ok (.getfield 107, 3) := by decide +kernel
theorem dX5_readsFold_4 : decode cX5_readsFold 4 = .ok (.iconst 4, 1) := by decide +kernel
theorem dX5_readsFold_5 : decode cX5_readsFold 5 = .ok (.if_icmp .eq 17, 3) := by decide +kernel
theorem dX5_readsFold_8 : decode cX5_readsFold 8 = .ok (.aload_n 0, 1) := by decide +kernel
theorem dX5_readsFold_9 : decode cX5_readsFold 9 = .ok (.iconst 0, 1) := by decide +kernel
theorem dX5_readsFold_10 : decode cX5_readsFold 10 = .ok (.aload_n 0, 1) := by decide +kernel
theorem dX5_readsFold_11 : decode cX5_readsFold 11 = .ok (.getfield 89, 3) := by decide +kernel
theorem dX5_readsFold_14 : decode cX5_readsFold 14 = .ok (.bipush 44, 2) := by decide +kernel
theorem dX5_readsFold_16 : decode cX5_readsFold 16 = .ok (.invokevirtual 277, 3) := by decide +kernel
theorem dX5_readsFold_19 : decode cX5_readsFold 19 = .ok (.ifCond .ne 5, 3) := by decide +kernel
theorem dX5_readsFold_22 : decode cX5_readsFold 22 = .ok (.iconst 0, 1) := by decide +kernel
theorem dX5_readsFold_23 : decode cX5_readsFold 23 = .ok (.ireturn, 1) := by decide +kernel
theorem dX5_readsFold_24 : decode cX5_readsFold 24 = .ok (.aload_n 0, 1) := by decide +kernel
theorem dX5_readsFold_25 : decode cX5_readsFold 25 = .ok (.getfield 274, 3) := by decide +kernel
theorem dX5_readsFold_28 : decode cX5_readsFold 28 = .ok (.istore_n 1, 1) := by decide +kernel
theorem dX5_readsFold_29 : decode cX5_readsFold 29 = .ok (.aload_n 0, 1) := by decide +kernel
theorem dX5_readsFold_30 : decode cX5_readsFold 30 = .ok (.iload_n 1, 1) := by decide +kernel
theorem dX5_readsFold_31 : decode cX5_readsFold 31 = .ok (.iconst 1, 1) := by decide +kernel
theorem dX5_readsFold_32 : decode cX5_readsFold 32 = .ok (.iadd, 1) := by decide +kernel
theorem dX5_readsFold_33 : decode cX5_readsFold 33 = .ok (.aload_n 0, 1) := by decide +kernel
theorem dX5_readsFold_34 : decode cX5_readsFold 34 = .ok (.getfield 89, 3) := by decide +kernel
theorem dX5_readsFold_37 : decode cX5_readsFold 37 = .ok (.bipush 59, 2) := by decide +kernel
theorem dX5_readsFold_39 : decode cX5_readsFold 39 = .ok (.invokevirtual 277, 3) := by decide +kernel
theorem dX5_readsFold_42 : decode cX5_readsFold 42 = .ok (.ifCond .eq 15, 3) := by decide +kernel
theorem dX5_readsFold_45 : decode cX5_readsFold 45 = .ok (.aload_n 0, 1) := by decide +kernel
theorem dX5_readsFold_46 : decode cX5_readsFold 46 = .ok (.iload_n 1, 1) := by decide +kernel
theorem dX5_readsFold_47 : decode cX5_readsFold 47 = .ok (.aload_n 0, 1) := by decide +kernel
theorem dX5_readsFold_48 : decode cX5_readsFold 48 = .ok (.getfield 274, 3) := by decide +kernel
theorem dX5_readsFold_51 : decode cX5_readsFold 51 = .ok (.invokevirtual 205, 3) := by decide +kernel
theorem dX5_readsFold_54 : decode cX5_readsFold 54 = .ok (.ifCond .ne 5, 3) := by decide +kernel
theorem dX5_readsFold_57 : decode cX5_readsFold 57 = .ok (.iconst 0, 1) := by decide +kernel
theorem dX5_readsFold_58 : decode cX5_readsFold 58 = .ok (.ireturn, 1) := by decide +kernel
theorem dX5_readsFold_59 : decode cX5_readsFold 59 = .ok (.aload_n 0, 1) := by decide +kernel
theorem dX5_readsFold_60 : decode cX5_readsFold 60 = .ok (.iload_n 1, 1) := by decide +kernel
theorem dX5_readsFold_61 : decode cX5_readsFold 61 = .ok (.aload_n 0, 1) := by decide +kernel
theorem dX5_readsFold_62 : decode cX5_readsFold 62 = .ok (.getfield 274, 3) := by decide +kernel
theorem dX5_readsFold_65 : decode cX5_readsFold 65 = .ok (.iconst 1, 1) := by decide +kernel
theorem dX5_readsFold_66 : decode cX5_readsFold 66 = .ok (.invokevirtual 92, 3) := by decide +kernel
theorem dX5_readsFold_69 : decode cX5_readsFold 69 = .ok (.pop, 1) := by decide +kernel
theorem dX5_readsFold_70 : decode cX5_readsFold 70 = .ok (.iconst 1, 1) := by decide +kernel
theorem dX5_readsFold_71 : decode cX5_readsFold 71 = .ok (.ireturn, 1) := by decide +kernel
theorem dX5_readsHint_0 : decode cX5_readsHint 0 = .ok (.aload_n 0, 1) := by decide +kernel
theorem dX5_readsHint_1 : decode cX5_readsHint 1 = .ok (.getfield 110, 3) := by decide +kernel
theorem dX5_readsHint_4 : decode cX5_readsHint 4 = .ok (.iconst 4, 1) := by decide +kernel
theorem dX5_readsHint_5 : decode cX5_readsHint 5 = .ok (.if_icmp .eq 17, 3) := by decide +kernel
theorem dX5_readsHint_8 : decode cX5_readsHint 8 = .ok (.aload_n 0, 1) := by decide +kernel
theorem dX5_readsHint_9 : decode cX5_readsHint 9 = .ok (.iconst 0, 1) := by decide +kernel
theorem dX5_readsHint_10 : decode cX5_readsHint 10 = .ok (.aload_n 0, 1) := by decide +kernel
theorem dX5_readsHint_11 : decode cX5_readsHint 11 = .ok (.getfield 89, 3) := by decide +kernel
theorem dX5_readsHint_14 : decode cX5_readsHint 14 = .ok (.bipush 44, 2) := by decide +kernel
theorem dX5_readsHint_16 : decode cX5_readsHint 16 = .ok (.invokevirtual 277, 3) := by decide +kernel
theorem dX5_readsHint_19 : decode cX5_readsHint 19 = .ok (.ifCond .ne 5, 3) := by decide +kernel
theorem dX5_readsHint_22 : decode cX5_readsHint 22 = .ok (.iconst 0, 1) := by decide +kernel
theorem dX5_readsHint_23 : decode cX5_readsHint 23 = .ok (.ireturn, 1) := by decide +kernel
theorem dX5_readsHint_24 : decode cX5_readsHint 24 = .ok (.aload_n 0, 1) := by decide +kernel
theorem dX5_readsHint_25 : decode cX5_readsHint 25 = .ok (.getfield 274, 3) := by decide +kernel
theorem dX5_readsHint_28 : decode cX5_readsHint 28 = .ok (.istore_n 1, 1) := by decide +kernel
theorem dX5_readsHint_29 : decode cX5_readsHint 29 = .ok (.aload_n 0, 1) := by decide +kernel
theorem dX5_readsHint_30 : decode cX5_readsHint 30 = .ok (.iload_n 1, 1) := by decide +kernel
theorem dX5_readsHint_31 : decode cX5_readsHint 31 = .ok (.invokevirtual 120, 3) := by decide +kernel
theorem dX5_readsHint_34 : decode cX5_readsHint 34 = .ok (.bipush (-4), 2) := by decide +kernel
theorem dX5_readsHint_36 : decode cX5_readsHint 36 = .ok (.if_icmp .ne 14, 3) := by decide +kernel
theorem dX5_readsHint_39 : decode cX5_readsHint 39 = .ok (.aload_n 0, 1) := by decide +kernel
theorem dX5_readsHint_40 : decode cX5_readsHint 40 = .ok (.iconst 1, 1) := by decide +kernel
theorem dX5_readsHint_41 : decode cX5_readsHint 41 = .ok (.iconst 5, 1) := by decide +kernel
theorem dX5_readsHint_42 : decode cX5_readsHint 42 = .ok (.bipush 59, 2) := by decide +kernel
theorem dX5_readsHint_44 : decode cX5_readsHint 44 = .ok (.invokevirtual 277, 3) := by decide +kernel
theorem dX5_readsHint_47 : decode cX5_readsHint 47 = .ok (.ifCond .ne 5, 3) := by decide +kernel
theorem dX5_readsHint_50 : decode cX5_readsHint 50 = .ok (.iconst 0, 1) := by decide +kernel
theorem dX5_readsHint_51 : decode cX5_readsHint 51 = .ok (.ireturn, 1) := by decide +kernel
theorem dX5_readsHint_52 : decode cX5_readsHint 52 = .ok (.aload_n 0, 1) := by decide +kernel
theorem dX5_readsHint_53 : decode cX5_readsHint 53 = .ok (.iload_n 1, 1) := by decide +kernel
theorem dX5_readsHint_54 : decode cX5_readsHint 54 = .ok (.aload_n 0, 1) := by decide +kernel
theorem dX5_readsHint_55 : decode cX5_readsHint 55 = .ok (.getfield 274, 3) := by decide +kernel
theorem dX5_readsHint_58 : decode cX5_readsHint 58 = .ok (.invokevirtual 96, 3) := by decide +kernel
theorem dX5_readsHint_61 : decode cX5_readsHint 61 = .ok (.pop, 1) := by decide +kernel
theorem dX5_readsHint_62 : decode cX5_readsHint 62 = .ok (.iconst 1, 1) := by decide +kernel
theorem dX5_readsHint_63 : decode cX5_readsHint 63 = .ok (.ireturn, 1) := by decide +kernel
theorem dX5_readsWide_0 : decode cX5_readsWide 0 = .ok (.aload_n 0, 1) := by decide +kernel
theorem dX5_readsWide_1 : decode cX5_readsWide 1 = .ok (.iconst 0, 1) := by decide +kernel
theorem dX5_readsWide_2 : decode cX5_readsWide 2 = .ok (.iconst 2, 1) := by decide +kernel
theorem dX5_readsWide_3 : decode cX5_readsWide 3 = .ok (.bipush 44, 2) := by decide +kernel
theorem dX5_readsWide_5 : decode cX5_readsWide 5 = .ok (.invokevirtual 277, 3) := by decide +kernel
theorem dX5_readsWide_8 : decode cX5_readsWide 8 = .ok (.ifCond .ne 5, 3) := by decide +kernel
theorem dX5_readsWide_11 : decode cX5_readsWide 11 = .ok (.iconst 0, 1) := by decide +kernel
theorem dX5_readsWide_12 : decode cX5_readsWide 12 = .ok (.ireturn, 1) := by decide +kernel
theorem dX5_readsWide_13 : decode cX5_readsWide 13 = .ok (.aload_n 0, 1) := by decide +kernel
theorem dX5_readsWide_14 : decode cX5_readsWide 14 = .ok (.getfield 274, 3) := by decide +kernel
theorem dX5_readsWide_17 : decode cX5_readsWide 17 = .ok (.istore_n 1, 1) := by decide +kernel
theorem dX5_readsWide_18 : decode cX5_readsWide 18 = .ok (.aload_n 0, 1) := by decide +kernel
theorem dX5_readsWide_19 : decode cX5_readsWide 19 = .ok (.iconst 4, 1) := by decide +kernel
theorem dX5_readsWide_20 : decode cX5_readsWide 20 = .ok (.bipush 20, 2) := by decide +kernel
theorem dX5_readsWide_22 : decode cX5_readsWide 22 = .ok (.bipush 44, 2) := by decide +kernel
theorem dX5_readsWide_24 : decode cX5_readsWide 24 = .ok (.invokevirtual 277, 3) := by decide +kernel
theorem dX5_readsWide_27 : decode cX5_readsWide 27 = .ok (.ifCond .ne 5, 3) := by decide +kernel
theorem dX5_readsWide_30 : decode cX5_readsWide 30 = .ok (.iconst 0, 1) := by decide +kernel
theorem dX5_readsWide_31 : decode cX5_readsWide 31 = .ok (.ireturn, 1) := by decide +kernel
theorem dX5_readsWide_32 : decode cX5_readsWide 32 = .ok (.aload_n 0, 1) := by decide +kernel
theorem dX5_readsWide_33 : decode cX5_readsWide 33 = .ok (.getfield 274, 3) := by decide +kernel
theorem dX5_readsWide_36 : decode cX5_readsWide 36 = .ok (.istore_n 2, 1) := by decide +kernel
theorem dX5_readsWide_37 : decode cX5_readsWide 37 = .ok (.aload_n 0, 1) := by decide +kernel
theorem dX5_readsWide_38 : decode cX5_readsWide 38 = .ok (.iconst 0, 1) := by decide +kernel
theorem dX5_readsWide_39 : decode cX5_readsWide 39 = .ok (.iconst 3, 1) := by decide +kernel
theorem dX5_readsWide_40 : decode cX5_readsWide 40 = .ok (.bipush 59, 2) := by decide +kernel
theorem dX5_readsWide_42 : decode cX5_readsWide 42 = .ok (.invokevirtual 277, 3) := by decide +kernel
theorem dX5_readsWide_45 : decode cX5_readsWide 45 = .ok (.ifCond .ne 5, 3) := by decide +kernel
theorem dX5_readsWide_48 : decode cX5_readsWide 48 = .ok (.iconst 0, 1) := by decide +kernel
theorem dX5_readsWide_49 : decode cX5_readsWide 49 = .ok (.ireturn, 1) := by decide +kernel
theorem dX5_readsWide_50 : decode cX5_readsWide 50 = .ok (.aload_n 0, 1) := by decide +kernel
theorem dX5_readsWide_51 : decode cX5_readsWide 51 = .ok (.iload_n 1, 1) := by decide +kernel
theorem dX5_readsWide_52 : decode cX5_readsWide 52 = .ok (.putfield 28, 3) := by decide +kernel
theorem dX5_readsWide_55 : decode cX5_readsWide 55 = .ok (.aload_n 0, 1) := by decide +kernel
theorem dX5_readsWide_56 : decode cX5_readsWide 56 = .ok (.iload_n 2, 1) := by decide +kernel
theorem dX5_readsWide_57 : decode cX5_readsWide 57 = .ok (.putfield 32, 3) := by decide +kernel
theorem dX5_readsWide_60 : decode cX5_readsWide 60 = .ok (.aload_n 0, 1) := by decide +kernel
theorem dX5_readsWide_61 : decode cX5_readsWide 61 = .ok (.aload_n 0, 1) := by decide +kernel
theorem dX5_readsWide_62 : decode cX5_readsWide 62 = .ok (.getfield 274, 3) := by decide +kernel
theorem dX5_readsWide_65 : decode cX5_readsWide 65 = .ok (.putfield 100, 3) := by decide +kernel
theorem dX5_readsWide_68 : decode cX5_readsWide 68 = .ok (.iconst 1, 1) := by decide +kernel
theorem dX5_readsWide_69 : decode cX5_readsWide 69 = .ok (.ireturn, 1) := by decide +kernel
theorem dX5_readsTabs_0 : decode cX5_readsTabs 0 = .ok (.aload_n 0, 1) := by decide +kernel
theorem dX5_readsTabs_1 : decode cX5_readsTabs 1 = .ok (.iconst 1, 1) := by decide +kernel
theorem dX5_readsTabs_2 : decode cX5_readsTabs 2 = .ok (.bipush 8, 2) := by decide +kernel
theorem dX5_readsTabs_4 : decode cX5_readsTabs 4 = .ok (.bipush 59, 2) := by decide +kernel
theorem dX5_readsTabs_6 : decode cX5_readsTabs 6 = .ok (.invokevirtual 277, 3) := by decide +kernel
theorem dX5_readsTabs_9 : decode cX5_readsTabs 9 = .ok (.ifCond .ne 5, 3) := by decide +kernel
theorem dX5_readsTabs_12 : decode cX5_readsTabs 12 = .ok (.iconst 0, 1) := by decide +kernel
theorem dX5_readsTabs_13 : decode cX5_readsTabs 13 = .ok (.ireturn, 1) := by decide +kernel
theorem dX5_readsTabs_14 : decode cX5_readsTabs 14 = .ok (.aload_n 0, 1) := by decide +kernel
theorem dX5_readsTabs_15 : decode cX5_readsTabs 15 = .ok (.aload_n 0, 1) := by decide +kernel
theorem dX5_readsTabs_16 : decode cX5_readsTabs 16 = .ok (.getfield 274, 3) := by decide +kernel
theorem dX5_readsTabs_19 : decode cX5_readsTabs 19 = .ok (.putfield 35, 3) := by decide +kernel
theorem dX5_readsTabs_22 : decode cX5_readsTabs 22 = .ok (.iconst 1, 1) := by decide +kernel
theorem dX5_readsTabs_23 : decode cX5_readsTabs 23 = .ok (.ireturn, 1) := by decide +kernel
theorem dX5_readsItem_0 : decode cX5_readsItem 0 = .ok (.aload_n 0, 1) := by decide +kernel
theorem dX5_readsItem_1 : decode cX5_readsItem 1 = .ok (.invokevirtual 267, 3) := by decide +kernel
theorem dX5_readsItem_4 : decode cX5_readsItem 4 = .ok (.istore_n 2, 1) := by decide +kernel
theorem dX5_readsItem_5 : decode cX5_readsItem 5 = .ok (.aload_n 0, 1) := by decide +kernel
theorem dX5_readsItem_6 : decode cX5_readsItem 6 = .ok (.dup, 1) := by decide +kernel
theorem dX5_readsItem_7 : decode cX5_readsItem 7 = .ok (.getfield 264, 3) := by decide +kernel
theorem dX5_readsItem_10 : decode cX5_readsItem 10 = .ok (.iconst 1, 1) := by decide +kernel
theorem dX5_readsItem_11 : decode cX5_readsItem 11 = .ok (.iadd, 1) := by decide +kernel
theorem dX5_readsItem_12 : decode cX5_readsItem 12 = .ok (.putfield 264, 3) := by decide +kernel
theorem dX5_readsItem_15 : decode cX5_readsItem 15 = .ok (.iload_n 2, 1) := by decide +kernel
theorem dX5_readsItem_16 : decode cX5_readsItem 16 = .ok (.lookupswitch 76 #[(102, 61), (104, 66), (116, 44), (119, 71)], 44) := by decide +kernel
theorem dX5_readsItem_60 : decode cX5_readsItem 60 = .ok (.iload_n 1, 1) := by decide +kernel
theorem dX5_readsItem_61 : decode cX5_readsItem 61 = .ok (.ifCond .eq 14, 3) := by decide +kernel
theorem dX5_readsItem_64 : decode cX5_readsItem 64 = .ok (.aload_n 0, 1) := by decide +kernel
theorem dX5_readsItem_65 : decode cX5_readsItem 65 = .ok (.invokevirtual 280, 3) := by decide +kernel
theorem dX5_readsItem_68 : decode cX5_readsItem 68 = .ok (.ifCond .eq 7, 3) := by decide +kernel
theorem dX5_readsItem_71 : decode cX5_readsItem 71 = .ok (.iconst 1, 1) := by decide +kernel
theorem dX5_readsItem_72 : decode cX5_readsItem 72 = .ok (.goto 4, 3) := by decide +kernel
theorem dX5_readsItem_75 : decode cX5_readsItem 75 = .ok (.iconst 0, 1) := by decide +kernel
theorem dX5_readsItem_76 : decode cX5_readsItem 76 = .ok (.ireturn, 1) := by decide +kernel
theorem dX5_readsItem_77 : decode cX5_readsItem 77 = .ok (.aload_n 0, 1) := by decide +kernel
theorem dX5_readsItem_78 : decode cX5_readsItem 78 = .ok (.invokevirtual 283, 3) := by decide +kernel
theorem dX5_readsItem_81 : decode cX5_readsItem 81 = .ok (.ireturn, 1) := by decide +kernel
theorem dX5_readsItem_82 : decode cX5_readsItem 82 = .ok (.aload_n 0, 1) := by decide +kernel
theorem dX5_readsItem_83 : decode cX5_readsItem 83 = .ok (.invokevirtual 286, 3) := by decide +kernel
theorem dX5_readsItem_86 : decode cX5_readsItem 86 = .ok (.ireturn, 1) := by decide +kernel
theorem dX5_readsItem_87 : decode cX5_readsItem 87 = .ok (.aload_n 0, 1) := by decide +kernel
theorem dX5_readsItem_88 : decode cX5_readsItem 88 = .ok (.invokevirtual 289, 3) := by decide +kernel
theorem dX5_readsItem_91 : decode cX5_readsItem 91 = .ok (.ireturn, 1) := by decide +kernel
theorem dX5_readsItem_92 : decode cX5_readsItem 92 = .ok (.iload_n 2, 1) := by decide +kernel
theorem dX5_readsItem_93 : decode cX5_readsItem 93 = .ok (.bipush 98, 2) := by decide +kernel
theorem dX5_readsItem_95 : decode cX5_readsItem 95 = .ok (.if_icmp .ne 14, 3) := by decide +kernel
theorem dX5_readsItem_98 : decode cX5_readsItem 98 = .ok (.aload_n 0, 1) := by decide +kernel
theorem dX5_readsItem_99 : decode cX5_readsItem 99 = .ok (.invokevirtual 292, 3) := by decide +kernel
theorem dX5_readsItem_102 : decode cX5_readsItem 102 = .ok (.ifCond .eq 7, 3) := by decide +kernel
theorem dX5_readsItem_105 : decode cX5_readsItem 105 = .ok (.iconst 1, 1) := by decide +kernel
theorem dX5_readsItem_106 : decode cX5_readsItem 106 = .ok (.goto 4, 3) := by decide +kernel
theorem dX5_readsItem_109 : decode cX5_readsItem 109 = .ok (.iconst 0, 1) := by decide +kernel
theorem dX5_readsItem_110 : decode cX5_readsItem 110 = .ok (.ireturn, 1) := by decide +kernel
theorem dX5_readsAll_0 : decode cX5_readsAll 0 = .ok (.aload_n 0, 1) := by decide +kernel
theorem dX5_readsAll_1 : decode cX5_readsAll 1 = .ok (.iconst 0, 1) := by decide +kernel
theorem dX5_readsAll_2 : decode cX5_readsAll 2 = .ok (.putfield 264, 3) := by decide +kernel
theorem dX5_readsAll_5 : decode cX5_readsAll 5 = .ok (.aload_n 0, 1) := by decide +kernel
theorem dX5_readsAll_6 : decode cX5_readsAll 6 = .ok (.iconst 0, 1) := by decide +kernel
theorem dX5_readsAll_7 : decode cX5_readsAll 7 = .ok (.putfield 89, 3) := by decide +kernel
theorem dX5_readsAll_10 : decode cX5_readsAll 10 = .ok (.aload_n 0, 1) := by decide +kernel
theorem dX5_readsAll_11 : decode cX5_readsAll 11 = .ok (.iconst 0, 1) := by decide +kernel
theorem dX5_readsAll_12 : decode cX5_readsAll 12 = .ok (.putfield 107, 3) := by decide +kernel
theorem dX5_readsAll_15 : decode cX5_readsAll 15 = .ok (.aload_n 0, 1) := by decide +kernel
theorem dX5_readsAll_16 : decode cX5_readsAll 16 = .ok (.iconst 0, 1) := by decide +kernel
theorem dX5_readsAll_17 : decode cX5_readsAll 17 = .ok (.putfield 110, 3) := by decide +kernel
theorem dX5_readsAll_20 : decode cX5_readsAll 20 = .ok (.aload_n 0, 1) := by decide +kernel
theorem dX5_readsAll_21 : decode cX5_readsAll 21 = .ok (.iconst 1, 1) := by decide +kernel
theorem dX5_readsAll_22 : decode cX5_readsAll 22 = .ok (.putfield 28, 3) := by decide +kernel
theorem dX5_readsAll_25 : decode cX5_readsAll 25 = .ok (.aload_n 0, 1) := by decide +kernel
theorem dX5_readsAll_26 : decode cX5_readsAll 26 = .ok (.bipush 8, 2) := by decide +kernel
theorem dX5_readsAll_28 : decode cX5_readsAll 28 = .ok (.putfield 32, 3) := by decide +kernel
theorem dX5_readsAll_31 : decode cX5_readsAll 31 = .ok (.aload_n 0, 1) := by decide +kernel
theorem dX5_readsAll_32 : decode cX5_readsAll 32 = .ok (.iconst 0, 1) := by decide +kernel
theorem dX5_readsAll_33 : decode cX5_readsAll 33 = .ok (.putfield 100, 3) := by decide +kernel
theorem dX5_readsAll_36 : decode cX5_readsAll 36 = .ok (.aload_n 0, 1) := by decide +kernel
theorem dX5_readsAll_37 : decode cX5_readsAll 37 = .ok (.iconst 4, 1) := by decide +kernel
theorem dX5_readsAll_38 : decode cX5_readsAll 38 = .ok (.putfield 35, 3) := by decide +kernel
theorem dX5_readsAll_41 : decode cX5_readsAll 41 = .ok (.aload_n 0, 1) := by decide +kernel
theorem dX5_readsAll_42 : decode cX5_readsAll 42 = .ok (.getfield 264, 3) := by decide +kernel
theorem dX5_readsAll_45 : decode cX5_readsAll 45 = .ok (.aload_n 0, 1) := by decide +kernel
theorem dX5_readsAll_46 : decode cX5_readsAll 46 = .ok (.getfield 261, 3) := by decide +kernel
theorem dX5_readsAll_49 : decode cX5_readsAll 49 = .ok (.if_icmp .ge 29, 3) := by decide +kernel
theorem dX5_readsAll_52 : decode cX5_readsAll 52 = .ok (.aload_n 0, 1) := by decide +kernel
theorem dX5_readsAll_53 : decode cX5_readsAll 53 = .ok (.getfield 264, 3) := by decide +kernel
theorem dX5_readsAll_56 : decode cX5_readsAll 56 = .ok (.istore_n 1, 1) := by decide +kernel
theorem dX5_readsAll_57 : decode cX5_readsAll 57 = .ok (.aload_n 0, 1) := by decide +kernel
theorem dX5_readsAll_58 : decode cX5_readsAll 58 = .ok (.iload_n 1, 1) := by decide +kernel
theorem dX5_readsAll_59 : decode cX5_readsAll 59 = .ok (.ifCond .ne 7, 3) := by decide +kernel
theorem dX5_readsAll_62 : decode cX5_readsAll 62 = .ok (.iconst 1, 1) := by decide +kernel
theorem dX5_readsAll_63 : decode cX5_readsAll 63 = .ok (.goto 4, 3) := by decide +kernel
theorem dX5_readsAll_66 : decode cX5_readsAll 66 = .ok (.iconst 0, 1) := by decide +kernel
theorem dX5_readsAll_67 : decode cX5_readsAll 67 = .ok (.invokevirtual 295, 3) := by decide +kernel
theorem dX5_readsAll_70 : decode cX5_readsAll 70 = .ok (.ifCond .ne 5, 3) := by decide +kernel
theorem dX5_readsAll_73 : decode cX5_readsAll 73 = .ok (.iload_n 1, 1) := by decide +kernel
theorem dX5_readsAll_74 : decode cX5_readsAll 74 = .ok (.ireturn, 1) := by decide +kernel
theorem dX5_readsAll_75 : decode cX5_readsAll 75 = .ok (.goto (-34), 3) := by decide +kernel
theorem dX5_readsAll_78 : decode cX5_readsAll 78 = .ok (.bipush (-4), 2) := by decide +kernel
theorem dX5_readsAll_80 : decode cX5_readsAll 80 = .ok (.ireturn, 1) := by decide +kernel
theorem dX5_fault_0 : decode cX5_fault 0 = .ok (.aload_n 0, 1) := by decide +kernel
theorem dX5_fault_1 : decode cX5_fault 1 = .ok (.aload_n 0, 1) := by decide +kernel
theorem dX5_fault_2 : decode cX5_fault 2 = .ok (.getfield 86, 3) := by decide +kernel
theorem dX5_fault_5 : decode cX5_fault 5 = .ok (.iconst 0, 1) := by decide +kernel
theorem dX5_fault_6 : decode cX5_fault 6 = .ok (.invokevirtual 181, 3) := by decide +kernel
theorem dX5_fault_9 : decode cX5_fault 9 = .ok (.aload_n 0, 1) := by decide +kernel
theorem dX5_fault_10 : decode cX5_fault 10 = .ok (.invokevirtual 299, 3) := by decide +kernel
theorem dX5_fault_13 : decode cX5_fault 13 = .ok (.istore_n 1, 1) := by decide +kernel
theorem dX5_fault_14 : decode cX5_fault 14 = .ok (.aload_n 0, 1) := by decide +kernel
theorem dX5_fault_15 : decode cX5_fault 15 = .ok (.aload_n 0, 1) := by decide +kernel
theorem dX5_fault_16 : decode cX5_fault 16 = .ok (.getfield 86, 3) := by decide +kernel
theorem dX5_fault_19 : decode cX5_fault 19 = .ok (.iconst 0, 1) := by decide +kernel
theorem dX5_fault_20 : decode cX5_fault 20 = .ok (.invokevirtual 211, 3) := by decide +kernel
theorem dX5_fault_23 : decode cX5_fault 23 = .ok (.iload_n 1, 1) := by decide +kernel
theorem dX5_fault_24 : decode cX5_fault 24 = .ok (.ireturn, 1) := by decide +kernel
theorem dX5_lay_0 : decode cX5_lay 0 = .ok (.aload_n 0, 1) := by decide +kernel
theorem dX5_lay_1 : decode cX5_lay 1 = .ok (.aload_n 0, 1) := by decide +kernel
theorem dX5_lay_2 : decode cX5_lay 2 = .ok (.getfield 86, 3) := by decide +kernel
theorem dX5_lay_5 : decode cX5_lay 5 = .ok (.iconst 0, 1) := by decide +kernel
theorem dX5_lay_6 : decode cX5_lay 6 = .ok (.invokevirtual 181, 3) := by decide +kernel
theorem dX5_lay_9 : decode cX5_lay 9 = .ok (.aload_n 0, 1) := by decide +kernel
theorem dX5_lay_10 : decode cX5_lay 10 = .ok (.invokevirtual 299, 3) := by decide +kernel
theorem dX5_lay_13 : decode cX5_lay 13 = .ok (.bipush (-4), 2) := by decide +kernel
theorem dX5_lay_15 : decode cX5_lay 15 = .ok (.if_icmp .eq 15, 3) := by decide +kernel
theorem dX5_lay_18 : decode cX5_lay 18 = .ok (.aload_n 0, 1) := by decide +kernel
theorem dX5_lay_19 : decode cX5_lay 19 = .ok (.aload_n 0, 1) := by decide +kernel
theorem dX5_lay_20 : decode cX5_lay 20 = .ok (.getfield 86, 3) := by decide +kernel
theorem dX5_lay_23 : decode cX5_lay 23 = .ok (.iconst 0, 1) := by decide +kernel
theorem dX5_lay_24 : decode cX5_lay 24 = .ok (.invokevirtual 211, 3) := by decide +kernel
theorem dX5_lay_27 : decode cX5_lay 27 = .ok (.bipush (-2), 2) := by decide +kernel
theorem dX5_lay_29 : decode cX5_lay 29 = .ok (.ireturn, 1) := by decide +kernel
theorem dX5_lay_30 : decode cX5_lay 30 = .ok (.aload_n 0, 1) := by decide +kernel
theorem dX5_lay_31 : decode cX5_lay 31 = .ok (.iconst 0, 1) := by decide +kernel
theorem dX5_lay_32 : decode cX5_lay 32 = .ok (.putfield 178, 3) := by decide +kernel
theorem dX5_lay_35 : decode cX5_lay 35 = .ok (.aload_n 0, 1) := by decide +kernel
theorem dX5_lay_36 : decode cX5_lay 36 = .ok (.iconst 0, 1) := by decide +kernel
theorem dX5_lay_37 : decode cX5_lay 37 = .ok (.putfield 214, 3) := by decide +kernel
theorem dX5_lay_40 : decode cX5_lay 40 = .ok (.aload_n 0, 1) := by decide +kernel
theorem dX5_lay_41 : decode cX5_lay 41 = .ok (.iconst 0, 1) := by decide +kernel
theorem dX5_lay_42 : decode cX5_lay 42 = .ok (.putfield 171, 3) := by decide +kernel
theorem dX5_lay_45 : decode cX5_lay 45 = .ok (.aload_n 0, 1) := by decide +kernel
theorem dX5_lay_46 : decode cX5_lay 46 = .ok (.getfield 89, 3) := by decide +kernel
theorem dX5_lay_49 : decode cX5_lay 49 = .ok (.ireturn, 1) := by decide +kernel
end
section
theorem dL_law_0 : decode cL_law 0 = .ok (.new 7, 3) := by decide +kernel
theorem dL_law_3 : decode cL_law 3 = .ok (.dup, 1) := by decide +kernel
theorem dL_law_4 : decode cL_law 4 = .ok (.invokespecial 9, 3) := by decide +kernel
theorem dL_law_7 : decode cL_law 7 = .ok (.astore_n 1, 1) := by decide +kernel
theorem dL_law_8 : decode cL_law 8 = .ok (.new 10, 3) := by decide +kernel
theorem dL_law_11 : decode cL_law 11 = .ok (.dup, 1) := by decide +kernel
theorem dL_law_12 : decode cL_law 12 = .ok (.invokespecial 12, 3) := by decide +kernel
theorem dL_law_15 : decode cL_law 15 = .ok (.astore_n 2, 1) := by decide +kernel
theorem dL_law_16 : decode cL_law 16 = .ok (.iconst 0, 1) := by decide +kernel
theorem dL_law_17 : decode cL_law 17 = .ok (.istore_n 3, 1) := by decide +kernel
theorem dL_law_18 : decode cL_law 18 = .ok (.iload_n 3, 1) := by decide +kernel
theorem dL_law_19 : decode cL_law 19 = .ok (.aload_n 0, 1) := by decide +kernel
theorem dL_law_20 : decode cL_law 20 = .ok (.arraylength, 1) := by decide +kernel
theorem dL_law_21 : decode cL_law 21 = .ok (.iconst 4, 1) := by decide +kernel
theorem dL_law_22 : decode cL_law 22 = .ok (.isub, 1) := by decide +kernel
theorem dL_law_23 : decode cL_law 23 = .ok (.if_icmp .gt 921, 3) := by decide +kernel
theorem dL_law_26 : decode cL_law 26 = .ok (.aload_n 0, 1) := by decide +kernel
theorem dL_law_27 : decode cL_law 27 = .ok (.iload_n 3, 1) := by decide +kernel
theorem dL_law_28 : decode cL_law 28 = .ok (.iaload, 1) := by decide +kernel
theorem dL_law_29 : decode cL_law 29 = .ok (.bipush 31, 2) := by decide +kernel
theorem dL_law_31 : decode cL_law 31 = .ok (.iand, 1) := by decide +kernel
theorem dL_law_32 : decode cL_law 32 = .ok (.tableswitch 906 0 29 #[136, 159, 172, 185, 198, 221, 254, 287, 320, 343, 366, 399, 422, 455, 478, 521, 544, 557, 590, 623, 656, 689, 722, 745, 768, 791, 814, 857, 870, 883], 136) := by decide +kernel
theorem dL_law_168 : decode cL_law 168 = .ok (.aload_n 1, 1) := by decide +kernel
theorem dL_law_169 : decode cL_law 169 = .ok (.aload_n 0, 1) := by decide +kernel
theorem dL_law_170 : decode cL_law 170 = .ok (.iload_n 3, 1) := by decide +kernel
theorem dL_law_171 : decode cL_law 171 = .ok (.iconst 1, 1) := by decide +kernel
theorem dL_law_172 : decode cL_law 172 = .ok (.iadd, 1) := by decide +kernel
theorem dL_law_173 : decode cL_law 173 = .ok (.iaload, 1) := by decide +kernel
theorem dL_law_174 : decode cL_law 174 = .ok (.invokevirtual 13, 3) := by decide +kernel
theorem dL_law_177 : decode cL_law 177 = .ok (.aload_n 2, 1) := by decide +kernel
theorem dL_law_178 : decode cL_law 178 = .ok (.aload_n 0, 1) := by decide +kernel
theorem dL_law_179 : decode cL_law 179 = .ok (.iload_n 3, 1) := by decide +kernel
theorem dL_law_180 : decode cL_law 180 = .ok (.iconst 1, 1) := by decide +kernel
theorem dL_law_181 : decode cL_law 181 = .ok (.iadd, 1) := by decide +kernel
theorem dL_law_182 : decode cL_law 182 = .ok (.iaload, 1) := by decide +kernel
theorem dL_law_183 : decode cL_law 183 = .ok (.invokevirtual 17, 3) := by decide +kernel
theorem dL_law_186 : decode cL_law 186 = .ok (.if_icmp .eq 752, 3) := by decide +kernel
theorem dL_law_189 : decode cL_law 189 = .ok (.iconst 0, 1) := by decide +kernel
theorem dL_law_190 : decode cL_law 190 = .ok (.ireturn, 1) := by decide +kernel
theorem dL_law_191 : decode cL_law 191 = .ok (.aload_n 1, 1) := by decide +kernel
theorem dL_law_192 : decode cL_law 192 = .ok (.invokevirtual 18, 3) := by decide +kernel
theorem dL_law_195 : decode cL_law 195 = .ok (.aload_n 2, 1) := by decide +kernel
theorem dL_law_196 : decode cL_law 196 = .ok (.invokevirtual 22, 3) := by decide +kernel
theorem dL_law_199 : decode cL_law 199 = .ok (.if_icmp .eq 739, 3) := by decide +kernel
theorem dL_law_202 : decode cL_law 202 = .ok (.iconst 0, 1) := by decide +kernel
theorem dL_law_203 : decode cL_law 203 = .ok (.ireturn, 1) := by decide +kernel
theorem dL_law_204 : decode cL_law 204 = .ok (.aload_n 1, 1) := by decide +kernel
theorem dL_law_205 : decode cL_law 205 = .ok (.invokevirtual 23, 3) := by decide +kernel
theorem dL_law_208 : decode cL_law 208 = .ok (.aload_n 2, 1) := by decide +kernel
theorem dL_law_209 : decode cL_law 209 = .ok (.invokevirtual 26, 3) := by decide +kernel
theorem dL_law_212 : decode cL_law 212 = .ok (.if_icmp .eq 726, 3) := by decide +kernel
theorem dL_law_215 : decode cL_law 215 = .ok (.iconst 0, 1) := by decide +kernel
theorem dL_law_216 : decode cL_law 216 = .ok (.ireturn, 1) := by decide +kernel
theorem dL_law_217 : decode cL_law 217 = .ok (.aload_n 1, 1) := by decide +kernel
theorem dL_law_218 : decode cL_law 218 = .ok (.invokevirtual 27, 3) := by decide +kernel
theorem dL_law_221 : decode cL_law 221 = .ok (.aload_n 2, 1) := by decide +kernel
theorem dL_law_222 : decode cL_law 222 = .ok (.invokevirtual 30, 3) := by decide +kernel
theorem dL_law_225 : decode cL_law 225 = .ok (.if_icmp .eq 713, 3) := by decide +kernel
theorem dL_law_228 : decode cL_law 228 = .ok (.iconst 0, 1) := by decide +kernel
theorem dL_law_229 : decode cL_law 229 = .ok (.ireturn, 1) := by decide +kernel
theorem dL_law_230 : decode cL_law 230 = .ok (.aload_n 1, 1) := by decide +kernel
theorem dL_law_231 : decode cL_law 231 = .ok (.aload_n 0, 1) := by decide +kernel
theorem dL_law_232 : decode cL_law 232 = .ok (.iload_n 3, 1) := by decide +kernel
theorem dL_law_233 : decode cL_law 233 = .ok (.iconst 1, 1) := by decide +kernel
theorem dL_law_234 : decode cL_law 234 = .ok (.iadd, 1) := by decide +kernel
theorem dL_law_235 : decode cL_law 235 = .ok (.iaload, 1) := by decide +kernel
theorem dL_law_236 : decode cL_law 236 = .ok (.invokevirtual 31, 3) := by decide +kernel
theorem dL_law_239 : decode cL_law 239 = .ok (.aload_n 2, 1) := by decide +kernel
theorem dL_law_240 : decode cL_law 240 = .ok (.aload_n 0, 1) := by decide +kernel
theorem dL_law_241 : decode cL_law 241 = .ok (.iload_n 3, 1) := by decide +kernel
theorem dL_law_242 : decode cL_law 242 = .ok (.iconst 1, 1) := by decide +kernel
theorem dL_law_243 : decode cL_law 243 = .ok (.iadd, 1) := by decide +kernel
theorem dL_law_244 : decode cL_law 244 = .ok (.iaload, 1) := by decide +kernel
theorem dL_law_245 : decode cL_law 245 = .ok (.invokevirtual 34, 3) := by decide +kernel
theorem dL_law_248 : decode cL_law 248 = .ok (.if_icmp .eq 690, 3) := by decide +kernel
theorem dL_law_251 : decode cL_law 251 = .ok (.iconst 0, 1) := by decide +kernel
theorem dL_law_252 : decode cL_law 252 = .ok (.ireturn, 1) := by decide +kernel
theorem dL_law_253 : decode cL_law 253 = .ok (.aload_n 1, 1) := by decide +kernel
theorem dL_law_254 : decode cL_law 254 = .ok (.aload_n 0, 1) := by decide +kernel
theorem dL_law_255 : decode cL_law 255 = .ok (.iload_n 3, 1) := by decide +kernel
theorem dL_law_256 : decode cL_law 256 = .ok (.iconst 1, 1) := by decide +kernel
theorem dL_law_257 : decode cL_law 257 = .ok (.iadd, 1) := by decide +kernel
theorem dL_law_258 : decode cL_law 258 = .ok (.iaload, 1) := by decide +kernel
theorem dL_law_259 : decode cL_law 259 = .ok (.aload_n 0, 1) := by decide +kernel
theorem dL_law_260 : decode cL_law 260 = .ok (.iload_n 3, 1) := by decide +kernel
theorem dL_law_261 : decode cL_law 261 = .ok (.iconst 2, 1) := by decide +kernel
theorem dL_law_262 : decode cL_law 262 = .ok (.iadd, 1) := by decide +kernel
theorem dL_law_263 : decode cL_law 263 = .ok (.iaload, 1) := by decide +kernel
theorem dL_law_264 : decode cL_law 264 = .ok (.invokevirtual 35, 3) := by decide +kernel
theorem dL_law_267 : decode cL_law 267 = .ok (.aload_n 2, 1) := by decide +kernel
theorem dL_law_268 : decode cL_law 268 = .ok (.aload_n 0, 1) := by decide +kernel
theorem dL_law_269 : decode cL_law 269 = .ok (.iload_n 3, 1) := by decide +kernel
theorem dL_law_270 : decode cL_law 270 = .ok (.iconst 1, 1) := by decide +kernel
theorem dL_law_271 : decode cL_law 271 = .ok (.iadd, 1) := by decide +kernel
theorem dL_law_272 : decode cL_law 272 = .ok (.iaload, 1) := by decide +kernel
theorem dL_law_273 : decode cL_law 273 = .ok (.aload_n 0, 1) := by decide +kernel
theorem dL_law_274 : decode cL_law 274 = .ok (.iload_n 3, 1) := by decide +kernel
theorem dL_law_275 : decode cL_law 275 = .ok (.iconst 2, 1) := by decide +kernel
theorem dL_law_276 : decode cL_law 276 = .ok (.iadd, 1) := by decide +kernel
theorem dL_law_277 : decode cL_law 277 = .ok (.iaload, 1) := by decide +kernel
theorem dL_law_278 : decode cL_law 278 = .ok (.invokevirtual 39, 3) := by decide +kernel
theorem dL_law_281 : decode cL_law 281 = .ok (.if_icmp .eq 657, 3) := by decide +kernel
theorem dL_law_284 : decode cL_law 284 = .ok (.iconst 0, 1) := by decide +kernel
theorem dL_law_285 : decode cL_law 285 = .ok (.ireturn, 1) := by decide +kernel
theorem dL_law_286 : decode cL_law 286 = .ok (.aload_n 1, 1) := by decide +kernel
theorem dL_law_287 : decode cL_law 287 = .ok (.aload_n 0, 1) := by decide +kernel
theorem dL_law_288 : decode cL_law 288 = .ok (.iload_n 3, 1) := by decide +kernel
theorem dL_law_289 : decode cL_law 289 = .ok (.iconst 1, 1) := by decide +kernel
theorem dL_law_290 : decode cL_law 290 = .ok (.iadd, 1) := by decide +kernel
theorem dL_law_291 : decode cL_law 291 = .ok (.iaload, 1) := by decide +kernel
theorem dL_law_292 : decode cL_law 292 = .ok (.aload_n 0, 1) := by decide +kernel
theorem dL_law_293 : decode cL_law 293 = .ok (.iload_n 3, 1) := by decide +kernel
theorem dL_law_294 : decode cL_law 294 = .ok (.iconst 2, 1) := by decide +kernel
theorem dL_law_295 : decode cL_law 295 = .ok (.iadd, 1) := by decide +kernel
theorem dL_law_296 : decode cL_law 296 = .ok (.iaload, 1) := by decide +kernel
theorem dL_law_297 : decode cL_law 297 = .ok (.invokevirtual 40, 3) := by decide +kernel
theorem dL_law_300 : decode cL_law 300 = .ok (.aload_n 2, 1) := by decide +kernel
theorem dL_law_301 : decode cL_law 301 = .ok (.aload_n 0, 1) := by decide +kernel
theorem dL_law_302 : decode cL_law 302 = .ok (.iload_n 3, 1) := by decide +kernel
theorem dL_law_303 : decode cL_law 303 = .ok (.iconst 1, 1) := by decide +kernel
theorem dL_law_304 : decode cL_law 304 = .ok (.iadd, 1) := by decide +kernel
theorem dL_law_305 : decode cL_law 305 = .ok (.iaload, 1) := by decide +kernel
theorem dL_law_306 : decode cL_law 306 = .ok (.aload_n 0, 1) := by decide +kernel
theorem dL_law_307 : decode cL_law 307 = .ok (.iload_n 3, 1) := by decide +kernel
theorem dL_law_308 : decode cL_law 308 = .ok (.iconst 2, 1) := by decide +kernel
theorem dL_law_309 : decode cL_law 309 = .ok (.iadd, 1) := by decide +kernel
theorem dL_law_310 : decode cL_law 310 = .ok (.iaload, 1) := by decide +kernel
theorem dL_law_311 : decode cL_law 311 = .ok (.invokevirtual 43, 3) := by decide +kernel
theorem dL_law_314 : decode cL_law 314 = .ok (.if_icmp .eq 624, 3) := by decide +kernel
theorem dL_law_317 : decode cL_law 317 = .ok (.iconst 0, 1) := by decide +kernel
theorem dL_law_318 : decode cL_law 318 = .ok (.ireturn, 1) := by decide +kernel
theorem dL_law_319 : decode cL_law 319 = .ok (.aload_n 1, 1) := by decide +kernel
theorem dL_law_320 : decode cL_law 320 = .ok (.aload_n 0, 1) := by decide +kernel
theorem dL_law_321 : decode cL_law 321 = .ok (.iload_n 3, 1) := by decide +kernel
theorem dL_law_322 : decode cL_law 322 = .ok (.iconst 1, 1) := by decide +kernel
theorem dL_law_323 : decode cL_law 323 = .ok (.iadd, 1) := by decide +kernel
theorem dL_law_324 : decode cL_law 324 = .ok (.iaload, 1) := by decide +kernel
theorem dL_law_325 : decode cL_law 325 = .ok (.aload_n 0, 1) := by decide +kernel
theorem dL_law_326 : decode cL_law 326 = .ok (.iload_n 3, 1) := by decide +kernel
theorem dL_law_327 : decode cL_law 327 = .ok (.iconst 2, 1) := by decide +kernel
theorem dL_law_328 : decode cL_law 328 = .ok (.iadd, 1) := by decide +kernel
theorem dL_law_329 : decode cL_law 329 = .ok (.iaload, 1) := by decide +kernel
theorem dL_law_330 : decode cL_law 330 = .ok (.invokevirtual 44, 3) := by decide +kernel
theorem dL_law_333 : decode cL_law 333 = .ok (.aload_n 2, 1) := by decide +kernel
theorem dL_law_334 : decode cL_law 334 = .ok (.aload_n 0, 1) := by decide +kernel
theorem dL_law_335 : decode cL_law 335 = .ok (.iload_n 3, 1) := by decide +kernel
theorem dL_law_336 : decode cL_law 336 = .ok (.iconst 1, 1) := by decide +kernel
theorem dL_law_337 : decode cL_law 337 = .ok (.iadd, 1) := by decide +kernel
theorem dL_law_338 : decode cL_law 338 = .ok (.iaload, 1) := by decide +kernel
theorem dL_law_339 : decode cL_law 339 = .ok (.aload_n 0, 1) := by decide +kernel
theorem dL_law_340 : decode cL_law 340 = .ok (.iload_n 3, 1) := by decide +kernel
theorem dL_law_341 : decode cL_law 341 = .ok (.iconst 2, 1) := by decide +kernel
theorem dL_law_342 : decode cL_law 342 = .ok (.iadd, 1) := by decide +kernel
theorem dL_law_343 : decode cL_law 343 = .ok (.iaload, 1) := by decide +kernel
theorem dL_law_344 : decode cL_law 344 = .ok (.invokevirtual 47, 3) := by decide +kernel
theorem dL_law_347 : decode cL_law 347 = .ok (.if_icmp .eq 591, 3) := by decide +kernel
theorem dL_law_350 : decode cL_law 350 = .ok (.iconst 0, 1) := by decide +kernel
theorem dL_law_351 : decode cL_law 351 = .ok (.ireturn, 1) := by decide +kernel
theorem dL_law_352 : decode cL_law 352 = .ok (.aload_n 1, 1) := by decide +kernel
theorem dL_law_353 : decode cL_law 353 = .ok (.aload_n 0, 1) := by decide +kernel
theorem dL_law_354 : decode cL_law 354 = .ok (.iload_n 3, 1) := by decide +kernel
theorem dL_law_355 : decode cL_law 355 = .ok (.iconst 1, 1) := by decide +kernel
theorem dL_law_356 : decode cL_law 356 = .ok (.iadd, 1) := by decide +kernel
theorem dL_law_357 : decode cL_law 357 = .ok (.iaload, 1) := by decide +kernel
theorem dL_law_358 : decode cL_law 358 = .ok (.invokevirtual 48, 3) := by decide +kernel
theorem dL_law_361 : decode cL_law 361 = .ok (.aload_n 2, 1) := by decide +kernel
theorem dL_law_362 : decode cL_law 362 = .ok (.aload_n 0, 1) := by decide +kernel
theorem dL_law_363 : decode cL_law 363 = .ok (.iload_n 3, 1) := by decide +kernel
theorem dL_law_364 : decode cL_law 364 = .ok (.iconst 1, 1) := by decide +kernel
theorem dL_law_365 : decode cL_law 365 = .ok (.iadd, 1) := by decide +kernel
theorem dL_law_366 : decode cL_law 366 = .ok (.iaload, 1) := by decide +kernel
theorem dL_law_367 : decode cL_law 367 = .ok (.invokevirtual 51, 3) := by decide +kernel
theorem dL_law_370 : decode cL_law 370 = .ok (.if_icmp .eq 568, 3) := by decide +kernel
theorem dL_law_373 : decode cL_law 373 = .ok (.iconst 0, 1) := by decide +kernel
theorem dL_law_374 : decode cL_law 374 = .ok (.ireturn, 1) := by decide +kernel
theorem dL_law_375 : decode cL_law 375 = .ok (.aload_n 1, 1) := by decide +kernel
theorem dL_law_376 : decode cL_law 376 = .ok (.aload_n 0, 1) := by decide +kernel
theorem dL_law_377 : decode cL_law 377 = .ok (.iload_n 3, 1) := by decide +kernel
theorem dL_law_378 : decode cL_law 378 = .ok (.iconst 1, 1) := by decide +kernel
theorem dL_law_379 : decode cL_law 379 = .ok (.iadd, 1) := by decide +kernel
theorem dL_law_380 : decode cL_law 380 = .ok (.iaload, 1) := by decide +kernel
theorem dL_law_381 : decode cL_law 381 = .ok (.invokevirtual 52, 3) := by decide +kernel
theorem dL_law_384 : decode cL_law 384 = .ok (.aload_n 2, 1) := by decide +kernel
theorem dL_law_385 : decode cL_law 385 = .ok (.aload_n 0, 1) := by decide +kernel
theorem dL_law_386 : decode cL_law 386 = .ok (.iload_n 3, 1) := by decide +kernel
theorem dL_law_387 : decode cL_law 387 = .ok (.iconst 1, 1) := by decide +kernel
theorem dL_law_388 : decode cL_law 388 = .ok (.iadd, 1) := by decide +kernel
theorem dL_law_389 : decode cL_law 389 = .ok (.iaload, 1) := by decide +kernel
theorem dL_law_390 : decode cL_law 390 = .ok (.invokevirtual 55, 3) := by decide +kernel
theorem dL_law_393 : decode cL_law 393 = .ok (.if_icmp .eq 545, 3) := by decide +kernel
theorem dL_law_396 : decode cL_law 396 = .ok (.iconst 0, 1) := by decide +kernel
theorem dL_law_397 : decode cL_law 397 = .ok (.ireturn, 1) := by decide +kernel
theorem dL_law_398 : decode cL_law 398 = .ok (.aload_n 1, 1) := by decide +kernel
theorem dL_law_399 : decode cL_law 399 = .ok (.aload_n 0, 1) := by decide +kernel
theorem dL_law_400 : decode cL_law 400 = .ok (.iload_n 3, 1) := by decide +kernel
theorem dL_law_401 : decode cL_law 401 = .ok (.iconst 1, 1) := by decide +kernel
theorem dL_law_402 : decode cL_law 402 = .ok (.iadd, 1) := by decide +kernel
theorem dL_law_403 : decode cL_law 403 = .ok (.iaload, 1) := by decide +kernel
theorem dL_law_404 : decode cL_law 404 = .ok (.aload_n 0, 1) := by decide +kernel
theorem dL_law_405 : decode cL_law 405 = .ok (.iload_n 3, 1) := by decide +kernel
theorem dL_law_406 : decode cL_law 406 = .ok (.iconst 2, 1) := by decide +kernel
theorem dL_law_407 : decode cL_law 407 = .ok (.iadd, 1) := by decide +kernel
theorem dL_law_408 : decode cL_law 408 = .ok (.iaload, 1) := by decide +kernel
theorem dL_law_409 : decode cL_law 409 = .ok (.invokevirtual 56, 3) := by decide +kernel
theorem dL_law_412 : decode cL_law 412 = .ok (.aload_n 2, 1) := by decide +kernel
theorem dL_law_413 : decode cL_law 413 = .ok (.aload_n 0, 1) := by decide +kernel
theorem dL_law_414 : decode cL_law 414 = .ok (.iload_n 3, 1) := by decide +kernel
theorem dL_law_415 : decode cL_law 415 = .ok (.iconst 1, 1) := by decide +kernel
theorem dL_law_416 : decode cL_law 416 = .ok (.iadd, 1) := by decide +kernel
theorem dL_law_417 : decode cL_law 417 = .ok (.iaload, 1) := by decide +kernel
theorem dL_law_418 : decode cL_law 418 = .ok (.aload_n 0, 1) := by decide +kernel
theorem dL_law_419 : decode cL_law 419 = .ok (.iload_n 3, 1) := by decide +kernel
theorem dL_law_420 : decode cL_law 420 = .ok (.iconst 2, 1) := by decide +kernel
theorem dL_law_421 : decode cL_law 421 = .ok (.iadd, 1) := by decide +kernel
theorem dL_law_422 : decode cL_law 422 = .ok (.iaload, 1) := by decide +kernel
theorem dL_law_423 : decode cL_law 423 = .ok (.invokevirtual 59, 3) := by decide +kernel
theorem dL_law_426 : decode cL_law 426 = .ok (.if_icmp .eq 512, 3) := by decide +kernel
theorem dL_law_429 : decode cL_law 429 = .ok (.iconst 0, 1) := by decide +kernel
theorem dL_law_430 : decode cL_law 430 = .ok (.ireturn, 1) := by decide +kernel
theorem dL_law_431 : decode cL_law 431 = .ok (.aload_n 1, 1) := by decide +kernel
theorem dL_law_432 : decode cL_law 432 = .ok (.aload_n 0, 1) := by decide +kernel
theorem dL_law_433 : decode cL_law 433 = .ok (.iload_n 3, 1) := by decide +kernel
theorem dL_law_434 : decode cL_law 434 = .ok (.iconst 1, 1) := by decide +kernel
theorem dL_law_435 : decode cL_law 435 = .ok (.iadd, 1) := by decide +kernel
theorem dL_law_436 : decode cL_law 436 = .ok (.iaload, 1) := by decide +kernel
theorem dL_law_437 : decode cL_law 437 = .ok (.invokevirtual 60, 3) := by decide +kernel
theorem dL_law_440 : decode cL_law 440 = .ok (.aload_n 2, 1) := by decide +kernel
theorem dL_law_441 : decode cL_law 441 = .ok (.aload_n 0, 1) := by decide +kernel
theorem dL_law_442 : decode cL_law 442 = .ok (.iload_n 3, 1) := by decide +kernel
theorem dL_law_443 : decode cL_law 443 = .ok (.iconst 1, 1) := by decide +kernel
theorem dL_law_444 : decode cL_law 444 = .ok (.iadd, 1) := by decide +kernel
theorem dL_law_445 : decode cL_law 445 = .ok (.iaload, 1) := by decide +kernel
theorem dL_law_446 : decode cL_law 446 = .ok (.invokevirtual 63, 3) := by decide +kernel
theorem dL_law_449 : decode cL_law 449 = .ok (.if_icmp .eq 489, 3) := by decide +kernel
theorem dL_law_452 : decode cL_law 452 = .ok (.iconst 0, 1) := by decide +kernel
theorem dL_law_453 : decode cL_law 453 = .ok (.ireturn, 1) := by decide +kernel
theorem dL_law_454 : decode cL_law 454 = .ok (.aload_n 1, 1) := by decide +kernel
theorem dL_law_455 : decode cL_law 455 = .ok (.aload_n 0, 1) := by decide +kernel
theorem dL_law_456 : decode cL_law 456 = .ok (.iload_n 3, 1) := by decide +kernel
theorem dL_law_457 : decode cL_law 457 = .ok (.iconst 1, 1) := by decide +kernel
theorem dL_law_458 : decode cL_law 458 = .ok (.iadd, 1) := by decide +kernel
theorem dL_law_459 : decode cL_law 459 = .ok (.iaload, 1) := by decide +kernel
theorem dL_law_460 : decode cL_law 460 = .ok (.aload_n 0, 1) := by decide +kernel
theorem dL_law_461 : decode cL_law 461 = .ok (.iload_n 3, 1) := by decide +kernel
theorem dL_law_462 : decode cL_law 462 = .ok (.iconst 2, 1) := by decide +kernel
theorem dL_law_463 : decode cL_law 463 = .ok (.iadd, 1) := by decide +kernel
theorem dL_law_464 : decode cL_law 464 = .ok (.iaload, 1) := by decide +kernel
theorem dL_law_465 : decode cL_law 465 = .ok (.invokevirtual 64, 3) := by decide +kernel
theorem dL_law_468 : decode cL_law 468 = .ok (.aload_n 2, 1) := by decide +kernel
theorem dL_law_469 : decode cL_law 469 = .ok (.aload_n 0, 1) := by decide +kernel
theorem dL_law_470 : decode cL_law 470 = .ok (.iload_n 3, 1) := by decide +kernel
theorem dL_law_471 : decode cL_law 471 = .ok (.iconst 1, 1) := by decide +kernel
theorem dL_law_472 : decode cL_law 472 = .ok (.iadd, 1) := by decide +kernel
theorem dL_law_473 : decode cL_law 473 = .ok (.iaload, 1) := by decide +kernel
theorem dL_law_474 : decode cL_law 474 = .ok (.aload_n 0, 1) := by decide +kernel
theorem dL_law_475 : decode cL_law 475 = .ok (.iload_n 3, 1) := by decide +kernel
theorem dL_law_476 : decode cL_law 476 = .ok (.iconst 2, 1) := by decide +kernel
theorem dL_law_477 : decode cL_law 477 = .ok (.iadd, 1) := by decide +kernel
theorem dL_law_478 : decode cL_law 478 = .ok (.iaload, 1) := by decide +kernel
theorem dL_law_479 : decode cL_law 479 = .ok (.invokevirtual 67, 3) := by decide +kernel
theorem dL_law_482 : decode cL_law 482 = .ok (.if_icmp .eq 456, 3) := by decide +kernel
theorem dL_law_485 : decode cL_law 485 = .ok (.iconst 0, 1) := by decide +kernel
theorem dL_law_486 : decode cL_law 486 = .ok (.ireturn, 1) := by decide +kernel
theorem dL_law_487 : decode cL_law 487 = .ok (.aload_n 1, 1) := by decide +kernel
theorem dL_law_488 : decode cL_law 488 = .ok (.aload_n 0, 1) := by decide +kernel
theorem dL_law_489 : decode cL_law 489 = .ok (.iload_n 3, 1) := by decide +kernel
theorem dL_law_490 : decode cL_law 490 = .ok (.iconst 1, 1) := by decide +kernel
theorem dL_law_491 : decode cL_law 491 = .ok (.iadd, 1) := by decide +kernel
theorem dL_law_492 : decode cL_law 492 = .ok (.iaload, 1) := by decide +kernel
theorem dL_law_493 : decode cL_law 493 = .ok (.invokevirtual 68, 3) := by decide +kernel
theorem dL_law_496 : decode cL_law 496 = .ok (.aload_n 2, 1) := by decide +kernel
theorem dL_law_497 : decode cL_law 497 = .ok (.aload_n 0, 1) := by decide +kernel
theorem dL_law_498 : decode cL_law 498 = .ok (.iload_n 3, 1) := by decide +kernel
theorem dL_law_499 : decode cL_law 499 = .ok (.iconst 1, 1) := by decide +kernel
theorem dL_law_500 : decode cL_law 500 = .ok (.iadd, 1) := by decide +kernel
theorem dL_law_501 : decode cL_law 501 = .ok (.iaload, 1) := by decide +kernel
theorem dL_law_502 : decode cL_law 502 = .ok (.invokevirtual 71, 3) := by decide +kernel
theorem dL_law_505 : decode cL_law 505 = .ok (.if_icmp .eq 433, 3) := by decide +kernel
theorem dL_law_508 : decode cL_law 508 = .ok (.iconst 0, 1) := by decide +kernel
theorem dL_law_509 : decode cL_law 509 = .ok (.ireturn, 1) := by decide +kernel
theorem dL_law_510 : decode cL_law 510 = .ok (.aload_n 1, 1) := by decide +kernel
theorem dL_law_511 : decode cL_law 511 = .ok (.aload_n 0, 1) := by decide +kernel
theorem dL_law_512 : decode cL_law 512 = .ok (.iload_n 3, 1) := by decide +kernel
theorem dL_law_513 : decode cL_law 513 = .ok (.iconst 1, 1) := by decide +kernel
theorem dL_law_514 : decode cL_law 514 = .ok (.iadd, 1) := by decide +kernel
theorem dL_law_515 : decode cL_law 515 = .ok (.iaload, 1) := by decide +kernel
theorem dL_law_516 : decode cL_law 516 = .ok (.aload_n 0, 1) := by decide +kernel
theorem dL_law_517 : decode cL_law 517 = .ok (.iload_n 3, 1) := by decide +kernel
theorem dL_law_518 : decode cL_law 518 = .ok (.iconst 2, 1) := by decide +kernel
theorem dL_law_519 : decode cL_law 519 = .ok (.iadd, 1) := by decide +kernel
theorem dL_law_520 : decode cL_law 520 = .ok (.iaload, 1) := by decide +kernel
theorem dL_law_521 : decode cL_law 521 = .ok (.aload_n 0, 1) := by decide +kernel
theorem dL_law_522 : decode cL_law 522 = .ok (.iload_n 3, 1) := by decide +kernel
theorem dL_law_523 : decode cL_law 523 = .ok (.iconst 3, 1) := by decide +kernel
theorem dL_law_524 : decode cL_law 524 = .ok (.iadd, 1) := by decide +kernel
theorem dL_law_525 : decode cL_law 525 = .ok (.iaload, 1) := by decide +kernel
theorem dL_law_526 : decode cL_law 526 = .ok (.invokevirtual 72, 3) := by decide +kernel
theorem dL_law_529 : decode cL_law 529 = .ok (.aload_n 2, 1) := by decide +kernel
theorem dL_law_530 : decode cL_law 530 = .ok (.aload_n 0, 1) := by decide +kernel
theorem dL_law_531 : decode cL_law 531 = .ok (.iload_n 3, 1) := by decide +kernel
theorem dL_law_532 : decode cL_law 532 = .ok (.iconst 1, 1) := by decide +kernel
theorem dL_law_533 : decode cL_law 533 = .ok (.iadd, 1) := by decide +kernel
theorem dL_law_534 : decode cL_law 534 = .ok (.iaload, 1) := by decide +kernel
theorem dL_law_535 : decode cL_law 535 = .ok (.aload_n 0, 1) := by decide +kernel
theorem dL_law_536 : decode cL_law 536 = .ok (.iload_n 3, 1) := by decide +kernel
theorem dL_law_537 : decode cL_law 537 = .ok (.iconst 2, 1) := by decide +kernel
theorem dL_law_538 : decode cL_law 538 = .ok (.iadd, 1) := by decide +kernel
theorem dL_law_539 : decode cL_law 539 = .ok (.iaload, 1) := by decide +kernel
theorem dL_law_540 : decode cL_law 540 = .ok (.aload_n 0, 1) := by decide +kernel
theorem dL_law_541 : decode cL_law 541 = .ok (.iload_n 3, 1) := by decide +kernel
theorem dL_law_542 : decode cL_law 542 = .ok (.iconst 3, 1) := by decide +kernel
theorem dL_law_543 : decode cL_law 543 = .ok (.iadd, 1) := by decide +kernel
theorem dL_law_544 : decode cL_law 544 = .ok (.iaload, 1) := by decide +kernel
theorem dL_law_545 : decode cL_law 545 = .ok (.invokevirtual 76, 3) := by decide +kernel
theorem dL_law_548 : decode cL_law 548 = .ok (.if_icmp .eq 390, 3) := by decide +kernel
theorem dL_law_551 : decode cL_law 551 = .ok (.iconst 0, 1) := by decide +kernel
theorem dL_law_552 : decode cL_law 552 = .ok (.ireturn, 1) := by decide +kernel
theorem dL_law_553 : decode cL_law 553 = .ok (.aload_n 1, 1) := by decide +kernel
theorem dL_law_554 : decode cL_law 554 = .ok (.aload_n 0, 1) := by decide +kernel
theorem dL_law_555 : decode cL_law 555 = .ok (.iload_n 3, 1) := by decide +kernel
theorem dL_law_556 : decode cL_law 556 = .ok (.iconst 1, 1) := by decide +kernel
theorem dL_law_557 : decode cL_law 557 = .ok (.iadd, 1) := by decide +kernel
theorem dL_law_558 : decode cL_law 558 = .ok (.iaload, 1) := by decide +kernel
theorem dL_law_559 : decode cL_law 559 = .ok (.invokevirtual 77, 3) := by decide +kernel
theorem dL_law_562 : decode cL_law 562 = .ok (.aload_n 2, 1) := by decide +kernel
theorem dL_law_563 : decode cL_law 563 = .ok (.aload_n 0, 1) := by decide +kernel
theorem dL_law_564 : decode cL_law 564 = .ok (.iload_n 3, 1) := by decide +kernel
theorem dL_law_565 : decode cL_law 565 = .ok (.iconst 1, 1) := by decide +kernel
theorem dL_law_566 : decode cL_law 566 = .ok (.iadd, 1) := by decide +kernel
theorem dL_law_567 : decode cL_law 567 = .ok (.iaload, 1) := by decide +kernel
theorem dL_law_568 : decode cL_law 568 = .ok (.invokevirtual 80, 3) := by decide +kernel
theorem dL_law_571 : decode cL_law 571 = .ok (.if_icmp .eq 367, 3) := by decide +kernel
theorem dL_law_574 : decode cL_law 574 = .ok (.iconst 0, 1) := by decide +kernel
theorem dL_law_575 : decode cL_law 575 = .ok (.ireturn, 1) := by decide +kernel
theorem dL_law_576 : decode cL_law 576 = .ok (.aload_n 1, 1) := by decide +kernel
theorem dL_law_577 : decode cL_law 577 = .ok (.invokevirtual 81, 3) := by decide +kernel
theorem dL_law_580 : decode cL_law 580 = .ok (.aload_n 2, 1) := by decide +kernel
theorem dL_law_581 : decode cL_law 581 = .ok (.invokevirtual 84, 3) := by decide +kernel
theorem dL_law_584 : decode cL_law 584 = .ok (.if_icmp .eq 354, 3) := by decide +kernel
theorem dL_law_587 : decode cL_law 587 = .ok (.iconst 0, 1) := by decide +kernel
theorem dL_law_588 : decode cL_law 588 = .ok (.ireturn, 1) := by decide +kernel
theorem dL_law_589 : decode cL_law 589 = .ok (.aload_n 1, 1) := by decide +kernel
theorem dL_law_590 : decode cL_law 590 = .ok (.aload_n 0, 1) := by decide +kernel
theorem dL_law_591 : decode cL_law 591 = .ok (.iload_n 3, 1) := by decide +kernel
theorem dL_law_592 : decode cL_law 592 = .ok (.iconst 1, 1) := by decide +kernel
theorem dL_law_593 : decode cL_law 593 = .ok (.iadd, 1) := by decide +kernel
theorem dL_law_594 : decode cL_law 594 = .ok (.iaload, 1) := by decide +kernel
theorem dL_law_595 : decode cL_law 595 = .ok (.aload_n 0, 1) := by decide +kernel
theorem dL_law_596 : decode cL_law 596 = .ok (.iload_n 3, 1) := by decide +kernel
theorem dL_law_597 : decode cL_law 597 = .ok (.iconst 2, 1) := by decide +kernel
theorem dL_law_598 : decode cL_law 598 = .ok (.iadd, 1) := by decide +kernel
theorem dL_law_599 : decode cL_law 599 = .ok (.iaload, 1) := by decide +kernel
theorem dL_law_600 : decode cL_law 600 = .ok (.invokevirtual 85, 3) := by decide +kernel
theorem dL_law_603 : decode cL_law 603 = .ok (.aload_n 2, 1) := by decide +kernel
theorem dL_law_604 : decode cL_law 604 = .ok (.aload_n 0, 1) := by decide +kernel
theorem dL_law_605 : decode cL_law 605 = .ok (.iload_n 3, 1) := by decide +kernel
theorem dL_law_606 : decode cL_law 606 = .ok (.iconst 1, 1) := by decide +kernel
theorem dL_law_607 : decode cL_law 607 = .ok (.iadd, 1) := by decide +kernel
theorem dL_law_608 : decode cL_law 608 = .ok (.iaload, 1) := by decide +kernel
theorem dL_law_609 : decode cL_law 609 = .ok (.aload_n 0, 1) := by decide +kernel
theorem dL_law_610 : decode cL_law 610 = .ok (.iload_n 3, 1) := by decide +kernel
theorem dL_law_611 : decode cL_law 611 = .ok (.iconst 2, 1) := by decide +kernel
theorem dL_law_612 : decode cL_law 612 = .ok (.iadd, 1) := by decide +kernel
theorem dL_law_613 : decode cL_law 613 = .ok (.iaload, 1) := by decide +kernel
theorem dL_law_614 : decode cL_law 614 = .ok (.invokevirtual 88, 3) := by decide +kernel
theorem dL_law_617 : decode cL_law 617 = .ok (.if_icmp .eq 321, 3) := by decide +kernel
theorem dL_law_620 : decode cL_law 620 = .ok (.iconst 0, 1) := by decide +kernel
theorem dL_law_621 : decode cL_law 621 = .ok (.ireturn, 1) := by decide +kernel
theorem dL_law_622 : decode cL_law 622 = .ok (.aload_n 1, 1) := by decide +kernel
theorem dL_law_623 : decode cL_law 623 = .ok (.aload_n 0, 1) := by decide +kernel
theorem dL_law_624 : decode cL_law 624 = .ok (.iload_n 3, 1) := by decide +kernel
theorem dL_law_625 : decode cL_law 625 = .ok (.iconst 1, 1) := by decide +kernel
theorem dL_law_626 : decode cL_law 626 = .ok (.iadd, 1) := by decide +kernel
theorem dL_law_627 : decode cL_law 627 = .ok (.iaload, 1) := by decide +kernel
theorem dL_law_628 : decode cL_law 628 = .ok (.aload_n 0, 1) := by decide +kernel
theorem dL_law_629 : decode cL_law 629 = .ok (.iload_n 3, 1) := by decide +kernel
theorem dL_law_630 : decode cL_law 630 = .ok (.iconst 2, 1) := by decide +kernel
theorem dL_law_631 : decode cL_law 631 = .ok (.iadd, 1) := by decide +kernel
theorem dL_law_632 : decode cL_law 632 = .ok (.iaload, 1) := by decide +kernel
theorem dL_law_633 : decode cL_law 633 = .ok (.invokevirtual 89, 3) := by decide +kernel
theorem dL_law_636 : decode cL_law 636 = .ok (.aload_n 2, 1) := by decide +kernel
theorem dL_law_637 : decode cL_law 637 = .ok (.aload_n 0, 1) := by decide +kernel
theorem dL_law_638 : decode cL_law 638 = .ok (.iload_n 3, 1) := by decide +kernel
theorem dL_law_639 : decode cL_law 639 = .ok (.iconst 1, 1) := by decide +kernel
theorem dL_law_640 : decode cL_law 640 = .ok (.iadd, 1) := by decide +kernel
theorem dL_law_641 : decode cL_law 641 = .ok (.iaload, 1) := by decide +kernel
theorem dL_law_642 : decode cL_law 642 = .ok (.aload_n 0, 1) := by decide +kernel
theorem dL_law_643 : decode cL_law 643 = .ok (.iload_n 3, 1) := by decide +kernel
theorem dL_law_644 : decode cL_law 644 = .ok (.iconst 2, 1) := by decide +kernel
theorem dL_law_645 : decode cL_law 645 = .ok (.iadd, 1) := by decide +kernel
theorem dL_law_646 : decode cL_law 646 = .ok (.iaload, 1) := by decide +kernel
theorem dL_law_647 : decode cL_law 647 = .ok (.invokevirtual 92, 3) := by decide +kernel
theorem dL_law_650 : decode cL_law 650 = .ok (.if_icmp .eq 288, 3) := by decide +kernel
theorem dL_law_653 : decode cL_law 653 = .ok (.iconst 0, 1) := by decide +kernel
theorem dL_law_654 : decode cL_law 654 = .ok (.ireturn, 1) := by decide +kernel
theorem dL_law_655 : decode cL_law 655 = .ok (.aload_n 1, 1) := by decide +kernel
theorem dL_law_656 : decode cL_law 656 = .ok (.aload_n 0, 1) := by decide +kernel
theorem dL_law_657 : decode cL_law 657 = .ok (.iload_n 3, 1) := by decide +kernel
theorem dL_law_658 : decode cL_law 658 = .ok (.iconst 1, 1) := by decide +kernel
theorem dL_law_659 : decode cL_law 659 = .ok (.iadd, 1) := by decide +kernel
theorem dL_law_660 : decode cL_law 660 = .ok (.iaload, 1) := by decide +kernel
theorem dL_law_661 : decode cL_law 661 = .ok (.aload_n 0, 1) := by decide +kernel
theorem dL_law_662 : decode cL_law 662 = .ok (.iload_n 3, 1) := by decide +kernel
theorem dL_law_663 : decode cL_law 663 = .ok (.iconst 2, 1) := by decide +kernel
theorem dL_law_664 : decode cL_law 664 = .ok (.iadd, 1) := by decide +kernel
theorem dL_law_665 : decode cL_law 665 = .ok (.iaload, 1) := by decide +kernel
theorem dL_law_666 : decode cL_law 666 = .ok (.invokevirtual 93, 3) := by decide +kernel
theorem dL_law_669 : decode cL_law 669 = .ok (.aload_n 2, 1) := by decide +kernel
theorem dL_law_670 : decode cL_law 670 = .ok (.aload_n 0, 1) := by decide +kernel
theorem dL_law_671 : decode cL_law 671 = .ok (.iload_n 3, 1) := by decide +kernel
theorem dL_law_672 : decode cL_law 672 = .ok (.iconst 1, 1) := by decide +kernel
theorem dL_law_673 : decode cL_law 673 = .ok (.iadd, 1) := by decide +kernel
theorem dL_law_674 : decode cL_law 674 = .ok (.iaload, 1) := by decide +kernel
theorem dL_law_675 : decode cL_law 675 = .ok (.aload_n 0, 1) := by decide +kernel
theorem dL_law_676 : decode cL_law 676 = .ok (.iload_n 3, 1) := by decide +kernel
theorem dL_law_677 : decode cL_law 677 = .ok (.iconst 2, 1) := by decide +kernel
theorem dL_law_678 : decode cL_law 678 = .ok (.iadd, 1) := by decide +kernel
theorem dL_law_679 : decode cL_law 679 = .ok (.iaload, 1) := by decide +kernel
theorem dL_law_680 : decode cL_law 680 = .ok (.invokevirtual 96, 3) := by decide +kernel
theorem dL_law_683 : decode cL_law 683 = .ok (.if_icmp .eq 255, 3) := by decide +kernel
theorem dL_law_686 : decode cL_law 686 = .ok (.iconst 0, 1) := by decide +kernel
theorem dL_law_687 : decode cL_law 687 = .ok (.ireturn, 1) := by decide +kernel
theorem dL_law_688 : decode cL_law 688 = .ok (.aload_n 1, 1) := by decide +kernel
theorem dL_law_689 : decode cL_law 689 = .ok (.aload_n 0, 1) := by decide +kernel
theorem dL_law_690 : decode cL_law 690 = .ok (.iload_n 3, 1) := by decide +kernel
theorem dL_law_691 : decode cL_law 691 = .ok (.iconst 1, 1) := by decide +kernel
theorem dL_law_692 : decode cL_law 692 = .ok (.iadd, 1) := by decide +kernel
theorem dL_law_693 : decode cL_law 693 = .ok (.iaload, 1) := by decide +kernel
theorem dL_law_694 : decode cL_law 694 = .ok (.aload_n 0, 1) := by decide +kernel
theorem dL_law_695 : decode cL_law 695 = .ok (.iload_n 3, 1) := by decide +kernel
theorem dL_law_696 : decode cL_law 696 = .ok (.iconst 2, 1) := by decide +kernel
theorem dL_law_697 : decode cL_law 697 = .ok (.iadd, 1) := by decide +kernel
theorem dL_law_698 : decode cL_law 698 = .ok (.iaload, 1) := by decide +kernel
theorem dL_law_699 : decode cL_law 699 = .ok (.invokevirtual 97, 3) := by decide +kernel
theorem dL_law_702 : decode cL_law 702 = .ok (.aload_n 2, 1) := by decide +kernel
theorem dL_law_703 : decode cL_law 703 = .ok (.aload_n 0, 1) := by decide +kernel
theorem dL_law_704 : decode cL_law 704 = .ok (.iload_n 3, 1) := by decide +kernel
theorem dL_law_705 : decode cL_law 705 = .ok (.iconst 1, 1) := by decide +kernel
theorem dL_law_706 : decode cL_law 706 = .ok (.iadd, 1) := by decide +kernel
theorem dL_law_707 : decode cL_law 707 = .ok (.iaload, 1) := by decide +kernel
theorem dL_law_708 : decode cL_law 708 = .ok (.aload_n 0, 1) := by decide +kernel
theorem dL_law_709 : decode cL_law 709 = .ok (.iload_n 3, 1) := by decide +kernel
theorem dL_law_710 : decode cL_law 710 = .ok (.iconst 2, 1) := by decide +kernel
theorem dL_law_711 : decode cL_law 711 = .ok (.iadd, 1) := by decide +kernel
theorem dL_law_712 : decode cL_law 712 = .ok (.iaload, 1) := by decide +kernel
theorem dL_law_713 : decode cL_law 713 = .ok (.invokevirtual 100, 3) := by decide +kernel
theorem dL_law_716 : decode cL_law 716 = .ok (.if_icmp .eq 222, 3) := by decide +kernel
theorem dL_law_719 : decode cL_law 719 = .ok (.iconst 0, 1) := by decide +kernel
theorem dL_law_720 : decode cL_law 720 = .ok (.ireturn, 1) := by decide +kernel
theorem dL_law_721 : decode cL_law 721 = .ok (.aload_n 1, 1) := by decide +kernel
theorem dL_law_722 : decode cL_law 722 = .ok (.aload_n 0, 1) := by decide +kernel
theorem dL_law_723 : decode cL_law 723 = .ok (.iload_n 3, 1) := by decide +kernel
theorem dL_law_724 : decode cL_law 724 = .ok (.iconst 1, 1) := by decide +kernel
theorem dL_law_725 : decode cL_law 725 = .ok (.iadd, 1) := by decide +kernel
theorem dL_law_726 : decode cL_law 726 = .ok (.iaload, 1) := by decide +kernel
theorem dL_law_727 : decode cL_law 727 = .ok (.aload_n 0, 1) := by decide +kernel
theorem dL_law_728 : decode cL_law 728 = .ok (.iload_n 3, 1) := by decide +kernel
theorem dL_law_729 : decode cL_law 729 = .ok (.iconst 2, 1) := by decide +kernel
theorem dL_law_730 : decode cL_law 730 = .ok (.iadd, 1) := by decide +kernel
theorem dL_law_731 : decode cL_law 731 = .ok (.iaload, 1) := by decide +kernel
theorem dL_law_732 : decode cL_law 732 = .ok (.invokevirtual 101, 3) := by decide +kernel
theorem dL_law_735 : decode cL_law 735 = .ok (.aload_n 2, 1) := by decide +kernel
theorem dL_law_736 : decode cL_law 736 = .ok (.aload_n 0, 1) := by decide +kernel
theorem dL_law_737 : decode cL_law 737 = .ok (.iload_n 3, 1) := by decide +kernel
theorem dL_law_738 : decode cL_law 738 = .ok (.iconst 1, 1) := by decide +kernel
theorem dL_law_739 : decode cL_law 739 = .ok (.iadd, 1) := by decide +kernel
theorem dL_law_740 : decode cL_law 740 = .ok (.iaload, 1) := by decide +kernel
theorem dL_law_741 : decode cL_law 741 = .ok (.aload_n 0, 1) := by decide +kernel
theorem dL_law_742 : decode cL_law 742 = .ok (.iload_n 3, 1) := by decide +kernel
theorem dL_law_743 : decode cL_law 743 = .ok (.iconst 2, 1) := by decide +kernel
theorem dL_law_744 : decode cL_law 744 = .ok (.iadd, 1) := by decide +kernel
theorem dL_law_745 : decode cL_law 745 = .ok (.iaload, 1) := by decide +kernel
theorem dL_law_746 : decode cL_law 746 = .ok (.invokevirtual 104, 3) := by decide +kernel
theorem dL_law_749 : decode cL_law 749 = .ok (.if_icmp .eq 189, 3) := by decide +kernel
theorem dL_law_752 : decode cL_law 752 = .ok (.iconst 0, 1) := by decide +kernel
theorem dL_law_753 : decode cL_law 753 = .ok (.ireturn, 1) := by decide +kernel
theorem dL_law_754 : decode cL_law 754 = .ok (.aload_n 1, 1) := by decide +kernel
theorem dL_law_755 : decode cL_law 755 = .ok (.aload_n 0, 1) := by decide +kernel
theorem dL_law_756 : decode cL_law 756 = .ok (.iload_n 3, 1) := by decide +kernel
theorem dL_law_757 : decode cL_law 757 = .ok (.iconst 1, 1) := by decide +kernel
theorem dL_law_758 : decode cL_law 758 = .ok (.iadd, 1) := by decide +kernel
theorem dL_law_759 : decode cL_law 759 = .ok (.iaload, 1) := by decide +kernel
theorem dL_law_760 : decode cL_law 760 = .ok (.invokevirtual 105, 3) := by decide +kernel
theorem dL_law_763 : decode cL_law 763 = .ok (.aload_n 2, 1) := by decide +kernel
theorem dL_law_764 : decode cL_law 764 = .ok (.aload_n 0, 1) := by decide +kernel
theorem dL_law_765 : decode cL_law 765 = .ok (.iload_n 3, 1) := by decide +kernel
theorem dL_law_766 : decode cL_law 766 = .ok (.iconst 1, 1) := by decide +kernel
theorem dL_law_767 : decode cL_law 767 = .ok (.iadd, 1) := by decide +kernel
theorem dL_law_768 : decode cL_law 768 = .ok (.iaload, 1) := by decide +kernel
theorem dL_law_769 : decode cL_law 769 = .ok (.invokevirtual 108, 3) := by decide +kernel
theorem dL_law_772 : decode cL_law 772 = .ok (.if_icmp .eq 166, 3) := by decide +kernel
theorem dL_law_775 : decode cL_law 775 = .ok (.iconst 0, 1) := by decide +kernel
theorem dL_law_776 : decode cL_law 776 = .ok (.ireturn, 1) := by decide +kernel
theorem dL_law_777 : decode cL_law 777 = .ok (.aload_n 1, 1) := by decide +kernel
theorem dL_law_778 : decode cL_law 778 = .ok (.aload_n 0, 1) := by decide +kernel
theorem dL_law_779 : decode cL_law 779 = .ok (.iload_n 3, 1) := by decide +kernel
theorem dL_law_780 : decode cL_law 780 = .ok (.iconst 1, 1) := by decide +kernel
theorem dL_law_781 : decode cL_law 781 = .ok (.iadd, 1) := by decide +kernel
theorem dL_law_782 : decode cL_law 782 = .ok (.iaload, 1) := by decide +kernel
theorem dL_law_783 : decode cL_law 783 = .ok (.invokevirtual 109, 3) := by decide +kernel
theorem dL_law_786 : decode cL_law 786 = .ok (.aload_n 2, 1) := by decide +kernel
theorem dL_law_787 : decode cL_law 787 = .ok (.aload_n 0, 1) := by decide +kernel
theorem dL_law_788 : decode cL_law 788 = .ok (.iload_n 3, 1) := by decide +kernel
theorem dL_law_789 : decode cL_law 789 = .ok (.iconst 1, 1) := by decide +kernel
theorem dL_law_790 : decode cL_law 790 = .ok (.iadd, 1) := by decide +kernel
theorem dL_law_791 : decode cL_law 791 = .ok (.iaload, 1) := by decide +kernel
theorem dL_law_792 : decode cL_law 792 = .ok (.invokevirtual 112, 3) := by decide +kernel
theorem dL_law_795 : decode cL_law 795 = .ok (.if_icmp .eq 143, 3) := by decide +kernel
theorem dL_law_798 : decode cL_law 798 = .ok (.iconst 0, 1) := by decide +kernel
theorem dL_law_799 : decode cL_law 799 = .ok (.ireturn, 1) := by decide +kernel
theorem dL_law_800 : decode cL_law 800 = .ok (.aload_n 1, 1) := by decide +kernel
theorem dL_law_801 : decode cL_law 801 = .ok (.aload_n 0, 1) := by decide +kernel
theorem dL_law_802 : decode cL_law 802 = .ok (.iload_n 3, 1) := by decide +kernel
theorem dL_law_803 : decode cL_law 803 = .ok (.iconst 1, 1) := by decide +kernel
theorem dL_law_804 : decode cL_law 804 = .ok (.iadd, 1) := by decide +kernel
theorem dL_law_805 : decode cL_law 805 = .ok (.iaload, 1) := by decide +kernel
theorem dL_law_806 : decode cL_law 806 = .ok (.invokevirtual 113, 3) := by decide +kernel
theorem dL_law_809 : decode cL_law 809 = .ok (.aload_n 2, 1) := by decide +kernel
theorem dL_law_810 : decode cL_law 810 = .ok (.aload_n 0, 1) := by decide +kernel
theorem dL_law_811 : decode cL_law 811 = .ok (.iload_n 3, 1) := by decide +kernel
theorem dL_law_812 : decode cL_law 812 = .ok (.iconst 1, 1) := by decide +kernel
theorem dL_law_813 : decode cL_law 813 = .ok (.iadd, 1) := by decide +kernel
theorem dL_law_814 : decode cL_law 814 = .ok (.iaload, 1) := by decide +kernel
theorem dL_law_815 : decode cL_law 815 = .ok (.invokevirtual 116, 3) := by decide +kernel
theorem dL_law_818 : decode cL_law 818 = .ok (.if_icmp .eq 120, 3) := by decide +kernel
theorem dL_law_821 : decode cL_law 821 = .ok (.iconst 0, 1) := by decide +kernel
theorem dL_law_822 : decode cL_law 822 = .ok (.ireturn, 1) := by decide +kernel
theorem dL_law_823 : decode cL_law 823 = .ok (.aload_n 1, 1) := by decide +kernel
theorem dL_law_824 : decode cL_law 824 = .ok (.aload_n 0, 1) := by decide +kernel
theorem dL_law_825 : decode cL_law 825 = .ok (.iload_n 3, 1) := by decide +kernel
theorem dL_law_826 : decode cL_law 826 = .ok (.iconst 1, 1) := by decide +kernel
theorem dL_law_827 : decode cL_law 827 = .ok (.iadd, 1) := by decide +kernel
theorem dL_law_828 : decode cL_law 828 = .ok (.iaload, 1) := by decide +kernel
theorem dL_law_829 : decode cL_law 829 = .ok (.invokevirtual 117, 3) := by decide +kernel
theorem dL_law_832 : decode cL_law 832 = .ok (.aload_n 2, 1) := by decide +kernel
theorem dL_law_833 : decode cL_law 833 = .ok (.aload_n 0, 1) := by decide +kernel
theorem dL_law_834 : decode cL_law 834 = .ok (.iload_n 3, 1) := by decide +kernel
theorem dL_law_835 : decode cL_law 835 = .ok (.iconst 1, 1) := by decide +kernel
theorem dL_law_836 : decode cL_law 836 = .ok (.iadd, 1) := by decide +kernel
theorem dL_law_837 : decode cL_law 837 = .ok (.iaload, 1) := by decide +kernel
theorem dL_law_838 : decode cL_law 838 = .ok (.invokevirtual 120, 3) := by decide +kernel
theorem dL_law_841 : decode cL_law 841 = .ok (.if_icmp .eq 97, 3) := by decide +kernel
theorem dL_law_844 : decode cL_law 844 = .ok (.iconst 0, 1) := by decide +kernel
theorem dL_law_845 : decode cL_law 845 = .ok (.ireturn, 1) := by decide +kernel
theorem dL_law_846 : decode cL_law 846 = .ok (.aload_n 1, 1) := by decide +kernel
theorem dL_law_847 : decode cL_law 847 = .ok (.aload_n 0, 1) := by decide +kernel
theorem dL_law_848 : decode cL_law 848 = .ok (.iload_n 3, 1) := by decide +kernel
theorem dL_law_849 : decode cL_law 849 = .ok (.iconst 1, 1) := by decide +kernel
theorem dL_law_850 : decode cL_law 850 = .ok (.iadd, 1) := by decide +kernel
theorem dL_law_851 : decode cL_law 851 = .ok (.iaload, 1) := by decide +kernel
theorem dL_law_852 : decode cL_law 852 = .ok (.aload_n 0, 1) := by decide +kernel
theorem dL_law_853 : decode cL_law 853 = .ok (.iload_n 3, 1) := by decide +kernel
theorem dL_law_854 : decode cL_law 854 = .ok (.iconst 2, 1) := by decide +kernel
theorem dL_law_855 : decode cL_law 855 = .ok (.iadd, 1) := by decide +kernel
theorem dL_law_856 : decode cL_law 856 = .ok (.iaload, 1) := by decide +kernel
theorem dL_law_857 : decode cL_law 857 = .ok (.aload_n 0, 1) := by decide +kernel
theorem dL_law_858 : decode cL_law 858 = .ok (.iload_n 3, 1) := by decide +kernel
theorem dL_law_859 : decode cL_law 859 = .ok (.iconst 3, 1) := by decide +kernel
theorem dL_law_860 : decode cL_law 860 = .ok (.iadd, 1) := by decide +kernel
theorem dL_law_861 : decode cL_law 861 = .ok (.iaload, 1) := by decide +kernel
theorem dL_law_862 : decode cL_law 862 = .ok (.invokevirtual 121, 3) := by decide +kernel
theorem dL_law_865 : decode cL_law 865 = .ok (.aload_n 2, 1) := by decide +kernel
theorem dL_law_866 : decode cL_law 866 = .ok (.aload_n 0, 1) := by decide +kernel
theorem dL_law_867 : decode cL_law 867 = .ok (.iload_n 3, 1) := by decide +kernel
theorem dL_law_868 : decode cL_law 868 = .ok (.iconst 1, 1) := by decide +kernel
theorem dL_law_869 : decode cL_law 869 = .ok (.iadd, 1) := by decide +kernel
theorem dL_law_870 : decode cL_law 870 = .ok (.iaload, 1) := by decide +kernel
theorem dL_law_871 : decode cL_law 871 = .ok (.aload_n 0, 1) := by decide +kernel
theorem dL_law_872 : decode cL_law 872 = .ok (.iload_n 3, 1) := by decide +kernel
theorem dL_law_873 : decode cL_law 873 = .ok (.iconst 2, 1) := by decide +kernel
theorem dL_law_874 : decode cL_law 874 = .ok (.iadd, 1) := by decide +kernel
theorem dL_law_875 : decode cL_law 875 = .ok (.iaload, 1) := by decide +kernel
theorem dL_law_876 : decode cL_law 876 = .ok (.aload_n 0, 1) := by decide +kernel
theorem dL_law_877 : decode cL_law 877 = .ok (.iload_n 3, 1) := by decide +kernel
theorem dL_law_878 : decode cL_law 878 = .ok (.iconst 3, 1) := by decide +kernel
theorem dL_law_879 : decode cL_law 879 = .ok (.iadd, 1) := by decide +kernel
theorem dL_law_880 : decode cL_law 880 = .ok (.iaload, 1) := by decide +kernel
theorem dL_law_881 : decode cL_law 881 = .ok (.invokevirtual 124, 3) := by decide +kernel
theorem dL_law_884 : decode cL_law 884 = .ok (.if_icmp .eq 54, 3) := by decide +kernel
theorem dL_law_887 : decode cL_law 887 = .ok (.iconst 0, 1) := by decide +kernel
theorem dL_law_888 : decode cL_law 888 = .ok (.ireturn, 1) := by decide +kernel
theorem dL_law_889 : decode cL_law 889 = .ok (.aload_n 1, 1) := by decide +kernel
theorem dL_law_890 : decode cL_law 890 = .ok (.invokevirtual 125, 3) := by decide +kernel
theorem dL_law_893 : decode cL_law 893 = .ok (.aload_n 2, 1) := by decide +kernel
theorem dL_law_894 : decode cL_law 894 = .ok (.invokevirtual 128, 3) := by decide +kernel
theorem dL_law_897 : decode cL_law 897 = .ok (.if_icmp .eq 41, 3) := by decide +kernel
theorem dL_law_900 : decode cL_law 900 = .ok (.iconst 0, 1) := by decide +kernel
theorem dL_law_901 : decode cL_law 901 = .ok (.ireturn, 1) := by decide +kernel
theorem dL_law_902 : decode cL_law 902 = .ok (.aload_n 1, 1) := by decide +kernel
theorem dL_law_903 : decode cL_law 903 = .ok (.invokevirtual 129, 3) := by decide +kernel
theorem dL_law_906 : decode cL_law 906 = .ok (.aload_n 2, 1) := by decide +kernel
theorem dL_law_907 : decode cL_law 907 = .ok (.invokevirtual 132, 3) := by decide +kernel
theorem dL_law_910 : decode cL_law 910 = .ok (.if_icmp .eq 28, 3) := by decide +kernel
theorem dL_law_913 : decode cL_law 913 = .ok (.iconst 0, 1) := by decide +kernel
theorem dL_law_914 : decode cL_law 914 = .ok (.ireturn, 1) := by decide +kernel
theorem dL_law_915 : decode cL_law 915 = .ok (.aload_n 1, 1) := by decide +kernel
theorem dL_law_916 : decode cL_law 916 = .ok (.aload_n 0, 1) := by decide +kernel
theorem dL_law_917 : decode cL_law 917 = .ok (.iload_n 3, 1) := by decide +kernel
theorem dL_law_918 : decode cL_law 918 = .ok (.iconst 1, 1) := by decide +kernel
theorem dL_law_919 : decode cL_law 919 = .ok (.iadd, 1) := by decide +kernel
theorem dL_law_920 : decode cL_law 920 = .ok (.iaload, 1) := by decide +kernel
theorem dL_law_921 : decode cL_law 921 = .ok (.invokevirtual 133, 3) := by decide +kernel
theorem dL_law_924 : decode cL_law 924 = .ok (.aload_n 2, 1) := by decide +kernel
theorem dL_law_925 : decode cL_law 925 = .ok (.aload_n 0, 1) := by decide +kernel
theorem dL_law_926 : decode cL_law 926 = .ok (.iload_n 3, 1) := by decide +kernel
theorem dL_law_927 : decode cL_law 927 = .ok (.iconst 1, 1) := by decide +kernel
theorem dL_law_928 : decode cL_law 928 = .ok (.iadd, 1) := by decide +kernel
theorem dL_law_929 : decode cL_law 929 = .ok (.iaload, 1) := by decide +kernel
theorem dL_law_930 : decode cL_law 930 = .ok (.invokevirtual 136, 3) := by decide +kernel
theorem dL_law_933 : decode cL_law 933 = .ok (.if_icmp .eq 5, 3) := by decide +kernel
theorem dL_law_936 : decode cL_law 936 = .ok (.iconst 0, 1) := by decide +kernel
theorem dL_law_937 : decode cL_law 937 = .ok (.ireturn, 1) := by decide +kernel
theorem dL_law_938 : decode cL_law 938 = .ok (.iinc 3 4, 3) := by decide +kernel
theorem dL_law_941 : decode cL_law 941 = .ok (.goto (-923), 3) := by decide +kernel
theorem dL_law_944 : decode cL_law 944 = .ok (.iconst 1, 1) := by decide +kernel
theorem dL_law_945 : decode cL_law 945 = .ok (.ireturn, 1) := by decide +kernel
end
section
theorem dJ9_max_7cf53_0 : decode cJ9_max_7cf53 0 = .ok (.iload_n 0, 1) := by decide +kernel
theorem dJ9_max_7cf53_1 : decode cJ9_max_7cf53 1 = .ok (.iload_n 1, 1) := by decide +kernel
theorem dJ9_max_7cf53_2 : decode cJ9_max_7cf53 2 = .ok (.if_icmp .lt 7, 3) := by decide +kernel
theorem dJ9_max_7cf53_5 : decode cJ9_max_7cf53 5 = .ok (.iload_n 0, 1) := by decide +kernel
theorem dJ9_max_7cf53_6 : decode cJ9_max_7cf53 6 = .ok (.goto 4, 3) := by decide +kernel
theorem dJ9_max_7cf53_9 : decode cJ9_max_7cf53 9 = .ok (.iload_n 1, 1) := by decide +kernel
theorem dJ9_max_7cf53_10 : decode cJ9_max_7cf53 10 = .ok (.ireturn, 1) := by decide +kernel
theorem dJ0_length_8abf5_0 : decode cJ0_length_8abf5 0 = .ok (.aload_n 0, 1) := by decide +kernel
theorem dJ0_length_8abf5_1 : decode cJ0_length_8abf5 1 = .ok (.getfield 9, 3) := by decide +kernel
theorem dJ0_length_8abf5_4 : decode cJ0_length_8abf5 4 = .ok (.arraylength, 1) := by decide +kernel
theorem dJ0_length_8abf5_5 : decode cJ0_length_8abf5 5 = .ok (.aload_n 0, 1) := by decide +kernel
theorem dJ0_length_8abf5_6 : decode cJ0_length_8abf5 6 = .ok (.invokevirtual 335, 3) := by decide +kernel
theorem dJ0_length_8abf5_9 : decode cJ0_length_8abf5 9 = .ok (.ishr, 1) := by decide +kernel
theorem dJ0_length_8abf5_10 : decode cJ0_length_8abf5 10 = .ok (.ireturn, 1) := by decide +kernel
theorem dJ0_charAt_5068e_0 : decode cJ0_charAt_5068e 0 = .ok (.aload_n 0, 1) := by decide +kernel
theorem dJ0_charAt_5068e_1 : decode cJ0_charAt_5068e 1 = .ok (.invokevirtual 492, 3) := by decide +kernel
theorem dJ0_charAt_5068e_4 : decode cJ0_charAt_5068e 4 = .ok (.ifCond .eq 12, 3) := by decide +kernel
theorem dJ0_charAt_5068e_7 : decode cJ0_charAt_5068e 7 = .ok (.aload_n 0, 1) := by decide +kernel
theorem dJ0_charAt_5068e_8 : decode cJ0_charAt_5068e 8 = .ok (.getfield 9, 3) := by decide +kernel
theorem dJ0_charAt_5068e_11 : decode cJ0_charAt_5068e 11 = .ok (.iload_n 1, 1) := by decide +kernel
theorem dJ0_charAt_5068e_12 : decode cJ0_charAt_5068e 12 = .ok (.invokestatic 495, 3) := by decide +kernel
theorem dJ0_charAt_5068e_15 : decode cJ0_charAt_5068e 15 = .ok (.ireturn, 1) := by decide +kernel
theorem dJ0_charAt_5068e_16 : decode cJ0_charAt_5068e 16 = .ok (.aload_n 0, 1) := by decide +kernel
theorem dJ0_charAt_5068e_17 : decode cJ0_charAt_5068e 17 = .ok (.getfield 9, 3) := by decide +kernel
theorem dJ0_charAt_5068e_20 : decode cJ0_charAt_5068e 20 = .ok (.iload_n 1, 1) := by decide +kernel
theorem dJ0_charAt_5068e_21 : decode cJ0_charAt_5068e 21 = .ok (.invokestatic 498, 3) := by decide +kernel
theorem dJ0_charAt_5068e_24 : decode cJ0_charAt_5068e 24 = .ok (.ireturn, 1) := by decide +kernel
theorem dJ0_coder_7d493_0 : decode cJ0_coder_7d493 0 = .ok (.getstatic 38, 3) := by decide +kernel
theorem dJ0_coder_7d493_3 : decode cJ0_coder_7d493 3 = .ok (.ifCond .eq 10, 3) := by decide +kernel
theorem dJ0_coder_7d493_6 : decode cJ0_coder_7d493 6 = .ok (.aload_n 0, 1) := by decide +kernel
theorem dJ0_coder_7d493_7 : decode cJ0_coder_7d493 7 = .ok (.getfield 15, 3) := by decide +kernel
theorem dJ0_coder_7d493_10 : decode cJ0_coder_7d493 10 = .ok (.goto 4, 3) := by decide +kernel
theorem dJ0_coder_7d493_13 : decode cJ0_coder_7d493 13 = .ok (.iconst 1, 1) := by decide +kernel
theorem dJ0_coder_7d493_14 : decode cJ0_coder_7d493 14 = .ok (.ireturn, 1) := by decide +kernel
theorem dJ0_isLatin1_aae02_0 : decode cJ0_isLatin1_aae02 0 = .ok (.getstatic 38, 3) := by decide +kernel
theorem dJ0_isLatin1_aae02_3 : decode cJ0_isLatin1_aae02 3 = .ok (.ifCond .eq 14, 3) := by decide +kernel
theorem dJ0_isLatin1_aae02_6 : decode cJ0_isLatin1_aae02 6 = .ok (.aload_n 0, 1) := by decide +kernel
theorem dJ0_isLatin1_aae02_7 : decode cJ0_isLatin1_aae02 7 = .ok (.getfield 15, 3) := by decide +kernel
theorem dJ0_isLatin1_aae02_10 : decode cJ0_isLatin1_aae02 10 = .ok (.ifCond .ne 7, 3) := by decide +kernel
theorem dJ0_isLatin1_aae02_13 : decode cJ0_isLatin1_aae02 13 = .ok (.iconst 1, 1) := by decide +kernel
theorem dJ0_isLatin1_aae02_14 : decode cJ0_isLatin1_aae02 14 = .ok (.goto 4, 3) := by decide +kernel
theorem dJ0_isLatin1_aae02_17 : decode cJ0_isLatin1_aae02 17 = .ok (.iconst 0, 1) := by decide +kernel
theorem dJ0_isLatin1_aae02_18 : decode cJ0_isLatin1_aae02 18 = .ok (.ireturn, 1) := by decide +kernel
theorem dJ0_checkIndex_df160_0 : decode cJ0_checkIndex_df160 0 = .ok (.iload_n 0, 1) := by decide +kernel
theorem dJ0_checkIndex_df160_1 : decode cJ0_checkIndex_df160 1 = .ok (.iload_n 1, 1) := by decide +kernel
theorem dJ0_checkIndex_df160_2 : decode cJ0_checkIndex_df160 2 = .ok (.getstatic 1053, 3) := by decide +kernel
theorem dJ0_checkIndex_df160_5 : decode cJ0_checkIndex_df160 5 = .ok (.invokestatic 1059, 3) := by decide +kernel
theorem dJ0_checkIndex_df160_8 : decode cJ0_checkIndex_df160 8 = .ok (.pop, 1) := by decide +kernel
theorem dJ0_checkIndex_df160_9 : decode cJ0_checkIndex_df160 9 = .ok (.return_, 1) := by decide +kernel
theorem dJ1_charAt_3b067_0 : decode cJ1_charAt_3b067 0 = .ok (.iload_n 1, 1) := by decide +kernel
theorem dJ1_charAt_3b067_1 : decode cJ1_charAt_3b067 1 = .ok (.aload_n 0, 1) := by decide +kernel
theorem dJ1_charAt_3b067_2 : decode cJ1_charAt_3b067 2 = .ok (.arraylength, 1) := by decide +kernel
theorem dJ1_charAt_3b067_3 : decode cJ1_charAt_3b067 3 = .ok (.invokestatic 9, 3) := by decide +kernel
theorem dJ1_charAt_3b067_6 : decode cJ1_charAt_3b067 6 = .ok (.aload_n 0, 1) := by decide +kernel
theorem dJ1_charAt_3b067_7 : decode cJ1_charAt_3b067 7 = .ok (.iload_n 1, 1) := by decide +kernel
theorem dJ1_charAt_3b067_8 : decode cJ1_charAt_3b067 8 = .ok (.baload, 1) := by decide +kernel
theorem dJ1_charAt_3b067_9 : decode cJ1_charAt_3b067 9 = .ok (.sipush 255, 3) := by decide +kernel
theorem dJ1_charAt_3b067_12 : decode cJ1_charAt_3b067 12 = .ok (.iand, 1) := by decide +kernel
theorem dJ1_charAt_3b067_13 : decode cJ1_charAt_3b067 13 = .ok (.i2c, 1) := by decide +kernel
theorem dJ1_charAt_3b067_14 : decode cJ1_charAt_3b067 14 = .ok (.ireturn, 1) := by decide +kernel
theorem dJ2_getChar_3b067_0 : decode cJ2_getChar_3b067 0 = .ok (.getstatic 44, 3) := by decide +kernel
theorem dJ2_getChar_3b067_3 : decode cJ2_getChar_3b067 3 = .ok (.ifCond .ne 25, 3) := by decide +kernel
theorem dJ2_getChar_3b067_6 : decode cJ2_getChar_3b067 6 = .ok (.iload_n 1, 1) := by decide +kernel
theorem dJ2_getChar_3b067_7 : decode cJ2_getChar_3b067 7 = .ok (.ifCond .lt 11, 3) := by decide +kernel
theorem dJ2_getChar_3b067_10 : decode cJ2_getChar_3b067 10 = .ok (.iload_n 1, 1) := by decide +kernel
theorem dJ2_getChar_3b067_11 : decode cJ2_getChar_3b067 11 = .ok (.aload_n 0, 1) := by decide +kernel
theorem dJ2_getChar_3b067_12 : decode cJ2_getChar_3b067 12 = .ok (.invokestatic 48, 3) := by decide +kernel
theorem dJ2_getChar_3b067_15 : decode cJ2_getChar_3b067 15 = .ok (.if_icmp .lt 13, 3) := by decide +kernel
theorem dJ2_getChar_3b067_18 : decode cJ2_getChar_3b067 18 = .ok (.new 52, 3) := by decide +kernel
theorem dJ2_getChar_3b067_21 : decode cJ2_getChar_3b067 21 = .ok (.dup, 1) := by decide +kernel
theorem dJ2_getChar_3b067_22 : decode cJ2_getChar_3b067 22 = .ok (.ldc 54, 2) := by decide +kernel
theorem dJ2_getChar_3b067_24 : decode cJ2_getChar_3b067 24 = .ok (.invokespecial 56, 3) := by decide +kernel
theorem dJ2_getChar_3b067_27 : decode cJ2_getChar_3b067 27 = .ok (.athrow, 1) := by decide +kernel
theorem dJ2_getChar_3b067_28 : decode cJ2_getChar_3b067 28 = .ok (.iload_n 1, 1) := by decide +kernel
theorem dJ2_getChar_3b067_29 : decode cJ2_getChar_3b067 29 = .ok (.iconst 1, 1) := by decide +kernel
theorem dJ2_getChar_3b067_30 : decode cJ2_getChar_3b067 30 = .ok (.ishl, 1) := by decide +kernel
theorem dJ2_getChar_3b067_31 : decode cJ2_getChar_3b067 31 = .ok (.istore_n 1, 1) := by decide +kernel
theorem dJ2_getChar_3b067_32 : decode cJ2_getChar_3b067 32 = .ok (.aload_n 0, 1) := by decide +kernel
theorem dJ2_getChar_3b067_33 : decode cJ2_getChar_3b067 33 = .ok (.iload_n 1, 1) := by decide +kernel
theorem dJ2_getChar_3b067_34 : decode cJ2_getChar_3b067 34 = .ok (.iinc 1 1, 3) := by decide +kernel
theorem dJ2_getChar_3b067_37 : decode cJ2_getChar_3b067 37 = .ok (.baload, 1) := by decide +kernel
theorem dJ2_getChar_3b067_38 : decode cJ2_getChar_3b067 38 = .ok (.sipush 255, 3) := by decide +kernel
theorem dJ2_getChar_3b067_41 : decode cJ2_getChar_3b067 41 = .ok (.iand, 1) := by decide +kernel
theorem dJ2_getChar_3b067_42 : decode cJ2_getChar_3b067 42 = .ok (.getstatic 59, 3) := by decide +kernel
theorem dJ2_getChar_3b067_45 : decode cJ2_getChar_3b067 45 = .ok (.ishl, 1) := by decide +kernel
theorem dJ2_getChar_3b067_46 : decode cJ2_getChar_3b067 46 = .ok (.aload_n 0, 1) := by decide +kernel
theorem dJ2_getChar_3b067_47 : decode cJ2_getChar_3b067 47 = .ok (.iload_n 1, 1) := by decide +kernel
theorem dJ2_getChar_3b067_48 : decode cJ2_getChar_3b067 48 = .ok (.baload, 1) := by decide +kernel
theorem dJ2_getChar_3b067_49 : decode cJ2_getChar_3b067 49 = .ok (.sipush 255, 3) := by decide +kernel
theorem dJ2_getChar_3b067_52 : decode cJ2_getChar_3b067 52 = .ok (.iand, 1) := by decide +kernel
theorem dJ2_getChar_3b067_53 : decode cJ2_getChar_3b067 53 = .ok (.getstatic 63, 3) := by decide +kernel
theorem dJ2_getChar_3b067_56 : decode cJ2_getChar_3b067 56 = .ok (.ishl, 1) := by decide +kernel
theorem dJ2_getChar_3b067_57 : decode cJ2_getChar_3b067 57 = .ok (.ior, 1) := by decide +kernel
theorem dJ2_getChar_3b067_58 : decode cJ2_getChar_3b067 58 = .ok (.i2c, 1) := by decide +kernel
theorem dJ2_getChar_3b067_59 : decode cJ2_getChar_3b067 59 = .ok (.ireturn, 1) := by decide +kernel
theorem dJ2_length_9d52b_0 : decode cJ2_length_9d52b 0 = .ok (.aload_n 0, 1) := by decide +kernel
theorem dJ2_length_9d52b_1 : decode cJ2_length_9d52b 1 = .ok (.arraylength, 1) := by decide +kernel
theorem dJ2_length_9d52b_2 : decode cJ2_length_9d52b 2 = .ok (.iconst 1, 1) := by decide +kernel
theorem dJ2_length_9d52b_3 : decode cJ2_length_9d52b 3 = .ok (.ishr, 1) := by decide +kernel
theorem dJ2_length_9d52b_4 : decode cJ2_length_9d52b 4 = .ok (.ireturn, 1) := by decide +kernel
theorem dJ2_charAt_3b067_0 : decode cJ2_charAt_3b067 0 = .ok (.iload_n 1, 1) := by decide +kernel
theorem dJ2_charAt_3b067_1 : decode cJ2_charAt_3b067 1 = .ok (.aload_n 0, 1) := by decide +kernel
theorem dJ2_charAt_3b067_2 : decode cJ2_charAt_3b067 2 = .ok (.invokestatic 67, 3) := by decide +kernel
theorem dJ2_charAt_3b067_5 : decode cJ2_charAt_3b067 5 = .ok (.aload_n 0, 1) := by decide +kernel
theorem dJ2_charAt_3b067_6 : decode cJ2_charAt_3b067 6 = .ok (.iload_n 1, 1) := by decide +kernel
theorem dJ2_charAt_3b067_7 : decode cJ2_charAt_3b067 7 = .ok (.invokestatic 71, 3) := by decide +kernel
theorem dJ2_charAt_3b067_10 : decode cJ2_charAt_3b067 10 = .ok (.ireturn, 1) := by decide +kernel
theorem dJ2_checkIndex_2214a_0 : decode cJ2_checkIndex_2214a 0 = .ok (.iload_n 0, 1) := by decide +kernel
theorem dJ2_checkIndex_2214a_1 : decode cJ2_checkIndex_2214a 1 = .ok (.aload_n 1, 1) := by decide +kernel
theorem dJ2_checkIndex_2214a_2 : decode cJ2_checkIndex_2214a 2 = .ok (.invokestatic 48, 3) := by decide +kernel
theorem dJ2_checkIndex_2214a_5 : decode cJ2_checkIndex_2214a 5 = .ok (.invokestatic 414, 3) := by decide +kernel
theorem dJ2_checkIndex_2214a_8 : decode cJ2_checkIndex_2214a 8 = .ok (.return_, 1) := by decide +kernel
theorem dJ3_checkIndex_8e157_0 : decode cJ3_checkIndex_8e157 0 = .ok (.iload_n 0, 1) := by decide +kernel
theorem dJ3_checkIndex_8e157_1 : decode cJ3_checkIndex_8e157 1 = .ok (.ifCond .lt 8, 3) := by decide +kernel
theorem dJ3_checkIndex_8e157_4 : decode cJ3_checkIndex_8e157 4 = .ok (.iload_n 0, 1) := by decide +kernel
theorem dJ3_checkIndex_8e157_5 : decode cJ3_checkIndex_8e157 5 = .ok (.iload_n 1, 1) := by decide +kernel
theorem dJ3_checkIndex_8e157_6 : decode cJ3_checkIndex_8e157 6 = .ok (.if_icmp .lt 10, 3) := by decide +kernel
theorem dJ3_checkIndex_8e157_9 : decode cJ3_checkIndex_8e157 9 = .ok (.aload_n 2, 1) := by decide +kernel
theorem dJ3_checkIndex_8e157_10 : decode cJ3_checkIndex_8e157 10 = .ok (.iload_n 0, 1) := by decide +kernel
theorem dJ3_checkIndex_8e157_11 : decode cJ3_checkIndex_8e157 11 = .ok (.iload_n 1, 1) := by decide +kernel
theorem dJ3_checkIndex_8e157_12 : decode cJ3_checkIndex_8e157 12 = .ok (.invokestatic 95, 3) := by decide +kernel
theorem dJ3_checkIndex_8e157_15 : decode cJ3_checkIndex_8e157 15 = .ok (.athrow, 1) := by decide +kernel
theorem dJ3_checkIndex_8e157_16 : decode cJ3_checkIndex_8e157 16 = .ok (.iload_n 0, 1) := by decide +kernel
theorem dJ3_checkIndex_8e157_17 : decode cJ3_checkIndex_8e157 17 = .ok (.ireturn, 1) := by decide +kernel
end
section
/-! ===== the small machine: whole numbers for ints, addresses for references, a world as a function ===== -/
abbrev mV : Type := Int ⊕ (Int ⊕ Option Nat)
abbrev vi (z : Int) : mV := Sum.inl z
abbrev vl (z : Int) : mV := Sum.inr (Sum.inl z)
abbrev vr (a : Nat) : mV := Sum.inr (Sum.inr (some a))
abbrev vn : mV := Sum.inr (Sum.inr none)
abbrev mC : Type := (Nat × List Int) ⊕ (List (Option Nat) ⊕ (Nat × List mV))
abbrev ca (xs : List Int) : mC := Sum.inl (0, xs)
abbrev cz (xs : List Int) : mC := Sum.inl (1, xs)
abbrev cq (rs : List (Option Nat)) : mC := Sum.inr (Sum.inl rs)
abbrev co (ci : Nat) (fs : List mV) : mC := Sum.inr (Sum.inr (ci, fs))
abbrev mW : Type := Nat → Option mC
def mu (w : mW) (a : Nat) (c : mC) : mW := fun b => if b = a then some c else w b
theorem mu_eq (w : mW) (a : Nat) (c : mC) : mu w a c a = some c := by simp [mu]
theorem mu_ne (w : mW) {a b : Nat} (c : mC) (h : b ≠ a) : mu w a c b = w b := by simp [mu, h]
theorem mu_mu (w : mW) (a : Nat) (c d : mC) : mu (mu w a c) a d = mu w a d := by
  funext b
  by_cases h : b = a <;> simp [mu, h]
theorem mu_comm (w : mW) {a b : Nat} (c d : mC) (h : a ≠ b) : mu (mu w a c) b d = mu (mu w b d) a c := by
  funext x
  by_cases h1 : x = a
  · subst h1; simp [mu, h]
  · by_cases h2 : x = b
    · subst h2; simp [mu, h1]
    · simp [mu, h1, h2]
theorem mu_self {w : mW} {a : Nat} {c : mC} (h : w a = some c) : mu w a c = w := by
  funext b
  by_cases hb : b = a
  · subst hb; simp [mu, h]
  · simp [mu, hb]
def iR (z : Int) : Prop := -2147483648 ≤ z ∧ z ≤ 2147483647
def lR (z : Int) : Prop := -9223372036854775808 ≤ z ∧ z ≤ 9223372036854775807
def vOk (v : mV) : Prop := match v with
  | .inl z => iR z
  | .inr (.inl z) => lR z
  | .inr (.inr _) => True
def cOk (c : mC) : Prop := match c with
  | .inl (k, xs) => (k = 0 → ∀ x ∈ xs, iR x) ∧ (k ≠ 0 → ∀ x ∈ xs, x = 0 ∨ x = 1)
  | .inr (.inl _) => True
  | .inr (.inr (_, fs)) => ∀ v ∈ fs, vOk v
def mT (v : mV) : Value := match v with
  | .inl z => .int (Int32.ofInt z)
  | .inr (.inl z) => .long (Int64.ofInt z)
  | .inr (.inr r) => va_rf r
def mE (tI tZ tQ : ClassId) (c : mC) : va_E := match c with
  | .inl (k, xs) => .inl ((if k = 0 then tI else tZ), xs.length, .inl (fun j => Int32.ofInt (xs.getD j 0)))
  | .inr (.inl rs) => .inl (tQ, rs.length, .inr (.inr (.inr (.inr (fun j => rs.getD j none)))))
  | .inr (.inr (ci, fs)) => .inr (ci, fs.map mT)
def mR (D : va_G) (tI tZ tQ : ClassId) (A : Nat → Prop) (n : Nat) (w : mW) (H : Heap) : Prop :=
  H.size = n ∧ ∀ (a : Nat) (c : mC), w a = some c → cOk c ∧ A a ∧ va_at D vwCl (a, mE tI tZ tQ c) H
theorem mR.set {D : va_G} {tI tZ tQ : ClassId} {A : Nat → Prop} {n : Nat} {w : mW} {H H1 : Heap} {a : Nat} {c1 : mC} (h : mR D tI tZ tQ A n w H) (hz : H1.size = H.size) (hq : ∀ q, q ≠ a → H1[q]? = H[q]?) (hA : A a) (hc : cOk c1) (he : va_at D vwCl (a, mE tI tZ tQ c1) H1) : mR D tI tZ tQ A n (mu w a c1) H1 := by
  refine ⟨hz.trans h.1, fun b c hb => ?_⟩
  by_cases hba : b = a
  · subst hba
    rw [mu_eq] at hb
    cases hb
    exact ⟨hc, hA, he⟩
  · rw [mu_ne _ _ hba] at hb
    obtain ⟨h1, h2, h3⟩ := h.2 b c hb
    exact ⟨h1, h2, h3.kept (hq b hba)⟩
theorem mR.push {D : va_G} {tI tZ tQ : ClassId} {A : Nat → Prop} {n : Nat} {w : mW} {H H1 : Heap} {c1 : mC} (h : mR D tI tZ tQ A n w H) (hz : H1.size = n + 1) (hq : ∀ q, q < n → H1[q]? = H[q]?) (hA : A n) (hc : cOk c1) (he : va_at D vwCl (n, mE tI tZ tQ c1) H1) : mR D tI tZ tQ A (n + 1) (mu w n c1) H1 := by
  refine ⟨hz, fun b c hb => ?_⟩
  by_cases hba : b = n
  · subst hba
    rw [mu_eq] at hb
    cases hb
    exact ⟨hc, hA, he⟩
  · rw [mu_ne _ _ hba] at hb
    obtain ⟨h1, h2, h3⟩ := h.2 b c hb
    have hl := h3.lt
    exact ⟨h1, h2, h3.kept (hq b (by rw [h.1] at hl; exact hl))⟩
/-! numbers -/
theorem iR_toInt {z : Int} (h : iR z) : (Int32.ofInt z).toInt = z := Int32.toInt_ofInt_of_le (by have := h.1; omega) (by have := h.2; omega)
theorem lR_toInt {z : Int} (h : lR z) : (Int64.ofInt z).toInt = z := Int64.toInt_ofInt_of_le (by have := h.1; omega) (by have := h.2; omega)
theorem iR_lt {a b : Int} (ha : iR a) (hb : iR b) : Int32.ofInt a < Int32.ofInt b ↔ a < b := by
  rw [Int32.lt_iff_toInt_lt, iR_toInt ha, iR_toInt hb]
theorem iR_le {a b : Int} (ha : iR a) (hb : iR b) : Int32.ofInt a ≤ Int32.ofInt b ↔ a ≤ b := by
  rw [Int32.le_iff_toInt_le, iR_toInt ha, iR_toInt hb]
theorem iR_eq {a b : Int} (ha : iR a) (hb : iR b) : Int32.ofInt a = Int32.ofInt b ↔ a = b := by
  rw [← Int32.toInt_inj, iR_toInt ha, iR_toInt hb]
theorem iR_0 : iR 0 := ⟨by decide, by decide⟩
theorem iR_z : Int32.ofInt 0 = 0 := rfl
theorem iR_clamp {z : Int} (h : iR z) : (Int32.ofInt z).toNatClampNeg = z.toNat := Int32.toNatClampNeg_ofInt_of_le (by have := h.1; omega) (by have := h.2; omega)
theorem iR_in {z : Int} {n : Nat} (h : iR z) (h0 : 0 ≤ z) (hn : z < n) : vp_in (Int32.ofInt z) n := by
  rw [vp_in_iff, iR_toInt h]
  exact ⟨h0, hn⟩
theorem iR_div {a b : Int} (ha : iR a) (hb : iR b) (h0 : 0 ≤ a) (h1 : 0 < b) : Int32.ofInt a / Int32.ofInt b = Int32.ofInt (a / b) ∧ iR (a / b) := by
  have hle : a / b ≤ a := Int.ediv_le_self b h0
  have hnn : 0 ≤ a / b := Int.ediv_nonneg h0 (Int.le_of_lt h1)
  have hR : iR (a / b) := ⟨by omega, by have := ha.2; omega⟩
  refine ⟨?_, hR⟩
  rw [← Int32.toInt_inj, iR_toInt hR, Int32.toInt_div_of_ne_right _ _ (fun h => ?_), iR_toInt ha, iR_toInt hb]
  · exact Int.tdiv_eq_ediv_of_nonneg h0
  · have h2 := congrArg Int32.toInt h
    rw [iR_toInt hb] at h2
    have h3 : (-1 : Int32).toInt = -1 := by decide
    omega
theorem iR_rem {a b : Int} (ha : iR a) (hb : iR b) (h0 : 0 ≤ a) (h1 : 0 < b) : Int32.ofInt a - Int32.ofInt a / Int32.ofInt b * Int32.ofInt b = Int32.ofInt (a % b) ∧ iR (a % b) := by
  obtain ⟨hd, hR⟩ := iR_div ha hb h0 h1
  have e : a % b = a - a / b * b := by
    have := Int.emod_def a b
    rw [this, Int.mul_comm]
  have hm0 := Int.emod_nonneg a (Int.ne_of_gt h1)
  have hm1 := Int.emod_lt_of_pos a h1
  refine ⟨?_, ⟨by omega, by have := hb.2; omega⟩⟩
  rw [hd, e, Int32.ofInt_sub, Int32.ofInt_mul]
/-! the words that every method has -/
def Gw : List Cond := lw_tbl.filter goodWord
theorem gw_mem {i : Nat} {w : Cond} (h : lw_tbl[i]? = some w) (hg : goodWord w = true) : w ∈ Gw := List.mem_filter.mpr ⟨List.mem_of_getElem? h, hg⟩
theorem gw_good : GoodIn Gw Gw := fun w h => ⟨h, good_of_word (List.mem_filter.mp h).2⟩
theorem gw_tbl : ∀ w ∈ Gw, w ∈ lw_tbl := fun _ h => (List.mem_filter.mp h).1
def mm_tys (tI tZ tQ : ClassId) : List (ClassId × FieldType) := [(tI, .int), (tZ, .boolean), (tQ, .object RX2)]
end
section
/-! ===== links: what an instruction's number means ===== -/
/-- a field of a class of ours: class ci, its place k -/
def kF (Nf : List (String × Nat × String × String × String)) (own : String) (idx ci k : Nat) : Prop :=
  ∃ (C : String) (T : u_T) (N : Nat), vwCl[ci]? = some (C, T, N) ∧ k < N ∧ (∀ w ∈ u_ws C T N, w ∈ Gw) ∧ (Cond.fieldLink own idx (T k).1 (T k).2.1 (T k).2.2.1 ∈ Gw ∨ (own, idx, (T k).1, (T k).2.1, (T k).2.2.1) ∈ Nf)
/-- a field that may be written: not final, its type ty -/
def kW (ci k : Nat) (ty : FieldType) : Prop :=
  ∃ (C : String) (T : u_T) (N : Nat) (ty0 : Nat → FieldType), vwCl[ci]? = some (C, T, N) ∧ (∀ j, j < N → parseFieldDescriptor (T j).2.2.1 = some (ty0 j)) ∧ (∀ a, a < N → ∀ b, b < N → a ≠ b → (T a).2.1 ≠ (T b).2.1) ∧ (T k).2.2.2 = false ∧ parseFieldDescriptor (T k).2.2.1 = some ty
/-- a final field, of the class own, written in its constructor -/
def kX (own : String) (ci k : Nat) (ty : FieldType) : Prop :=
  ∃ (C : String) (T : u_T) (N : Nat) (ty0 : Nat → FieldType), vwCl[ci]? = some (C, T, N) ∧ (∀ j, j < N → parseFieldDescriptor (T j).2.2.1 = some (ty0 j)) ∧ (∀ a, a < N → ∀ b, b < N → a ≠ b → (T a).2.1 ≠ (T b).2.1) ∧ (T k).2.2.2 = true ∧ (T k).1 = own ∧ parseFieldDescriptor (T k).2.2.1 = some ty
/-- a method: its code among the words, its class, its parameters' number -/
def kY (y : MethodName) (bytes : ByteArray) (maxL : Nat) (ret : Option FieldType) (np : Nat) : Prop :=
  Cond.code y bytes maxL ret ∈ Gw ∧ Cond.initialized y.cls ∈ Gw ∧ y.cls ≠ "java/lang/invoke/MethodHandle" ∧ y.cls ≠ "java/lang/invoke/VarHandle" ∧ (parseMethodDescriptor y.desc).map (fun d => d.parameters.length) = some np ∧ maxL ≤ 21 ∧ plainName y.cls = true
/-- an instance method of class ci -/
def kN (y : MethodName) (ci : Nat) : Prop := Cond.instanceMethod y ∈ Gw ∧ Cond.selects y.cls y y ∈ Gw ∧ ∃ (T : u_T) (N : Nat), vwCl[ci]? = some (y.cls, T, N)
/-- a call's link -/
def kM (Nm : List (String × Nat × MethodName)) (own : String) (idx : Nat) (y : MethodName) : Prop := Cond.methodLink own idx y ∈ Gw ∨ (own, idx, y) ∈ Nm
end
section
def kNf : List (String × Nat × String × String × String) := [("DisplayMap", 71, "DisplayMap$Text", "length", "I"), ("DisplayMap$Screen", 48, "DisplayMap$Sheet", "signCount", "I"), ("DisplayMap", 84, "DisplayMap$Sheet", "signCount", "I"), ("DisplayMap$Text", 62, "DisplayMap$Sheet", "signCount", "I"), ("DisplayMap", 97, "DisplayMap$Sheet", "foldFrom", "[I"), ("DisplayMap", 101, "DisplayMap$Sheet", "foldTo", "[I"), ("DisplayMap", 104, "DisplayMap$Sheet", "foldShut", "[Z"), ("DisplayMap", 153, "DisplayMap$Sheet", "foldCount", "I"), ("DisplayMap", 111, "DisplayMap$Sheet", "hintPlace", "[I"), ("DisplayMap$Screen", 61, "DisplayMap$Sheet", "hintWide", "[I"), ("DisplayMap", 114, "DisplayMap$Sheet", "hintWide", "[I"), ("DisplayMap", 249, "DisplayMap$Sheet", "hintCount", "I"), ("DisplayMap$Screen", 95, "DisplayMap$Sheet", "mode", "I"), ("DisplayMap", 169, "DisplayMap$Sheet", "mode", "I"), ("DisplayMap$Screen", 98, "DisplayMap$Sheet", "width", "I"), ("DisplayMap", 172, "DisplayMap$Sheet", "width", "I"), ("DisplayMap$Screen", 82, "DisplayMap$Sheet", "indent", "I"), ("DisplayMap", 175, "DisplayMap$Sheet", "indent", "I"), ("DisplayMap$Screen", 107, "DisplayMap$Sheet", "tabStep", "I"), ("DisplayMap$Text", 93, "DisplayMap$Sheet", "tabStep", "I"), ("DisplayMap", 185, "DisplayMap$Sheet", "tabStep", "I"), ("DisplayMap", 77, "DisplayMap$Pile", "count", "I"), ("DisplayMap", 271, "DisplayMap$Screen", "rows", "[I"), ("DisplayMap", 277, "DisplayMap$Screen", "columns", "[I"), ("DisplayMap", 220, "DisplayMap$Screen", "rowEnds", "[I"), ("DisplayMap", 223, "DisplayMap$Screen", "lineStarts", "[Z"), ("DisplayMap", 252, "DisplayMap$Screen", "rowCount", "I"), ("DisplayMap", 274, "DisplayMap$Screen", "lastColumn", "I")]
def kNm : List (String × Nat × MethodName) := [("DisplayMap", 11, ⟨"DisplayMap$Text", "<init>", "()V"⟩), ("DisplayMap", 18, ⟨"DisplayMap$Sheet", "<init>", "()V"⟩), ("DisplayMap", 25, ⟨"DisplayMap$Pile", "<init>", "(I)V"⟩), ("DisplayMap$Pile", 21, ⟨"DisplayMap$Sheet", "<init>", "()V"⟩), ("DisplayMap", 37, ⟨"DisplayMap$Screen", "<init>", "()V"⟩), ("DisplayMap", 63, ⟨"DisplayMap$Text", "append", "(I)Z"⟩), ("DisplayMap", 67, ⟨"DisplayMap$Text", "readInto", "(LDisplayMap$Sheet;)I"⟩), ("DisplayMap$Text", 22, ⟨"DisplayMap$Sheet", "clear", "()V"⟩), ("DisplayMap$Text", 58, ⟨"DisplayMap$Sheet", "hasRoom", "()Z"⟩), ("DisplayMap$Text", 65, ⟨"DisplayMap$Sheet", "putIn", "(II)V"⟩), ("DisplayMap$Text", 69, ⟨"DisplayMap$Sheet", "foldRefusal", "(II)I"⟩), ("DisplayMap$Text", 72, ⟨"DisplayMap$Sheet", "addFold", "(II)I"⟩), ("DisplayMap$Text", 75, ⟨"DisplayMap$Sheet", "hintRefusal", "(II)I"⟩), ("DisplayMap$Text", 78, ⟨"DisplayMap$Sheet", "addHint", "(II)I"⟩), ("DisplayMap$Text", 81, ⟨"DisplayMap$Sheet", "isFlow", "(III)Z"⟩), ("DisplayMap$Text", 85, ⟨"DisplayMap$Sheet", "setFlow", "(III)V"⟩), ("DisplayMap$Text", 89, ⟨"DisplayMap$Sheet", "isTabStep", "(I)Z"⟩), ("DisplayMap", 74, ⟨"DisplayMap$Screen", "draw", "(LDisplayMap$Sheet;)I"⟩), ("DisplayMap$Screen", 53, ⟨"DisplayMap$Sheet", "isShown", "(I)Z"⟩), ("DisplayMap$Screen", 57, ⟨"DisplayMap$Sheet", "hintAt", "(I)I"⟩), ("DisplayMap$Screen", 68, ⟨"DisplayMap$Sheet", "shutFoldOf", "(I)I"⟩), ("DisplayMap$Screen", 71, ⟨"DisplayMap$Sheet", "signAt", "(I)I"⟩), ("DisplayMap", 232, ⟨"DisplayMap$Sheet", "copyFrom", "(LDisplayMap$Sheet;)V"⟩), ("DisplayMap", 87, ⟨"DisplayMap$Sheet", "hasPlace", "(I)Z"⟩), ("DisplayMap", 90, ⟨"DisplayMap$Sheet", "signAt", "(I)I"⟩), ("DisplayMap", 94, ⟨"DisplayMap$Sheet", "hasFold", "(I)Z"⟩), ("DisplayMap", 108, ⟨"DisplayMap$Sheet", "hasHint", "(I)Z"⟩), ("DisplayMap", 117, ⟨"DisplayMap$Sheet", "isShown", "(I)Z"⟩), ("DisplayMap", 120, ⟨"DisplayMap$Sheet", "hasRoom", "()Z"⟩), ("DisplayMap", 124, ⟨"DisplayMap$Pile", "push", "(LDisplayMap$Sheet;)V"⟩), ("DisplayMap$Pile", 33, ⟨"DisplayMap$Sheet", "copyFrom", "(LDisplayMap$Sheet;)V"⟩), ("DisplayMap", 127, ⟨"DisplayMap$Sheet", "putIn", "(II)V"⟩), ("DisplayMap", 134, ⟨"DisplayMap$Sheet", "hasSign", "(I)Z"⟩), ("DisplayMap", 137, ⟨"DisplayMap$Sheet", "takeOut", "(I)V"⟩), ("DisplayMap", 140, ⟨"DisplayMap$Sheet", "turn", "(I)V"⟩), ("DisplayMap", 143, ⟨"DisplayMap$Sheet", "foldRefusal", "(II)I"⟩), ("DisplayMap", 147, ⟨"DisplayMap$Sheet", "addFold", "(II)I"⟩), ("DisplayMap", 150, ⟨"DisplayMap$Sheet", "dropFold", "(I)V"⟩), ("DisplayMap", 156, ⟨"DisplayMap$Sheet", "hintRefusal", "(II)I"⟩), ("DisplayMap", 159, ⟨"DisplayMap$Sheet", "addHint", "(II)I"⟩), ("DisplayMap", 162, ⟨"DisplayMap$Sheet", "dropHint", "(I)V"⟩), ("DisplayMap", 165, ⟨"DisplayMap$Sheet", "isFlow", "(III)Z"⟩), ("DisplayMap", 178, ⟨"DisplayMap$Sheet", "setFlow", "(III)V"⟩), ("DisplayMap", 182, ⟨"DisplayMap$Sheet", "isTabStep", "(I)Z"⟩), ("DisplayMap", 188, ⟨"DisplayMap$Pile", "popInto", "(LDisplayMap$Sheet;)Z"⟩), ("DisplayMap", 265, ⟨"DisplayMap$Sheet", "holderOf", "(I)I"⟩), ("DisplayMap", 268, ⟨"DisplayMap$Screen", "itemOf", "(I)I"⟩), ("DisplayMap", 198, ⟨"DisplayMap$Screen", "hasRow", "(I)Z"⟩), ("DisplayMap", 204, ⟨"DisplayMap$Screen", "placeAt", "(III)I"⟩), ("DisplayMap", 208, ⟨"DisplayMap$Screen", "codeAt", "(II)I"⟩), ("DisplayMap", 211, ⟨"DisplayMap$Sheet", "nextShown", "(I)I"⟩), ("DisplayMap", 214, ⟨"DisplayMap$Sheet", "previousShown", "(I)I"⟩), ("DisplayMap", 288, ⟨"DisplayMap$Screen", "isRowAsIn", "(LDisplayMap$Screen;I)Z"⟩), ("DisplayMap", 240, ⟨"DisplayMap$Sheet", "live", "(I)V"⟩), ("DisplayMap", 243, ⟨"DisplayMap$Screen", "longestRow", "()I"⟩), ("DisplayMap", 246, ⟨"DisplayMap$Pile", "isFull", "()Z"⟩)]
def kNfp : List Nat := [144, 163, 164, 165, 167, 169, 171, 173, 175, 177, 178, 180, 182, 183, 185, 186, 188, 189, 191, 192, 193, 236, 251, 253, 257, 259, 261, 263]
def kNmp : List Nat := [139, 157, 224, 233, 244, 334, 338, 342, 365, 369, 386, 390, 398, 406, 414, 417, 422, 425, 433, 445, 450, 451, 540, 551, 552, 557, 565, 569, 574, 575, 587, 588, 597, 598, 624, 632, 633, 638, 643, 644, 649, 654, 655, 660, 665, 677, 678, 690, 697, 705, 713, 718, 743, 786, 796, 805]
theorem gX0_in : ∀ w ∈ u_ws RX0 TX0 2, w ∈ Gw := by
  intro w hw
  have h : (u_ws RX0 TX0 2).map some = ([237, 239] : List Nat).map (fun i => lw_tbl[i]?) := by decide +kernel
  have hg : (u_ws RX0 TX0 2).all goodWord = true := by decide +kernel
  have h1 : some w ∈ (u_ws RX0 TX0 2).map some := List.mem_map.mpr ⟨w, hw, rfl⟩
  rw [h] at h1
  obtain ⟨i, -, hi⟩ := List.mem_map.mp h1
  exact gw_mem hi (List.all_eq_true.mp hg w hw)
theorem gX1_in : ∀ w ∈ u_ws RX1 TX1 10, w ∈ Gw := by
  intro w hw
  have h : (u_ws RX1 TX1 10).map some = ([264, 266, 268, 270, 272, 274, 276, 278, 280, 282] : List Nat).map (fun i => lw_tbl[i]?) := by decide +kernel
  have hg : (u_ws RX1 TX1 10).all goodWord = true := by decide +kernel
  have h1 : some w ∈ (u_ws RX1 TX1 10).map some := List.mem_map.mpr ⟨w, hw, rfl⟩
  rw [h] at h1
  obtain ⟨i, -, hi⟩ := List.mem_map.mp h1
  exact gw_mem hi (List.all_eq_true.mp hg w hw)
theorem gX2_in : ∀ w ∈ u_ws RX2 TX2 13, w ∈ Gw := by
  intro w hw
  have h : (u_ws RX2 TX2 13).map some = ([194, 196, 198, 200, 202, 204, 206, 208, 210, 212, 214, 216, 218] : List Nat).map (fun i => lw_tbl[i]?) := by decide +kernel
  have hg : (u_ws RX2 TX2 13).all goodWord = true := by decide +kernel
  have h1 : some w ∈ (u_ws RX2 TX2 13).map some := List.mem_map.mpr ⟨w, hw, rfl⟩
  rw [h] at h1
  obtain ⟨i, -, hi⟩ := List.mem_map.mp h1
  exact gw_mem hi (List.all_eq_true.mp hg w hw)
theorem gX3_in : ∀ w ∈ u_ws RX3 TX3 3, w ∈ Gw := by
  intro w hw
  have h : (u_ws RX3 TX3 3).map some = ([147, 149, 151] : List Nat).map (fun i => lw_tbl[i]?) := by decide +kernel
  have hg : (u_ws RX3 TX3 3).all goodWord = true := by decide +kernel
  have h1 : some w ∈ (u_ws RX3 TX3 3).map some := List.mem_map.mpr ⟨w, hw, rfl⟩
  rw [h] at h1
  obtain ⟨i, -, hi⟩ := List.mem_map.mp h1
  exact gw_mem hi (List.all_eq_true.mp hg w hw)
theorem gX4_in : ∀ w ∈ u_ws RX4 TX4 9, w ∈ Gw := by
  intro w hw
  have h : (u_ws RX4 TX4 9).map some = ([500, 502, 504, 506, 508, 510, 512, 514, 516] : List Nat).map (fun i => lw_tbl[i]?) := by decide +kernel
  have hg : (u_ws RX4 TX4 9).all goodWord = true := by decide +kernel
  have h1 : some w ∈ (u_ws RX4 TX4 9).map some := List.mem_map.mpr ⟨w, hw, rfl⟩
  rw [h] at h1
  obtain ⟨i, -, hi⟩ := List.mem_map.mp h1
  exact gw_mem hi (List.all_eq_true.mp hg w hw)
theorem gX5_in : ∀ w ∈ u_ws RX5 TX5 41, w ∈ Gw := by
  intro w hw
  have h : (u_ws RX5 TX5 41).map some = ([869, 871, 873, 875, 877, 879, 881, 883, 885, 887, 889, 891, 893, 895, 897, 899, 901, 903, 905, 907, 909, 911, 913, 915, 917, 919, 921, 923, 925, 927, 929, 931, 933, 935, 937, 939, 941, 943, 945, 947, 949] : List Nat).map (fun i => lw_tbl[i]?) := by decide +kernel
  have hg : (u_ws RX5 TX5 41).all goodWord = true := by decide +kernel
  have h1 : some w ∈ (u_ws RX5 TX5 41).map some := List.mem_map.mpr ⟨w, hw, rfl⟩
  rw [h] at h1
  obtain ⟨i, -, hi⟩ := List.mem_map.mp h1
  exact gw_mem hi (List.all_eq_true.mp hg w hw)
theorem kfX3_9 : kF kNf RX3 9 3 0 := ⟨RX3, TX3, 3, rfl, by decide, gX3_in, Or.inl (gw_mem (i := 143) (by decide +kernel) (by decide +kernel))⟩
theorem kx_3_0 : kX RX3 3 0 (.array .int) := ⟨RX3, TX3, 3, tyX3, rfl, tyX3_ok, nmX3, rfl, by decide +kernel, by decide +kernel⟩
theorem kfX4_71 : kF kNf RX4 71 3 1 := ⟨RX3, TX3, 3, rfl, by decide, gX3_in, Or.inr (List.mem_of_getElem? (i := 0) (by decide +kernel))⟩
theorem kw_3_1 : kW 3 1 .int := ⟨RX3, TX3, 3, tyX3, rfl, tyX3_ok, nmX3, rfl, by decide +kernel⟩
theorem kfX3_18 : kF kNf RX3 18 3 1 := ⟨RX3, TX3, 3, rfl, by decide, gX3_in, Or.inl (gw_mem (i := 145) (by decide +kernel) (by decide +kernel))⟩
theorem kfX3_15 : kF kNf RX3 15 3 2 := ⟨RX3, TX3, 3, rfl, by decide, gX3_in, Or.inl (gw_mem (i := 146) (by decide +kernel) (by decide +kernel))⟩
theorem kx_3_2 : kX RX3 3 2 (.array .int) := ⟨RX3, TX3, 3, tyX3, rfl, tyX3_ok, nmX3, rfl, by decide +kernel, by decide +kernel⟩
theorem kfX2_9 : kF kNf RX2 9 2 0 := ⟨RX2, TX2, 13, rfl, by decide, gX2_in, Or.inl (gw_mem (i := 161) (by decide +kernel) (by decide +kernel))⟩
theorem kx_2_0 : kX RX2 2 0 (.array .int) := ⟨RX2, TX2, 13, tyX2, rfl, tyX2_ok, nmX2, rfl, by decide +kernel, by decide +kernel⟩
theorem kfX2_31 : kF kNf RX2 31 2 1 := ⟨RX2, TX2, 13, rfl, by decide, gX2_in, Or.inl (gw_mem (i := 162) (by decide +kernel) (by decide +kernel))⟩
theorem kw_2_1 : kW 2 1 .int := ⟨RX2, TX2, 13, tyX2, rfl, tyX2_ok, nmX2, rfl, by decide +kernel⟩
theorem kfX1_48 : kF kNf RX1 48 2 1 := ⟨RX2, TX2, 13, rfl, by decide, gX2_in, Or.inr (List.mem_of_getElem? (i := 1) (by decide +kernel))⟩
theorem kfX4_84 : kF kNf RX4 84 2 1 := ⟨RX2, TX2, 13, rfl, by decide, gX2_in, Or.inr (List.mem_of_getElem? (i := 2) (by decide +kernel))⟩
theorem kfX3_62 : kF kNf RX3 62 2 1 := ⟨RX2, TX2, 13, rfl, by decide, gX2_in, Or.inr (List.mem_of_getElem? (i := 3) (by decide +kernel))⟩
theorem kfX2_15 : kF kNf RX2 15 2 2 := ⟨RX2, TX2, 13, rfl, by decide, gX2_in, Or.inl (gw_mem (i := 166) (by decide +kernel) (by decide +kernel))⟩
theorem kx_2_2 : kX RX2 2 2 (.array .int) := ⟨RX2, TX2, 13, tyX2, rfl, tyX2_ok, nmX2, rfl, by decide +kernel, by decide +kernel⟩
theorem kfX4_97 : kF kNf RX4 97 2 2 := ⟨RX2, TX2, 13, rfl, by decide, gX2_in, Or.inr (List.mem_of_getElem? (i := 4) (by decide +kernel))⟩
theorem kfX2_18 : kF kNf RX2 18 2 3 := ⟨RX2, TX2, 13, rfl, by decide, gX2_in, Or.inl (gw_mem (i := 168) (by decide +kernel) (by decide +kernel))⟩
theorem kx_2_3 : kX RX2 2 3 (.array .int) := ⟨RX2, TX2, 13, tyX2, rfl, tyX2_ok, nmX2, rfl, by decide +kernel, by decide +kernel⟩
theorem kfX4_101 : kF kNf RX4 101 2 3 := ⟨RX2, TX2, 13, rfl, by decide, gX2_in, Or.inr (List.mem_of_getElem? (i := 5) (by decide +kernel))⟩
theorem kfX2_21 : kF kNf RX2 21 2 4 := ⟨RX2, TX2, 13, rfl, by decide, gX2_in, Or.inl (gw_mem (i := 170) (by decide +kernel) (by decide +kernel))⟩
theorem kx_2_4 : kX RX2 2 4 (.array .boolean) := ⟨RX2, TX2, 13, tyX2, rfl, tyX2_ok, nmX2, rfl, by decide +kernel, by decide +kernel⟩
theorem kfX4_104 : kF kNf RX4 104 2 4 := ⟨RX2, TX2, 13, rfl, by decide, gX2_in, Or.inr (List.mem_of_getElem? (i := 6) (by decide +kernel))⟩
theorem kfX2_35 : kF kNf RX2 35 2 5 := ⟨RX2, TX2, 13, rfl, by decide, gX2_in, Or.inl (gw_mem (i := 172) (by decide +kernel) (by decide +kernel))⟩
theorem kw_2_5 : kW 2 5 .int := ⟨RX2, TX2, 13, tyX2, rfl, tyX2_ok, nmX2, rfl, by decide +kernel⟩
theorem kfX4_153 : kF kNf RX4 153 2 5 := ⟨RX2, TX2, 13, rfl, by decide, gX2_in, Or.inr (List.mem_of_getElem? (i := 7) (by decide +kernel))⟩
theorem kfX2_25 : kF kNf RX2 25 2 6 := ⟨RX2, TX2, 13, rfl, by decide, gX2_in, Or.inl (gw_mem (i := 174) (by decide +kernel) (by decide +kernel))⟩
theorem kx_2_6 : kX RX2 2 6 (.array .int) := ⟨RX2, TX2, 13, tyX2, rfl, tyX2_ok, nmX2, rfl, by decide +kernel, by decide +kernel⟩
theorem kfX4_111 : kF kNf RX4 111 2 6 := ⟨RX2, TX2, 13, rfl, by decide, gX2_in, Or.inr (List.mem_of_getElem? (i := 8) (by decide +kernel))⟩
theorem kfX2_28 : kF kNf RX2 28 2 7 := ⟨RX2, TX2, 13, rfl, by decide, gX2_in, Or.inl (gw_mem (i := 176) (by decide +kernel) (by decide +kernel))⟩
theorem kx_2_7 : kX RX2 2 7 (.array .int) := ⟨RX2, TX2, 13, tyX2, rfl, tyX2_ok, nmX2, rfl, by decide +kernel, by decide +kernel⟩
theorem kfX1_61 : kF kNf RX1 61 2 7 := ⟨RX2, TX2, 13, rfl, by decide, gX2_in, Or.inr (List.mem_of_getElem? (i := 9) (by decide +kernel))⟩
theorem kfX4_114 : kF kNf RX4 114 2 7 := ⟨RX2, TX2, 13, rfl, by decide, gX2_in, Or.inr (List.mem_of_getElem? (i := 10) (by decide +kernel))⟩
theorem kfX2_38 : kF kNf RX2 38 2 8 := ⟨RX2, TX2, 13, rfl, by decide, gX2_in, Or.inl (gw_mem (i := 179) (by decide +kernel) (by decide +kernel))⟩
theorem kw_2_8 : kW 2 8 .int := ⟨RX2, TX2, 13, tyX2, rfl, tyX2_ok, nmX2, rfl, by decide +kernel⟩
theorem kfX4_249 : kF kNf RX4 249 2 8 := ⟨RX2, TX2, 13, rfl, by decide, gX2_in, Or.inr (List.mem_of_getElem? (i := 11) (by decide +kernel))⟩
theorem kfX2_54 : kF kNf RX2 54 2 9 := ⟨RX2, TX2, 13, rfl, by decide, gX2_in, Or.inl (gw_mem (i := 181) (by decide +kernel) (by decide +kernel))⟩
theorem kw_2_9 : kW 2 9 .int := ⟨RX2, TX2, 13, tyX2, rfl, tyX2_ok, nmX2, rfl, by decide +kernel⟩
theorem kfX1_95 : kF kNf RX1 95 2 9 := ⟨RX2, TX2, 13, rfl, by decide, gX2_in, Or.inr (List.mem_of_getElem? (i := 12) (by decide +kernel))⟩
theorem kfX4_169 : kF kNf RX4 169 2 9 := ⟨RX2, TX2, 13, rfl, by decide, gX2_in, Or.inr (List.mem_of_getElem? (i := 13) (by decide +kernel))⟩
theorem kfX2_57 : kF kNf RX2 57 2 10 := ⟨RX2, TX2, 13, rfl, by decide, gX2_in, Or.inl (gw_mem (i := 184) (by decide +kernel) (by decide +kernel))⟩
theorem kw_2_10 : kW 2 10 .int := ⟨RX2, TX2, 13, tyX2, rfl, tyX2_ok, nmX2, rfl, by decide +kernel⟩
theorem kfX1_98 : kF kNf RX1 98 2 10 := ⟨RX2, TX2, 13, rfl, by decide, gX2_in, Or.inr (List.mem_of_getElem? (i := 14) (by decide +kernel))⟩
theorem kfX4_172 : kF kNf RX4 172 2 10 := ⟨RX2, TX2, 13, rfl, by decide, gX2_in, Or.inr (List.mem_of_getElem? (i := 15) (by decide +kernel))⟩
theorem kfX2_60 : kF kNf RX2 60 2 11 := ⟨RX2, TX2, 13, rfl, by decide, gX2_in, Or.inl (gw_mem (i := 187) (by decide +kernel) (by decide +kernel))⟩
theorem kw_2_11 : kW 2 11 .int := ⟨RX2, TX2, 13, tyX2, rfl, tyX2_ok, nmX2, rfl, by decide +kernel⟩
theorem kfX1_82 : kF kNf RX1 82 2 11 := ⟨RX2, TX2, 13, rfl, by decide, gX2_in, Or.inr (List.mem_of_getElem? (i := 16) (by decide +kernel))⟩
theorem kfX4_175 : kF kNf RX4 175 2 11 := ⟨RX2, TX2, 13, rfl, by decide, gX2_in, Or.inr (List.mem_of_getElem? (i := 17) (by decide +kernel))⟩
theorem kfX2_45 : kF kNf RX2 45 2 12 := ⟨RX2, TX2, 13, rfl, by decide, gX2_in, Or.inl (gw_mem (i := 190) (by decide +kernel) (by decide +kernel))⟩
theorem kw_2_12 : kW 2 12 .int := ⟨RX2, TX2, 13, tyX2, rfl, tyX2_ok, nmX2, rfl, by decide +kernel⟩
theorem kfX1_107 : kF kNf RX1 107 2 12 := ⟨RX2, TX2, 13, rfl, by decide, gX2_in, Or.inr (List.mem_of_getElem? (i := 18) (by decide +kernel))⟩
theorem kfX3_93 : kF kNf RX3 93 2 12 := ⟨RX2, TX2, 13, rfl, by decide, gX2_in, Or.inr (List.mem_of_getElem? (i := 19) (by decide +kernel))⟩
theorem kfX4_185 : kF kNf RX4 185 2 12 := ⟨RX2, TX2, 13, rfl, by decide, gX2_in, Or.inr (List.mem_of_getElem? (i := 20) (by decide +kernel))⟩
theorem kfX0_15 : kF kNf RX0 15 0 0 := ⟨RX0, TX0, 2, rfl, by decide, gX0_in, Or.inl (gw_mem (i := 234) (by decide +kernel) (by decide +kernel))⟩
theorem kx_0_0 : kX RX0 0 0 (.array (.object "DisplayMap$Sheet")) := ⟨RX0, TX0, 2, tyX0, rfl, tyX0_ok, nmX0, rfl, by decide +kernel, by decide +kernel⟩
theorem kfX0_22 : kF kNf RX0 22 0 1 := ⟨RX0, TX0, 2, rfl, by decide, gX0_in, Or.inl (gw_mem (i := 235) (by decide +kernel) (by decide +kernel))⟩
theorem kw_0_1 : kW 0 1 .int := ⟨RX0, TX0, 2, tyX0, rfl, tyX0_ok, nmX0, rfl, by decide +kernel⟩
theorem kfX4_77 : kF kNf RX4 77 0 1 := ⟨RX0, TX0, 2, rfl, by decide, gX0_in, Or.inr (List.mem_of_getElem? (i := 21) (by decide +kernel))⟩
theorem kfX1_9 : kF kNf RX1 9 1 0 := ⟨RX1, TX1, 10, rfl, by decide, gX1_in, Or.inl (gw_mem (i := 248) (by decide +kernel) (by decide +kernel))⟩
theorem kx_1_0 : kX RX1 1 0 (.array .int) := ⟨RX1, TX1, 10, tyX1, rfl, tyX1_ok, nmX1, rfl, by decide +kernel, by decide +kernel⟩
theorem kfX1_15 : kF kNf RX1 15 1 1 := ⟨RX1, TX1, 10, rfl, by decide, gX1_in, Or.inl (gw_mem (i := 249) (by decide +kernel) (by decide +kernel))⟩
theorem kx_1_1 : kX RX1 1 1 (.array .int) := ⟨RX1, TX1, 10, tyX1, rfl, tyX1_ok, nmX1, rfl, by decide +kernel, by decide +kernel⟩
theorem kfX1_18 : kF kNf RX1 18 1 2 := ⟨RX1, TX1, 10, rfl, by decide, gX1_in, Or.inl (gw_mem (i := 250) (by decide +kernel) (by decide +kernel))⟩
theorem kx_1_2 : kX RX1 1 2 (.array .int) := ⟨RX1, TX1, 10, tyX1, rfl, tyX1_ok, nmX1, rfl, by decide +kernel, by decide +kernel⟩
theorem kfX4_271 : kF kNf RX4 271 1 2 := ⟨RX1, TX1, 10, rfl, by decide, gX1_in, Or.inr (List.mem_of_getElem? (i := 22) (by decide +kernel))⟩
theorem kfX1_21 : kF kNf RX1 21 1 3 := ⟨RX1, TX1, 10, rfl, by decide, gX1_in, Or.inl (gw_mem (i := 252) (by decide +kernel) (by decide +kernel))⟩
theorem kx_1_3 : kX RX1 1 3 (.array .int) := ⟨RX1, TX1, 10, tyX1, rfl, tyX1_ok, nmX1, rfl, by decide +kernel, by decide +kernel⟩
theorem kfX4_277 : kF kNf RX4 277 1 3 := ⟨RX1, TX1, 10, rfl, by decide, gX1_in, Or.inr (List.mem_of_getElem? (i := 23) (by decide +kernel))⟩
theorem kfX1_24 : kF kNf RX1 24 1 4 := ⟨RX1, TX1, 10, rfl, by decide, gX1_in, Or.inl (gw_mem (i := 254) (by decide +kernel) (by decide +kernel))⟩
theorem kx_1_4 : kX RX1 1 4 (.array .int) := ⟨RX1, TX1, 10, tyX1, rfl, tyX1_ok, nmX1, rfl, by decide +kernel, by decide +kernel⟩
theorem kfX1_45 : kF kNf RX1 45 1 5 := ⟨RX1, TX1, 10, rfl, by decide, gX1_in, Or.inl (gw_mem (i := 255) (by decide +kernel) (by decide +kernel))⟩
theorem kw_1_5 : kW 1 5 .int := ⟨RX1, TX1, 10, tyX1, rfl, tyX1_ok, nmX1, rfl, by decide +kernel⟩
theorem kfX1_27 : kF kNf RX1 27 1 6 := ⟨RX1, TX1, 10, rfl, by decide, gX1_in, Or.inl (gw_mem (i := 256) (by decide +kernel) (by decide +kernel))⟩
theorem kx_1_6 : kX RX1 1 6 (.array .int) := ⟨RX1, TX1, 10, tyX1, rfl, tyX1_ok, nmX1, rfl, by decide +kernel, by decide +kernel⟩
theorem kfX4_220 : kF kNf RX4 220 1 6 := ⟨RX1, TX1, 10, rfl, by decide, gX1_in, Or.inr (List.mem_of_getElem? (i := 24) (by decide +kernel))⟩
theorem kfX1_30 : kF kNf RX1 30 1 7 := ⟨RX1, TX1, 10, rfl, by decide, gX1_in, Or.inl (gw_mem (i := 258) (by decide +kernel) (by decide +kernel))⟩
theorem kx_1_7 : kX RX1 1 7 (.array .boolean) := ⟨RX1, TX1, 10, tyX1, rfl, tyX1_ok, nmX1, rfl, by decide +kernel, by decide +kernel⟩
theorem kfX4_223 : kF kNf RX4 223 1 7 := ⟨RX1, TX1, 10, rfl, by decide, gX1_in, Or.inr (List.mem_of_getElem? (i := 25) (by decide +kernel))⟩
theorem kfX1_41 : kF kNf RX1 41 1 8 := ⟨RX1, TX1, 10, rfl, by decide, gX1_in, Or.inl (gw_mem (i := 260) (by decide +kernel) (by decide +kernel))⟩
theorem kw_1_8 : kW 1 8 .int := ⟨RX1, TX1, 10, tyX1, rfl, tyX1_ok, nmX1, rfl, by decide +kernel⟩
theorem kfX4_252 : kF kNf RX4 252 1 8 := ⟨RX1, TX1, 10, rfl, by decide, gX1_in, Or.inr (List.mem_of_getElem? (i := 26) (by decide +kernel))⟩
theorem kfX1_85 : kF kNf RX1 85 1 9 := ⟨RX1, TX1, 10, rfl, by decide, gX1_in, Or.inl (gw_mem (i := 262) (by decide +kernel) (by decide +kernel))⟩
theorem kw_1_9 : kW 1 9 .int := ⟨RX1, TX1, 10, tyX1, rfl, tyX1_ok, nmX1, rfl, by decide +kernel⟩
theorem kfX4_274 : kF kNf RX4 274 1 9 := ⟨RX1, TX1, 10, rfl, by decide, gX1_in, Or.inr (List.mem_of_getElem? (i := 27) (by decide +kernel))⟩
theorem kfX4_12 : kF kNf RX4 12 4 0 := ⟨RX4, TX4, 9, rfl, by decide, gX4_in, Or.inl (gw_mem (i := 491) (by decide +kernel) (by decide +kernel))⟩
theorem kx_4_0 : kX RX4 4 0 (.object "DisplayMap$Text") := ⟨RX4, TX4, 9, tyX4, rfl, tyX4_ok, nmX4, rfl, by decide +kernel, by decide +kernel⟩
theorem kfX4_19 : kF kNf RX4 19 4 1 := ⟨RX4, TX4, 9, rfl, by decide, gX4_in, Or.inl (gw_mem (i := 492) (by decide +kernel) (by decide +kernel))⟩
theorem kx_4_1 : kX RX4 4 1 (.object "DisplayMap$Sheet") := ⟨RX4, TX4, 9, tyX4, rfl, tyX4_ok, nmX4, rfl, by decide +kernel, by decide +kernel⟩
theorem kfX4_28 : kF kNf RX4 28 4 2 := ⟨RX4, TX4, 9, rfl, by decide, gX4_in, Or.inl (gw_mem (i := 493) (by decide +kernel) (by decide +kernel))⟩
theorem kx_4_2 : kX RX4 4 2 (.object "DisplayMap$Pile") := ⟨RX4, TX4, 9, tyX4, rfl, tyX4_ok, nmX4, rfl, by decide +kernel, by decide +kernel⟩
theorem kfX4_32 : kF kNf RX4 32 4 3 := ⟨RX4, TX4, 9, rfl, by decide, gX4_in, Or.inl (gw_mem (i := 494) (by decide +kernel) (by decide +kernel))⟩
theorem kx_4_3 : kX RX4 4 3 (.object "DisplayMap$Pile") := ⟨RX4, TX4, 9, tyX4, rfl, tyX4_ok, nmX4, rfl, by decide +kernel, by decide +kernel⟩
theorem kfX4_38 : kF kNf RX4 38 4 4 := ⟨RX4, TX4, 9, rfl, by decide, gX4_in, Or.inl (gw_mem (i := 495) (by decide +kernel) (by decide +kernel))⟩
theorem kw_4_4 : kW 4 4 (.object "DisplayMap$Screen") := ⟨RX4, TX4, 9, tyX4, rfl, tyX4_ok, nmX4, rfl, by decide +kernel⟩
theorem kfX4_42 : kF kNf RX4 42 4 5 := ⟨RX4, TX4, 9, rfl, by decide, gX4_in, Or.inl (gw_mem (i := 496) (by decide +kernel) (by decide +kernel))⟩
theorem kw_4_5 : kW 4 5 (.object "DisplayMap$Screen") := ⟨RX4, TX4, 9, tyX4, rfl, tyX4_ok, nmX4, rfl, by decide +kernel⟩
theorem kfX4_261 : kF kNf RX4 261 4 6 := ⟨RX4, TX4, 9, rfl, by decide, gX4_in, Or.inl (gw_mem (i := 497) (by decide +kernel) (by decide +kernel))⟩
theorem kw_4_6 : kW 4 6 .boolean := ⟨RX4, TX4, 9, tyX4, rfl, tyX4_ok, nmX4, rfl, by decide +kernel⟩
theorem kfX4_45 : kF kNf RX4 45 4 7 := ⟨RX4, TX4, 9, rfl, by decide, gX4_in, Or.inl (gw_mem (i := 498) (by decide +kernel) (by decide +kernel))⟩
theorem kx_4_7 : kX RX4 4 7 (.object "DisplayMap$Sheet") := ⟨RX4, TX4, 9, tyX4, rfl, tyX4_ok, nmX4, rfl, by decide +kernel, by decide +kernel⟩
theorem kfX4_48 : kF kNf RX4 48 4 8 := ⟨RX4, TX4, 9, rfl, by decide, gX4_in, Or.inl (gw_mem (i := 499) (by decide +kernel) (by decide +kernel))⟩
theorem kx_4_8 : kX RX4 4 8 (.object "DisplayMap$Screen") := ⟨RX4, TX4, 9, tyX4, rfl, tyX4_ok, nmX4, rfl, by decide +kernel, by decide +kernel⟩
theorem kfX5_89 : kF kNf RX5 89 5 0 := ⟨RX5, TX5, 41, rfl, by decide, gX5_in, Or.inl (gw_mem (i := 828) (by decide +kernel) (by decide +kernel))⟩
theorem kw_5_0 : kW 5 0 .int := ⟨RX5, TX5, 41, tyX5, rfl, tyX5_ok, nmX5, rfl, by decide +kernel⟩
theorem kfX5_7 : kF kNf RX5 7 5 1 := ⟨RX5, TX5, 41, rfl, by decide, gX5_in, Or.inl (gw_mem (i := 829) (by decide +kernel) (by decide +kernel))⟩
theorem kx_5_1 : kX RX5 5 1 (.array .int) := ⟨RX5, TX5, 41, tyX5, rfl, tyX5_ok, nmX5, rfl, by decide +kernel, by decide +kernel⟩
theorem kfX5_107 : kF kNf RX5 107 5 2 := ⟨RX5, TX5, 41, rfl, by decide, gX5_in, Or.inl (gw_mem (i := 830) (by decide +kernel) (by decide +kernel))⟩
theorem kw_5_2 : kW 5 2 .int := ⟨RX5, TX5, 41, tyX5, rfl, tyX5_ok, nmX5, rfl, by decide +kernel⟩
theorem kfX5_13 : kF kNf RX5 13 5 3 := ⟨RX5, TX5, 41, rfl, by decide, gX5_in, Or.inl (gw_mem (i := 831) (by decide +kernel) (by decide +kernel))⟩
theorem kx_5_3 : kX RX5 5 3 (.array .int) := ⟨RX5, TX5, 41, tyX5, rfl, tyX5_ok, nmX5, rfl, by decide +kernel, by decide +kernel⟩
theorem kfX5_16 : kF kNf RX5 16 5 4 := ⟨RX5, TX5, 41, rfl, by decide, gX5_in, Or.inl (gw_mem (i := 832) (by decide +kernel) (by decide +kernel))⟩
theorem kx_5_4 : kX RX5 5 4 (.array .int) := ⟨RX5, TX5, 41, tyX5, rfl, tyX5_ok, nmX5, rfl, by decide +kernel, by decide +kernel⟩
theorem kfX5_19 : kF kNf RX5 19 5 5 := ⟨RX5, TX5, 41, rfl, by decide, gX5_in, Or.inl (gw_mem (i := 833) (by decide +kernel) (by decide +kernel))⟩
theorem kx_5_5 : kX RX5 5 5 (.array .int) := ⟨RX5, TX5, 41, tyX5, rfl, tyX5_ok, nmX5, rfl, by decide +kernel, by decide +kernel⟩
theorem kfX5_110 : kF kNf RX5 110 5 6 := ⟨RX5, TX5, 41, rfl, by decide, gX5_in, Or.inl (gw_mem (i := 834) (by decide +kernel) (by decide +kernel))⟩
theorem kw_5_6 : kW 5 6 .int := ⟨RX5, TX5, 41, tyX5, rfl, tyX5_ok, nmX5, rfl, by decide +kernel⟩
theorem kfX5_22 : kF kNf RX5 22 5 7 := ⟨RX5, TX5, 41, rfl, by decide, gX5_in, Or.inl (gw_mem (i := 835) (by decide +kernel) (by decide +kernel))⟩
theorem kx_5_7 : kX RX5 5 7 (.array .int) := ⟨RX5, TX5, 41, tyX5, rfl, tyX5_ok, nmX5, rfl, by decide +kernel, by decide +kernel⟩
theorem kfX5_25 : kF kNf RX5 25 5 8 := ⟨RX5, TX5, 41, rfl, by decide, gX5_in, Or.inl (gw_mem (i := 836) (by decide +kernel) (by decide +kernel))⟩
theorem kx_5_8 : kX RX5 5 8 (.array .int) := ⟨RX5, TX5, 41, tyX5, rfl, tyX5_ok, nmX5, rfl, by decide +kernel, by decide +kernel⟩
theorem kfX5_28 : kF kNf RX5 28 5 9 := ⟨RX5, TX5, 41, rfl, by decide, gX5_in, Or.inl (gw_mem (i := 837) (by decide +kernel) (by decide +kernel))⟩
theorem kw_5_9 : kW 5 9 .int := ⟨RX5, TX5, 41, tyX5, rfl, tyX5_ok, nmX5, rfl, by decide +kernel⟩
theorem kfX5_32 : kF kNf RX5 32 5 10 := ⟨RX5, TX5, 41, rfl, by decide, gX5_in, Or.inl (gw_mem (i := 838) (by decide +kernel) (by decide +kernel))⟩
theorem kw_5_10 : kW 5 10 .int := ⟨RX5, TX5, 41, tyX5, rfl, tyX5_ok, nmX5, rfl, by decide +kernel⟩
theorem kfX5_100 : kF kNf RX5 100 5 11 := ⟨RX5, TX5, 41, rfl, by decide, gX5_in, Or.inl (gw_mem (i := 839) (by decide +kernel) (by decide +kernel))⟩
theorem kw_5_11 : kW 5 11 .int := ⟨RX5, TX5, 41, tyX5, rfl, tyX5_ok, nmX5, rfl, by decide +kernel⟩
theorem kfX5_35 : kF kNf RX5 35 5 12 := ⟨RX5, TX5, 41, rfl, by decide, gX5_in, Or.inl (gw_mem (i := 840) (by decide +kernel) (by decide +kernel))⟩
theorem kw_5_12 : kW 5 12 .int := ⟨RX5, TX5, 41, tyX5, rfl, tyX5_ok, nmX5, rfl, by decide +kernel⟩
theorem kfX5_117 : kF kNf RX5 117 5 13 := ⟨RX5, TX5, 41, rfl, by decide, gX5_in, Or.inl (gw_mem (i := 841) (by decide +kernel) (by decide +kernel))⟩
theorem kw_5_13 : kW 5 13 .int := ⟨RX5, TX5, 41, tyX5, rfl, tyX5_ok, nmX5, rfl, by decide +kernel⟩
theorem kfX5_38 : kF kNf RX5 38 5 14 := ⟨RX5, TX5, 41, rfl, by decide, gX5_in, Or.inl (gw_mem (i := 842) (by decide +kernel) (by decide +kernel))⟩
theorem kx_5_14 : kX RX5 5 14 (.array .int) := ⟨RX5, TX5, 41, tyX5, rfl, tyX5_ok, nmX5, rfl, by decide +kernel, by decide +kernel⟩
theorem kfX5_41 : kF kNf RX5 41 5 15 := ⟨RX5, TX5, 41, rfl, by decide, gX5_in, Or.inl (gw_mem (i := 843) (by decide +kernel) (by decide +kernel))⟩
theorem kx_5_15 : kX RX5 5 15 (.array .int) := ⟨RX5, TX5, 41, tyX5, rfl, tyX5_ok, nmX5, rfl, by decide +kernel, by decide +kernel⟩
theorem kfX5_44 : kF kNf RX5 44 5 16 := ⟨RX5, TX5, 41, rfl, by decide, gX5_in, Or.inl (gw_mem (i := 844) (by decide +kernel) (by decide +kernel))⟩
theorem kx_5_16 : kX RX5 5 16 (.array .int) := ⟨RX5, TX5, 41, tyX5, rfl, tyX5_ok, nmX5, rfl, by decide +kernel, by decide +kernel⟩
theorem kfX5_47 : kF kNf RX5 47 5 17 := ⟨RX5, TX5, 41, rfl, by decide, gX5_in, Or.inl (gw_mem (i := 845) (by decide +kernel) (by decide +kernel))⟩
theorem kx_5_17 : kX RX5 5 17 (.array .int) := ⟨RX5, TX5, 41, tyX5, rfl, tyX5_ok, nmX5, rfl, by decide +kernel, by decide +kernel⟩
theorem kfX5_50 : kF kNf RX5 50 5 18 := ⟨RX5, TX5, 41, rfl, by decide, gX5_in, Or.inl (gw_mem (i := 846) (by decide +kernel) (by decide +kernel))⟩
theorem kx_5_18 : kX RX5 5 18 (.array .int) := ⟨RX5, TX5, 41, tyX5, rfl, tyX5_ok, nmX5, rfl, by decide +kernel, by decide +kernel⟩
theorem kfX5_144 : kF kNf RX5 144 5 19 := ⟨RX5, TX5, 41, rfl, by decide, gX5_in, Or.inl (gw_mem (i := 847) (by decide +kernel) (by decide +kernel))⟩
theorem kw_5_19 : kW 5 19 .int := ⟨RX5, TX5, 41, tyX5, rfl, tyX5_ok, nmX5, rfl, by decide +kernel⟩
theorem kfX5_147 : kF kNf RX5 147 5 20 := ⟨RX5, TX5, 41, rfl, by decide, gX5_in, Or.inl (gw_mem (i := 848) (by decide +kernel) (by decide +kernel))⟩
theorem kw_5_20 : kW 5 20 .int := ⟨RX5, TX5, 41, tyX5, rfl, tyX5_ok, nmX5, rfl, by decide +kernel⟩
theorem kfX5_53 : kF kNf RX5 53 5 21 := ⟨RX5, TX5, 41, rfl, by decide, gX5_in, Or.inl (gw_mem (i := 849) (by decide +kernel) (by decide +kernel))⟩
theorem kx_5_21 : kX RX5 5 21 (.array .int) := ⟨RX5, TX5, 41, tyX5, rfl, tyX5_ok, nmX5, rfl, by decide +kernel, by decide +kernel⟩
theorem kfX5_56 : kF kNf RX5 56 5 22 := ⟨RX5, TX5, 41, rfl, by decide, gX5_in, Or.inl (gw_mem (i := 850) (by decide +kernel) (by decide +kernel))⟩
theorem kx_5_22 : kX RX5 5 22 (.array .int) := ⟨RX5, TX5, 41, tyX5, rfl, tyX5_ok, nmX5, rfl, by decide +kernel, by decide +kernel⟩
theorem kfX5_59 : kF kNf RX5 59 5 23 := ⟨RX5, TX5, 41, rfl, by decide, gX5_in, Or.inl (gw_mem (i := 851) (by decide +kernel) (by decide +kernel))⟩
theorem kx_5_23 : kX RX5 5 23 (.array .int) := ⟨RX5, TX5, 41, tyX5, rfl, tyX5_ok, nmX5, rfl, by decide +kernel, by decide +kernel⟩
theorem kfX5_178 : kF kNf RX5 178 5 24 := ⟨RX5, TX5, 41, rfl, by decide, gX5_in, Or.inl (gw_mem (i := 852) (by decide +kernel) (by decide +kernel))⟩
theorem kw_5_24 : kW 5 24 .int := ⟨RX5, TX5, 41, tyX5, rfl, tyX5_ok, nmX5, rfl, by decide +kernel⟩
theorem kfX5_62 : kF kNf RX5 62 5 25 := ⟨RX5, TX5, 41, rfl, by decide, gX5_in, Or.inl (gw_mem (i := 853) (by decide +kernel) (by decide +kernel))⟩
theorem kx_5_25 : kX RX5 5 25 (.array .int) := ⟨RX5, TX5, 41, tyX5, rfl, tyX5_ok, nmX5, rfl, by decide +kernel, by decide +kernel⟩
theorem kfX5_214 : kF kNf RX5 214 5 26 := ⟨RX5, TX5, 41, rfl, by decide, gX5_in, Or.inl (gw_mem (i := 854) (by decide +kernel) (by decide +kernel))⟩
theorem kw_5_26 : kW 5 26 .int := ⟨RX5, TX5, 41, tyX5, rfl, tyX5_ok, nmX5, rfl, by decide +kernel⟩
theorem kfX5_65 : kF kNf RX5 65 5 27 := ⟨RX5, TX5, 41, rfl, by decide, gX5_in, Or.inl (gw_mem (i := 855) (by decide +kernel) (by decide +kernel))⟩
theorem kx_5_27 : kX RX5 5 27 (.array .int) := ⟨RX5, TX5, 41, tyX5, rfl, tyX5_ok, nmX5, rfl, by decide +kernel, by decide +kernel⟩
theorem kfX5_165 : kF kNf RX5 165 5 28 := ⟨RX5, TX5, 41, rfl, by decide, gX5_in, Or.inl (gw_mem (i := 856) (by decide +kernel) (by decide +kernel))⟩
theorem kw_5_28 : kW 5 28 .int := ⟨RX5, TX5, 41, tyX5, rfl, tyX5_ok, nmX5, rfl, by decide +kernel⟩
theorem kfX5_68 : kF kNf RX5 68 5 29 := ⟨RX5, TX5, 41, rfl, by decide, gX5_in, Or.inl (gw_mem (i := 857) (by decide +kernel) (by decide +kernel))⟩
theorem kx_5_29 : kX RX5 5 29 (.array .int) := ⟨RX5, TX5, 41, tyX5, rfl, tyX5_ok, nmX5, rfl, by decide +kernel, by decide +kernel⟩
theorem kfX5_71 : kF kNf RX5 71 5 30 := ⟨RX5, TX5, 41, rfl, by decide, gX5_in, Or.inl (gw_mem (i := 858) (by decide +kernel) (by decide +kernel))⟩
theorem kx_5_30 : kX RX5 5 30 (.array .int) := ⟨RX5, TX5, 41, tyX5, rfl, tyX5_ok, nmX5, rfl, by decide +kernel, by decide +kernel⟩
theorem kfX5_74 : kF kNf RX5 74 5 31 := ⟨RX5, TX5, 41, rfl, by decide, gX5_in, Or.inl (gw_mem (i := 859) (by decide +kernel) (by decide +kernel))⟩
theorem kx_5_31 : kX RX5 5 31 (.array .int) := ⟨RX5, TX5, 41, tyX5, rfl, tyX5_ok, nmX5, rfl, by decide +kernel, by decide +kernel⟩
theorem kfX5_77 : kF kNf RX5 77 5 32 := ⟨RX5, TX5, 41, rfl, by decide, gX5_in, Or.inl (gw_mem (i := 860) (by decide +kernel) (by decide +kernel))⟩
theorem kx_5_32 : kX RX5 5 32 (.array .int) := ⟨RX5, TX5, 41, tyX5, rfl, tyX5_ok, nmX5, rfl, by decide +kernel, by decide +kernel⟩
theorem kfX5_168 : kF kNf RX5 168 5 33 := ⟨RX5, TX5, 41, rfl, by decide, gX5_in, Or.inl (gw_mem (i := 861) (by decide +kernel) (by decide +kernel))⟩
theorem kw_5_33 : kW 5 33 .int := ⟨RX5, TX5, 41, tyX5, rfl, tyX5_ok, nmX5, rfl, by decide +kernel⟩
theorem kfX5_171 : kF kNf RX5 171 5 34 := ⟨RX5, TX5, 41, rfl, by decide, gX5_in, Or.inl (gw_mem (i := 862) (by decide +kernel) (by decide +kernel))⟩
theorem kw_5_34 : kW 5 34 .boolean := ⟨RX5, TX5, 41, tyX5, rfl, tyX5_ok, nmX5, rfl, by decide +kernel⟩
theorem kfX5_80 : kF kNf RX5 80 5 35 := ⟨RX5, TX5, 41, rfl, by decide, gX5_in, Or.inl (gw_mem (i := 863) (by decide +kernel) (by decide +kernel))⟩
theorem kx_5_35 : kX RX5 5 35 (.array .int) := ⟨RX5, TX5, 41, tyX5, rfl, tyX5_ok, nmX5, rfl, by decide +kernel, by decide +kernel⟩
theorem kfX5_83 : kF kNf RX5 83 5 36 := ⟨RX5, TX5, 41, rfl, by decide, gX5_in, Or.inl (gw_mem (i := 864) (by decide +kernel) (by decide +kernel))⟩
theorem kx_5_36 : kX RX5 5 36 (.array .int) := ⟨RX5, TX5, 41, tyX5, rfl, tyX5_ok, nmX5, rfl, by decide +kernel, by decide +kernel⟩
theorem kfX5_261 : kF kNf RX5 261 5 37 := ⟨RX5, TX5, 41, rfl, by decide, gX5_in, Or.inl (gw_mem (i := 865) (by decide +kernel) (by decide +kernel))⟩
theorem kw_5_37 : kW 5 37 .int := ⟨RX5, TX5, 41, tyX5, rfl, tyX5_ok, nmX5, rfl, by decide +kernel⟩
theorem kfX5_264 : kF kNf RX5 264 5 38 := ⟨RX5, TX5, 41, rfl, by decide, gX5_in, Or.inl (gw_mem (i := 866) (by decide +kernel) (by decide +kernel))⟩
theorem kw_5_38 : kW 5 38 .int := ⟨RX5, TX5, 41, tyX5, rfl, tyX5_ok, nmX5, rfl, by decide +kernel⟩
theorem kfX5_274 : kF kNf RX5 274 5 39 := ⟨RX5, TX5, 41, rfl, by decide, gX5_in, Or.inl (gw_mem (i := 867) (by decide +kernel) (by decide +kernel))⟩
theorem kw_5_39 : kW 5 39 .int := ⟨RX5, TX5, 41, tyX5, rfl, tyX5_ok, nmX5, rfl, by decide +kernel⟩
theorem kfX5_86 : kF kNf RX5 86 5 40 := ⟨RX5, TX5, 41, rfl, by decide, gX5_in, Or.inl (gw_mem (i := 868) (by decide +kernel) (by decide +kernel))⟩
theorem kx_5_40 : kX RX5 5 40 (.array .int) := ⟨RX5, TX5, 41, tyX5, rfl, tyX5_ok, nmX5, rfl, by decide +kernel, by decide +kernel⟩
theorem kyX4_init : kY yX4_init cX4_init 2 none 0 := ⟨gw_mem (i := 133) (by decide +kernel) (by decide +kernel), gw_mem (i := 117) (by decide +kernel) (by decide +kernel), by decide +kernel, by decide +kernel, by decide +kernel, by decide, by decide +kernel⟩
theorem kiX4_init : Cond.instanceMethod yX4_init ∈ Gw := gw_mem (i := 132) (by decide +kernel) (by decide +kernel)
theorem kyX3_init : kY yX3_init cX3_init 1 none 0 := ⟨gw_mem (i := 141) (by decide +kernel) (by decide +kernel), gw_mem (i := 118) (by decide +kernel) (by decide +kernel), by decide +kernel, by decide +kernel, by decide +kernel, by decide, by decide +kernel⟩
theorem kiX3_init : Cond.instanceMethod yX3_init ∈ Gw := gw_mem (i := 140) (by decide +kernel) (by decide +kernel)
theorem kyX2_init : kY yX2_init cX2_init 1 none 0 := ⟨gw_mem (i := 159) (by decide +kernel) (by decide +kernel), gw_mem (i := 119) (by decide +kernel) (by decide +kernel), by decide +kernel, by decide +kernel, by decide +kernel, by decide, by decide +kernel⟩
theorem kiX2_init : Cond.instanceMethod yX2_init ∈ Gw := gw_mem (i := 158) (by decide +kernel) (by decide +kernel)
theorem kyX0_init : kY yX0_init cX0_init 3 none 1 := ⟨gw_mem (i := 226) (by decide +kernel) (by decide +kernel), gw_mem (i := 120) (by decide +kernel) (by decide +kernel), by decide +kernel, by decide +kernel, by decide +kernel, by decide, by decide +kernel⟩
theorem kiX0_init : Cond.instanceMethod yX0_init ∈ Gw := gw_mem (i := 225) (by decide +kernel) (by decide +kernel)
theorem kyX1_init : kY yX1_init cX1_init 1 none 0 := ⟨gw_mem (i := 246) (by decide +kernel) (by decide +kernel), gw_mem (i := 122) (by decide +kernel) (by decide +kernel), by decide +kernel, by decide +kernel, by decide +kernel, by decide, by decide +kernel⟩
theorem kiX1_init : Cond.instanceMethod yX1_init ∈ Gw := gw_mem (i := 245) (by decide +kernel) (by decide +kernel)
theorem kyX3_append : kY yX3_append cX3_append 2 (some .boolean) 1 := ⟨gw_mem (i := 337) (by decide +kernel) (by decide +kernel), gw_mem (i := 118) (by decide +kernel) (by decide +kernel), by decide +kernel, by decide +kernel, by decide +kernel, by decide, by decide +kernel⟩
theorem knX3_append : kN yX3_append 3 := ⟨gw_mem (i := 336) (by decide +kernel) (by decide +kernel), gw_mem (i := 0) (by decide +kernel) (by decide +kernel), TX3, 3, rfl⟩
theorem kyX3_readInto : kY yX3_readInto cX3_readInto 5 (some .int) 1 := ⟨gw_mem (i := 341) (by decide +kernel) (by decide +kernel), gw_mem (i := 118) (by decide +kernel) (by decide +kernel), by decide +kernel, by decide +kernel, by decide +kernel, by decide, by decide +kernel⟩
theorem knX3_readInto : kN yX3_readInto 3 := ⟨gw_mem (i := 340) (by decide +kernel) (by decide +kernel), gw_mem (i := 1) (by decide +kernel) (by decide +kernel), TX3, 3, rfl⟩
theorem kyX2_clear : kY yX2_clear cX2_clear 1 none 0 := ⟨gw_mem (i := 345) (by decide +kernel) (by decide +kernel), gw_mem (i := 119) (by decide +kernel) (by decide +kernel), by decide +kernel, by decide +kernel, by decide +kernel, by decide, by decide +kernel⟩
theorem knX2_clear : kN yX2_clear 2 := ⟨gw_mem (i := 344) (by decide +kernel) (by decide +kernel), gw_mem (i := 2) (by decide +kernel) (by decide +kernel), TX2, 13, rfl⟩
theorem kyX2_setFlow : kY yX2_setFlow cX2_setFlow 4 none 3 := ⟨gw_mem (i := 349) (by decide +kernel) (by decide +kernel), gw_mem (i := 119) (by decide +kernel) (by decide +kernel), by decide +kernel, by decide +kernel, by decide +kernel, by decide, by decide +kernel⟩
theorem knX2_setFlow : kN yX2_setFlow 2 := ⟨gw_mem (i := 348) (by decide +kernel) (by decide +kernel), gw_mem (i := 3) (by decide +kernel) (by decide +kernel), TX2, 13, rfl⟩
theorem kyX3_endOfItem : kY yX3_endOfItem cX3_endOfItem 3 (some .int) 1 := ⟨gw_mem (i := 353) (by decide +kernel) (by decide +kernel), gw_mem (i := 118) (by decide +kernel) (by decide +kernel), by decide +kernel, by decide +kernel, by decide +kernel, by decide, by decide +kernel⟩
theorem knX3_endOfItem : kN yX3_endOfItem 3 := ⟨gw_mem (i := 352) (by decide +kernel) (by decide +kernel), gw_mem (i := 4) (by decide +kernel) (by decide +kernel), TX3, 3, rfl⟩
theorem kyX3_readItem : kY yX3_readItem cX3_readItem 6 (some .boolean) 3 := ⟨gw_mem (i := 357) (by decide +kernel) (by decide +kernel), gw_mem (i := 118) (by decide +kernel) (by decide +kernel), by decide +kernel, by decide +kernel, by decide +kernel, by decide, by decide +kernel⟩
theorem knX3_readItem : kN yX3_readItem 3 := ⟨gw_mem (i := 356) (by decide +kernel) (by decide +kernel), gw_mem (i := 5) (by decide +kernel) (by decide +kernel), TX3, 3, rfl⟩
theorem kyX3_readSigns : kY yX3_readSigns cX3_readSigns 6 (some .boolean) 3 := ⟨gw_mem (i := 361) (by decide +kernel) (by decide +kernel), gw_mem (i := 118) (by decide +kernel) (by decide +kernel), by decide +kernel, by decide +kernel, by decide +kernel, by decide, by decide +kernel⟩
theorem knX3_readSigns : kN yX3_readSigns 3 := ⟨gw_mem (i := 360) (by decide +kernel) (by decide +kernel), gw_mem (i := 6) (by decide +kernel) (by decide +kernel), TX3, 3, rfl⟩
theorem kyX3_signOf : kY yX3_signOf cX3_signOf 1 (some .int) 1 := ⟨gw_mem (i := 364) (by decide +kernel) (by decide +kernel), gw_mem (i := 118) (by decide +kernel) (by decide +kernel), by decide +kernel, by decide +kernel, by decide +kernel, by decide, by decide +kernel⟩
theorem ksX3_signOf : Cond.static yX3_signOf ∈ Gw := gw_mem (i := 363) (by decide +kernel) (by decide +kernel)
theorem kyX2_hasRoom : kY yX2_hasRoom cX2_hasRoom 1 (some .boolean) 0 := ⟨gw_mem (i := 368) (by decide +kernel) (by decide +kernel), gw_mem (i := 119) (by decide +kernel) (by decide +kernel), by decide +kernel, by decide +kernel, by decide +kernel, by decide, by decide +kernel⟩
theorem knX2_hasRoom : kN yX2_hasRoom 2 := ⟨gw_mem (i := 367) (by decide +kernel) (by decide +kernel), gw_mem (i := 7) (by decide +kernel) (by decide +kernel), TX2, 13, rfl⟩
theorem kyX2_putIn : kY yX2_putIn cX2_putIn 4 none 2 := ⟨gw_mem (i := 372) (by decide +kernel) (by decide +kernel), gw_mem (i := 119) (by decide +kernel) (by decide +kernel), by decide +kernel, by decide +kernel, by decide +kernel, by decide, by decide +kernel⟩
theorem knX2_putIn : kN yX2_putIn 2 := ⟨gw_mem (i := 371) (by decide +kernel) (by decide +kernel), gw_mem (i := 8) (by decide +kernel) (by decide +kernel), TX2, 13, rfl⟩
theorem kyX2_hasPlace : kY yX2_hasPlace cX2_hasPlace 2 (some .boolean) 1 := ⟨gw_mem (i := 376) (by decide +kernel) (by decide +kernel), gw_mem (i := 119) (by decide +kernel) (by decide +kernel), by decide +kernel, by decide +kernel, by decide +kernel, by decide, by decide +kernel⟩
theorem knX2_hasPlace : kN yX2_hasPlace 2 := ⟨gw_mem (i := 375) (by decide +kernel) (by decide +kernel), gw_mem (i := 9) (by decide +kernel) (by decide +kernel), TX2, 13, rfl⟩
theorem kyX3_readNumbers : kY yX3_readNumbers cX3_readNumbers 8 (some .int) 2 := ⟨gw_mem (i := 381) (by decide +kernel) (by decide +kernel), gw_mem (i := 118) (by decide +kernel) (by decide +kernel), by decide +kernel, by decide +kernel, by decide +kernel, by decide, by decide +kernel⟩
theorem knX3_readNumbers : kN yX3_readNumbers 3 := ⟨gw_mem (i := 380) (by decide +kernel) (by decide +kernel), gw_mem (i := 10) (by decide +kernel) (by decide +kernel), TX3, 3, rfl⟩
theorem kyX3_readFold : kY yX3_readFold cX3_readFold 2 (some .boolean) 1 := ⟨gw_mem (i := 385) (by decide +kernel) (by decide +kernel), gw_mem (i := 118) (by decide +kernel) (by decide +kernel), by decide +kernel, by decide +kernel, by decide +kernel, by decide, by decide +kernel⟩
theorem knX3_readFold : kN yX3_readFold 3 := ⟨gw_mem (i := 384) (by decide +kernel) (by decide +kernel), gw_mem (i := 11) (by decide +kernel) (by decide +kernel), TX3, 3, rfl⟩
theorem kyX2_foldRefusal : kY yX2_foldRefusal cX2_foldRefusal 4 (some .int) 2 := ⟨gw_mem (i := 389) (by decide +kernel) (by decide +kernel), gw_mem (i := 119) (by decide +kernel) (by decide +kernel), by decide +kernel, by decide +kernel, by decide +kernel, by decide, by decide +kernel⟩
theorem knX2_foldRefusal : kN yX2_foldRefusal 2 := ⟨gw_mem (i := 388) (by decide +kernel) (by decide +kernel), gw_mem (i := 12) (by decide +kernel) (by decide +kernel), TX2, 13, rfl⟩
theorem kyX2_addFold : kY yX2_addFold cX2_addFold 4 (some .int) 2 := ⟨gw_mem (i := 393) (by decide +kernel) (by decide +kernel), gw_mem (i := 119) (by decide +kernel) (by decide +kernel), by decide +kernel, by decide +kernel, by decide +kernel, by decide, by decide +kernel⟩
theorem knX2_addFold : kN yX2_addFold 2 := ⟨gw_mem (i := 392) (by decide +kernel) (by decide +kernel), gw_mem (i := 13) (by decide +kernel) (by decide +kernel), TX2, 13, rfl⟩
theorem kyX3_readHint : kY yX3_readHint cX3_readHint 2 (some .boolean) 1 := ⟨gw_mem (i := 397) (by decide +kernel) (by decide +kernel), gw_mem (i := 118) (by decide +kernel) (by decide +kernel), by decide +kernel, by decide +kernel, by decide +kernel, by decide, by decide +kernel⟩
theorem knX3_readHint : kN yX3_readHint 3 := ⟨gw_mem (i := 396) (by decide +kernel) (by decide +kernel), gw_mem (i := 14) (by decide +kernel) (by decide +kernel), TX3, 3, rfl⟩
theorem kyX2_hintRefusal : kY yX2_hintRefusal cX2_hintRefusal 3 (some .int) 2 := ⟨gw_mem (i := 401) (by decide +kernel) (by decide +kernel), gw_mem (i := 119) (by decide +kernel) (by decide +kernel), by decide +kernel, by decide +kernel, by decide +kernel, by decide, by decide +kernel⟩
theorem knX2_hintRefusal : kN yX2_hintRefusal 2 := ⟨gw_mem (i := 400) (by decide +kernel) (by decide +kernel), gw_mem (i := 15) (by decide +kernel) (by decide +kernel), TX2, 13, rfl⟩
theorem kyX2_hintAt : kY yX2_hintAt cX2_hintAt 3 (some .int) 1 := ⟨gw_mem (i := 405) (by decide +kernel) (by decide +kernel), gw_mem (i := 119) (by decide +kernel) (by decide +kernel), by decide +kernel, by decide +kernel, by decide +kernel, by decide, by decide +kernel⟩
theorem knX2_hintAt : kN yX2_hintAt 2 := ⟨gw_mem (i := 404) (by decide +kernel) (by decide +kernel), gw_mem (i := 16) (by decide +kernel) (by decide +kernel), TX2, 13, rfl⟩
theorem kyX2_addHint : kY yX2_addHint cX2_addHint 4 (some .int) 2 := ⟨gw_mem (i := 409) (by decide +kernel) (by decide +kernel), gw_mem (i := 119) (by decide +kernel) (by decide +kernel), by decide +kernel, by decide +kernel, by decide +kernel, by decide, by decide +kernel⟩
theorem knX2_addHint : kN yX2_addHint 2 := ⟨gw_mem (i := 408) (by decide +kernel) (by decide +kernel), gw_mem (i := 17) (by decide +kernel) (by decide +kernel), TX2, 13, rfl⟩
theorem kyX3_readFlow : kY yX3_readFlow cX3_readFlow 2 (some .boolean) 1 := ⟨gw_mem (i := 413) (by decide +kernel) (by decide +kernel), gw_mem (i := 118) (by decide +kernel) (by decide +kernel), by decide +kernel, by decide +kernel, by decide +kernel, by decide, by decide +kernel⟩
theorem knX3_readFlow : kN yX3_readFlow 3 := ⟨gw_mem (i := 412) (by decide +kernel) (by decide +kernel), gw_mem (i := 18) (by decide +kernel) (by decide +kernel), TX3, 3, rfl⟩
theorem kyX2_isFlow : kY yX2_isFlow cX2_isFlow 3 (some .boolean) 3 := ⟨gw_mem (i := 416) (by decide +kernel) (by decide +kernel), gw_mem (i := 119) (by decide +kernel) (by decide +kernel), by decide +kernel, by decide +kernel, by decide +kernel, by decide, by decide +kernel⟩
theorem ksX2_isFlow : Cond.static yX2_isFlow ∈ Gw := gw_mem (i := 415) (by decide +kernel) (by decide +kernel)
theorem kyX3_readTabStep : kY yX3_readTabStep cX3_readTabStep 2 (some .boolean) 1 := ⟨gw_mem (i := 421) (by decide +kernel) (by decide +kernel), gw_mem (i := 118) (by decide +kernel) (by decide +kernel), by decide +kernel, by decide +kernel, by decide +kernel, by decide, by decide +kernel⟩
theorem knX3_readTabStep : kN yX3_readTabStep 3 := ⟨gw_mem (i := 420) (by decide +kernel) (by decide +kernel), gw_mem (i := 19) (by decide +kernel) (by decide +kernel), TX3, 3, rfl⟩
theorem kyX2_isTabStep : kY yX2_isTabStep cX2_isTabStep 1 (some .boolean) 1 := ⟨gw_mem (i := 424) (by decide +kernel) (by decide +kernel), gw_mem (i := 119) (by decide +kernel) (by decide +kernel), by decide +kernel, by decide +kernel, by decide +kernel, by decide, by decide +kernel⟩
theorem ksX2_isTabStep : Cond.static yX2_isTabStep ∈ Gw := gw_mem (i := 423) (by decide +kernel) (by decide +kernel)
theorem kyX1_draw : kY yX1_draw cX1_draw 2 (some .int) 1 := ⟨gw_mem (i := 428) (by decide +kernel) (by decide +kernel), gw_mem (i := 122) (by decide +kernel) (by decide +kernel), by decide +kernel, by decide +kernel, by decide +kernel, by decide, by decide +kernel⟩
theorem knX1_draw : kN yX1_draw 1 := ⟨gw_mem (i := 427) (by decide +kernel) (by decide +kernel), gw_mem (i := 20) (by decide +kernel) (by decide +kernel), TX1, 10, rfl⟩
theorem kyX1_gather : kY yX1_gather cX1_gather 4 none 1 := ⟨gw_mem (i := 432) (by decide +kernel) (by decide +kernel), gw_mem (i := 122) (by decide +kernel) (by decide +kernel), by decide +kernel, by decide +kernel, by decide +kernel, by decide, by decide +kernel⟩
theorem knX1_gather : kN yX1_gather 1 := ⟨gw_mem (i := 431) (by decide +kernel) (by decide +kernel), gw_mem (i := 21) (by decide +kernel) (by decide +kernel), TX1, 10, rfl⟩
theorem kyX2_isShown : kY yX2_isShown cX2_isShown 2 (some .boolean) 1 := ⟨gw_mem (i := 436) (by decide +kernel) (by decide +kernel), gw_mem (i := 119) (by decide +kernel) (by decide +kernel), by decide +kernel, by decide +kernel, by decide +kernel, by decide, by decide +kernel⟩
theorem knX2_isShown : kN yX2_isShown 2 := ⟨gw_mem (i := 435) (by decide +kernel) (by decide +kernel), gw_mem (i := 22) (by decide +kernel) (by decide +kernel), TX2, 13, rfl⟩
theorem kyX2_holderOf : kY yX2_holderOf cX2_holderOf 3 (some .int) 1 := ⟨gw_mem (i := 440) (by decide +kernel) (by decide +kernel), gw_mem (i := 119) (by decide +kernel) (by decide +kernel), by decide +kernel, by decide +kernel, by decide +kernel, by decide, by decide +kernel⟩
theorem knX2_holderOf : kN yX2_holderOf 2 := ⟨gw_mem (i := 439) (by decide +kernel) (by decide +kernel), gw_mem (i := 23) (by decide +kernel) (by decide +kernel), TX2, 13, rfl⟩
theorem kyX2_shutFoldOf : kY yX2_shutFoldOf cX2_shutFoldOf 3 (some .int) 1 := ⟨gw_mem (i := 444) (by decide +kernel) (by decide +kernel), gw_mem (i := 119) (by decide +kernel) (by decide +kernel), by decide +kernel, by decide +kernel, by decide +kernel, by decide, by decide +kernel⟩
theorem knX2_shutFoldOf : kN yX2_shutFoldOf 2 := ⟨gw_mem (i := 443) (by decide +kernel) (by decide +kernel), gw_mem (i := 24) (by decide +kernel) (by decide +kernel), TX2, 13, rfl⟩
theorem kyX1_addItem : kY yX1_addItem cX1_addItem 4 none 3 := ⟨gw_mem (i := 449) (by decide +kernel) (by decide +kernel), gw_mem (i := 122) (by decide +kernel) (by decide +kernel), by decide +kernel, by decide +kernel, by decide +kernel, by decide, by decide +kernel⟩
theorem knX1_addItem : kN yX1_addItem 1 := ⟨gw_mem (i := 448) (by decide +kernel) (by decide +kernel), gw_mem (i := 25) (by decide +kernel) (by decide +kernel), TX1, 10, rfl⟩
theorem kyX2_signAt : kY yX2_signAt cX2_signAt 2 (some .int) 1 := ⟨gw_mem (i := 454) (by decide +kernel) (by decide +kernel), gw_mem (i := 119) (by decide +kernel) (by decide +kernel), by decide +kernel, by decide +kernel, by decide +kernel, by decide, by decide +kernel⟩
theorem knX2_signAt : kN yX2_signAt 2 := ⟨gw_mem (i := 453) (by decide +kernel) (by decide +kernel), gw_mem (i := 26) (by decide +kernel) (by decide +kernel), TX2, 13, rfl⟩
theorem kyX2_hasSign : kY yX2_hasSign cX2_hasSign 2 (some .boolean) 1 := ⟨gw_mem (i := 458) (by decide +kernel) (by decide +kernel), gw_mem (i := 119) (by decide +kernel) (by decide +kernel), by decide +kernel, by decide +kernel, by decide +kernel, by decide, by decide +kernel⟩
theorem knX2_hasSign : kN yX2_hasSign 2 := ⟨gw_mem (i := 457) (by decide +kernel) (by decide +kernel), gw_mem (i := 27) (by decide +kernel) (by decide +kernel), TX2, 13, rfl⟩
theorem kyX1_flow : kY yX1_flow cX1_flow 4 none 1 := ⟨gw_mem (i := 462) (by decide +kernel) (by decide +kernel), gw_mem (i := 122) (by decide +kernel) (by decide +kernel), by decide +kernel, by decide +kernel, by decide +kernel, by decide, by decide +kernel⟩
theorem knX1_flow : kN yX1_flow 1 := ⟨gw_mem (i := 461) (by decide +kernel) (by decide +kernel), gw_mem (i := 28) (by decide +kernel) (by decide +kernel), TX1, 10, rfl⟩
theorem kyX1_openRow : kY yX1_openRow cX1_openRow 2 none 1 := ⟨gw_mem (i := 466) (by decide +kernel) (by decide +kernel), gw_mem (i := 122) (by decide +kernel) (by decide +kernel), by decide +kernel, by decide +kernel, by decide +kernel, by decide, by decide +kernel⟩
theorem knX1_openRow : kN yX1_openRow 1 := ⟨gw_mem (i := 465) (by decide +kernel) (by decide +kernel), gw_mem (i := 29) (by decide +kernel) (by decide +kernel), TX1, 10, rfl⟩
theorem kyX1_goesOn : kY yX1_goesOn cX1_goesOn 4 (some .boolean) 2 := ⟨gw_mem (i := 470) (by decide +kernel) (by decide +kernel), gw_mem (i := 122) (by decide +kernel) (by decide +kernel), by decide +kernel, by decide +kernel, by decide +kernel, by decide, by decide +kernel⟩
theorem knX1_goesOn : kN yX1_goesOn 1 := ⟨gw_mem (i := 469) (by decide +kernel) (by decide +kernel), gw_mem (i := 30) (by decide +kernel) (by decide +kernel), TX1, 10, rfl⟩
theorem kyX1_widthOf : kY yX1_widthOf cX1_widthOf 3 (some .int) 2 := ⟨gw_mem (i := 474) (by decide +kernel) (by decide +kernel), gw_mem (i := 122) (by decide +kernel) (by decide +kernel), by decide +kernel, by decide +kernel, by decide +kernel, by decide, by decide +kernel⟩
theorem knX1_widthOf : kN yX1_widthOf 1 := ⟨gw_mem (i := 473) (by decide +kernel) (by decide +kernel), gw_mem (i := 31) (by decide +kernel) (by decide +kernel), TX1, 10, rfl⟩
theorem kyX1_startsWord : kY yX1_startsWord cX1_startsWord 2 (some .boolean) 1 := ⟨gw_mem (i := 478) (by decide +kernel) (by decide +kernel), gw_mem (i := 122) (by decide +kernel) (by decide +kernel), by decide +kernel, by decide +kernel, by decide +kernel, by decide, by decide +kernel⟩
theorem knX1_startsWord : kN yX1_startsWord 1 := ⟨gw_mem (i := 477) (by decide +kernel) (by decide +kernel), gw_mem (i := 32) (by decide +kernel) (by decide +kernel), TX1, 10, rfl⟩
theorem kyX1_isOfWord : kY yX1_isOfWord cX1_isOfWord 2 (some .boolean) 1 := ⟨gw_mem (i := 482) (by decide +kernel) (by decide +kernel), gw_mem (i := 122) (by decide +kernel) (by decide +kernel), by decide +kernel, by decide +kernel, by decide +kernel, by decide, by decide +kernel⟩
theorem knX1_isOfWord : kN yX1_isOfWord 1 := ⟨gw_mem (i := 481) (by decide +kernel) (by decide +kernel), gw_mem (i := 33) (by decide +kernel) (by decide +kernel), TX1, 10, rfl⟩
theorem kyX1_wordWidth : kY yX1_wordWidth cX1_wordWidth 4 (some .int) 1 := ⟨gw_mem (i := 486) (by decide +kernel) (by decide +kernel), gw_mem (i := 122) (by decide +kernel) (by decide +kernel), by decide +kernel, by decide +kernel, by decide +kernel, by decide, by decide +kernel⟩
theorem knX1_wordWidth : kN yX1_wordWidth 1 := ⟨gw_mem (i := 485) (by decide +kernel) (by decide +kernel), gw_mem (i := 34) (by decide +kernel) (by decide +kernel), TX1, 10, rfl⟩
theorem kyX1_closeRow : kY yX1_closeRow cX1_closeRow 1 none 0 := ⟨gw_mem (i := 490) (by decide +kernel) (by decide +kernel), gw_mem (i := 122) (by decide +kernel) (by decide +kernel), by decide +kernel, by decide +kernel, by decide +kernel, by decide, by decide +kernel⟩
theorem knX1_closeRow : kN yX1_closeRow 1 := ⟨gw_mem (i := 489) (by decide +kernel) (by decide +kernel), gw_mem (i := 35) (by decide +kernel) (by decide +kernel), TX1, 10, rfl⟩
theorem kyX4_write : kY yX4_write cX4_write 2 (some .int) 1 := ⟨gw_mem (i := 523) (by decide +kernel) (by decide +kernel), gw_mem (i := 117) (by decide +kernel) (by decide +kernel), by decide +kernel, by decide +kernel, by decide +kernel, by decide, by decide +kernel⟩
theorem knX4_write : kN yX4_write 4 := ⟨gw_mem (i := 521) (by decide +kernel) (by decide +kernel), gw_mem (i := 522) (by decide +kernel) (by decide +kernel), TX4, 9, rfl⟩
theorem kyX4_wipe : kY yX4_wipe cX4_wipe 2 (some .int) 0 := ⟨gw_mem (i := 527) (by decide +kernel) (by decide +kernel), gw_mem (i := 117) (by decide +kernel) (by decide +kernel), by decide +kernel, by decide +kernel, by decide +kernel, by decide, by decide +kernel⟩
theorem knX4_wipe : kN yX4_wipe 4 := ⟨gw_mem (i := 525) (by decide +kernel) (by decide +kernel), gw_mem (i := 526) (by decide +kernel) (by decide +kernel), TX4, 9, rfl⟩
theorem kyX4_fault : kY yX4_fault cX4_fault 1 (some .int) 0 := ⟨gw_mem (i := 531) (by decide +kernel) (by decide +kernel), gw_mem (i := 117) (by decide +kernel) (by decide +kernel), by decide +kernel, by decide +kernel, by decide +kernel, by decide, by decide +kernel⟩
theorem knX4_fault : kN yX4_fault 4 := ⟨gw_mem (i := 529) (by decide +kernel) (by decide +kernel), gw_mem (i := 530) (by decide +kernel) (by decide +kernel), TX4, 9, rfl⟩
theorem kyX4_lay : kY yX4_lay cX4_lay 1 (some .int) 0 := ⟨gw_mem (i := 535) (by decide +kernel) (by decide +kernel), gw_mem (i := 117) (by decide +kernel) (by decide +kernel), by decide +kernel, by decide +kernel, by decide +kernel, by decide, by decide +kernel⟩
theorem knX4_lay : kN yX4_lay 4 := ⟨gw_mem (i := 533) (by decide +kernel) (by decide +kernel), gw_mem (i := 534) (by decide +kernel) (by decide +kernel), TX4, 9, rfl⟩
theorem kyX4_startAnew : kY yX4_startAnew cX4_startAnew 2 none 1 := ⟨gw_mem (i := 539) (by decide +kernel) (by decide +kernel), gw_mem (i := 117) (by decide +kernel) (by decide +kernel), by decide +kernel, by decide +kernel, by decide +kernel, by decide, by decide +kernel⟩
theorem knX4_startAnew : kN yX4_startAnew 4 := ⟨gw_mem (i := 538) (by decide +kernel) (by decide +kernel), gw_mem (i := 36) (by decide +kernel) (by decide +kernel), TX4, 9, rfl⟩
theorem kyX2_copyFrom : kY yX2_copyFrom cX2_copyFrom 3 none 1 := ⟨gw_mem (i := 543) (by decide +kernel) (by decide +kernel), gw_mem (i := 119) (by decide +kernel) (by decide +kernel), by decide +kernel, by decide +kernel, by decide +kernel, by decide, by decide +kernel⟩
theorem knX2_copyFrom : kN yX2_copyFrom 2 := ⟨gw_mem (i := 542) (by decide +kernel) (by decide +kernel), gw_mem (i := 37) (by decide +kernel) (by decide +kernel), TX2, 13, rfl⟩
theorem kyX4_sign : kY yX4_sign cX4_sign 2 (some .int) 1 := ⟨gw_mem (i := 550) (by decide +kernel) (by decide +kernel), gw_mem (i := 117) (by decide +kernel) (by decide +kernel), by decide +kernel, by decide +kernel, by decide +kernel, by decide, by decide +kernel⟩
theorem knX4_sign : kN yX4_sign 4 := ⟨gw_mem (i := 548) (by decide +kernel) (by decide +kernel), gw_mem (i := 549) (by decide +kernel) (by decide +kernel), TX4, 9, rfl⟩
theorem kyX4_fold : kY yX4_fold cX4_fold 3 (some .int) 2 := ⟨gw_mem (i := 556) (by decide +kernel) (by decide +kernel), gw_mem (i := 117) (by decide +kernel) (by decide +kernel), by decide +kernel, by decide +kernel, by decide +kernel, by decide, by decide +kernel⟩
theorem knX4_fold : kN yX4_fold 4 := ⟨gw_mem (i := 554) (by decide +kernel) (by decide +kernel), gw_mem (i := 555) (by decide +kernel) (by decide +kernel), TX4, 9, rfl⟩
theorem kyX2_hasFold : kY yX2_hasFold cX2_hasFold 2 (some .boolean) 1 := ⟨gw_mem (i := 560) (by decide +kernel) (by decide +kernel), gw_mem (i := 119) (by decide +kernel) (by decide +kernel), by decide +kernel, by decide +kernel, by decide +kernel, by decide, by decide +kernel⟩
theorem knX2_hasFold : kN yX2_hasFold 2 := ⟨gw_mem (i := 559) (by decide +kernel) (by decide +kernel), gw_mem (i := 38) (by decide +kernel) (by decide +kernel), TX2, 13, rfl⟩
theorem kyX4_hint : kY yX4_hint cX4_hint 3 (some .int) 2 := ⟨gw_mem (i := 564) (by decide +kernel) (by decide +kernel), gw_mem (i := 117) (by decide +kernel) (by decide +kernel), by decide +kernel, by decide +kernel, by decide +kernel, by decide, by decide +kernel⟩
theorem knX4_hint : kN yX4_hint 4 := ⟨gw_mem (i := 562) (by decide +kernel) (by decide +kernel), gw_mem (i := 563) (by decide +kernel) (by decide +kernel), TX4, 9, rfl⟩
theorem kyX2_hasHint : kY yX2_hasHint cX2_hasHint 2 (some .boolean) 1 := ⟨gw_mem (i := 568) (by decide +kernel) (by decide +kernel), gw_mem (i := 119) (by decide +kernel) (by decide +kernel), by decide +kernel, by decide +kernel, by decide +kernel, by decide, by decide +kernel⟩
theorem knX2_hasHint : kN yX2_hasHint 2 := ⟨gw_mem (i := 567) (by decide +kernel) (by decide +kernel), gw_mem (i := 39) (by decide +kernel) (by decide +kernel), TX2, 13, rfl⟩
theorem kyX4_insert : kY yX4_insert cX4_insert 3 (some .int) 2 := ⟨gw_mem (i := 573) (by decide +kernel) (by decide +kernel), gw_mem (i := 117) (by decide +kernel) (by decide +kernel), by decide +kernel, by decide +kernel, by decide +kernel, by decide, by decide +kernel⟩
theorem knX4_insert : kN yX4_insert 4 := ⟨gw_mem (i := 571) (by decide +kernel) (by decide +kernel), gw_mem (i := 572) (by decide +kernel) (by decide +kernel), TX4, 9, rfl⟩
theorem kyX0_push : kY yX0_push cX0_push 2 none 1 := ⟨gw_mem (i := 578) (by decide +kernel) (by decide +kernel), gw_mem (i := 120) (by decide +kernel) (by decide +kernel), by decide +kernel, by decide +kernel, by decide +kernel, by decide, by decide +kernel⟩
theorem knX0_push : kN yX0_push 0 := ⟨gw_mem (i := 577) (by decide +kernel) (by decide +kernel), gw_mem (i := 40) (by decide +kernel) (by decide +kernel), TX0, 2, rfl⟩
theorem kyX0_isFull : kY yX0_isFull cX0_isFull 1 (some .boolean) 0 := ⟨gw_mem (i := 582) (by decide +kernel) (by decide +kernel), gw_mem (i := 120) (by decide +kernel) (by decide +kernel), by decide +kernel, by decide +kernel, by decide +kernel, by decide, by decide +kernel⟩
theorem knX0_isFull : kN yX0_isFull 0 := ⟨gw_mem (i := 581) (by decide +kernel) (by decide +kernel), gw_mem (i := 41) (by decide +kernel) (by decide +kernel), TX0, 2, rfl⟩
theorem kyX0_dropLowest : kY yX0_dropLowest cX0_dropLowest 3 none 0 := ⟨gw_mem (i := 586) (by decide +kernel) (by decide +kernel), gw_mem (i := 120) (by decide +kernel) (by decide +kernel), by decide +kernel, by decide +kernel, by decide +kernel, by decide, by decide +kernel⟩
theorem knX0_dropLowest : kN yX0_dropLowest 0 := ⟨gw_mem (i := 585) (by decide +kernel) (by decide +kernel), gw_mem (i := 42) (by decide +kernel) (by decide +kernel), TX0, 2, rfl⟩
theorem kyX4_redraw : kY yX4_redraw cX4_redraw 2 none 0 := ⟨gw_mem (i := 592) (by decide +kernel) (by decide +kernel), gw_mem (i := 117) (by decide +kernel) (by decide +kernel), by decide +kernel, by decide +kernel, by decide +kernel, by decide, by decide +kernel⟩
theorem knX4_redraw : kN yX4_redraw 4 := ⟨gw_mem (i := 591) (by decide +kernel) (by decide +kernel), gw_mem (i := 43) (by decide +kernel) (by decide +kernel), TX4, 9, rfl⟩
theorem kyX4_erase : kY yX4_erase cX4_erase 3 (some .int) 1 := ⟨gw_mem (i := 596) (by decide +kernel) (by decide +kernel), gw_mem (i := 117) (by decide +kernel) (by decide +kernel), by decide +kernel, by decide +kernel, by decide +kernel, by decide, by decide +kernel⟩
theorem knX4_erase : kN yX4_erase 4 := ⟨gw_mem (i := 594) (by decide +kernel) (by decide +kernel), gw_mem (i := 595) (by decide +kernel) (by decide +kernel), TX4, 9, rfl⟩
theorem kyX2_takeOut : kY yX2_takeOut cX2_takeOut 3 none 1 := ⟨gw_mem (i := 601) (by decide +kernel) (by decide +kernel), gw_mem (i := 119) (by decide +kernel) (by decide +kernel), by decide +kernel, by decide +kernel, by decide +kernel, by decide, by decide +kernel⟩
theorem knX2_takeOut : kN yX2_takeOut 2 := ⟨gw_mem (i := 600) (by decide +kernel) (by decide +kernel), gw_mem (i := 44) (by decide +kernel) (by decide +kernel), TX2, 13, rfl⟩
theorem kyX2_pullFolds : kY yX2_pullFolds cX2_pullFolds 3 none 1 := ⟨gw_mem (i := 605) (by decide +kernel) (by decide +kernel), gw_mem (i := 119) (by decide +kernel) (by decide +kernel), by decide +kernel, by decide +kernel, by decide +kernel, by decide, by decide +kernel⟩
theorem knX2_pullFolds : kN yX2_pullFolds 2 := ⟨gw_mem (i := 604) (by decide +kernel) (by decide +kernel), gw_mem (i := 45) (by decide +kernel) (by decide +kernel), TX2, 13, rfl⟩
theorem kyX2_dropFold : kY yX2_dropFold cX2_dropFold 3 none 1 := ⟨gw_mem (i := 609) (by decide +kernel) (by decide +kernel), gw_mem (i := 119) (by decide +kernel) (by decide +kernel), by decide +kernel, by decide +kernel, by decide +kernel, by decide, by decide +kernel⟩
theorem knX2_dropFold : kN yX2_dropFold 2 := ⟨gw_mem (i := 608) (by decide +kernel) (by decide +kernel), gw_mem (i := 46) (by decide +kernel) (by decide +kernel), TX2, 13, rfl⟩
theorem kyX2_pullHints : kY yX2_pullHints cX2_pullHints 3 none 1 := ⟨gw_mem (i := 614) (by decide +kernel) (by decide +kernel), gw_mem (i := 119) (by decide +kernel) (by decide +kernel), by decide +kernel, by decide +kernel, by decide +kernel, by decide, by decide +kernel⟩
theorem knX2_pullHints : kN yX2_pullHints 2 := ⟨gw_mem (i := 613) (by decide +kernel) (by decide +kernel), gw_mem (i := 47) (by decide +kernel) (by decide +kernel), TX2, 13, rfl⟩
theorem kyX2_dropHint : kY yX2_dropHint cX2_dropHint 3 none 1 := ⟨gw_mem (i := 618) (by decide +kernel) (by decide +kernel), gw_mem (i := 119) (by decide +kernel) (by decide +kernel), by decide +kernel, by decide +kernel, by decide +kernel, by decide, by decide +kernel⟩
theorem knX2_dropHint : kN yX2_dropHint 2 := ⟨gw_mem (i := 617) (by decide +kernel) (by decide +kernel), gw_mem (i := 48) (by decide +kernel) (by decide +kernel), TX2, 13, rfl⟩
theorem kyX4_toggle : kY yX4_toggle cX4_toggle 2 (some .int) 1 := ⟨gw_mem (i := 623) (by decide +kernel) (by decide +kernel), gw_mem (i := 117) (by decide +kernel) (by decide +kernel), by decide +kernel, by decide +kernel, by decide +kernel, by decide, by decide +kernel⟩
theorem knX4_toggle : kN yX4_toggle 4 := ⟨gw_mem (i := 621) (by decide +kernel) (by decide +kernel), gw_mem (i := 622) (by decide +kernel) (by decide +kernel), TX4, 9, rfl⟩
theorem kyX2_turn : kY yX2_turn cX2_turn 2 none 1 := ⟨gw_mem (i := 627) (by decide +kernel) (by decide +kernel), gw_mem (i := 119) (by decide +kernel) (by decide +kernel), by decide +kernel, by decide +kernel, by decide +kernel, by decide, by decide +kernel⟩
theorem knX2_turn : kN yX2_turn 2 := ⟨gw_mem (i := 626) (by decide +kernel) (by decide +kernel), gw_mem (i := 49) (by decide +kernel) (by decide +kernel), TX2, 13, rfl⟩
theorem kyX4_make : kY yX4_make cX4_make 5 (some .int) 2 := ⟨gw_mem (i := 631) (by decide +kernel) (by decide +kernel), gw_mem (i := 117) (by decide +kernel) (by decide +kernel), by decide +kernel, by decide +kernel, by decide +kernel, by decide, by decide +kernel⟩
theorem knX4_make : kN yX4_make 4 := ⟨gw_mem (i := 629) (by decide +kernel) (by decide +kernel), gw_mem (i := 630) (by decide +kernel) (by decide +kernel), TX4, 9, rfl⟩
theorem kyX4_unfold : kY yX4_unfold cX4_unfold 2 (some .int) 1 := ⟨gw_mem (i := 637) (by decide +kernel) (by decide +kernel), gw_mem (i := 117) (by decide +kernel) (by decide +kernel), by decide +kernel, by decide +kernel, by decide +kernel, by decide, by decide +kernel⟩
theorem knX4_unfold : kN yX4_unfold 4 := ⟨gw_mem (i := 635) (by decide +kernel) (by decide +kernel), gw_mem (i := 636) (by decide +kernel) (by decide +kernel), TX4, 9, rfl⟩
theorem kyX4_set : kY yX4_set cX4_set 5 (some .int) 2 := ⟨gw_mem (i := 642) (by decide +kernel) (by decide +kernel), gw_mem (i := 117) (by decide +kernel) (by decide +kernel), by decide +kernel, by decide +kernel, by decide +kernel, by decide, by decide +kernel⟩
theorem knX4_set : kN yX4_set 4 := ⟨gw_mem (i := 640) (by decide +kernel) (by decide +kernel), gw_mem (i := 641) (by decide +kernel) (by decide +kernel), TX4, 9, rfl⟩
theorem kyX4_unset : kY yX4_unset cX4_unset 3 (some .int) 1 := ⟨gw_mem (i := 648) (by decide +kernel) (by decide +kernel), gw_mem (i := 117) (by decide +kernel) (by decide +kernel), by decide +kernel, by decide +kernel, by decide +kernel, by decide, by decide +kernel⟩
theorem knX4_unset : kN yX4_unset 4 := ⟨gw_mem (i := 646) (by decide +kernel) (by decide +kernel), gw_mem (i := 647) (by decide +kernel) (by decide +kernel), TX4, 9, rfl⟩
theorem kyX4_wide : kY yX4_wide cX4_wide 4 (some .int) 3 := ⟨gw_mem (i := 653) (by decide +kernel) (by decide +kernel), gw_mem (i := 117) (by decide +kernel) (by decide +kernel), by decide +kernel, by decide +kernel, by decide +kernel, by decide, by decide +kernel⟩
theorem knX4_wide : kN yX4_wide 4 := ⟨gw_mem (i := 651) (by decide +kernel) (by decide +kernel), gw_mem (i := 652) (by decide +kernel) (by decide +kernel), TX4, 9, rfl⟩
theorem kyX4_tabs : kY yX4_tabs cX4_tabs 3 (some .int) 1 := ⟨gw_mem (i := 659) (by decide +kernel) (by decide +kernel), gw_mem (i := 117) (by decide +kernel) (by decide +kernel), by decide +kernel, by decide +kernel, by decide +kernel, by decide, by decide +kernel⟩
theorem knX4_tabs : kN yX4_tabs 4 := ⟨gw_mem (i := 657) (by decide +kernel) (by decide +kernel), gw_mem (i := 658) (by decide +kernel) (by decide +kernel), TX4, 9, rfl⟩
theorem kyX4_undo : kY yX4_undo cX4_undo 1 (some .int) 0 := ⟨gw_mem (i := 664) (by decide +kernel) (by decide +kernel), gw_mem (i := 117) (by decide +kernel) (by decide +kernel), by decide +kernel, by decide +kernel, by decide +kernel, by decide, by decide +kernel⟩
theorem knX4_undo : kN yX4_undo 4 := ⟨gw_mem (i := 662) (by decide +kernel) (by decide +kernel), gw_mem (i := 663) (by decide +kernel) (by decide +kernel), TX4, 9, rfl⟩
theorem kyX0_popInto : kY yX0_popInto cX0_popInto 2 (some .boolean) 1 := ⟨gw_mem (i := 668) (by decide +kernel) (by decide +kernel), gw_mem (i := 120) (by decide +kernel) (by decide +kernel), by decide +kernel, by decide +kernel, by decide +kernel, by decide, by decide +kernel⟩
theorem knX0_popInto : kN yX0_popInto 0 := ⟨gw_mem (i := 667) (by decide +kernel) (by decide +kernel), gw_mem (i := 50) (by decide +kernel) (by decide +kernel), TX0, 2, rfl⟩
theorem kyX4_stands : kY yX4_stands cX4_stands 3 (some .int) 2 := ⟨gw_mem (i := 672) (by decide +kernel) (by decide +kernel), gw_mem (i := 117) (by decide +kernel) (by decide +kernel), by decide +kernel, by decide +kernel, by decide +kernel, by decide, by decide +kernel⟩
theorem knX4_stands : kN yX4_stands 4 := ⟨gw_mem (i := 670) (by decide +kernel) (by decide +kernel), gw_mem (i := 671) (by decide +kernel) (by decide +kernel), TX4, 9, rfl⟩
theorem kyX4_rowOf : kY yX4_rowOf cX4_rowOf 3 (some .int) 1 := ⟨gw_mem (i := 676) (by decide +kernel) (by decide +kernel), gw_mem (i := 117) (by decide +kernel) (by decide +kernel), by decide +kernel, by decide +kernel, by decide +kernel, by decide, by decide +kernel⟩
theorem knX4_rowOf : kN yX4_rowOf 4 := ⟨gw_mem (i := 675) (by decide +kernel) (by decide +kernel), gw_mem (i := 51) (by decide +kernel) (by decide +kernel), TX4, 9, rfl⟩
theorem kyX1_itemOf : kY yX1_itemOf cX1_itemOf 3 (some .int) 1 := ⟨gw_mem (i := 681) (by decide +kernel) (by decide +kernel), gw_mem (i := 122) (by decide +kernel) (by decide +kernel), by decide +kernel, by decide +kernel, by decide +kernel, by decide, by decide +kernel⟩
theorem knX1_itemOf : kN yX1_itemOf 1 := ⟨gw_mem (i := 680) (by decide +kernel) (by decide +kernel), gw_mem (i := 52) (by decide +kernel) (by decide +kernel), TX1, 10, rfl⟩
theorem kyX4_columnOf : kY yX4_columnOf cX4_columnOf 3 (some .int) 1 := ⟨gw_mem (i := 685) (by decide +kernel) (by decide +kernel), gw_mem (i := 117) (by decide +kernel) (by decide +kernel), by decide +kernel, by decide +kernel, by decide +kernel, by decide, by decide +kernel⟩
theorem knX4_columnOf : kN yX4_columnOf 4 := ⟨gw_mem (i := 684) (by decide +kernel) (by decide +kernel), gw_mem (i := 53) (by decide +kernel) (by decide +kernel), TX4, 9, rfl⟩
theorem kyX4_place : kY yX4_place cX4_place 3 (some .int) 2 := ⟨gw_mem (i := 689) (by decide +kernel) (by decide +kernel), gw_mem (i := 117) (by decide +kernel) (by decide +kernel), by decide +kernel, by decide +kernel, by decide +kernel, by decide, by decide +kernel⟩
theorem knX4_place : kN yX4_place 4 := ⟨gw_mem (i := 687) (by decide +kernel) (by decide +kernel), gw_mem (i := 688) (by decide +kernel) (by decide +kernel), TX4, 9, rfl⟩
theorem kyX1_hasRow : kY yX1_hasRow cX1_hasRow 2 (some .boolean) 1 := ⟨gw_mem (i := 693) (by decide +kernel) (by decide +kernel), gw_mem (i := 122) (by decide +kernel) (by decide +kernel), by decide +kernel, by decide +kernel, by decide +kernel, by decide, by decide +kernel⟩
theorem knX1_hasRow : kN yX1_hasRow 1 := ⟨gw_mem (i := 692) (by decide +kernel) (by decide +kernel), gw_mem (i := 54) (by decide +kernel) (by decide +kernel), TX1, 10, rfl⟩
theorem kyX4_isColumn : kY yX4_isColumn cX4_isColumn 1 (some .boolean) 1 := ⟨gw_mem (i := 696) (by decide +kernel) (by decide +kernel), gw_mem (i := 117) (by decide +kernel) (by decide +kernel), by decide +kernel, by decide +kernel, by decide +kernel, by decide, by decide +kernel⟩
theorem ksX4_isColumn : Cond.static yX4_isColumn ∈ Gw := gw_mem (i := 695) (by decide +kernel) (by decide +kernel)
theorem kyX1_placeAt : kY yX1_placeAt cX1_placeAt 6 (some .int) 3 := ⟨gw_mem (i := 700) (by decide +kernel) (by decide +kernel), gw_mem (i := 122) (by decide +kernel) (by decide +kernel), by decide +kernel, by decide +kernel, by decide +kernel, by decide, by decide +kernel⟩
theorem knX1_placeAt : kN yX1_placeAt 1 := ⟨gw_mem (i := 699) (by decide +kernel) (by decide +kernel), gw_mem (i := 55) (by decide +kernel) (by decide +kernel), TX1, 10, rfl⟩
theorem kyX4_screen : kY yX4_screen cX4_screen 3 (some .int) 2 := ⟨gw_mem (i := 704) (by decide +kernel) (by decide +kernel), gw_mem (i := 117) (by decide +kernel) (by decide +kernel), by decide +kernel, by decide +kernel, by decide +kernel, by decide, by decide +kernel⟩
theorem knX4_screen : kN yX4_screen 4 := ⟨gw_mem (i := 702) (by decide +kernel) (by decide +kernel), gw_mem (i := 703) (by decide +kernel) (by decide +kernel), TX4, 9, rfl⟩
theorem kyX1_codeAt : kY yX1_codeAt cX1_codeAt 4 (some .int) 2 := ⟨gw_mem (i := 708) (by decide +kernel) (by decide +kernel), gw_mem (i := 122) (by decide +kernel) (by decide +kernel), by decide +kernel, by decide +kernel, by decide +kernel, by decide, by decide +kernel⟩
theorem knX1_codeAt : kN yX1_codeAt 1 := ⟨gw_mem (i := 707) (by decide +kernel) (by decide +kernel), gw_mem (i := 56) (by decide +kernel) (by decide +kernel), TX1, 10, rfl⟩
theorem kyX4_go : kY yX4_go cX4_go 3 (some .int) 2 := ⟨gw_mem (i := 712) (by decide +kernel) (by decide +kernel), gw_mem (i := 117) (by decide +kernel) (by decide +kernel), by decide +kernel, by decide +kernel, by decide +kernel, by decide, by decide +kernel⟩
theorem knX4_go : kN yX4_go 4 := ⟨gw_mem (i := 710) (by decide +kernel) (by decide +kernel), gw_mem (i := 711) (by decide +kernel) (by decide +kernel), TX4, 9, rfl⟩
theorem kyX2_nextShown : kY yX2_nextShown cX2_nextShown 3 (some .int) 1 := ⟨gw_mem (i := 716) (by decide +kernel) (by decide +kernel), gw_mem (i := 119) (by decide +kernel) (by decide +kernel), by decide +kernel, by decide +kernel, by decide +kernel, by decide, by decide +kernel⟩
theorem knX2_nextShown : kN yX2_nextShown 2 := ⟨gw_mem (i := 715) (by decide +kernel) (by decide +kernel), gw_mem (i := 57) (by decide +kernel) (by decide +kernel), TX2, 13, rfl⟩
theorem kyX2_previousShown : kY yX2_previousShown cX2_previousShown 3 (some .int) 1 := ⟨gw_mem (i := 721) (by decide +kernel) (by decide +kernel), gw_mem (i := 119) (by decide +kernel) (by decide +kernel), by decide +kernel, by decide +kernel, by decide +kernel, by decide, by decide +kernel⟩
theorem knX2_previousShown : kN yX2_previousShown 2 := ⟨gw_mem (i := 720) (by decide +kernel) (by decide +kernel), gw_mem (i := 58) (by decide +kernel) (by decide +kernel), TX2, 13, rfl⟩
theorem kyX4_acrossTo : kY yX4_acrossTo cX4_acrossTo 3 (some .int) 2 := ⟨gw_mem (i := 725) (by decide +kernel) (by decide +kernel), gw_mem (i := 117) (by decide +kernel) (by decide +kernel), by decide +kernel, by decide +kernel, by decide +kernel, by decide, by decide +kernel⟩
theorem knX4_acrossTo : kN yX4_acrossTo 4 := ⟨gw_mem (i := 724) (by decide +kernel) (by decide +kernel), gw_mem (i := 59) (by decide +kernel) (by decide +kernel), TX4, 9, rfl⟩
theorem kyX4_row : kY yX4_row cX4_row 3 (some .int) 2 := ⟨gw_mem (i := 729) (by decide +kernel) (by decide +kernel), gw_mem (i := 117) (by decide +kernel) (by decide +kernel), by decide +kernel, by decide +kernel, by decide +kernel, by decide, by decide +kernel⟩
theorem knX4_row : kN yX4_row 4 := ⟨gw_mem (i := 727) (by decide +kernel) (by decide +kernel), gw_mem (i := 728) (by decide +kernel) (by decide +kernel), TX4, 9, rfl⟩
theorem kyX4_changed : kY yX4_changed cX4_changed 2 (some .int) 1 := ⟨gw_mem (i := 733) (by decide +kernel) (by decide +kernel), gw_mem (i := 117) (by decide +kernel) (by decide +kernel), by decide +kernel, by decide +kernel, by decide +kernel, by decide, by decide +kernel⟩
theorem knX4_changed : kN yX4_changed 4 := ⟨gw_mem (i := 731) (by decide +kernel) (by decide +kernel), gw_mem (i := 732) (by decide +kernel) (by decide +kernel), TX4, 9, rfl⟩
theorem kyX4_firstChanged : kY yX4_firstChanged cX4_firstChanged 3 (some .int) 0 := ⟨gw_mem (i := 737) (by decide +kernel) (by decide +kernel), gw_mem (i := 117) (by decide +kernel) (by decide +kernel), by decide +kernel, by decide +kernel, by decide +kernel, by decide, by decide +kernel⟩
theorem knX4_firstChanged : kN yX4_firstChanged 4 := ⟨gw_mem (i := 736) (by decide +kernel) (by decide +kernel), gw_mem (i := 60) (by decide +kernel) (by decide +kernel), TX4, 9, rfl⟩
theorem kyX4_rowsToCompare : kY yX4_rowsToCompare cX4_rowsToCompare 1 (some .int) 0 := ⟨gw_mem (i := 741) (by decide +kernel) (by decide +kernel), gw_mem (i := 117) (by decide +kernel) (by decide +kernel), by decide +kernel, by decide +kernel, by decide +kernel, by decide, by decide +kernel⟩
theorem knX4_rowsToCompare : kN yX4_rowsToCompare 4 := ⟨gw_mem (i := 740) (by decide +kernel) (by decide +kernel), gw_mem (i := 61) (by decide +kernel) (by decide +kernel), TX4, 9, rfl⟩
theorem kyX1_isRowAsIn : kY yX1_isRowAsIn cX1_isRowAsIn 6 (some .boolean) 2 := ⟨gw_mem (i := 746) (by decide +kernel) (by decide +kernel), gw_mem (i := 122) (by decide +kernel) (by decide +kernel), by decide +kernel, by decide +kernel, by decide +kernel, by decide, by decide +kernel⟩
theorem knX1_isRowAsIn : kN yX1_isRowAsIn 1 := ⟨gw_mem (i := 745) (by decide +kernel) (by decide +kernel), gw_mem (i := 62) (by decide +kernel) (by decide +kernel), TX1, 10, rfl⟩
theorem kyX1_seek : kY yX1_seek cX1_seek 4 (some .int) 2 := ⟨gw_mem (i := 751) (by decide +kernel) (by decide +kernel), gw_mem (i := 122) (by decide +kernel) (by decide +kernel), by decide +kernel, by decide +kernel, by decide +kernel, by decide, by decide +kernel⟩
theorem knX1_seek : kN yX1_seek 1 := ⟨gw_mem (i := 750) (by decide +kernel) (by decide +kernel), gw_mem (i := 63) (by decide +kernel) (by decide +kernel), TX1, 10, rfl⟩
theorem kyX1_isItemAsIn : kY yX1_isItemAsIn cX1_isItemAsIn 4 (some .boolean) 3 := ⟨gw_mem (i := 755) (by decide +kernel) (by decide +kernel), gw_mem (i := 122) (by decide +kernel) (by decide +kernel), by decide +kernel, by decide +kernel, by decide +kernel, by decide, by decide +kernel⟩
theorem knX1_isItemAsIn : kN yX1_isItemAsIn 1 := ⟨gw_mem (i := 754) (by decide +kernel) (by decide +kernel), gw_mem (i := 64) (by decide +kernel) (by decide +kernel), TX1, 10, rfl⟩
theorem kyX4_countChanged : kY yX4_countChanged cX4_countChanged 4 (some .int) 0 := ⟨gw_mem (i := 759) (by decide +kernel) (by decide +kernel), gw_mem (i := 117) (by decide +kernel) (by decide +kernel), by decide +kernel, by decide +kernel, by decide +kernel, by decide, by decide +kernel⟩
theorem knX4_countChanged : kN yX4_countChanged 4 := ⟨gw_mem (i := 758) (by decide +kernel) (by decide +kernel), gw_mem (i := 65) (by decide +kernel) (by decide +kernel), TX4, 9, rfl⟩
theorem kyX4_fit : kY yX4_fit cX4_fit 3 (some .int) 1 := ⟨gw_mem (i := 763) (by decide +kernel) (by decide +kernel), gw_mem (i := 117) (by decide +kernel) (by decide +kernel), by decide +kernel, by decide +kernel, by decide +kernel, by decide, by decide +kernel⟩
theorem knX4_fit : kN yX4_fit 4 := ⟨gw_mem (i := 761) (by decide +kernel) (by decide +kernel), gw_mem (i := 762) (by decide +kernel) (by decide +kernel), TX4, 9, rfl⟩
theorem kyX4_saves : kY yX4_saves cX4_saves 6 (some .int) 1 := ⟨gw_mem (i := 767) (by decide +kernel) (by decide +kernel), gw_mem (i := 117) (by decide +kernel) (by decide +kernel), by decide +kernel, by decide +kernel, by decide +kernel, by decide, by decide +kernel⟩
theorem knX4_saves : kN yX4_saves 4 := ⟨gw_mem (i := 765) (by decide +kernel) (by decide +kernel), gw_mem (i := 766) (by decide +kernel) (by decide +kernel), TX4, 9, rfl⟩
theorem kyX4_tight : kY yX4_tight cX4_tight 4 (some .int) 1 := ⟨gw_mem (i := 771) (by decide +kernel) (by decide +kernel), gw_mem (i := 117) (by decide +kernel) (by decide +kernel), by decide +kernel, by decide +kernel, by decide +kernel, by decide, by decide +kernel⟩
theorem knX4_tight : kN yX4_tight 4 := ⟨gw_mem (i := 769) (by decide +kernel) (by decide +kernel), gw_mem (i := 770) (by decide +kernel) (by decide +kernel), TX4, 9, rfl⟩
theorem kyX4_isTight : kY yX4_isTight cX4_isTight 2 (some .boolean) 1 := ⟨gw_mem (i := 775) (by decide +kernel) (by decide +kernel), gw_mem (i := 117) (by decide +kernel) (by decide +kernel), by decide +kernel, by decide +kernel, by decide +kernel, by decide, by decide +kernel⟩
theorem knX4_isTight : kN yX4_isTight 4 := ⟨gw_mem (i := 774) (by decide +kernel) (by decide +kernel), gw_mem (i := 66) (by decide +kernel) (by decide +kernel), TX4, 9, rfl⟩
theorem kyX4_day : kY yX4_day cX4_day 5 (some .int) 3 := ⟨gw_mem (i := 779) (by decide +kernel) (by decide +kernel), gw_mem (i := 117) (by decide +kernel) (by decide +kernel), by decide +kernel, by decide +kernel, by decide +kernel, by decide, by decide +kernel⟩
theorem knX4_day : kN yX4_day 4 := ⟨gw_mem (i := 777) (by decide +kernel) (by decide +kernel), gw_mem (i := 778) (by decide +kernel) (by decide +kernel), TX4, 9, rfl⟩
theorem kyX4_draw : kY yX4_draw cX4_draw 4 (some .int) 2 := ⟨gw_mem (i := 782) (by decide +kernel) (by decide +kernel), gw_mem (i := 117) (by decide +kernel) (by decide +kernel), by decide +kernel, by decide +kernel, by decide +kernel, by decide, by decide +kernel⟩
theorem ksX4_draw : Cond.static yX4_draw ∈ Gw := gw_mem (i := 781) (by decide +kernel) (by decide +kernel)
theorem kyX2_live : kY yX2_live cX2_live 3 none 1 := ⟨gw_mem (i := 789) (by decide +kernel) (by decide +kernel), gw_mem (i := 119) (by decide +kernel) (by decide +kernel), by decide +kernel, by decide +kernel, by decide +kernel, by decide, by decide +kernel⟩
theorem knX2_live : kN yX2_live 2 := ⟨gw_mem (i := 788) (by decide +kernel) (by decide +kernel), gw_mem (i := 67) (by decide +kernel) (by decide +kernel), TX2, 13, rfl⟩
theorem kyX2_reduced : kY yX2_reduced cX2_reduced 2 (some .int) 2 := ⟨gw_mem (i := 792) (by decide +kernel) (by decide +kernel), gw_mem (i := 119) (by decide +kernel) (by decide +kernel), by decide +kernel, by decide +kernel, by decide +kernel, by decide, by decide +kernel⟩
theorem ksX2_reduced : Cond.static yX2_reduced ∈ Gw := gw_mem (i := 791) (by decide +kernel) (by decide +kernel)
theorem kyX1_longestRow : kY yX1_longestRow cX1_longestRow 3 (some .int) 0 := ⟨gw_mem (i := 799) (by decide +kernel) (by decide +kernel), gw_mem (i := 122) (by decide +kernel) (by decide +kernel), by decide +kernel, by decide +kernel, by decide +kernel, by decide, by decide +kernel⟩
theorem knX1_longestRow : kN yX1_longestRow 1 := ⟨gw_mem (i := 798) (by decide +kernel) (by decide +kernel), gw_mem (i := 68) (by decide +kernel) (by decide +kernel), TX1, 10, rfl⟩
theorem kyX4_keep : kY yX4_keep cX4_keep 1 (some .int) 0 := ⟨gw_mem (i := 804) (by decide +kernel) (by decide +kernel), gw_mem (i := 117) (by decide +kernel) (by decide +kernel), by decide +kernel, by decide +kernel, by decide +kernel, by decide, by decide +kernel⟩
theorem knX4_keep : kN yX4_keep 4 := ⟨gw_mem (i := 802) (by decide +kernel) (by decide +kernel), gw_mem (i := 803) (by decide +kernel) (by decide +kernel), TX4, 9, rfl⟩
theorem kyX4_back : kY yX4_back cX4_back 1 (some .int) 0 := ⟨gw_mem (i := 809) (by decide +kernel) (by decide +kernel), gw_mem (i := 117) (by decide +kernel) (by decide +kernel), by decide +kernel, by decide +kernel, by decide +kernel, by decide, by decide +kernel⟩
theorem knX4_back : kN yX4_back 4 := ⟨gw_mem (i := 807) (by decide +kernel) (by decide +kernel), gw_mem (i := 808) (by decide +kernel) (by decide +kernel), TX4, 9, rfl⟩
theorem kyX4_count : kY yX4_count cX4_count 2 (some .int) 1 := ⟨gw_mem (i := 813) (by decide +kernel) (by decide +kernel), gw_mem (i := 117) (by decide +kernel) (by decide +kernel), by decide +kernel, by decide +kernel, by decide +kernel, by decide, by decide +kernel⟩
theorem knX4_count : kN yX4_count 4 := ⟨gw_mem (i := 811) (by decide +kernel) (by decide +kernel), gw_mem (i := 812) (by decide +kernel) (by decide +kernel), TX4, 9, rfl⟩
theorem kyX5_init : kY yX5_init cX5_init 2 none 0 := ⟨gw_mem (i := 818) (by decide +kernel) (by decide +kernel), gw_mem (i := 127) (by decide +kernel) (by decide +kernel), by decide +kernel, by decide +kernel, by decide +kernel, by decide, by decide +kernel⟩
theorem kiX5_init : Cond.instanceMethod yX5_init ∈ Gw := gw_mem (i := 817) (by decide +kernel) (by decide +kernel)
theorem kyX5_comesFold : kY yX5_comesFold cX5_comesFold 5 (some .int) 3 := ⟨gw_mem (i := 823) (by decide +kernel) (by decide +kernel), gw_mem (i := 127) (by decide +kernel) (by decide +kernel), by decide +kernel, by decide +kernel, by decide +kernel, by decide, by decide +kernel⟩
theorem knX5_comesFold : kN yX5_comesFold 5 := ⟨gw_mem (i := 822) (by decide +kernel) (by decide +kernel), gw_mem (i := 69) (by decide +kernel) (by decide +kernel), TX5, 41, rfl⟩
theorem kyX5_comesHint : kY yX5_comesHint cX5_comesHint 4 (some .int) 2 := ⟨gw_mem (i := 827) (by decide +kernel) (by decide +kernel), gw_mem (i := 127) (by decide +kernel) (by decide +kernel), by decide +kernel, by decide +kernel, by decide +kernel, by decide, by decide +kernel⟩
theorem knX5_comesHint : kN yX5_comesHint 5 := ⟨gw_mem (i := 826) (by decide +kernel) (by decide +kernel), gw_mem (i := 70) (by decide +kernel) (by decide +kernel), TX5, 41, rfl⟩
theorem kyX5_sign : kY yX5_sign cX5_sign 2 (some .int) 1 := ⟨gw_mem (i := 955) (by decide +kernel) (by decide +kernel), gw_mem (i := 127) (by decide +kernel) (by decide +kernel), by decide +kernel, by decide +kernel, by decide +kernel, by decide, by decide +kernel⟩
theorem knX5_sign : kN yX5_sign 5 := ⟨gw_mem (i := 953) (by decide +kernel) (by decide +kernel), gw_mem (i := 954) (by decide +kernel) (by decide +kernel), TX5, 41, rfl⟩
theorem kyX5_isPlace : kY yX5_isPlace cX5_isPlace 2 (some .boolean) 1 := ⟨gw_mem (i := 959) (by decide +kernel) (by decide +kernel), gw_mem (i := 127) (by decide +kernel) (by decide +kernel), by decide +kernel, by decide +kernel, by decide +kernel, by decide, by decide +kernel⟩
theorem knX5_isPlace : kN yX5_isPlace 5 := ⟨gw_mem (i := 958) (by decide +kernel) (by decide +kernel), gw_mem (i := 71) (by decide +kernel) (by decide +kernel), TX5, 41, rfl⟩
theorem kyX5_in : kY yX5_in cX5_in 3 (some .boolean) 3 := ⟨gw_mem (i := 962) (by decide +kernel) (by decide +kernel), gw_mem (i := 127) (by decide +kernel) (by decide +kernel), by decide +kernel, by decide +kernel, by decide +kernel, by decide, by decide +kernel⟩
theorem ksX5_in : Cond.static yX5_in ∈ Gw := gw_mem (i := 961) (by decide +kernel) (by decide +kernel)
theorem kyX5_fold : kY yX5_fold cX5_fold 3 (some .int) 2 := ⟨gw_mem (i := 966) (by decide +kernel) (by decide +kernel), gw_mem (i := 127) (by decide +kernel) (by decide +kernel), by decide +kernel, by decide +kernel, by decide +kernel, by decide, by decide +kernel⟩
theorem knX5_fold : kN yX5_fold 5 := ⟨gw_mem (i := 964) (by decide +kernel) (by decide +kernel), gw_mem (i := 965) (by decide +kernel) (by decide +kernel), TX5, 41, rfl⟩
theorem kyX5_isFold : kY yX5_isFold cX5_isFold 2 (some .boolean) 1 := ⟨gw_mem (i := 970) (by decide +kernel) (by decide +kernel), gw_mem (i := 127) (by decide +kernel) (by decide +kernel), by decide +kernel, by decide +kernel, by decide +kernel, by decide, by decide +kernel⟩
theorem knX5_isFold : kN yX5_isFold 5 := ⟨gw_mem (i := 969) (by decide +kernel) (by decide +kernel), gw_mem (i := 72) (by decide +kernel) (by decide +kernel), TX5, 41, rfl⟩
theorem kyX5_hint : kY yX5_hint cX5_hint 3 (some .int) 2 := ⟨gw_mem (i := 974) (by decide +kernel) (by decide +kernel), gw_mem (i := 127) (by decide +kernel) (by decide +kernel), by decide +kernel, by decide +kernel, by decide +kernel, by decide, by decide +kernel⟩
theorem knX5_hint : kN yX5_hint 5 := ⟨gw_mem (i := 972) (by decide +kernel) (by decide +kernel), gw_mem (i := 973) (by decide +kernel) (by decide +kernel), TX5, 41, rfl⟩
theorem kyX5_isHint : kY yX5_isHint cX5_isHint 2 (some .boolean) 1 := ⟨gw_mem (i := 978) (by decide +kernel) (by decide +kernel), gw_mem (i := 127) (by decide +kernel) (by decide +kernel), by decide +kernel, by decide +kernel, by decide +kernel, by decide, by decide +kernel⟩
theorem knX5_isHint : kN yX5_isHint 5 := ⟨gw_mem (i := 977) (by decide +kernel) (by decide +kernel), gw_mem (i := 73) (by decide +kernel) (by decide +kernel), TX5, 41, rfl⟩
theorem kyX5_isShown : kY yX5_isShown cX5_isShown 3 (some .boolean) 1 := ⟨gw_mem (i := 982) (by decide +kernel) (by decide +kernel), gw_mem (i := 127) (by decide +kernel) (by decide +kernel), by decide +kernel, by decide +kernel, by decide +kernel, by decide, by decide +kernel⟩
theorem knX5_isShown : kN yX5_isShown 5 := ⟨gw_mem (i := 981) (by decide +kernel) (by decide +kernel), gw_mem (i := 74) (by decide +kernel) (by decide +kernel), TX5, 41, rfl⟩
theorem kyX5_shutOf : kY yX5_shutOf cX5_shutOf 4 (some .int) 1 := ⟨gw_mem (i := 986) (by decide +kernel) (by decide +kernel), gw_mem (i := 127) (by decide +kernel) (by decide +kernel), by decide +kernel, by decide +kernel, by decide +kernel, by decide, by decide +kernel⟩
theorem knX5_shutOf : kN yX5_shutOf 5 := ⟨gw_mem (i := 985) (by decide +kernel) (by decide +kernel), gw_mem (i := 75) (by decide +kernel) (by decide +kernel), TX5, 41, rfl⟩
theorem kyX5_insert : kY yX5_insert cX5_insert 3 (some .int) 2 := ⟨gw_mem (i := 990) (by decide +kernel) (by decide +kernel), gw_mem (i := 127) (by decide +kernel) (by decide +kernel), by decide +kernel, by decide +kernel, by decide +kernel, by decide, by decide +kernel⟩
theorem knX5_insert : kN yX5_insert 5 := ⟨gw_mem (i := 988) (by decide +kernel) (by decide +kernel), gw_mem (i := 989) (by decide +kernel) (by decide +kernel), TX5, 41, rfl⟩
theorem kyX5_notes : kY yX5_notes cX5_notes 2 none 0 := ⟨gw_mem (i := 994) (by decide +kernel) (by decide +kernel), gw_mem (i := 127) (by decide +kernel) (by decide +kernel), by decide +kernel, by decide +kernel, by decide +kernel, by decide, by decide +kernel⟩
theorem knX5_notes : kN yX5_notes 5 := ⟨gw_mem (i := 993) (by decide +kernel) (by decide +kernel), gw_mem (i := 76) (by decide +kernel) (by decide +kernel), TX5, 41, rfl⟩
theorem kyX5_remembers : kY yX5_remembers cX5_remembers 2 none 0 := ⟨gw_mem (i := 998) (by decide +kernel) (by decide +kernel), gw_mem (i := 127) (by decide +kernel) (by decide +kernel), by decide +kernel, by decide +kernel, by decide +kernel, by decide, by decide +kernel⟩
theorem knX5_remembers : kN yX5_remembers 5 := ⟨gw_mem (i := 997) (by decide +kernel) (by decide +kernel), gw_mem (i := 77) (by decide +kernel) (by decide +kernel), TX5, 41, rfl⟩
theorem kyX5_setScreen : kY yX5_setScreen cX5_setScreen 5 none 0 := ⟨gw_mem (i := 1002) (by decide +kernel) (by decide +kernel), gw_mem (i := 127) (by decide +kernel) (by decide +kernel), by decide +kernel, by decide +kernel, by decide +kernel, by decide, by decide +kernel⟩
theorem knX5_setScreen : kN yX5_setScreen 5 := ⟨gw_mem (i := 1001) (by decide +kernel) (by decide +kernel), gw_mem (i := 78) (by decide +kernel) (by decide +kernel), TX5, 41, rfl⟩
theorem kyX5_setPieces : kY yX5_setPieces cX5_setPieces 4 none 0 := ⟨gw_mem (i := 1006) (by decide +kernel) (by decide +kernel), gw_mem (i := 127) (by decide +kernel) (by decide +kernel), by decide +kernel, by decide +kernel, by decide +kernel, by decide, by decide +kernel⟩
theorem knX5_setPieces : kN yX5_setPieces 5 := ⟨gw_mem (i := 1005) (by decide +kernel) (by decide +kernel), gw_mem (i := 79) (by decide +kernel) (by decide +kernel), TX5, 41, rfl⟩
theorem kyX5_hintOf : kY yX5_hintOf cX5_hintOf 4 (some .int) 1 := ⟨gw_mem (i := 1010) (by decide +kernel) (by decide +kernel), gw_mem (i := 127) (by decide +kernel) (by decide +kernel), by decide +kernel, by decide +kernel, by decide +kernel, by decide, by decide +kernel⟩
theorem knX5_hintOf : kN yX5_hintOf 5 := ⟨gw_mem (i := 1009) (by decide +kernel) (by decide +kernel), gw_mem (i := 80) (by decide +kernel) (by decide +kernel), TX5, 41, rfl⟩
theorem kyX5_comesPiece : kY yX5_comesPiece cX5_comesPiece 4 none 3 := ⟨gw_mem (i := 1014) (by decide +kernel) (by decide +kernel), gw_mem (i := 127) (by decide +kernel) (by decide +kernel), by decide +kernel, by decide +kernel, by decide +kernel, by decide, by decide +kernel⟩
theorem knX5_comesPiece : kN yX5_comesPiece 5 := ⟨gw_mem (i := 1013) (by decide +kernel) (by decide +kernel), gw_mem (i := 81) (by decide +kernel) (by decide +kernel), TX5, 41, rfl⟩
theorem kyX5_toStop : kY yX5_toStop cX5_toStop 2 (some .int) 1 := ⟨gw_mem (i := 1018) (by decide +kernel) (by decide +kernel), gw_mem (i := 127) (by decide +kernel) (by decide +kernel), by decide +kernel, by decide +kernel, by decide +kernel, by decide, by decide +kernel⟩
theorem knX5_toStop : kN yX5_toStop 5 := ⟨gw_mem (i := 1017) (by decide +kernel) (by decide +kernel), gw_mem (i := 82) (by decide +kernel) (by decide +kernel), TX5, 41, rfl⟩
theorem kyX5_goesOn : kY yX5_goesOn cX5_goesOn 5 (some .boolean) 2 := ⟨gw_mem (i := 1022) (by decide +kernel) (by decide +kernel), gw_mem (i := 127) (by decide +kernel) (by decide +kernel), by decide +kernel, by decide +kernel, by decide +kernel, by decide, by decide +kernel⟩
theorem knX5_goesOn : kN yX5_goesOn 5 := ⟨gw_mem (i := 1021) (by decide +kernel) (by decide +kernel), gw_mem (i := 83) (by decide +kernel) (by decide +kernel), TX5, 41, rfl⟩
theorem kyX5_isWord : kY yX5_isWord cX5_isWord 2 (some .boolean) 1 := ⟨gw_mem (i := 1026) (by decide +kernel) (by decide +kernel), gw_mem (i := 127) (by decide +kernel) (by decide +kernel), by decide +kernel, by decide +kernel, by decide +kernel, by decide, by decide +kernel⟩
theorem knX5_isWord : kN yX5_isWord 5 := ⟨gw_mem (i := 1025) (by decide +kernel) (by decide +kernel), gw_mem (i := 84) (by decide +kernel) (by decide +kernel), TX5, 41, rfl⟩
theorem kyX5_wordFrom : kY yX5_wordFrom cX5_wordFrom 4 (some .int) 1 := ⟨gw_mem (i := 1030) (by decide +kernel) (by decide +kernel), gw_mem (i := 127) (by decide +kernel) (by decide +kernel), by decide +kernel, by decide +kernel, by decide +kernel, by decide, by decide +kernel⟩
theorem knX5_wordFrom : kN yX5_wordFrom 5 := ⟨gw_mem (i := 1029) (by decide +kernel) (by decide +kernel), gw_mem (i := 85) (by decide +kernel) (by decide +kernel), TX5, 41, rfl⟩
theorem kyX5_lays : kY yX5_lays cX5_lays 4 none 2 := ⟨gw_mem (i := 1034) (by decide +kernel) (by decide +kernel), gw_mem (i := 127) (by decide +kernel) (by decide +kernel), by decide +kernel, by decide +kernel, by decide +kernel, by decide, by decide +kernel⟩
theorem knX5_lays : kN yX5_lays 5 := ⟨gw_mem (i := 1033) (by decide +kernel) (by decide +kernel), gw_mem (i := 86) (by decide +kernel) (by decide +kernel), TX5, 41, rfl⟩
theorem kyX5_putsIn : kY yX5_putsIn cX5_putsIn 4 none 2 := ⟨gw_mem (i := 1038) (by decide +kernel) (by decide +kernel), gw_mem (i := 127) (by decide +kernel) (by decide +kernel), by decide +kernel, by decide +kernel, by decide +kernel, by decide, by decide +kernel⟩
theorem knX5_putsIn : kN yX5_putsIn 5 := ⟨gw_mem (i := 1037) (by decide +kernel) (by decide +kernel), gw_mem (i := 87) (by decide +kernel) (by decide +kernel), TX5, 41, rfl⟩
theorem kyX5_erase : kY yX5_erase cX5_erase 3 (some .int) 1 := ⟨gw_mem (i := 1042) (by decide +kernel) (by decide +kernel), gw_mem (i := 127) (by decide +kernel) (by decide +kernel), by decide +kernel, by decide +kernel, by decide +kernel, by decide, by decide +kernel⟩
theorem knX5_erase : kN yX5_erase 5 := ⟨gw_mem (i := 1040) (by decide +kernel) (by decide +kernel), gw_mem (i := 1041) (by decide +kernel) (by decide +kernel), TX5, 41, rfl⟩
theorem kyX5_isSign : kY yX5_isSign cX5_isSign 2 (some .boolean) 1 := ⟨gw_mem (i := 1046) (by decide +kernel) (by decide +kernel), gw_mem (i := 127) (by decide +kernel) (by decide +kernel), by decide +kernel, by decide +kernel, by decide +kernel, by decide, by decide +kernel⟩
theorem knX5_isSign : kN yX5_isSign 5 := ⟨gw_mem (i := 1045) (by decide +kernel) (by decide +kernel), gw_mem (i := 88) (by decide +kernel) (by decide +kernel), TX5, 41, rfl⟩
theorem kyX5_takesOut : kY yX5_takesOut cX5_takesOut 3 none 1 := ⟨gw_mem (i := 1050) (by decide +kernel) (by decide +kernel), gw_mem (i := 127) (by decide +kernel) (by decide +kernel), by decide +kernel, by decide +kernel, by decide +kernel, by decide, by decide +kernel⟩
theorem knX5_takesOut : kN yX5_takesOut 5 := ⟨gw_mem (i := 1049) (by decide +kernel) (by decide +kernel), gw_mem (i := 89) (by decide +kernel) (by decide +kernel), TX5, 41, rfl⟩
theorem kyX5_goesFold : kY yX5_goesFold cX5_goesFold 3 none 1 := ⟨gw_mem (i := 1054) (by decide +kernel) (by decide +kernel), gw_mem (i := 127) (by decide +kernel) (by decide +kernel), by decide +kernel, by decide +kernel, by decide +kernel, by decide, by decide +kernel⟩
theorem knX5_goesFold : kN yX5_goesFold 5 := ⟨gw_mem (i := 1053) (by decide +kernel) (by decide +kernel), gw_mem (i := 90) (by decide +kernel) (by decide +kernel), TX5, 41, rfl⟩
theorem kyX5_goesHint : kY yX5_goesHint cX5_goesHint 3 none 1 := ⟨gw_mem (i := 1058) (by decide +kernel) (by decide +kernel), gw_mem (i := 127) (by decide +kernel) (by decide +kernel), by decide +kernel, by decide +kernel, by decide +kernel, by decide, by decide +kernel⟩
theorem knX5_goesHint : kN yX5_goesHint 5 := ⟨gw_mem (i := 1057) (by decide +kernel) (by decide +kernel), gw_mem (i := 91) (by decide +kernel) (by decide +kernel), TX5, 41, rfl⟩
theorem kyX5_toggle : kY yX5_toggle cX5_toggle 2 (some .int) 1 := ⟨gw_mem (i := 1062) (by decide +kernel) (by decide +kernel), gw_mem (i := 127) (by decide +kernel) (by decide +kernel), by decide +kernel, by decide +kernel, by decide +kernel, by decide, by decide +kernel⟩
theorem knX5_toggle : kN yX5_toggle 5 := ⟨gw_mem (i := 1060) (by decide +kernel) (by decide +kernel), gw_mem (i := 1061) (by decide +kernel) (by decide +kernel), TX5, 41, rfl⟩
theorem kyX5_make : kY yX5_make cX5_make 3 (some .int) 2 := ⟨gw_mem (i := 1066) (by decide +kernel) (by decide +kernel), gw_mem (i := 127) (by decide +kernel) (by decide +kernel), by decide +kernel, by decide +kernel, by decide +kernel, by decide, by decide +kernel⟩
theorem knX5_make : kN yX5_make 5 := ⟨gw_mem (i := 1064) (by decide +kernel) (by decide +kernel), gw_mem (i := 1065) (by decide +kernel) (by decide +kernel), TX5, 41, rfl⟩
theorem kyX5_isApart : kY yX5_isApart cX5_isApart 5 (some .boolean) 2 := ⟨gw_mem (i := 1070) (by decide +kernel) (by decide +kernel), gw_mem (i := 127) (by decide +kernel) (by decide +kernel), by decide +kernel, by decide +kernel, by decide +kernel, by decide, by decide +kernel⟩
theorem knX5_isApart : kN yX5_isApart 5 := ⟨gw_mem (i := 1069) (by decide +kernel) (by decide +kernel), gw_mem (i := 92) (by decide +kernel) (by decide +kernel), TX5, 41, rfl⟩
theorem kyX5_unfold : kY yX5_unfold cX5_unfold 2 (some .int) 1 := ⟨gw_mem (i := 1074) (by decide +kernel) (by decide +kernel), gw_mem (i := 127) (by decide +kernel) (by decide +kernel), by decide +kernel, by decide +kernel, by decide +kernel, by decide, by decide +kernel⟩
theorem knX5_unfold : kN yX5_unfold 5 := ⟨gw_mem (i := 1072) (by decide +kernel) (by decide +kernel), gw_mem (i := 1073) (by decide +kernel) (by decide +kernel), TX5, 41, rfl⟩
theorem kyX5_set : kY yX5_set cX5_set 3 (some .int) 2 := ⟨gw_mem (i := 1078) (by decide +kernel) (by decide +kernel), gw_mem (i := 127) (by decide +kernel) (by decide +kernel), by decide +kernel, by decide +kernel, by decide +kernel, by decide, by decide +kernel⟩
theorem knX5_set : kN yX5_set 5 := ⟨gw_mem (i := 1076) (by decide +kernel) (by decide +kernel), gw_mem (i := 1077) (by decide +kernel) (by decide +kernel), TX5, 41, rfl⟩
theorem kyX5_unset : kY yX5_unset cX5_unset 3 (some .int) 1 := ⟨gw_mem (i := 1082) (by decide +kernel) (by decide +kernel), gw_mem (i := 127) (by decide +kernel) (by decide +kernel), by decide +kernel, by decide +kernel, by decide +kernel, by decide, by decide +kernel⟩
theorem knX5_unset : kN yX5_unset 5 := ⟨gw_mem (i := 1080) (by decide +kernel) (by decide +kernel), gw_mem (i := 1081) (by decide +kernel) (by decide +kernel), TX5, 41, rfl⟩
theorem kyX5_wide : kY yX5_wide cX5_wide 4 (some .int) 3 := ⟨gw_mem (i := 1086) (by decide +kernel) (by decide +kernel), gw_mem (i := 127) (by decide +kernel) (by decide +kernel), by decide +kernel, by decide +kernel, by decide +kernel, by decide, by decide +kernel⟩
theorem knX5_wide : kN yX5_wide 5 := ⟨gw_mem (i := 1084) (by decide +kernel) (by decide +kernel), gw_mem (i := 1085) (by decide +kernel) (by decide +kernel), TX5, 41, rfl⟩
theorem kyX5_isWide : kY yX5_isWide cX5_isWide 3 (some .boolean) 3 := ⟨gw_mem (i := 1089) (by decide +kernel) (by decide +kernel), gw_mem (i := 127) (by decide +kernel) (by decide +kernel), by decide +kernel, by decide +kernel, by decide +kernel, by decide, by decide +kernel⟩
theorem ksX5_isWide : Cond.static yX5_isWide ∈ Gw := gw_mem (i := 1088) (by decide +kernel) (by decide +kernel)
theorem kyX5_tabs : kY yX5_tabs cX5_tabs 3 (some .int) 1 := ⟨gw_mem (i := 1093) (by decide +kernel) (by decide +kernel), gw_mem (i := 127) (by decide +kernel) (by decide +kernel), by decide +kernel, by decide +kernel, by decide +kernel, by decide, by decide +kernel⟩
theorem knX5_tabs : kN yX5_tabs 5 := ⟨gw_mem (i := 1091) (by decide +kernel) (by decide +kernel), gw_mem (i := 1092) (by decide +kernel) (by decide +kernel), TX5, 41, rfl⟩
theorem kyX5_undo : kY yX5_undo cX5_undo 1 (some .int) 0 := ⟨gw_mem (i := 1097) (by decide +kernel) (by decide +kernel), gw_mem (i := 127) (by decide +kernel) (by decide +kernel), by decide +kernel, by decide +kernel, by decide +kernel, by decide, by decide +kernel⟩
theorem knX5_undo : kN yX5_undo 5 := ⟨gw_mem (i := 1095) (by decide +kernel) (by decide +kernel), gw_mem (i := 1096) (by decide +kernel) (by decide +kernel), TX5, 41, rfl⟩
theorem kyX5_takes : kY yX5_takes cX5_takes 4 none 2 := ⟨gw_mem (i := 1101) (by decide +kernel) (by decide +kernel), gw_mem (i := 127) (by decide +kernel) (by decide +kernel), by decide +kernel, by decide +kernel, by decide +kernel, by decide, by decide +kernel⟩
theorem knX5_takes : kN yX5_takes 5 := ⟨gw_mem (i := 1100) (by decide +kernel) (by decide +kernel), gw_mem (i := 93) (by decide +kernel) (by decide +kernel), TX5, 41, rfl⟩
theorem kyX5_keep : kY yX5_keep cX5_keep 1 (some .int) 0 := ⟨gw_mem (i := 1105) (by decide +kernel) (by decide +kernel), gw_mem (i := 127) (by decide +kernel) (by decide +kernel), by decide +kernel, by decide +kernel, by decide +kernel, by decide, by decide +kernel⟩
theorem knX5_keep : kN yX5_keep 5 := ⟨gw_mem (i := 1103) (by decide +kernel) (by decide +kernel), gw_mem (i := 1104) (by decide +kernel) (by decide +kernel), TX5, 41, rfl⟩
theorem kyX5_back : kY yX5_back cX5_back 1 (some .int) 0 := ⟨gw_mem (i := 1109) (by decide +kernel) (by decide +kernel), gw_mem (i := 127) (by decide +kernel) (by decide +kernel), by decide +kernel, by decide +kernel, by decide +kernel, by decide, by decide +kernel⟩
theorem knX5_back : kN yX5_back 5 := ⟨gw_mem (i := 1107) (by decide +kernel) (by decide +kernel), gw_mem (i := 1108) (by decide +kernel) (by decide +kernel), TX5, 41, rfl⟩
theorem kyX5_stands : kY yX5_stands cX5_stands 4 (some .int) 2 := ⟨gw_mem (i := 1113) (by decide +kernel) (by decide +kernel), gw_mem (i := 127) (by decide +kernel) (by decide +kernel), by decide +kernel, by decide +kernel, by decide +kernel, by decide, by decide +kernel⟩
theorem knX5_stands : kN yX5_stands 5 := ⟨gw_mem (i := 1111) (by decide +kernel) (by decide +kernel), gw_mem (i := 1112) (by decide +kernel) (by decide +kernel), TX5, 41, rfl⟩
theorem kyX5_pieceOf : kY yX5_pieceOf cX5_pieceOf 6 (some .int) 1 := ⟨gw_mem (i := 1117) (by decide +kernel) (by decide +kernel), gw_mem (i := 127) (by decide +kernel) (by decide +kernel), by decide +kernel, by decide +kernel, by decide +kernel, by decide, by decide +kernel⟩
theorem knX5_pieceOf : kN yX5_pieceOf 5 := ⟨gw_mem (i := 1116) (by decide +kernel) (by decide +kernel), gw_mem (i := 94) (by decide +kernel) (by decide +kernel), TX5, 41, rfl⟩
theorem kyX5_place : kY yX5_place cX5_place 3 (some .int) 2 := ⟨gw_mem (i := 1121) (by decide +kernel) (by decide +kernel), gw_mem (i := 127) (by decide +kernel) (by decide +kernel), by decide +kernel, by decide +kernel, by decide +kernel, by decide, by decide +kernel⟩
theorem knX5_place : kN yX5_place 5 := ⟨gw_mem (i := 1119) (by decide +kernel) (by decide +kernel), gw_mem (i := 1120) (by decide +kernel) (by decide +kernel), TX5, 41, rfl⟩
theorem kyX5_isRow : kY yX5_isRow cX5_isRow 2 (some .boolean) 1 := ⟨gw_mem (i := 1125) (by decide +kernel) (by decide +kernel), gw_mem (i := 127) (by decide +kernel) (by decide +kernel), by decide +kernel, by decide +kernel, by decide +kernel, by decide, by decide +kernel⟩
theorem knX5_isRow : kN yX5_isRow 5 := ⟨gw_mem (i := 1124) (by decide +kernel) (by decide +kernel), gw_mem (i := 95) (by decide +kernel) (by decide +kernel), TX5, 41, rfl⟩
theorem kyX5_placeAt : kY yX5_placeAt cX5_placeAt 7 (some .int) 2 := ⟨gw_mem (i := 1129) (by decide +kernel) (by decide +kernel), gw_mem (i := 127) (by decide +kernel) (by decide +kernel), by decide +kernel, by decide +kernel, by decide +kernel, by decide, by decide +kernel⟩
theorem knX5_placeAt : kN yX5_placeAt 5 := ⟨gw_mem (i := 1128) (by decide +kernel) (by decide +kernel), gw_mem (i := 96) (by decide +kernel) (by decide +kernel), TX5, 41, rfl⟩
theorem kyX5_pieceAt : kY yX5_pieceAt cX5_pieceAt 6 (some .int) 2 := ⟨gw_mem (i := 1133) (by decide +kernel) (by decide +kernel), gw_mem (i := 127) (by decide +kernel) (by decide +kernel), by decide +kernel, by decide +kernel, by decide +kernel, by decide, by decide +kernel⟩
theorem knX5_pieceAt : kN yX5_pieceAt 5 := ⟨gw_mem (i := 1132) (by decide +kernel) (by decide +kernel), gw_mem (i := 97) (by decide +kernel) (by decide +kernel), TX5, 41, rfl⟩
theorem kyX5_screen : kY yX5_screen cX5_screen 4 (some .int) 2 := ⟨gw_mem (i := 1137) (by decide +kernel) (by decide +kernel), gw_mem (i := 127) (by decide +kernel) (by decide +kernel), by decide +kernel, by decide +kernel, by decide +kernel, by decide, by decide +kernel⟩
theorem knX5_screen : kN yX5_screen 5 := ⟨gw_mem (i := 1135) (by decide +kernel) (by decide +kernel), gw_mem (i := 1136) (by decide +kernel) (by decide +kernel), TX5, 41, rfl⟩
theorem kyX5_go : kY yX5_go cX5_go 7 (some .int) 2 := ⟨gw_mem (i := 1141) (by decide +kernel) (by decide +kernel), gw_mem (i := 127) (by decide +kernel) (by decide +kernel), by decide +kernel, by decide +kernel, by decide +kernel, by decide, by decide +kernel⟩
theorem knX5_go : kN yX5_go 5 := ⟨gw_mem (i := 1139) (by decide +kernel) (by decide +kernel), gw_mem (i := 1140) (by decide +kernel) (by decide +kernel), TX5, 41, rfl⟩
theorem kyX5_row : kY yX5_row cX5_row 3 (some .int) 2 := ⟨gw_mem (i := 1145) (by decide +kernel) (by decide +kernel), gw_mem (i := 127) (by decide +kernel) (by decide +kernel), by decide +kernel, by decide +kernel, by decide +kernel, by decide, by decide +kernel⟩
theorem knX5_row : kN yX5_row 5 := ⟨gw_mem (i := 1143) (by decide +kernel) (by decide +kernel), gw_mem (i := 1144) (by decide +kernel) (by decide +kernel), TX5, 41, rfl⟩
theorem kyX5_changed : kY yX5_changed cX5_changed 5 (some .int) 1 := ⟨gw_mem (i := 1149) (by decide +kernel) (by decide +kernel), gw_mem (i := 127) (by decide +kernel) (by decide +kernel), by decide +kernel, by decide +kernel, by decide +kernel, by decide, by decide +kernel⟩
theorem knX5_changed : kN yX5_changed 5 := ⟨gw_mem (i := 1147) (by decide +kernel) (by decide +kernel), gw_mem (i := 1148) (by decide +kernel) (by decide +kernel), TX5, 41, rfl⟩
theorem kyX5_isChanged : kY yX5_isChanged cX5_isChanged 4 (some .boolean) 1 := ⟨gw_mem (i := 1153) (by decide +kernel) (by decide +kernel), gw_mem (i := 127) (by decide +kernel) (by decide +kernel), by decide +kernel, by decide +kernel, by decide +kernel, by decide, by decide +kernel⟩
theorem knX5_isChanged : kN yX5_isChanged 5 := ⟨gw_mem (i := 1152) (by decide +kernel) (by decide +kernel), gw_mem (i := 98) (by decide +kernel) (by decide +kernel), TX5, 41, rfl⟩
theorem kyX5_nowMany : kY yX5_nowMany cX5_nowMany 4 (some .int) 1 := ⟨gw_mem (i := 1157) (by decide +kernel) (by decide +kernel), gw_mem (i := 127) (by decide +kernel) (by decide +kernel), by decide +kernel, by decide +kernel, by decide +kernel, by decide, by decide +kernel⟩
theorem knX5_nowMany : kN yX5_nowMany 5 := ⟨gw_mem (i := 1156) (by decide +kernel) (by decide +kernel), gw_mem (i := 99) (by decide +kernel) (by decide +kernel), TX5, 41, rfl⟩
theorem kyX5_wereMany : kY yX5_wereMany cX5_wereMany 4 (some .int) 1 := ⟨gw_mem (i := 1161) (by decide +kernel) (by decide +kernel), gw_mem (i := 127) (by decide +kernel) (by decide +kernel), by decide +kernel, by decide +kernel, by decide +kernel, by decide, by decide +kernel⟩
theorem knX5_wereMany : kN yX5_wereMany 5 := ⟨gw_mem (i := 1160) (by decide +kernel) (by decide +kernel), gw_mem (i := 100) (by decide +kernel) (by decide +kernel), TX5, 41, rfl⟩
theorem kyX5_stood : kY yX5_stood cX5_stood 4 (some .boolean) 1 := ⟨gw_mem (i := 1165) (by decide +kernel) (by decide +kernel), gw_mem (i := 127) (by decide +kernel) (by decide +kernel), by decide +kernel, by decide +kernel, by decide +kernel, by decide, by decide +kernel⟩
theorem knX5_stood : kN yX5_stood 5 := ⟨gw_mem (i := 1164) (by decide +kernel) (by decide +kernel), gw_mem (i := 101) (by decide +kernel) (by decide +kernel), TX5, 41, rfl⟩
theorem kyX5_fit : kY yX5_fit cX5_fit 5 (some .int) 1 := ⟨gw_mem (i := 1169) (by decide +kernel) (by decide +kernel), gw_mem (i := 127) (by decide +kernel) (by decide +kernel), by decide +kernel, by decide +kernel, by decide +kernel, by decide, by decide +kernel⟩
theorem knX5_fit : kN yX5_fit 5 := ⟨gw_mem (i := 1167) (by decide +kernel) (by decide +kernel), gw_mem (i := 1168) (by decide +kernel) (by decide +kernel), TX5, 41, rfl⟩
theorem kyX5_rows : kY yX5_rows cX5_rows 1 (some .int) 0 := ⟨gw_mem (i := 1173) (by decide +kernel) (by decide +kernel), gw_mem (i := 127) (by decide +kernel) (by decide +kernel), by decide +kernel, by decide +kernel, by decide +kernel, by decide, by decide +kernel⟩
theorem knX5_rows : kN yX5_rows 5 := ⟨gw_mem (i := 1172) (by decide +kernel) (by decide +kernel), gw_mem (i := 102) (by decide +kernel) (by decide +kernel), TX5, 41, rfl⟩
theorem kyX5_saves : kY yX5_saves cX5_saves 6 (some .int) 1 := ⟨gw_mem (i := 1177) (by decide +kernel) (by decide +kernel), gw_mem (i := 127) (by decide +kernel) (by decide +kernel), by decide +kernel, by decide +kernel, by decide +kernel, by decide, by decide +kernel⟩
theorem knX5_saves : kN yX5_saves 5 := ⟨gw_mem (i := 1175) (by decide +kernel) (by decide +kernel), gw_mem (i := 1176) (by decide +kernel) (by decide +kernel), TX5, 41, rfl⟩
theorem kyX5_tight : kY yX5_tight cX5_tight 6 (some .int) 1 := ⟨gw_mem (i := 1182) (by decide +kernel) (by decide +kernel), gw_mem (i := 127) (by decide +kernel) (by decide +kernel), by decide +kernel, by decide +kernel, by decide +kernel, by decide, by decide +kernel⟩
theorem knX5_tight : kN yX5_tight 5 := ⟨gw_mem (i := 1180) (by decide +kernel) (by decide +kernel), gw_mem (i := 1181) (by decide +kernel) (by decide +kernel), TX5, 41, rfl⟩
theorem kyX5_isTight : kY yX5_isTight cX5_isTight 4 (some .boolean) 2 := ⟨gw_mem (i := 1186) (by decide +kernel) (by decide +kernel), gw_mem (i := 127) (by decide +kernel) (by decide +kernel), by decide +kernel, by decide +kernel, by decide +kernel, by decide, by decide +kernel⟩
theorem knX5_isTight : kN yX5_isTight 5 := ⟨gw_mem (i := 1185) (by decide +kernel) (by decide +kernel), gw_mem (i := 103) (by decide +kernel) (by decide +kernel), TX5, 41, rfl⟩
theorem kyX5_day : kY yX5_day cX5_day 7 (some .int) 3 := ⟨gw_mem (i := 1190) (by decide +kernel) (by decide +kernel), gw_mem (i := 127) (by decide +kernel) (by decide +kernel), by decide +kernel, by decide +kernel, by decide +kernel, by decide, by decide +kernel⟩
theorem knX5_day : kN yX5_day 5 := ⟨gw_mem (i := 1188) (by decide +kernel) (by decide +kernel), gw_mem (i := 1189) (by decide +kernel) (by decide +kernel), TX5, 41, rfl⟩
theorem kyX5_turns : kY yX5_turns cX5_turns 4 none 1 := ⟨gw_mem (i := 1197) (by decide +kernel) (by decide +kernel), gw_mem (i := 127) (by decide +kernel) (by decide +kernel), by decide +kernel, by decide +kernel, by decide +kernel, by decide, by decide +kernel⟩
theorem knX5_turns : kN yX5_turns 5 := ⟨gw_mem (i := 1196) (by decide +kernel) (by decide +kernel), gw_mem (i := 104) (by decide +kernel) (by decide +kernel), TX5, 41, rfl⟩
theorem kyX5_longest : kY yX5_longest cX5_longest 3 (some .int) 0 := ⟨gw_mem (i := 1201) (by decide +kernel) (by decide +kernel), gw_mem (i := 127) (by decide +kernel) (by decide +kernel), by decide +kernel, by decide +kernel, by decide +kernel, by decide, by decide +kernel⟩
theorem knX5_longest : kN yX5_longest 5 := ⟨gw_mem (i := 1200) (by decide +kernel) (by decide +kernel), gw_mem (i := 105) (by decide +kernel) (by decide +kernel), TX5, 41, rfl⟩
theorem kyX5_count : kY yX5_count cX5_count 2 (some .int) 1 := ⟨gw_mem (i := 1205) (by decide +kernel) (by decide +kernel), gw_mem (i := 127) (by decide +kernel) (by decide +kernel), by decide +kernel, by decide +kernel, by decide +kernel, by decide, by decide +kernel⟩
theorem knX5_count : kN yX5_count 5 := ⟨gw_mem (i := 1203) (by decide +kernel) (by decide +kernel), gw_mem (i := 1204) (by decide +kernel) (by decide +kernel), TX5, 41, rfl⟩
theorem kyX5_write : kY yX5_write cX5_write 2 (some .int) 1 := ⟨gw_mem (i := 1209) (by decide +kernel) (by decide +kernel), gw_mem (i := 127) (by decide +kernel) (by decide +kernel), by decide +kernel, by decide +kernel, by decide +kernel, by decide, by decide +kernel⟩
theorem knX5_write : kN yX5_write 5 := ⟨gw_mem (i := 1207) (by decide +kernel) (by decide +kernel), gw_mem (i := 1208) (by decide +kernel) (by decide +kernel), TX5, 41, rfl⟩
theorem kyX5_wipe : kY yX5_wipe cX5_wipe 2 (some .int) 0 := ⟨gw_mem (i := 1213) (by decide +kernel) (by decide +kernel), gw_mem (i := 127) (by decide +kernel) (by decide +kernel), by decide +kernel, by decide +kernel, by decide +kernel, by decide, by decide +kernel⟩
theorem knX5_wipe : kN yX5_wipe 5 := ⟨gw_mem (i := 1211) (by decide +kernel) (by decide +kernel), gw_mem (i := 1212) (by decide +kernel) (by decide +kernel), TX5, 41, rfl⟩
theorem kyX5_fault : kY yX5_fault cX5_fault 2 (some .int) 0 := ⟨gw_mem (i := 1217) (by decide +kernel) (by decide +kernel), gw_mem (i := 127) (by decide +kernel) (by decide +kernel), by decide +kernel, by decide +kernel, by decide +kernel, by decide, by decide +kernel⟩
theorem knX5_fault : kN yX5_fault 5 := ⟨gw_mem (i := 1215) (by decide +kernel) (by decide +kernel), gw_mem (i := 1216) (by decide +kernel) (by decide +kernel), TX5, 41, rfl⟩
theorem kyX5_readsAll : kY yX5_readsAll cX5_readsAll 2 (some .int) 0 := ⟨gw_mem (i := 1221) (by decide +kernel) (by decide +kernel), gw_mem (i := 127) (by decide +kernel) (by decide +kernel), by decide +kernel, by decide +kernel, by decide +kernel, by decide, by decide +kernel⟩
theorem knX5_readsAll : kN yX5_readsAll 5 := ⟨gw_mem (i := 1220) (by decide +kernel) (by decide +kernel), gw_mem (i := 106) (by decide +kernel) (by decide +kernel), TX5, 41, rfl⟩
theorem kyX5_readsItem : kY yX5_readsItem cX5_readsItem 3 (some .boolean) 1 := ⟨gw_mem (i := 1225) (by decide +kernel) (by decide +kernel), gw_mem (i := 127) (by decide +kernel) (by decide +kernel), by decide +kernel, by decide +kernel, by decide +kernel, by decide, by decide +kernel⟩
theorem knX5_readsItem : kN yX5_readsItem 5 := ⟨gw_mem (i := 1224) (by decide +kernel) (by decide +kernel), gw_mem (i := 107) (by decide +kernel) (by decide +kernel), TX5, 41, rfl⟩
theorem kyX5_here : kY yX5_here cX5_here 1 (some .int) 0 := ⟨gw_mem (i := 1229) (by decide +kernel) (by decide +kernel), gw_mem (i := 127) (by decide +kernel) (by decide +kernel), by decide +kernel, by decide +kernel, by decide +kernel, by decide, by decide +kernel⟩
theorem knX5_here : kN yX5_here 5 := ⟨gw_mem (i := 1228) (by decide +kernel) (by decide +kernel), gw_mem (i := 108) (by decide +kernel) (by decide +kernel), TX5, 41, rfl⟩
theorem kyX5_readsSigns : kY yX5_readsSigns cX5_readsSigns 3 (some .boolean) 0 := ⟨gw_mem (i := 1233) (by decide +kernel) (by decide +kernel), gw_mem (i := 127) (by decide +kernel) (by decide +kernel), by decide +kernel, by decide +kernel, by decide +kernel, by decide, by decide +kernel⟩
theorem knX5_readsSigns : kN yX5_readsSigns 5 := ⟨gw_mem (i := 1232) (by decide +kernel) (by decide +kernel), gw_mem (i := 109) (by decide +kernel) (by decide +kernel), TX5, 41, rfl⟩
theorem kyX5_readsFold : kY yX5_readsFold cX5_readsFold 2 (some .boolean) 0 := ⟨gw_mem (i := 1237) (by decide +kernel) (by decide +kernel), gw_mem (i := 127) (by decide +kernel) (by decide +kernel), by decide +kernel, by decide +kernel, by decide +kernel, by decide, by decide +kernel⟩
theorem knX5_readsFold : kN yX5_readsFold 5 := ⟨gw_mem (i := 1236) (by decide +kernel) (by decide +kernel), gw_mem (i := 110) (by decide +kernel) (by decide +kernel), TX5, 41, rfl⟩
theorem kyX5_number : kY yX5_number cX5_number 5 (some .boolean) 3 := ⟨gw_mem (i := 1241) (by decide +kernel) (by decide +kernel), gw_mem (i := 127) (by decide +kernel) (by decide +kernel), by decide +kernel, by decide +kernel, by decide +kernel, by decide, by decide +kernel⟩
theorem knX5_number : kN yX5_number 5 := ⟨gw_mem (i := 1240) (by decide +kernel) (by decide +kernel), gw_mem (i := 111) (by decide +kernel) (by decide +kernel), TX5, 41, rfl⟩
theorem kyX5_isFigure : kY yX5_isFigure cX5_isFigure 1 (some .boolean) 0 := ⟨gw_mem (i := 1245) (by decide +kernel) (by decide +kernel), gw_mem (i := 127) (by decide +kernel) (by decide +kernel), by decide +kernel, by decide +kernel, by decide +kernel, by decide, by decide +kernel⟩
theorem knX5_isFigure : kN yX5_isFigure 5 := ⟨gw_mem (i := 1244) (by decide +kernel) (by decide +kernel), gw_mem (i := 112) (by decide +kernel) (by decide +kernel), TX5, 41, rfl⟩
theorem kyX5_readsHint : kY yX5_readsHint cX5_readsHint 2 (some .boolean) 0 := ⟨gw_mem (i := 1249) (by decide +kernel) (by decide +kernel), gw_mem (i := 127) (by decide +kernel) (by decide +kernel), by decide +kernel, by decide +kernel, by decide +kernel, by decide, by decide +kernel⟩
theorem knX5_readsHint : kN yX5_readsHint 5 := ⟨gw_mem (i := 1248) (by decide +kernel) (by decide +kernel), gw_mem (i := 113) (by decide +kernel) (by decide +kernel), TX5, 41, rfl⟩
theorem kyX5_readsWide : kY yX5_readsWide cX5_readsWide 3 (some .boolean) 0 := ⟨gw_mem (i := 1253) (by decide +kernel) (by decide +kernel), gw_mem (i := 127) (by decide +kernel) (by decide +kernel), by decide +kernel, by decide +kernel, by decide +kernel, by decide, by decide +kernel⟩
theorem knX5_readsWide : kN yX5_readsWide 5 := ⟨gw_mem (i := 1252) (by decide +kernel) (by decide +kernel), gw_mem (i := 114) (by decide +kernel) (by decide +kernel), TX5, 41, rfl⟩
theorem kyX5_readsTabs : kY yX5_readsTabs cX5_readsTabs 1 (some .boolean) 0 := ⟨gw_mem (i := 1257) (by decide +kernel) (by decide +kernel), gw_mem (i := 127) (by decide +kernel) (by decide +kernel), by decide +kernel, by decide +kernel, by decide +kernel, by decide, by decide +kernel⟩
theorem knX5_readsTabs : kN yX5_readsTabs 5 := ⟨gw_mem (i := 1256) (by decide +kernel) (by decide +kernel), gw_mem (i := 115) (by decide +kernel) (by decide +kernel), TX5, 41, rfl⟩
theorem kyX5_lay : kY yX5_lay cX5_lay 1 (some .int) 0 := ⟨gw_mem (i := 1261) (by decide +kernel) (by decide +kernel), gw_mem (i := 127) (by decide +kernel) (by decide +kernel), by decide +kernel, by decide +kernel, by decide +kernel, by decide, by decide +kernel⟩
theorem knX5_lay : kN yX5_lay 5 := ⟨gw_mem (i := 1259) (by decide +kernel) (by decide +kernel), gw_mem (i := 1260) (by decide +kernel) (by decide +kernel), TX5, 41, rfl⟩
theorem kmL_9 : kM kNm RL 9 yX4_init := Or.inl (gw_mem (i := 131) (by decide +kernel) (by decide +kernel))
theorem kmX4_11 : kM kNm RX4 11 yX3_init := Or.inr (List.mem_of_getElem? (i := 0) (by decide +kernel))
theorem kmX4_18 : kM kNm RX4 18 yX2_init := Or.inr (List.mem_of_getElem? (i := 1) (by decide +kernel))
theorem kmX4_25 : kM kNm RX4 25 yX0_init := Or.inr (List.mem_of_getElem? (i := 2) (by decide +kernel))
theorem kmX0_21 : kM kNm RX0 21 yX2_init := Or.inr (List.mem_of_getElem? (i := 3) (by decide +kernel))
theorem kmX4_37 : kM kNm RX4 37 yX1_init := Or.inr (List.mem_of_getElem? (i := 4) (by decide +kernel))
theorem kmX4_63 : kM kNm RX4 63 yX3_append := Or.inr (List.mem_of_getElem? (i := 5) (by decide +kernel))
theorem kmX4_67 : kM kNm RX4 67 yX3_readInto := Or.inr (List.mem_of_getElem? (i := 6) (by decide +kernel))
theorem kmX3_22 : kM kNm RX3 22 yX2_clear := Or.inr (List.mem_of_getElem? (i := 7) (by decide +kernel))
theorem kmX2_41 : kM kNm RX2 41 yX2_setFlow := Or.inl (gw_mem (i := 346) (by decide +kernel) (by decide +kernel))
theorem kmX3_27 : kM kNm RX3 27 yX3_endOfItem := Or.inl (gw_mem (i := 350) (by decide +kernel) (by decide +kernel))
theorem kmX3_31 : kM kNm RX3 31 yX3_readItem := Or.inl (gw_mem (i := 354) (by decide +kernel) (by decide +kernel))
theorem kmX3_35 : kM kNm RX3 35 yX3_readSigns := Or.inl (gw_mem (i := 358) (by decide +kernel) (by decide +kernel))
theorem kmX3_55 : kM kNm RX3 55 yX3_signOf := Or.inl (gw_mem (i := 362) (by decide +kernel) (by decide +kernel))
theorem kmX3_58 : kM kNm RX3 58 yX2_hasRoom := Or.inr (List.mem_of_getElem? (i := 8) (by decide +kernel))
theorem kmX3_65 : kM kNm RX3 65 yX2_putIn := Or.inr (List.mem_of_getElem? (i := 9) (by decide +kernel))
theorem kmX2_67 : kM kNm RX2 67 yX2_hasPlace := Or.inl (gw_mem (i := 373) (by decide +kernel) (by decide +kernel))
theorem kmX2_70 : kM kNm RX2 70 yX2_hasRoom := Or.inl (gw_mem (i := 377) (by decide +kernel) (by decide +kernel))
theorem kmX3_38 : kM kNm RX3 38 yX3_readNumbers := Or.inl (gw_mem (i := 378) (by decide +kernel) (by decide +kernel))
theorem kmX3_42 : kM kNm RX3 42 yX3_readFold := Or.inl (gw_mem (i := 382) (by decide +kernel) (by decide +kernel))
theorem kmX3_69 : kM kNm RX3 69 yX2_foldRefusal := Or.inr (List.mem_of_getElem? (i := 10) (by decide +kernel))
theorem kmX3_72 : kM kNm RX3 72 yX2_addFold := Or.inr (List.mem_of_getElem? (i := 11) (by decide +kernel))
theorem kmX3_46 : kM kNm RX3 46 yX3_readHint := Or.inl (gw_mem (i := 394) (by decide +kernel) (by decide +kernel))
theorem kmX3_75 : kM kNm RX3 75 yX2_hintRefusal := Or.inr (List.mem_of_getElem? (i := 12) (by decide +kernel))
theorem kmX2_84 : kM kNm RX2 84 yX2_hintAt := Or.inl (gw_mem (i := 402) (by decide +kernel) (by decide +kernel))
theorem kmX3_78 : kM kNm RX3 78 yX2_addHint := Or.inr (List.mem_of_getElem? (i := 13) (by decide +kernel))
theorem kmX3_49 : kM kNm RX3 49 yX3_readFlow := Or.inl (gw_mem (i := 410) (by decide +kernel) (by decide +kernel))
theorem kmX3_81 : kM kNm RX3 81 yX2_isFlow := Or.inr (List.mem_of_getElem? (i := 14) (by decide +kernel))
theorem kmX3_85 : kM kNm RX3 85 yX2_setFlow := Or.inr (List.mem_of_getElem? (i := 15) (by decide +kernel))
theorem kmX3_52 : kM kNm RX3 52 yX3_readTabStep := Or.inl (gw_mem (i := 418) (by decide +kernel) (by decide +kernel))
theorem kmX3_89 : kM kNm RX3 89 yX2_isTabStep := Or.inr (List.mem_of_getElem? (i := 16) (by decide +kernel))
theorem kmX4_74 : kM kNm RX4 74 yX1_draw := Or.inr (List.mem_of_getElem? (i := 17) (by decide +kernel))
theorem kmX1_34 : kM kNm RX1 34 yX1_gather := Or.inl (gw_mem (i := 429) (by decide +kernel) (by decide +kernel))
theorem kmX1_53 : kM kNm RX1 53 yX2_isShown := Or.inr (List.mem_of_getElem? (i := 18) (by decide +kernel))
theorem kmX2_100 : kM kNm RX2 100 yX2_holderOf := Or.inl (gw_mem (i := 437) (by decide +kernel) (by decide +kernel))
theorem kmX2_97 : kM kNm RX2 97 yX2_shutFoldOf := Or.inl (gw_mem (i := 441) (by decide +kernel) (by decide +kernel))
theorem kmX1_57 : kM kNm RX1 57 yX2_hintAt := Or.inr (List.mem_of_getElem? (i := 19) (by decide +kernel))
theorem kmX1_64 : kM kNm RX1 64 yX1_addItem := Or.inl (gw_mem (i := 446) (by decide +kernel) (by decide +kernel))
theorem kmX1_68 : kM kNm RX1 68 yX2_shutFoldOf := Or.inr (List.mem_of_getElem? (i := 20) (by decide +kernel))
theorem kmX1_71 : kM kNm RX1 71 yX2_signAt := Or.inr (List.mem_of_getElem? (i := 21) (by decide +kernel))
theorem kmX2_63 : kM kNm RX2 63 yX2_hasSign := Or.inl (gw_mem (i := 455) (by decide +kernel) (by decide +kernel))
theorem kmX1_38 : kM kNm RX1 38 yX1_flow := Or.inl (gw_mem (i := 459) (by decide +kernel) (by decide +kernel))
theorem kmX1_74 : kM kNm RX1 74 yX1_openRow := Or.inl (gw_mem (i := 463) (by decide +kernel) (by decide +kernel))
theorem kmX1_78 : kM kNm RX1 78 yX1_goesOn := Or.inl (gw_mem (i := 467) (by decide +kernel) (by decide +kernel))
theorem kmX1_88 : kM kNm RX1 88 yX1_widthOf := Or.inl (gw_mem (i := 471) (by decide +kernel) (by decide +kernel))
theorem kmX1_101 : kM kNm RX1 101 yX1_startsWord := Or.inl (gw_mem (i := 475) (by decide +kernel) (by decide +kernel))
theorem kmX1_110 : kM kNm RX1 110 yX1_isOfWord := Or.inl (gw_mem (i := 479) (by decide +kernel) (by decide +kernel))
theorem kmX1_104 : kM kNm RX1 104 yX1_wordWidth := Or.inl (gw_mem (i := 483) (by decide +kernel) (by decide +kernel))
theorem kmX1_92 : kM kNm RX1 92 yX1_closeRow := Or.inl (gw_mem (i := 487) (by decide +kernel) (by decide +kernel))
theorem kmL_13 : kM kNm RL 13 yX4_write := Or.inl (gw_mem (i := 520) (by decide +kernel) (by decide +kernel))
theorem kmL_18 : kM kNm RL 18 yX4_wipe := Or.inl (gw_mem (i := 524) (by decide +kernel) (by decide +kernel))
theorem kmL_23 : kM kNm RL 23 yX4_fault := Or.inl (gw_mem (i := 528) (by decide +kernel) (by decide +kernel))
theorem kmL_27 : kM kNm RL 27 yX4_lay := Or.inl (gw_mem (i := 532) (by decide +kernel) (by decide +kernel))
theorem kmX4_80 : kM kNm RX4 80 yX4_startAnew := Or.inl (gw_mem (i := 536) (by decide +kernel) (by decide +kernel))
theorem kmX4_232 : kM kNm RX4 232 yX2_copyFrom := Or.inr (List.mem_of_getElem? (i := 22) (by decide +kernel))
theorem kmL_31 : kM kNm RL 31 yX4_sign := Or.inl (gw_mem (i := 547) (by decide +kernel) (by decide +kernel))
theorem kmX4_87 : kM kNm RX4 87 yX2_hasPlace := Or.inr (List.mem_of_getElem? (i := 23) (by decide +kernel))
theorem kmX4_90 : kM kNm RX4 90 yX2_signAt := Or.inr (List.mem_of_getElem? (i := 24) (by decide +kernel))
theorem kmL_35 : kM kNm RL 35 yX4_fold := Or.inl (gw_mem (i := 553) (by decide +kernel) (by decide +kernel))
theorem kmX4_94 : kM kNm RX4 94 yX2_hasFold := Or.inr (List.mem_of_getElem? (i := 25) (by decide +kernel))
theorem kmL_40 : kM kNm RL 40 yX4_hint := Or.inl (gw_mem (i := 561) (by decide +kernel) (by decide +kernel))
theorem kmX4_108 : kM kNm RX4 108 yX2_hasHint := Or.inr (List.mem_of_getElem? (i := 26) (by decide +kernel))
theorem kmX4_117 : kM kNm RX4 117 yX2_isShown := Or.inr (List.mem_of_getElem? (i := 27) (by decide +kernel))
theorem kmL_44 : kM kNm RL 44 yX4_insert := Or.inl (gw_mem (i := 570) (by decide +kernel) (by decide +kernel))
theorem kmX4_120 : kM kNm RX4 120 yX2_hasRoom := Or.inr (List.mem_of_getElem? (i := 28) (by decide +kernel))
theorem kmX4_124 : kM kNm RX4 124 yX0_push := Or.inr (List.mem_of_getElem? (i := 29) (by decide +kernel))
theorem kmX0_26 : kM kNm RX0 26 yX0_isFull := Or.inl (gw_mem (i := 579) (by decide +kernel) (by decide +kernel))
theorem kmX0_30 : kM kNm RX0 30 yX0_dropLowest := Or.inl (gw_mem (i := 583) (by decide +kernel) (by decide +kernel))
theorem kmX0_33 : kM kNm RX0 33 yX2_copyFrom := Or.inr (List.mem_of_getElem? (i := 30) (by decide +kernel))
theorem kmX4_127 : kM kNm RX4 127 yX2_putIn := Or.inr (List.mem_of_getElem? (i := 31) (by decide +kernel))
theorem kmX4_131 : kM kNm RX4 131 yX4_redraw := Or.inl (gw_mem (i := 589) (by decide +kernel) (by decide +kernel))
theorem kmL_48 : kM kNm RL 48 yX4_erase := Or.inl (gw_mem (i := 593) (by decide +kernel) (by decide +kernel))
theorem kmX4_134 : kM kNm RX4 134 yX2_hasSign := Or.inr (List.mem_of_getElem? (i := 32) (by decide +kernel))
theorem kmX4_137 : kM kNm RX4 137 yX2_takeOut := Or.inr (List.mem_of_getElem? (i := 33) (by decide +kernel))
theorem kmX2_74 : kM kNm RX2 74 yX2_pullFolds := Or.inl (gw_mem (i := 602) (by decide +kernel) (by decide +kernel))
theorem kmX2_81 : kM kNm RX2 81 yX2_dropFold := Or.inl (gw_mem (i := 606) (by decide +kernel) (by decide +kernel))
theorem kmX2_91 : kM kNm RX2 91 yX2_hasFold := Or.inl (gw_mem (i := 610) (by decide +kernel) (by decide +kernel))
theorem kmX2_78 : kM kNm RX2 78 yX2_pullHints := Or.inl (gw_mem (i := 611) (by decide +kernel) (by decide +kernel))
theorem kmX2_88 : kM kNm RX2 88 yX2_dropHint := Or.inl (gw_mem (i := 615) (by decide +kernel) (by decide +kernel))
theorem kmX2_94 : kM kNm RX2 94 yX2_hasHint := Or.inl (gw_mem (i := 619) (by decide +kernel) (by decide +kernel))
theorem kmL_52 : kM kNm RL 52 yX4_toggle := Or.inl (gw_mem (i := 620) (by decide +kernel) (by decide +kernel))
theorem kmX4_140 : kM kNm RX4 140 yX2_turn := Or.inr (List.mem_of_getElem? (i := 34) (by decide +kernel))
theorem kmL_56 : kM kNm RL 56 yX4_make := Or.inl (gw_mem (i := 628) (by decide +kernel) (by decide +kernel))
theorem kmX4_143 : kM kNm RX4 143 yX2_foldRefusal := Or.inr (List.mem_of_getElem? (i := 35) (by decide +kernel))
theorem kmX4_147 : kM kNm RX4 147 yX2_addFold := Or.inr (List.mem_of_getElem? (i := 36) (by decide +kernel))
theorem kmL_60 : kM kNm RL 60 yX4_unfold := Or.inl (gw_mem (i := 634) (by decide +kernel) (by decide +kernel))
theorem kmX4_150 : kM kNm RX4 150 yX2_dropFold := Or.inr (List.mem_of_getElem? (i := 37) (by decide +kernel))
theorem kmL_64 : kM kNm RL 64 yX4_set := Or.inl (gw_mem (i := 639) (by decide +kernel) (by decide +kernel))
theorem kmX4_156 : kM kNm RX4 156 yX2_hintRefusal := Or.inr (List.mem_of_getElem? (i := 38) (by decide +kernel))
theorem kmX4_159 : kM kNm RX4 159 yX2_addHint := Or.inr (List.mem_of_getElem? (i := 39) (by decide +kernel))
theorem kmL_68 : kM kNm RL 68 yX4_unset := Or.inl (gw_mem (i := 645) (by decide +kernel) (by decide +kernel))
theorem kmX4_162 : kM kNm RX4 162 yX2_dropHint := Or.inr (List.mem_of_getElem? (i := 40) (by decide +kernel))
theorem kmL_72 : kM kNm RL 72 yX4_wide := Or.inl (gw_mem (i := 650) (by decide +kernel) (by decide +kernel))
theorem kmX4_165 : kM kNm RX4 165 yX2_isFlow := Or.inr (List.mem_of_getElem? (i := 41) (by decide +kernel))
theorem kmX4_178 : kM kNm RX4 178 yX2_setFlow := Or.inr (List.mem_of_getElem? (i := 42) (by decide +kernel))
theorem kmL_77 : kM kNm RL 77 yX4_tabs := Or.inl (gw_mem (i := 656) (by decide +kernel) (by decide +kernel))
theorem kmX4_182 : kM kNm RX4 182 yX2_isTabStep := Or.inr (List.mem_of_getElem? (i := 43) (by decide +kernel))
theorem kmL_81 : kM kNm RL 81 yX4_undo := Or.inl (gw_mem (i := 661) (by decide +kernel) (by decide +kernel))
theorem kmX4_188 : kM kNm RX4 188 yX0_popInto := Or.inr (List.mem_of_getElem? (i := 44) (by decide +kernel))
theorem kmL_85 : kM kNm RL 85 yX4_stands := Or.inl (gw_mem (i := 669) (by decide +kernel) (by decide +kernel))
theorem kmX4_192 : kM kNm RX4 192 yX4_rowOf := Or.inl (gw_mem (i := 673) (by decide +kernel) (by decide +kernel))
theorem kmX4_265 : kM kNm RX4 265 yX2_holderOf := Or.inr (List.mem_of_getElem? (i := 45) (by decide +kernel))
theorem kmX4_268 : kM kNm RX4 268 yX1_itemOf := Or.inr (List.mem_of_getElem? (i := 46) (by decide +kernel))
theorem kmX4_195 : kM kNm RX4 195 yX4_columnOf := Or.inl (gw_mem (i := 682) (by decide +kernel) (by decide +kernel))
theorem kmL_89 : kM kNm RL 89 yX4_place := Or.inl (gw_mem (i := 686) (by decide +kernel) (by decide +kernel))
theorem kmX4_198 : kM kNm RX4 198 yX1_hasRow := Or.inr (List.mem_of_getElem? (i := 47) (by decide +kernel))
theorem kmX4_201 : kM kNm RX4 201 yX4_isColumn := Or.inl (gw_mem (i := 694) (by decide +kernel) (by decide +kernel))
theorem kmX4_204 : kM kNm RX4 204 yX1_placeAt := Or.inr (List.mem_of_getElem? (i := 48) (by decide +kernel))
theorem kmL_93 : kM kNm RL 93 yX4_screen := Or.inl (gw_mem (i := 701) (by decide +kernel) (by decide +kernel))
theorem kmX4_208 : kM kNm RX4 208 yX1_codeAt := Or.inr (List.mem_of_getElem? (i := 49) (by decide +kernel))
theorem kmL_97 : kM kNm RL 97 yX4_go := Or.inl (gw_mem (i := 709) (by decide +kernel) (by decide +kernel))
theorem kmX4_211 : kM kNm RX4 211 yX2_nextShown := Or.inr (List.mem_of_getElem? (i := 50) (by decide +kernel))
theorem kmX2_103 : kM kNm RX2 103 yX2_isShown := Or.inl (gw_mem (i := 717) (by decide +kernel) (by decide +kernel))
theorem kmX4_214 : kM kNm RX4 214 yX2_previousShown := Or.inr (List.mem_of_getElem? (i := 51) (by decide +kernel))
theorem kmX4_217 : kM kNm RX4 217 yX4_acrossTo := Or.inl (gw_mem (i := 722) (by decide +kernel) (by decide +kernel))
theorem kmL_101 : kM kNm RL 101 yX4_row := Or.inl (gw_mem (i := 726) (by decide +kernel) (by decide +kernel))
theorem kmL_105 : kM kNm RL 105 yX4_changed := Or.inl (gw_mem (i := 730) (by decide +kernel) (by decide +kernel))
theorem kmX4_226 : kM kNm RX4 226 yX4_firstChanged := Or.inl (gw_mem (i := 734) (by decide +kernel) (by decide +kernel))
theorem kmX4_285 : kM kNm RX4 285 yX4_rowsToCompare := Or.inl (gw_mem (i := 738) (by decide +kernel) (by decide +kernel))
theorem kmX4_288 : kM kNm RX4 288 yX1_isRowAsIn := Or.inr (List.mem_of_getElem? (i := 52) (by decide +kernel))
theorem kmX1_119 : kM kNm RX1 119 yX1_hasRow := Or.inl (gw_mem (i := 747) (by decide +kernel) (by decide +kernel))
theorem kmX1_122 : kM kNm RX1 122 yX1_seek := Or.inl (gw_mem (i := 748) (by decide +kernel) (by decide +kernel))
theorem kmX1_125 : kM kNm RX1 125 yX1_isItemAsIn := Or.inl (gw_mem (i := 752) (by decide +kernel) (by decide +kernel))
theorem kmX4_229 : kM kNm RX4 229 yX4_countChanged := Or.inl (gw_mem (i := 756) (by decide +kernel) (by decide +kernel))
theorem kmL_109 : kM kNm RL 109 yX4_fit := Or.inl (gw_mem (i := 760) (by decide +kernel) (by decide +kernel))
theorem kmL_113 : kM kNm RL 113 yX4_saves := Or.inl (gw_mem (i := 764) (by decide +kernel) (by decide +kernel))
theorem kmL_117 : kM kNm RL 117 yX4_tight := Or.inl (gw_mem (i := 768) (by decide +kernel) (by decide +kernel))
theorem kmX4_235 : kM kNm RX4 235 yX4_isTight := Or.inl (gw_mem (i := 772) (by decide +kernel) (by decide +kernel))
theorem kmL_121 : kM kNm RL 121 yX4_day := Or.inl (gw_mem (i := 776) (by decide +kernel) (by decide +kernel))
theorem kmX4_238 : kM kNm RX4 238 yX4_draw := Or.inl (gw_mem (i := 780) (by decide +kernel) (by decide +kernel))
theorem kmX4_240 : kM kNm RX4 240 yX2_live := Or.inr (List.mem_of_getElem? (i := 53) (by decide +kernel))
theorem kmX2_106 : kM kNm RX2 106 yX2_reduced := Or.inl (gw_mem (i := 790) (by decide +kernel) (by decide +kernel))
theorem kmX2_110 : kM kNm RX2 110 yX2_takeOut := Or.inl (gw_mem (i := 793) (by decide +kernel) (by decide +kernel))
theorem kmX2_113 : kM kNm RX2 113 yX2_turn := Or.inl (gw_mem (i := 794) (by decide +kernel) (by decide +kernel))
theorem kmX2_116 : kM kNm RX2 116 yX2_putIn := Or.inl (gw_mem (i := 795) (by decide +kernel) (by decide +kernel))
theorem kmX4_243 : kM kNm RX4 243 yX1_longestRow := Or.inr (List.mem_of_getElem? (i := 54) (by decide +kernel))
theorem kmL_125 : kM kNm RL 125 yX4_keep := Or.inl (gw_mem (i := 801) (by decide +kernel) (by decide +kernel))
theorem kmX4_246 : kM kNm RX4 246 yX0_isFull := Or.inr (List.mem_of_getElem? (i := 55) (by decide +kernel))
theorem kmL_129 : kM kNm RL 129 yX4_back := Or.inl (gw_mem (i := 806) (by decide +kernel) (by decide +kernel))
theorem kmL_133 : kM kNm RL 133 yX4_count := Or.inl (gw_mem (i := 810) (by decide +kernel) (by decide +kernel))
theorem kmL_12 : kM kNm RL 12 yX5_init := Or.inl (gw_mem (i := 816) (by decide +kernel) (by decide +kernel))
theorem kmX5_92 : kM kNm RX5 92 yX5_comesFold := Or.inl (gw_mem (i := 820) (by decide +kernel) (by decide +kernel))
theorem kmX5_96 : kM kNm RX5 96 yX5_comesHint := Or.inl (gw_mem (i := 824) (by decide +kernel) (by decide +kernel))
theorem kmL_34 : kM kNm RL 34 yX5_sign := Or.inl (gw_mem (i := 952) (by decide +kernel) (by decide +kernel))
theorem kmX5_153 : kM kNm RX5 153 yX5_isPlace := Or.inl (gw_mem (i := 956) (by decide +kernel) (by decide +kernel))
theorem kmX5_103 : kM kNm RX5 103 yX5_in := Or.inl (gw_mem (i := 960) (by decide +kernel) (by decide +kernel))
theorem kmL_39 : kM kNm RL 39 yX5_fold := Or.inl (gw_mem (i := 963) (by decide +kernel) (by decide +kernel))
theorem kmX5_156 : kM kNm RX5 156 yX5_isFold := Or.inl (gw_mem (i := 967) (by decide +kernel) (by decide +kernel))
theorem kmL_43 : kM kNm RL 43 yX5_hint := Or.inl (gw_mem (i := 971) (by decide +kernel) (by decide +kernel))
theorem kmX5_159 : kM kNm RX5 159 yX5_isHint := Or.inl (gw_mem (i := 975) (by decide +kernel) (by decide +kernel))
theorem kmX5_162 : kM kNm RX5 162 yX5_isShown := Or.inl (gw_mem (i := 979) (by decide +kernel) (by decide +kernel))
theorem kmX5_113 : kM kNm RX5 113 yX5_shutOf := Or.inl (gw_mem (i := 983) (by decide +kernel) (by decide +kernel))
theorem kmL_47 : kM kNm RL 47 yX5_insert := Or.inl (gw_mem (i := 987) (by decide +kernel) (by decide +kernel))
theorem kmX5_192 : kM kNm RX5 192 yX5_notes := Or.inl (gw_mem (i := 991) (by decide +kernel) (by decide +kernel))
theorem kmX5_175 : kM kNm RX5 175 yX5_remembers := Or.inl (gw_mem (i := 995) (by decide +kernel) (by decide +kernel))
theorem kmX5_150 : kM kNm RX5 150 yX5_setScreen := Or.inl (gw_mem (i := 999) (by decide +kernel) (by decide +kernel))
theorem kmX5_134 : kM kNm RX5 134 yX5_setPieces := Or.inl (gw_mem (i := 1003) (by decide +kernel) (by decide +kernel))
theorem kmX5_120 : kM kNm RX5 120 yX5_hintOf := Or.inl (gw_mem (i := 1007) (by decide +kernel) (by decide +kernel))
theorem kmX5_123 : kM kNm RX5 123 yX5_comesPiece := Or.inl (gw_mem (i := 1011) (by decide +kernel) (by decide +kernel))
theorem kmX5_137 : kM kNm RX5 137 yX5_toStop := Or.inl (gw_mem (i := 1015) (by decide +kernel) (by decide +kernel))
theorem kmX5_140 : kM kNm RX5 140 yX5_goesOn := Or.inl (gw_mem (i := 1019) (by decide +kernel) (by decide +kernel))
theorem kmX5_127 : kM kNm RX5 127 yX5_isWord := Or.inl (gw_mem (i := 1023) (by decide +kernel) (by decide +kernel))
theorem kmX5_131 : kM kNm RX5 131 yX5_wordFrom := Or.inl (gw_mem (i := 1027) (by decide +kernel) (by decide +kernel))
theorem kmX5_181 : kM kNm RX5 181 yX5_lays := Or.inl (gw_mem (i := 1031) (by decide +kernel) (by decide +kernel))
theorem kmX5_195 : kM kNm RX5 195 yX5_putsIn := Or.inl (gw_mem (i := 1035) (by decide +kernel) (by decide +kernel))
theorem kmL_51 : kM kNm RL 51 yX5_erase := Or.inl (gw_mem (i := 1039) (by decide +kernel) (by decide +kernel))
theorem kmX5_199 : kM kNm RX5 199 yX5_isSign := Or.inl (gw_mem (i := 1043) (by decide +kernel) (by decide +kernel))
theorem kmX5_202 : kM kNm RX5 202 yX5_takesOut := Or.inl (gw_mem (i := 1047) (by decide +kernel) (by decide +kernel))
theorem kmX5_185 : kM kNm RX5 185 yX5_goesFold := Or.inl (gw_mem (i := 1051) (by decide +kernel) (by decide +kernel))
theorem kmX5_189 : kM kNm RX5 189 yX5_goesHint := Or.inl (gw_mem (i := 1055) (by decide +kernel) (by decide +kernel))
theorem kmL_55 : kM kNm RL 55 yX5_toggle := Or.inl (gw_mem (i := 1059) (by decide +kernel) (by decide +kernel))
theorem kmL_59 : kM kNm RL 59 yX5_make := Or.inl (gw_mem (i := 1063) (by decide +kernel) (by decide +kernel))
theorem kmX5_205 : kM kNm RX5 205 yX5_isApart := Or.inl (gw_mem (i := 1067) (by decide +kernel) (by decide +kernel))
theorem kmL_63 : kM kNm RL 63 yX5_unfold := Or.inl (gw_mem (i := 1071) (by decide +kernel) (by decide +kernel))
theorem kmL_67 : kM kNm RL 67 yX5_set := Or.inl (gw_mem (i := 1075) (by decide +kernel) (by decide +kernel))
theorem kmL_71 : kM kNm RL 71 yX5_unset := Or.inl (gw_mem (i := 1079) (by decide +kernel) (by decide +kernel))
theorem kmL_76 : kM kNm RL 76 yX5_wide := Or.inl (gw_mem (i := 1083) (by decide +kernel) (by decide +kernel))
theorem kmX5_208 : kM kNm RX5 208 yX5_isWide := Or.inl (gw_mem (i := 1087) (by decide +kernel) (by decide +kernel))
theorem kmL_80 : kM kNm RL 80 yX5_tabs := Or.inl (gw_mem (i := 1090) (by decide +kernel) (by decide +kernel))
theorem kmL_84 : kM kNm RL 84 yX5_undo := Or.inl (gw_mem (i := 1094) (by decide +kernel) (by decide +kernel))
theorem kmX5_211 : kM kNm RX5 211 yX5_takes := Or.inl (gw_mem (i := 1098) (by decide +kernel) (by decide +kernel))
theorem kmL_128 : kM kNm RL 128 yX5_keep := Or.inl (gw_mem (i := 1102) (by decide +kernel) (by decide +kernel))
theorem kmL_132 : kM kNm RL 132 yX5_back := Or.inl (gw_mem (i := 1106) (by decide +kernel) (by decide +kernel))
theorem kmL_88 : kM kNm RL 88 yX5_stands := Or.inl (gw_mem (i := 1110) (by decide +kernel) (by decide +kernel))
theorem kmX5_217 : kM kNm RX5 217 yX5_pieceOf := Or.inl (gw_mem (i := 1114) (by decide +kernel) (by decide +kernel))
theorem kmL_92 : kM kNm RL 92 yX5_place := Or.inl (gw_mem (i := 1118) (by decide +kernel) (by decide +kernel))
theorem kmX5_223 : kM kNm RX5 223 yX5_isRow := Or.inl (gw_mem (i := 1122) (by decide +kernel) (by decide +kernel))
theorem kmX5_226 : kM kNm RX5 226 yX5_placeAt := Or.inl (gw_mem (i := 1126) (by decide +kernel) (by decide +kernel))
theorem kmX5_220 : kM kNm RX5 220 yX5_pieceAt := Or.inl (gw_mem (i := 1130) (by decide +kernel) (by decide +kernel))
theorem kmL_96 : kM kNm RL 96 yX5_screen := Or.inl (gw_mem (i := 1134) (by decide +kernel) (by decide +kernel))
theorem kmL_100 : kM kNm RL 100 yX5_go := Or.inl (gw_mem (i := 1138) (by decide +kernel) (by decide +kernel))
theorem kmL_104 : kM kNm RL 104 yX5_row := Or.inl (gw_mem (i := 1142) (by decide +kernel) (by decide +kernel))
theorem kmL_108 : kM kNm RL 108 yX5_changed := Or.inl (gw_mem (i := 1146) (by decide +kernel) (by decide +kernel))
theorem kmX5_238 : kM kNm RX5 238 yX5_isChanged := Or.inl (gw_mem (i := 1150) (by decide +kernel) (by decide +kernel))
theorem kmX5_229 : kM kNm RX5 229 yX5_nowMany := Or.inl (gw_mem (i := 1154) (by decide +kernel) (by decide +kernel))
theorem kmX5_232 : kM kNm RX5 232 yX5_wereMany := Or.inl (gw_mem (i := 1158) (by decide +kernel) (by decide +kernel))
theorem kmX5_235 : kM kNm RX5 235 yX5_stood := Or.inl (gw_mem (i := 1162) (by decide +kernel) (by decide +kernel))
theorem kmL_112 : kM kNm RL 112 yX5_fit := Or.inl (gw_mem (i := 1166) (by decide +kernel) (by decide +kernel))
theorem kmX5_241 : kM kNm RX5 241 yX5_rows := Or.inl (gw_mem (i := 1170) (by decide +kernel) (by decide +kernel))
theorem kmL_116 : kM kNm RL 116 yX5_saves := Or.inl (gw_mem (i := 1174) (by decide +kernel) (by decide +kernel))
theorem kmL_120 : kM kNm RL 120 yX5_tight := Or.inl (gw_mem (i := 1179) (by decide +kernel) (by decide +kernel))
theorem kmX5_246 : kM kNm RX5 246 yX5_isTight := Or.inl (gw_mem (i := 1183) (by decide +kernel) (by decide +kernel))
theorem kmL_124 : kM kNm RL 124 yX5_day := Or.inl (gw_mem (i := 1187) (by decide +kernel) (by decide +kernel))
theorem kmX5_255 : kM kNm RX5 255 yX5_turns := Or.inl (gw_mem (i := 1194) (by decide +kernel) (by decide +kernel))
theorem kmX5_258 : kM kNm RX5 258 yX5_longest := Or.inl (gw_mem (i := 1198) (by decide +kernel) (by decide +kernel))
theorem kmL_136 : kM kNm RL 136 yX5_count := Or.inl (gw_mem (i := 1202) (by decide +kernel) (by decide +kernel))
theorem kmL_17 : kM kNm RL 17 yX5_write := Or.inl (gw_mem (i := 1206) (by decide +kernel) (by decide +kernel))
theorem kmL_22 : kM kNm RL 22 yX5_wipe := Or.inl (gw_mem (i := 1210) (by decide +kernel) (by decide +kernel))
theorem kmL_26 : kM kNm RL 26 yX5_fault := Or.inl (gw_mem (i := 1214) (by decide +kernel) (by decide +kernel))
theorem kmX5_299 : kM kNm RX5 299 yX5_readsAll := Or.inl (gw_mem (i := 1218) (by decide +kernel) (by decide +kernel))
theorem kmX5_295 : kM kNm RX5 295 yX5_readsItem := Or.inl (gw_mem (i := 1222) (by decide +kernel) (by decide +kernel))
theorem kmX5_267 : kM kNm RX5 267 yX5_here := Or.inl (gw_mem (i := 1226) (by decide +kernel) (by decide +kernel))
theorem kmX5_280 : kM kNm RX5 280 yX5_readsSigns := Or.inl (gw_mem (i := 1230) (by decide +kernel) (by decide +kernel))
theorem kmX5_283 : kM kNm RX5 283 yX5_readsFold := Or.inl (gw_mem (i := 1234) (by decide +kernel) (by decide +kernel))
theorem kmX5_277 : kM kNm RX5 277 yX5_number := Or.inl (gw_mem (i := 1238) (by decide +kernel) (by decide +kernel))
theorem kmX5_270 : kM kNm RX5 270 yX5_isFigure := Or.inl (gw_mem (i := 1242) (by decide +kernel) (by decide +kernel))
theorem kmX5_286 : kM kNm RX5 286 yX5_readsHint := Or.inl (gw_mem (i := 1246) (by decide +kernel) (by decide +kernel))
theorem kmX5_289 : kM kNm RX5 289 yX5_readsWide := Or.inl (gw_mem (i := 1250) (by decide +kernel) (by decide +kernel))
theorem kmX5_292 : kM kNm RX5 292 yX5_readsTabs := Or.inl (gw_mem (i := 1254) (by decide +kernel) (by decide +kernel))
theorem kmL_30 : kM kNm RL 30 yX5_lay := Or.inl (gw_mem (i := 1258) (by decide +kernel) (by decide +kernel))
theorem kNf_tbl : (kNf.zip kNfp).all (fun q => decide (lw_tbl[q.2]? = some (Cond.fieldLinkNest q.1.1 q.1.2.1 q.1.2.2.1 q.1.2.2.2.1 q.1.2.2.2.2 "DisplayMap"))) = true := by decide +kernel
theorem kNm_tbl : (kNm.zip kNmp).all (fun q => decide (lw_tbl[q.2]? = some (Cond.methodLinkNest q.1.1 q.1.2.1 q.1.2.2 "DisplayMap"))) = true := by decide +kernel
end
section
/-! ===== the judgement J: from this state of the small machine the method comes to its end as promised ===== -/
abbrev TX : Type := Program × Launch × Env × Room × State × MethodId × Array Value × List Frame × Method × Code × (State → Prop) × va_G × ClassId × ClassId × ClassId × (Nat → Prop)
/-- what every method finds: the classes, the nest's links, the cells from the heap's end on are free -/
def Gs (D : va_G) (tI tZ tQ : ClassId) (A : Nat → Prop) (U : State) : Prop :=
  va_K D vwCl (mm_tys tI tZ tQ) U ∧ (∀ q ∈ kNf, va_Nw (.fieldLinkNest q.1 q.2.1 q.2.2.1 q.2.2.2.1 q.2.2.2.2 "DisplayMap") U) ∧ (∀ q ∈ kNm, va_Nw (.methodLinkNest q.1 q.2.1 q.2.2 "DisplayMap") U) ∧ va_AO RX2 U ∧ ∀ q : Nat, U.heap.size ≤ q → A q
def mL (i : Nat) (ml : List (Option mV)) : List (Nat × Value) := match ml with
  | [] => []
  | none :: r => mL (i + 1) r
  | some v :: r => (i, mT v) :: mL (i + 1) r
def mlOk (ml : List (Option mV)) : Prop := ∀ v : mV, some v ∈ ml → vOk v
def stOk (st : List mV) : Prop := ∀ v ∈ st, vOk v
def J (t : TX) (kc ks : Nat) (pc : Nat) (ml : List (Option mV)) (st : List mV) (n : Nat) (w : mW) : Prop := match t with
  | (p, l, e, R, s, m, args, below, meth, c, Q, D, tI, tZ, tQ, A) => ∀ (H : Heap) (locs : List Loc) (ls : Array Slot), mR D tI tZ tQ A n w H → va_S A s.heap H locs → lv_has ls c.maxLocals (mL 0 ml) → mlOk ml → stOk st → W p l e R s m args below meth c H locs kc ks Q (F0 m pc ls (st.map mT))
/-- the frame's facts: its code, its class, its answer's type, its room -/
def Cb (t : TX) (l0 : Launch) (cc : ByteArray) (own : String) (nL : Nat) (ret : Option FieldType) (fr mc ms : Nat) : Prop := match t with
  | (p, l, e, R, s, m, args, below, meth, c, Q, D, tI, tZ, tQ, A) => l = l0 ∧ p.tables.exec = Jvm.exec ∧ c.code = cc ∧ meth.sig.returnType = ret ∧ c.maxLocals = nL ∧ s.vm.findClass own = some m.cls ∧ (∀ w ∈ Gw, w.before args s = true) ∧ meth.locks = false ∧ Gs D tI tZ tQ A s ∧ fr ≤ R.frames ∧ 40 * fr ≤ R.locals ∧ mc ≤ R.cells ∧ ms ≤ R.slots
def mQ (D : va_G) (tI tZ tQ : ClassId) (A : Nat → Prop) (QQ : Option mV → Nat → mW → Prop) : Array Value → State → Outcome → State → Prop := fun _ st oc t => ∃ (r : Option mV) (n' : Nat) (w' : mW), oc = .returned (r.map mT) ∧ (∀ v, r = some v → vOk v) ∧ QQ r n' w' ∧ mR D tI tZ tQ A n' w' t.heap ∧ va_F A st t
/-- what is promised at the end -/
def RQ (t : TX) (mc ms : Nat) (QQ : Option mV → Nat → mW → Prop) : Prop := match t with
  | (p, l, e, R, s, m, args, below, meth, c, Q, D, tI, tZ, tQ, A) => Q = MQ below (mQ D tI tZ tQ A QQ) args s mc ms A
/-- a method's contract at these arguments and this world -/
def Ct (l : Launch) (y : MethodName) (bytes : ByteArray) (maxL : Nat) (ret : Option FieldType) (fr mc ms : Nat) (av : List mV) (n : Nat) (w : mW) (QQ : Option mV → Nat → mW → Prop) : Prop :=
  ∀ (D : va_G) (tI tZ tQ : ClassId) (A : Nat → Prop), Met l y (.code y bytes maxL ret :: Gw) ({ frames := fr, cells := mc, slots := ms, locals := 40 * fr }) (va_Pc (av.map mT) (fun U => Gs D tI tZ tQ A U ∧ mR D tI tZ tQ A n w U.heap ∧ stOk av)) (mQ D tI tZ tQ A QQ) mc ms A
theorem mL_mem {q : Nat × Value} : ∀ {ml : List (Option mV)} {k : Nat}, q ∈ mL k ml ↔ ∃ (j : Nat) (v : mV), ml[j]? = some (some v) ∧ q = (k + j, mT v)
  | [], k => by simp [mL]
  | none :: r, k => by
    rw [mL, mL_mem (ml := r) (k := k + 1)]
    constructor
    · rintro ⟨j, v, h1, h2⟩
      exact ⟨j + 1, v, by simpa using h1, by rw [h2]; congr 1; omega⟩
    · rintro ⟨j, v, h1, h2⟩
      cases j with
      | zero => simp at h1
      | succ j => exact ⟨j, v, by simpa using h1, by rw [h2]; congr 1; omega⟩
  | some u :: r, k => by
    rw [mL, List.mem_cons, mL_mem (ml := r) (k := k + 1)]
    constructor
    · rintro (h | ⟨j, v, h1, h2⟩)
      · exact ⟨0, u, by simp, by rw [h]; rfl⟩
      · exact ⟨j + 1, v, by simpa using h1, by rw [h2]; congr 1; omega⟩
    · rintro ⟨j, v, h1, h2⟩
      cases j with
      | zero =>
        simp at h1
        subst h1
        exact Or.inl h2
      | succ j => exact Or.inr ⟨j, v, by simpa using h1, by rw [h2]; congr 1; omega⟩
theorem mL_at {ls : Array Slot} {nL : Nat} {ml : List (Option mV)} (h : lv_has ls nL (mL 0 ml)) {i : Nat} {v : mV} (hi : ml[i]? = some (some v)) : ls[i]? = some (.val (mT v)) := by
  have := h.2.2 (i, mT v) (mL_mem.mpr ⟨i, v, hi, by simp⟩)
  exact this
/-- no long ends just ahead of place i -/
def nl (ml : List (Option mV)) (i : Nat) : Bool := match i with
  | 0 => true
  | j + 1 => match ml[j]? with
    | some (some (.inr (.inl _))) => false
    | _ => true
theorem mT_cat {v : mV} (h : ∀ z, v ≠ vl z) : (mT v).category = 1 := by
  rcases v with z | z | r
  · rfl
  · exact absurd rfl (h z)
  · cases r <;> rfl
theorem mL_sub {ls : Array Slot} {nL : Nat} {ml : List (Option mV)} {i : Nat} {v : mV} (hn : nl ml i = true) (h : lv_has ls nL ((i, mT v) :: (mL 0 ml).filter (fun q => !(q.1 == i) && !(q.1 + 1 == i && q.2.category == 2)))) : lv_has ls nL (mL 0 (ml.set i (some v))) := by
  refine ⟨h.1, h.2.1, fun q hq => ?_⟩
  obtain ⟨j, u, h1, rfl⟩ := mL_mem.mp hq
  by_cases hj : j = i
  · subst hj
    have hu : u = v := by
      have h2 : j < ml.length := by
        rcases Nat.lt_or_ge j ml.length with h3 | h3
        · exact h3
        · rw [List.set_eq_of_length_le h3, List.getElem?_eq_none h3] at h1
          cases h1
      rw [List.getElem?_set_self h2] at h1
      cases h1
      rfl
    subst hu
    exact h.2.2 _ (by simp)
  · rw [List.getElem?_set_ne (Ne.symm hj)] at h1
    refine h.2.2 (0 + j, mT u) (List.mem_cons_of_mem _ (List.mem_filter.mpr ⟨mL_mem.mpr ⟨j, u, h1, rfl⟩, ?_⟩))
    have e0 : 0 + j = j := Nat.zero_add j
    rw [e0]
    by_cases hji : j + 1 = i
    · subst hji
      have hu : ∀ z, u ≠ vl z := by
        intro z hz
        subst hz
        simp [nl, h1] at hn
      simp [mT_cat hu]
    · simp [hj, hji]
theorem mlOk_set {ml : List (Option mV)} {i : Nat} {v : mV} (h : mlOk ml) (hv : vOk v) : mlOk (ml.set i (some v)) := by
  intro u hu
  rcases List.mem_or_eq_of_mem_set hu with h1 | h1
  · exact h u h1
  · cases h1
    exact hv
theorem mlOk_at {ml : List (Option mV)} (h : mlOk ml) {i : Nat} {v : mV} (hi : ml[i]? = some (some v)) : vOk v := h v (List.mem_of_getElem? hi)
theorem stOk_c {v : mV} {st : List mV} : stOk (v :: st) ↔ vOk v ∧ stOk st := by
  unfold stOk
  rw [List.forall_mem_cons]
section JR
variable {t : TX} {l : Launch} {cc : ByteArray} {own : String} {nL : Nat} {ret : Option FieldType} {fr mc ms kc ks pc n : Nat} {ml : List (Option mV)} {st : List mV} {w : mW}
theorem x_iconst (C : Cb t l cc own nL ret fr mc ms) {z : Int} (hd : decode cc pc = .ok (.iconst z, 1)) (hz : iR z) (k : J t kc ks (pc + 1) ml (vi z :: st) n w) : J t kc ks pc ml st n w := by
  obtain ⟨p, l1, e, R, s, m, args, below, meth, c, Q, D, tI, tZ, tQ, A⟩ := t
  obtain ⟨-, hx, hb, -⟩ := C
  intro H locs ls hR hS hl ho hs
  exact lv_iconst hx hb hd rfl (k H locs ls hR hS hl ho (stOk_c.mpr ⟨hz, hs⟩))
theorem x_bipush (C : Cb t l cc own nL ret fr mc ms) {z : Int} (hd : decode cc pc = .ok (.bipush z, 2)) (hz : -128 ≤ z ∧ z < 128) (k : J t kc ks (pc + 2) ml (vi z :: st) n w) : J t kc ks pc ml st n w := by
  obtain ⟨p, l1, e, R, s, m, args, below, meth, c, Q, D, tI, tZ, tQ, A⟩ := t
  obtain ⟨-, hx, hb, -⟩ := C
  intro H locs ls hR hS hl ho hs
  have hz2 : iR z := ⟨by omega, by omega⟩
  refine lv_bipush (v := Int32.ofInt z) hx hb hd ?_ (k H locs ls hR hS hl ho (stOk_c.mpr ⟨hz2, hs⟩))
  rw [← Int32.ofInt_int8ToInt, Int8.toInt_ofInt_of_le (by omega) (by omega)]
theorem x_sipush (C : Cb t l cc own nL ret fr mc ms) {z : Int} (hd : decode cc pc = .ok (.sipush z, 3)) (hz : -32768 ≤ z ∧ z < 32768) (k : J t kc ks (pc + 3) ml (vi z :: st) n w) : J t kc ks pc ml st n w := by
  obtain ⟨p, l1, e, R, s, m, args, below, meth, c, Q, D, tI, tZ, tQ, A⟩ := t
  obtain ⟨-, hx, hb, -⟩ := C
  intro H locs ls hR hS hl ho hs
  have hz2 : iR z := ⟨by omega, by omega⟩
  refine lv_sipush (v := Int32.ofInt z) hx hb hd ?_ (k H locs ls hR hS hl ho (stOk_c.mpr ⟨hz2, hs⟩))
  rw [← Int32.ofInt_int16ToInt, Int16.toInt_ofInt_of_le (by omega) (by omega)]
theorem x_iadd (C : Cb t l cc own nL ret fr mc ms) {a b : Int} (hd : decode cc pc = .ok (.iadd, 1)) (hr : iR (a + b)) (k : J t kc ks (pc + 1) ml (vi (a + b) :: st) n w) : J t kc ks pc ml (vi b :: vi a :: st) n w := by
  obtain ⟨p, l1, e, R, s, m, args, below, meth, c, Q, D, tI, tZ, tQ, A⟩ := t
  obtain ⟨-, hx, hb, -⟩ := C
  intro H locs ls hR hS hl ho hs
  have hs2 := (stOk_c.mp (stOk_c.mp hs).2).2
  have := k H locs ls hR hS hl ho (stOk_c.mpr ⟨hr, hs2⟩)
  refine lv_iadd hx hb hd ?_
  rw [← Int32.ofInt_add]
  exact this
theorem x_isub (C : Cb t l cc own nL ret fr mc ms) {a b : Int} (hd : decode cc pc = .ok (.isub, 1)) (hr : iR (a - b)) (k : J t kc ks (pc + 1) ml (vi (a - b) :: st) n w) : J t kc ks pc ml (vi b :: vi a :: st) n w := by
  obtain ⟨p, l1, e, R, s, m, args, below, meth, c, Q, D, tI, tZ, tQ, A⟩ := t
  obtain ⟨-, hx, hb, -⟩ := C
  intro H locs ls hR hS hl ho hs
  have hs2 := (stOk_c.mp (stOk_c.mp hs).2).2
  have := k H locs ls hR hS hl ho (stOk_c.mpr ⟨hr, hs2⟩)
  refine lv_isub hx hb hd ?_
  rw [← Int32.ofInt_sub]
  exact this
theorem x_imul (C : Cb t l cc own nL ret fr mc ms) {a b : Int} (hd : decode cc pc = .ok (.imul, 1)) (hr : iR (a * b)) (k : J t kc ks (pc + 1) ml (vi (a * b) :: st) n w) : J t kc ks pc ml (vi b :: vi a :: st) n w := by
  obtain ⟨p, l1, e, R, s, m, args, below, meth, c, Q, D, tI, tZ, tQ, A⟩ := t
  obtain ⟨-, hx, hb, -⟩ := C
  intro H locs ls hR hS hl ho hs
  have hs2 := (stOk_c.mp (stOk_c.mp hs).2).2
  have := k H locs ls hR hS hl ho (stOk_c.mpr ⟨hr, hs2⟩)
  refine lv_imul hx hb hd ?_
  rw [← Int32.ofInt_mul]
  exact this
theorem x_idiv (C : Cb t l cc own nL ret fr mc ms) {a b : Int} (hd : decode cc pc = .ok (.idiv, 1)) (h0 : 0 ≤ a) (h1 : 0 < b) (k : J t kc ks (pc + 1) ml (vi (a / b) :: st) n w) : J t kc ks pc ml (vi b :: vi a :: st) n w := by
  obtain ⟨p, l1, e, R, s, m, args, below, meth, c, Q, D, tI, tZ, tQ, A⟩ := t
  obtain ⟨-, hx, hb, -⟩ := C
  intro H locs ls hR hS hl ho hs
  obtain ⟨ob, hs1⟩ := stOk_c.mp hs
  obtain ⟨oa, hs2⟩ := stOk_c.mp hs1
  obtain ⟨e1, e2⟩ := iR_div oa ob h0 h1
  have := k H locs ls hR hS hl ho (stOk_c.mpr ⟨e2, hs2⟩)
  refine lv_idiv hx hb hd (fun q => ?_) ?_
  · have := (iR_eq ob iR_0).mp (q.trans iR_z.symm)
    omega
  · rw [e1]
    exact this
theorem x_irem (C : Cb t l cc own nL ret fr mc ms) {a b : Int} (hd : decode cc pc = .ok (.irem, 1)) (h0 : 0 ≤ a) (h1 : 0 < b) (k : J t kc ks (pc + 1) ml (vi (a % b) :: st) n w) : J t kc ks pc ml (vi b :: vi a :: st) n w := by
  obtain ⟨p, l1, e, R, s, m, args, below, meth, c, Q, D, tI, tZ, tQ, A⟩ := t
  obtain ⟨-, hx, hb, -⟩ := C
  intro H locs ls hR hS hl ho hs
  obtain ⟨ob, hs1⟩ := stOk_c.mp hs
  obtain ⟨oa, hs2⟩ := stOk_c.mp hs1
  obtain ⟨e1, e2⟩ := iR_rem oa ob h0 h1
  have := k H locs ls hR hS hl ho (stOk_c.mpr ⟨e2, hs2⟩)
  refine lv_irem hx hb hd (fun q => ?_) ?_
  · have := (iR_eq ob iR_0).mp (q.trans iR_z.symm)
    omega
  · rw [e1]
    exact this
theorem x_goto (C : Cb t l cc own nL ret fr mc ms) {off : Int} {tgt : Nat} (hd : decode cc pc = .ok (.goto off, 3)) (ht : (pc : Int) + off = (tgt : Int)) (k : J t kc ks tgt ml st n w) : J t kc ks pc ml st n w := by
  obtain ⟨p, l1, e, R, s, m, args, below, meth, c, Q, D, tI, tZ, tQ, A⟩ := t
  obtain ⟨-, hx, hb, -⟩ := C
  intro H locs ls hR hS hl ho hs
  exact lv_goto hx hb hd ht (k H locs ls hR hS hl ho hs)
theorem x_dup (C : Cb t l cc own nL ret fr mc ms) {v : mV} (hd : decode cc pc = .ok (.dup, 1)) (hc : (mT v).category = 1) (k : J t kc ks (pc + 1) ml (v :: v :: st) n w) : J t kc ks pc ml (v :: st) n w := by
  obtain ⟨p, l1, e, R, s, m, args, below, meth, c, Q, D, tI, tZ, tQ, A⟩ := t
  obtain ⟨-, hx, hb, -⟩ := C
  intro H locs ls hR hS hl ho hs
  exact lv_dup hx hb hd hc (k H locs ls hR hS hl ho (stOk_c.mpr ⟨(stOk_c.mp hs).1, hs⟩))
theorem x_dup2 (C : Cb t l cc own nL ret fr mc ms) {v u : mV} (hd : decode cc pc = .ok (.dup2, 1)) (hc : (mT v).category = 1) (hu : (mT u).category = 1) (k : J t kc ks (pc + 1) ml (v :: u :: v :: u :: st) n w) : J t kc ks pc ml (v :: u :: st) n w := by
  obtain ⟨p, l1, e, R, s, m, args, below, meth, c, Q, D, tI, tZ, tQ, A⟩ := t
  obtain ⟨-, hx, hb, -⟩ := C
  intro H locs ls hR hS hl ho hs
  obtain ⟨o1, o2⟩ := stOk_c.mp hs
  exact lv_dup2_11 hx hb hd hc hu (k H locs ls hR hS hl ho (stOk_c.mpr ⟨o1, stOk_c.mpr ⟨(stOk_c.mp o2).1, hs⟩⟩))
theorem x_pop (C : Cb t l cc own nL ret fr mc ms) {v : mV} (hd : decode cc pc = .ok (.pop, 1)) (hc : (mT v).category = 1) (k : J t kc ks (pc + 1) ml st n w) : J t kc ks pc ml (v :: st) n w := by
  obtain ⟨p, l1, e, R, s, m, args, below, meth, c, Q, D, tI, tZ, tQ, A⟩ := t
  obtain ⟨-, hx, hb, -⟩ := C
  intro H locs ls hR hS hl ho hs
  exact lv_pop hx hb hd hc (k H locs ls hR hS hl ho (stOk_c.mp hs).2)
/-- a local is read -/
theorem x_iload_n (C : Cb t l cc own nL ret fr mc ms) {i : Fin 4} {z : Int} (hd : decode cc pc = .ok (.iload_n i, 1)) (hi : ml[(i : Nat)]? = some (some (vi z))) (k : J t kc ks (pc + 1) ml (vi z :: st) n w) : J t kc ks pc ml st n w := by
  obtain ⟨p, l1, e, R, s, m, args, below, meth, c, Q, D, tI, tZ, tQ, A⟩ := t
  obtain ⟨-, hx, hb, -⟩ := C
  intro H locs ls hR hS hl ho hs
  exact lv_iload_n hx hb hd rfl (mL_at hl hi) (k H locs ls hR hS hl ho (stOk_c.mpr ⟨mlOk_at ho hi, hs⟩))
theorem x_iload (C : Cb t l cc own nL ret fr mc ms) {i : Nat} {z : Int} (hd : decode cc pc = .ok (.iload i, 2)) (hi : ml[i]? = some (some (vi z))) (k : J t kc ks (pc + 2) ml (vi z :: st) n w) : J t kc ks pc ml st n w := by
  obtain ⟨p, l1, e, R, s, m, args, below, meth, c, Q, D, tI, tZ, tQ, A⟩ := t
  obtain ⟨-, hx, hb, -⟩ := C
  intro H locs ls hR hS hl ho hs
  exact lv_iload hx hb hd (mL_at hl hi) (k H locs ls hR hS hl ho (stOk_c.mpr ⟨mlOk_at ho hi, hs⟩))
theorem x_aload_n (C : Cb t l cc own nL ret fr mc ms) {i : Fin 4} {a : Nat} (hd : decode cc pc = .ok (.aload_n i, 1)) (hi : ml[(i : Nat)]? = some (some (vr a))) (k : J t kc ks (pc + 1) ml (vr a :: st) n w) : J t kc ks pc ml st n w := by
  obtain ⟨p, l1, e, R, s, m, args, below, meth, c, Q, D, tI, tZ, tQ, A⟩ := t
  obtain ⟨-, hx, hb, -⟩ := C
  intro H locs ls hR hS hl ho hs
  exact lv_aload_n hx hb hd rfl (mL_at hl hi) (k H locs ls hR hS hl ho (stOk_c.mpr ⟨trivial, hs⟩))
theorem x_lload_n (C : Cb t l cc own nL ret fr mc ms) {i : Fin 4} {z : Int} (hd : decode cc pc = .ok (.lload_n i, 1)) (hi : ml[(i : Nat)]? = some (some (vl z))) (k : J t kc ks (pc + 1) ml (vl z :: st) n w) : J t kc ks pc ml st n w := by
  obtain ⟨p, l1, e, R, s, m, args, below, meth, c, Q, D, tI, tZ, tQ, A⟩ := t
  obtain ⟨-, hx, hb, -⟩ := C
  intro H locs ls hR hS hl ho hs
  exact lv_lload_n hx hb hd rfl (mL_at hl hi) (k H locs ls hR hS hl ho (stOk_c.mpr ⟨mlOk_at ho hi, hs⟩))
theorem x_lload (C : Cb t l cc own nL ret fr mc ms) {i : Nat} {z : Int} (hd : decode cc pc = .ok (.lload i, 2)) (hi : ml[i]? = some (some (vl z))) (k : J t kc ks (pc + 2) ml (vl z :: st) n w) : J t kc ks pc ml st n w := by
  obtain ⟨p, l1, e, R, s, m, args, below, meth, c, Q, D, tI, tZ, tQ, A⟩ := t
  obtain ⟨-, hx, hb, -⟩ := C
  intro H locs ls hR hS hl ho hs
  exact lv_lload hx hb hd (mL_at hl hi) (k H locs ls hR hS hl ho (stOk_c.mpr ⟨mlOk_at ho hi, hs⟩))
/-- a local is written -/
theorem x_istore_n (C : Cb t l cc own nL ret fr mc ms) {i : Fin 4} {z : Int} (hd : decode cc pc = .ok (.istore_n i, 1)) (hi : (i : Nat) < nL) (hn : nl ml i = true) (k : J t kc ks (pc + 1) (ml.set i (some (vi z))) st n w) : J t kc ks pc ml (vi z :: st) n w := by
  obtain ⟨p, l1, e, R, s, m, args, below, meth, c, Q, D, tI, tZ, tQ, A⟩ := t
  obtain ⟨-, hx, hb, -, hml, -⟩ := C
  intro H locs ls hR hS hl ho hs
  obtain ⟨o1, o2⟩ := stOk_c.mp hs
  exact lv_istore_n hx hb hd rfl hl (by rw [hml]; exact hi) rfl (fun ls' hl' => k H locs ls' hR hS (mL_sub hn hl') (mlOk_set ho o1) o2)
theorem x_istore (C : Cb t l cc own nL ret fr mc ms) {i : Nat} {z : Int} (hd : decode cc pc = .ok (.istore i, 2)) (hi : i < nL) (hn : nl ml i = true) (k : J t kc ks (pc + 2) (ml.set i (some (vi z))) st n w) : J t kc ks pc ml (vi z :: st) n w := by
  obtain ⟨p, l1, e, R, s, m, args, below, meth, c, Q, D, tI, tZ, tQ, A⟩ := t
  obtain ⟨-, hx, hb, -, hml, -⟩ := C
  intro H locs ls hR hS hl ho hs
  obtain ⟨o1, o2⟩ := stOk_c.mp hs
  exact lv_istore hx hb hd hl (by rw [hml]; exact hi) rfl (fun ls' hl' => k H locs ls' hR hS (mL_sub hn hl') (mlOk_set ho o1) o2)
theorem x_astore_n (C : Cb t l cc own nL ret fr mc ms) {i : Fin 4} {a : Nat} (hd : decode cc pc = .ok (.astore_n i, 1)) (hi : (i : Nat) < nL) (hn : nl ml i = true) (k : J t kc ks (pc + 1) (ml.set i (some (vr a))) st n w) : J t kc ks pc ml (vr a :: st) n w := by
  obtain ⟨p, l1, e, R, s, m, args, below, meth, c, Q, D, tI, tZ, tQ, A⟩ := t
  obtain ⟨-, hx, hb, -, hml, -⟩ := C
  intro H locs ls hR hS hl ho hs
  obtain ⟨o1, o2⟩ := stOk_c.mp hs
  exact lv_astore_n hx hb hd rfl hl (by rw [hml]; exact hi) rfl (fun ls' hl' => k H locs ls' hR hS (mL_sub (v := vr a) hn hl') (mlOk_set ho trivial) o2)
theorem x_iinc (C : Cb t l cc own nL ret fr mc ms) {i : Nat} {d z : Int} (hd : decode cc pc = .ok (.iinc i d, 3)) (hg : ml[i]? = some (some (vi z))) (hi : i < nL) (hn : nl ml i = true) (hr : iR (z + d)) (k : J t kc ks (pc + 3) (ml.set i (some (vi (z + d)))) st n w) : J t kc ks pc ml st n w := by
  obtain ⟨p, l1, e, R, s, m, args, below, meth, c, Q, D, tI, tZ, tQ, A⟩ := t
  obtain ⟨-, hx, hb, -, hml, -⟩ := C
  intro H locs ls hR hS hl ho hs
  obtain ⟨k0, hk0⟩ := List.getElem?_of_mem (mL_mem.mpr ⟨i, vi z, hg, rfl⟩ : (0 + i, mT (vi z)) ∈ mL 0 ml)
  rw [Nat.zero_add] at hk0
  refine lv_iinc (v := Int32.ofInt (z + d)) hx hb hd hl hk0 (Int32.ofInt_add z d).symm (by rw [hml]; exact hi) rfl (fun ls' hl' => ?_)
  exact k H locs ls' hR hS (mL_sub (v := vi (z + d)) hn hl') (mlOk_set ho hr) hs
end JR
end
section
/-! ===== branches, fields, arrays, ends, calls ===== -/
section JB
variable {t : TX} {l : Launch} {cc : ByteArray} {own : String} {nL : Nat} {ret : Option FieldType} {fr mc ms kc ks pc n : Nat} {ml : List (Option mV)} {st : List mV} {w : mW}
theorem x_icmp_eq (C : Cb t l cc own nL ret fr mc ms) {a b off : Int} {tgt : Nat} (hd : decode cc pc = .ok (.if_icmp .eq off, 3)) (ht : (pc : Int) + off = (tgt : Int)) (kt : a = b → J t kc ks tgt ml st n w) (kf : a ≠ b → J t kc ks (pc + 3) ml st n w) : J t kc ks pc ml (vi b :: vi a :: st) n w := by
  obtain ⟨p, l1, e, R, s, m, args, below, meth, c, Q, D, tI, tZ, tQ, A⟩ := t
  obtain ⟨-, hx, hb, -⟩ := C
  intro H locs ls hR hS hl ho hs
  obtain ⟨ob, hs1⟩ := stOk_c.mp hs
  obtain ⟨oa, hs2⟩ := stOk_c.mp hs1
  exact lv_icmp_eq hx hb hd ht (fun h => kt ((iR_eq oa ob).mp h) H locs ls hR hS hl ho hs2) (fun h => kf (fun q => h ((iR_eq oa ob).mpr q)) H locs ls hR hS hl ho hs2)
theorem x_if_eq (C : Cb t l cc own nL ret fr mc ms) {a off : Int} {tgt : Nat} (hd : decode cc pc = .ok (.ifCond .eq off, 3)) (ht : (pc : Int) + off = (tgt : Int)) (kt : a = 0 → J t kc ks tgt ml st n w) (kf : a ≠ 0 → J t kc ks (pc + 3) ml st n w) : J t kc ks pc ml (vi a :: st) n w := by
  obtain ⟨p, l1, e, R, s, m, args, below, meth, c, Q, D, tI, tZ, tQ, A⟩ := t
  obtain ⟨-, hx, hb, -⟩ := C
  intro H locs ls hR hS hl ho hs
  obtain ⟨oa, hs2⟩ := stOk_c.mp hs
  have ob : iR 0 := iR_0
  exact lv_if_eq hx hb hd ht (fun h => kt ((iR_eq oa ob).mp h) H locs ls hR hS hl ho hs2) (fun h => kf (fun q => h ((iR_eq oa ob).mpr q)) H locs ls hR hS hl ho hs2)
theorem x_icmp_ne (C : Cb t l cc own nL ret fr mc ms) {a b off : Int} {tgt : Nat} (hd : decode cc pc = .ok (.if_icmp .ne off, 3)) (ht : (pc : Int) + off = (tgt : Int)) (kt : a ≠ b → J t kc ks tgt ml st n w) (kf : a = b → J t kc ks (pc + 3) ml st n w) : J t kc ks pc ml (vi b :: vi a :: st) n w := by
  obtain ⟨p, l1, e, R, s, m, args, below, meth, c, Q, D, tI, tZ, tQ, A⟩ := t
  obtain ⟨-, hx, hb, -⟩ := C
  intro H locs ls hR hS hl ho hs
  obtain ⟨ob, hs1⟩ := stOk_c.mp hs
  obtain ⟨oa, hs2⟩ := stOk_c.mp hs1
  exact lv_icmp_ne hx hb hd ht (fun h => kt (fun q => h ((iR_eq oa ob).mpr q)) H locs ls hR hS hl ho hs2) (fun h => kf ((iR_eq oa ob).mp h) H locs ls hR hS hl ho hs2)
theorem x_if_ne (C : Cb t l cc own nL ret fr mc ms) {a off : Int} {tgt : Nat} (hd : decode cc pc = .ok (.ifCond .ne off, 3)) (ht : (pc : Int) + off = (tgt : Int)) (kt : a ≠ 0 → J t kc ks tgt ml st n w) (kf : a = 0 → J t kc ks (pc + 3) ml st n w) : J t kc ks pc ml (vi a :: st) n w := by
  obtain ⟨p, l1, e, R, s, m, args, below, meth, c, Q, D, tI, tZ, tQ, A⟩ := t
  obtain ⟨-, hx, hb, -⟩ := C
  intro H locs ls hR hS hl ho hs
  obtain ⟨oa, hs2⟩ := stOk_c.mp hs
  have ob : iR 0 := iR_0
  exact lv_if_ne hx hb hd ht (fun h => kt (fun q => h ((iR_eq oa ob).mpr q)) H locs ls hR hS hl ho hs2) (fun h => kf ((iR_eq oa ob).mp h) H locs ls hR hS hl ho hs2)
theorem x_icmp_lt (C : Cb t l cc own nL ret fr mc ms) {a b off : Int} {tgt : Nat} (hd : decode cc pc = .ok (.if_icmp .lt off, 3)) (ht : (pc : Int) + off = (tgt : Int)) (kt : a < b → J t kc ks tgt ml st n w) (kf : b ≤ a → J t kc ks (pc + 3) ml st n w) : J t kc ks pc ml (vi b :: vi a :: st) n w := by
  obtain ⟨p, l1, e, R, s, m, args, below, meth, c, Q, D, tI, tZ, tQ, A⟩ := t
  obtain ⟨-, hx, hb, -⟩ := C
  intro H locs ls hR hS hl ho hs
  obtain ⟨ob, hs1⟩ := stOk_c.mp hs
  obtain ⟨oa, hs2⟩ := stOk_c.mp hs1
  exact lv_icmp_lt hx hb hd ht (fun h => kt ((iR_lt oa ob).mp h) H locs ls hR hS hl ho hs2) (fun h => kf (Int.not_lt.mp (fun q => h ((iR_lt oa ob).mpr q))) H locs ls hR hS hl ho hs2)
theorem x_if_lt (C : Cb t l cc own nL ret fr mc ms) {a off : Int} {tgt : Nat} (hd : decode cc pc = .ok (.ifCond .lt off, 3)) (ht : (pc : Int) + off = (tgt : Int)) (kt : a < 0 → J t kc ks tgt ml st n w) (kf : 0 ≤ a → J t kc ks (pc + 3) ml st n w) : J t kc ks pc ml (vi a :: st) n w := by
  obtain ⟨p, l1, e, R, s, m, args, below, meth, c, Q, D, tI, tZ, tQ, A⟩ := t
  obtain ⟨-, hx, hb, -⟩ := C
  intro H locs ls hR hS hl ho hs
  obtain ⟨oa, hs2⟩ := stOk_c.mp hs
  have ob : iR 0 := iR_0
  exact lv_if_lt hx hb hd ht (fun h => kt ((iR_lt oa ob).mp h) H locs ls hR hS hl ho hs2) (fun h => kf (Int.not_lt.mp (fun q => h ((iR_lt oa ob).mpr q))) H locs ls hR hS hl ho hs2)
theorem x_icmp_ge (C : Cb t l cc own nL ret fr mc ms) {a b off : Int} {tgt : Nat} (hd : decode cc pc = .ok (.if_icmp .ge off, 3)) (ht : (pc : Int) + off = (tgt : Int)) (kt : b ≤ a → J t kc ks tgt ml st n w) (kf : a < b → J t kc ks (pc + 3) ml st n w) : J t kc ks pc ml (vi b :: vi a :: st) n w := by
  obtain ⟨p, l1, e, R, s, m, args, below, meth, c, Q, D, tI, tZ, tQ, A⟩ := t
  obtain ⟨-, hx, hb, -⟩ := C
  intro H locs ls hR hS hl ho hs
  obtain ⟨ob, hs1⟩ := stOk_c.mp hs
  obtain ⟨oa, hs2⟩ := stOk_c.mp hs1
  exact lv_icmp_ge hx hb hd ht (fun h => kt ((iR_le ob oa).mp h) H locs ls hR hS hl ho hs2) (fun h => kf (Int.not_le.mp (fun q => h ((iR_le ob oa).mpr q))) H locs ls hR hS hl ho hs2)
theorem x_if_ge (C : Cb t l cc own nL ret fr mc ms) {a off : Int} {tgt : Nat} (hd : decode cc pc = .ok (.ifCond .ge off, 3)) (ht : (pc : Int) + off = (tgt : Int)) (kt : 0 ≤ a → J t kc ks tgt ml st n w) (kf : a < 0 → J t kc ks (pc + 3) ml st n w) : J t kc ks pc ml (vi a :: st) n w := by
  obtain ⟨p, l1, e, R, s, m, args, below, meth, c, Q, D, tI, tZ, tQ, A⟩ := t
  obtain ⟨-, hx, hb, -⟩ := C
  intro H locs ls hR hS hl ho hs
  obtain ⟨oa, hs2⟩ := stOk_c.mp hs
  have ob : iR 0 := iR_0
  exact lv_if_ge hx hb hd ht (fun h => kt ((iR_le ob oa).mp h) H locs ls hR hS hl ho hs2) (fun h => kf (Int.not_le.mp (fun q => h ((iR_le ob oa).mpr q))) H locs ls hR hS hl ho hs2)
theorem x_icmp_gt (C : Cb t l cc own nL ret fr mc ms) {a b off : Int} {tgt : Nat} (hd : decode cc pc = .ok (.if_icmp .gt off, 3)) (ht : (pc : Int) + off = (tgt : Int)) (kt : b < a → J t kc ks tgt ml st n w) (kf : a ≤ b → J t kc ks (pc + 3) ml st n w) : J t kc ks pc ml (vi b :: vi a :: st) n w := by
  obtain ⟨p, l1, e, R, s, m, args, below, meth, c, Q, D, tI, tZ, tQ, A⟩ := t
  obtain ⟨-, hx, hb, -⟩ := C
  intro H locs ls hR hS hl ho hs
  obtain ⟨ob, hs1⟩ := stOk_c.mp hs
  obtain ⟨oa, hs2⟩ := stOk_c.mp hs1
  exact lv_icmp_gt hx hb hd ht (fun h => kt ((iR_lt ob oa).mp h) H locs ls hR hS hl ho hs2) (fun h => kf (Int.not_lt.mp (fun q => h ((iR_lt ob oa).mpr q))) H locs ls hR hS hl ho hs2)
theorem x_if_gt (C : Cb t l cc own nL ret fr mc ms) {a off : Int} {tgt : Nat} (hd : decode cc pc = .ok (.ifCond .gt off, 3)) (ht : (pc : Int) + off = (tgt : Int)) (kt : 0 < a → J t kc ks tgt ml st n w) (kf : a ≤ 0 → J t kc ks (pc + 3) ml st n w) : J t kc ks pc ml (vi a :: st) n w := by
  obtain ⟨p, l1, e, R, s, m, args, below, meth, c, Q, D, tI, tZ, tQ, A⟩ := t
  obtain ⟨-, hx, hb, -⟩ := C
  intro H locs ls hR hS hl ho hs
  obtain ⟨oa, hs2⟩ := stOk_c.mp hs
  have ob : iR 0 := iR_0
  exact lv_if_gt hx hb hd ht (fun h => kt ((iR_lt ob oa).mp h) H locs ls hR hS hl ho hs2) (fun h => kf (Int.not_lt.mp (fun q => h ((iR_lt ob oa).mpr q))) H locs ls hR hS hl ho hs2)
theorem x_icmp_le (C : Cb t l cc own nL ret fr mc ms) {a b off : Int} {tgt : Nat} (hd : decode cc pc = .ok (.if_icmp .le off, 3)) (ht : (pc : Int) + off = (tgt : Int)) (kt : a ≤ b → J t kc ks tgt ml st n w) (kf : b < a → J t kc ks (pc + 3) ml st n w) : J t kc ks pc ml (vi b :: vi a :: st) n w := by
  obtain ⟨p, l1, e, R, s, m, args, below, meth, c, Q, D, tI, tZ, tQ, A⟩ := t
  obtain ⟨-, hx, hb, -⟩ := C
  intro H locs ls hR hS hl ho hs
  obtain ⟨ob, hs1⟩ := stOk_c.mp hs
  obtain ⟨oa, hs2⟩ := stOk_c.mp hs1
  exact lv_icmp_le hx hb hd ht (fun h => kt ((iR_le oa ob).mp h) H locs ls hR hS hl ho hs2) (fun h => kf (Int.not_le.mp (fun q => h ((iR_le oa ob).mpr q))) H locs ls hR hS hl ho hs2)
theorem x_if_le (C : Cb t l cc own nL ret fr mc ms) {a off : Int} {tgt : Nat} (hd : decode cc pc = .ok (.ifCond .le off, 3)) (ht : (pc : Int) + off = (tgt : Int)) (kt : a ≤ 0 → J t kc ks tgt ml st n w) (kf : 0 < a → J t kc ks (pc + 3) ml st n w) : J t kc ks pc ml (vi a :: st) n w := by
  obtain ⟨p, l1, e, R, s, m, args, below, meth, c, Q, D, tI, tZ, tQ, A⟩ := t
  obtain ⟨-, hx, hb, -⟩ := C
  intro H locs ls hR hS hl ho hs
  obtain ⟨oa, hs2⟩ := stOk_c.mp hs
  have ob : iR 0 := iR_0
  exact lv_if_le hx hb hd ht (fun h => kt ((iR_le oa ob).mp h) H locs ls hR hS hl ho hs2) (fun h => kf (Int.not_le.mp (fun q => h ((iR_le oa ob).mpr q))) H locs ls hR hS hl ho hs2)
end JB
end
section
/-! ===== fields and arrays ===== -/
section JH
variable {t : TX} {l : Launch} {cc : ByteArray} {own : String} {nL : Nat} {ret : Option FieldType} {fr mc ms kc ks pc n : Nat} {ml : List (Option mV)} {st : List mV} {w : mW}
theorem getD_mem {xs : List Int} {i : Nat} (h : i < xs.length) : xs.getD i 0 ∈ xs := by
  rw [List.getD, List.getElem?_eq_getElem h]
  exact List.getElem_mem h
theorem va_one {D : va_G} {H : Heap} {q : Nat × va_E} (h : va_at D vwCl q H) : va_P D vwCl [q] H := by
  intro k x hk
  cases k with
  | zero => simp at hk; subst hk; exact h
  | succ k => simp at hk
theorem x_get (C : Cb t l cc own nL ret fr mc ms) {idx ci k a : Nat} {fs : List mV} {v : mV} (hd : decode cc pc = .ok (.getfield idx, 3)) (hf : kF kNf own idx ci k) (hw : w a = some (co ci fs)) (hv : fs[k]? = some v) (kk : J t kc ks (pc + 3) ml (v :: st) n w) : J t kc ks pc ml (vr a :: st) n w := by
  obtain ⟨p, l1, e, R, s, m, args, below, meth, c, Q, D, tI, tZ, tQ, A⟩ := t
  obtain ⟨-, hx, hb, -, -, hown, hts, -, ⟨hK, hN1, -⟩, -⟩ := C
  intro H locs ls hR hS hl ho hs
  obtain ⟨C, T, N, hc, hk, hin, hlk⟩ := hf
  obtain ⟨hok, hA, hat⟩ := hR.2 a _ hw
  have hv2 : (fs.map mT)[k]? = some (mT v) := by simp [hv]
  have kk2 := kk H locs ls hR hS hl ho (stOk_c.mpr ⟨hok v (List.mem_of_getElem? hv), (stOk_c.mp hs).2⟩)
  rcases hlk with h1 | h1
  · exact va_get (D := D) (cl := vwCl) (ws := [(a, .inr (ci, fs.map mT))]) (ci := ci) (v := mT v) (C := C) (T := T) (N := N) hx hb hts hin hown hK (va_one hat) 0 rfl hc k hk (hts _ h1) (fun _ h9 => h9) hv2 hd kk2
  · exact va_getN (D := D) (cl := vwCl) (ws := [(a, .inr (ci, fs.map mT))]) (ci := ci) (v := mT v) (C := C) (T := T) (N := N) hx hb hts hin hown hK (va_one hat) 0 rfl hc k hk (va_Nw.use rfl (hN1 _ h1)) (fun _ h9 => h9) hv2 hd kk2
theorem map_set_mT (fs : List mV) (k : Nat) (v : mV) : (fs.set k v).map mT = (fs.map mT).set k (mT v) := by rw [List.map_set]
/-- a field is written -/
theorem x_put (C : Cb t l cc own nL ret fr mc ms) {idx ci k a : Nat} {fs : List mV} {v : mV} {ty : FieldType} (hd : decode cc pc = .ok (.putfield idx, 3)) (hf : kF kNf own idx ci k) (hwr : kW ci k ty) (hn : narrow ty (mT v) = mT v) (hfit : fits ty (mT v) = true) (hw : w a = some (co ci fs)) (hlen : k < fs.length) (kk : J t kc ks (pc + 3) ml st n (mu w a (co ci (fs.set k v)))) : J t kc ks pc ml (v :: vr a :: st) n w := by
  obtain ⟨p, l1, e, R, s, m, args, below, meth, c, Q, D, tI, tZ, tQ, A⟩ := t
  obtain ⟨-, hx, hb, -, -, hown, hts, -, ⟨hK, hN1, -⟩, -⟩ := C
  intro H locs ls hR hS hl ho hs
  obtain ⟨C, T, N, hc, hk, hin, hlk⟩ := hf
  obtain ⟨C', T', N', ty0, hc', hty, hnm, hfin, hdd⟩ := hwr
  cases hc.symm.trans hc'
  obtain ⟨hok, hA, hat⟩ := hR.2 a _ hw
  obtain ⟨ov, hs1⟩ := stOk_c.mp hs
  have hs2 := (stOk_c.mp hs1).2
  have hap := va_apart (own := own) hts hin ty0 hty hnm hK hc
  have hat0 := hat
  obtain ⟨r, h1, cell, q1, q2, q3, q4⟩ := hat
  have hr : r = (C, T, N) := Option.some.inj (h1.symm.trans hc)
  subst hr
  obtain ⟨hSl, hfc, kC, hkC, hkind⟩ := hK.1 ci _ hc
  obtain ⟨cf, kf, fi, f, hi, hsl⟩ := hSl k hk
  have hlay := hts _ (hin _ (u_in_lay hk))
  unfold u_lay at hlay
  rw [if_neg (by rw [hfin]; decide)] at hlay
  have hst := (u_facts hfc hkC (u_lays hts hin hk) hi).1
  have h6 := u_store hfc hkC hkind hlay hi hdd hn hfit
  have hcok : cOk (co ci (fs.set k v)) := by
    intro u hu
    rcases List.mem_or_eq_of_mem_set hu with h7 | h7
    · exact hok u h7
    · rw [h7]; exact ov
  have fin : ∀ H' : Heap, H'[a]? = some (cell.setSlot f.slot (mT v)) → H'.size = H.size → (∀ q, q ≠ a → H'[q]? = H[q]?) → W p l1 e R s m args below meth c H' (locs ++ [⟨a, f.slot⟩]) kc ks Q (F0 m (pc + 3) ls (st.map mT)) := by
    intro H' e1 e2 e3
    rw [hsl] at e1 ⊢
    refine kk H' _ ls (hR.set e2 e3 hA hcok ?_) (hS.put e2 e3 hA) hl ho hs2
    refine ⟨_, hc, t_OB.to (V := updV (vp_V (fs.map mT)) k (mT v)) ⟨_, e1, q2, q3, t_set q4 hap hk (mT v)⟩ (fun j _ => ?_)⟩
    rw [map_set_mT]
    exact vp_updV_set (by simpa using hlen) (mT v) j
  rcases hlk with h8 | h8
  · exact W.putK hx hb (f := f) ⟨hown, hts _ h8, ⟨_, _, _, hi⟩, hst⟩ (by rw [q2]; exact h6) q1 q3 (by rw [hsl]; exact k2_hasslot (q4 k hk)) rfl rfl hd fin
  · exact va_WputK hx hb (f := f) hown (va_Nw.use rfl (hN1 _ h8)) hi hst (by rw [q2]; exact h6) q1 q3 (by rw [hsl]; exact k2_hasslot (q4 k hk)) rfl rfl hd fin
def tN (t : TX) : String := match t with
  | (p, l, e, R, s, m, args, below, meth, c, Q, D, tI, tZ, tQ, A) => meth.name
/-- a final field is written, in a constructor -/
theorem x_putF (C : Cb t l cc own nL ret fr mc ms) (hinit : tN t = "<init>") {idx ci k a : Nat} {fs : List mV} {v : mV} {ty : FieldType} (hd : decode cc pc = .ok (.putfield idx, 3)) (hf : kF kNf own idx ci k) (hwr : kX own ci k ty) (hnest : ∀ q ∈ kNf, ¬ (q.1 = own ∧ q.2.1 = idx)) (hn : narrow ty (mT v) = mT v) (hfit : fits ty (mT v) = true) (hw : w a = some (co ci fs)) (hlen : k < fs.length) (kk : J t kc ks (pc + 3) ml st n (mu w a (co ci (fs.set k v)))) : J t kc ks pc ml (v :: vr a :: st) n w := by
  obtain ⟨p, l1, e, R, s, m, args, below, meth, c, Q, D, tI, tZ, tQ, A⟩ := t
  obtain ⟨-, hx, hb, -, -, hown, hts, -, ⟨hK, hN1, -⟩, -⟩ := C
  intro H locs ls hR hS hl ho hs
  obtain ⟨C, T, N, hc, hk, hin, hlk⟩ := hf
  obtain ⟨C', T', N', ty0, hc', hty, hnm, hfin, hdecl, hdd⟩ := hwr
  cases hc.symm.trans hc'
  obtain ⟨hok, hA, hat⟩ := hR.2 a _ hw
  obtain ⟨ov, hs1⟩ := stOk_c.mp hs
  have hs2 := (stOk_c.mp hs1).2
  have hap := va_apart (own := own) hts hin ty0 hty hnm hK hc
  obtain ⟨r, h1, cell, q1, q2, q3, q4⟩ := hat
  have hr : r = (C, T, N) := Option.some.inj (h1.symm.trans hc)
  subst hr
  obtain ⟨hSl, hfc, kC, hkC, hkind⟩ := hK.1 ci _ hc
  obtain ⟨cf, kf, fi, f, hi, hsl⟩ := hSl k hk
  have hst := (u_facts hfc hkC (u_lays hts hin hk) hi).1
  have h6 := u_fits hfc hkC hkind (u_lays hts hin hk) hi hdd hn hfit
  have hlay := hts _ (hin _ (u_in_lay hk))
  unfold u_lay at hlay
  rw [if_pos hfin] at hlay
  have hcf : m.cls = cf := by
    obtain ⟨_, _, c', _, _, _, -, -, hf', -, -, -, hown2, -⟩ := Cond.laysFinal_spec hlay
    have e1 : c' = cf := by have := hi.symm.trans hf'; simp at this; exact this.1.symm
    rw [hdecl] at hown2
    rw [← e1]; exact Option.some.inj (hown.symm.trans hown2)
  have hcok : cOk (co ci (fs.set k v)) := by
    intro u hu
    rcases List.mem_or_eq_of_mem_set hu with h7 | h7
    · exact hok u h7
    · rw [h7]; exact ov
  rcases hlk with h8 | h8
  · refine W.putFinK hx hb hown (hts _ h8) hi hst hcf hinit (by rw [q2]; exact h6) q1 q3 (by rw [hsl]; exact k2_hasslot (q4 k hk)) rfl rfl hd fun H' e1 e2 e3 => ?_
    rw [hsl] at e1 ⊢
    refine kk H' _ ls (hR.set e2 e3 hA hcok ?_) (hS.put e2 e3 hA) hl ho hs2
    refine ⟨_, hc, t_OB.to (V := updV (vp_V (fs.map mT)) k (mT v)) ⟨_, e1, q2, q3, t_set q4 hap hk (mT v)⟩ (fun j _ => ?_)⟩
    rw [map_set_mT]
    exact vp_updV_set (by simpa using hlen) (mT v) j
  · exact absurd ⟨rfl, rfl⟩ (hnest _ h8)
/-- int arrays -/
theorem x_iald (C : Cb t l cc own nL ret fr mc ms) {a : Nat} {xs : List Int} {i : Int} (hd : decode cc pc = .ok (.iaload, 1)) (hw : w a = some (ca xs)) (h0 : 0 ≤ i) (h1 : i < xs.length) (kk : J t kc ks (pc + 1) ml (vi (xs.getD i.toNat 0) :: st) n w) : J t kc ks pc ml (vi i :: vr a :: st) n w := by
  obtain ⟨p, l1, e, R, s, m, args, below, meth, c, Q, D, tI, tZ, tQ, A⟩ := t
  obtain ⟨-, hx, hb, -, -, hown, hts, -, ⟨hK, -⟩, -⟩ := C
  intro H locs ls hR hS hl ho hs
  obtain ⟨oi, hs1⟩ := stOk_c.mp hs
  have hs2 := (stOk_c.mp hs1).2
  obtain ⟨hok, hA, hat⟩ := hR.2 a _ hw
  have hlt : i.toNat < xs.length := by omega
  have ov : iR (xs.getD i.toNat 0) := hok.1 rfl _ (getD_mem hlt)
  have kk2 := kk H locs ls hR hS hl ho (stOk_c.mpr ⟨ov, hs2⟩)
  refine va_iald (D := D) (cl := vwCl) (ws := [(a, mE tI tZ tQ (ca xs))]) (n := xs.length) (f := fun j => Int32.ofInt (xs.getD j 0)) hx hb hK (va_one hat) 0 0 rfl rfl (iR_in oi h0 h1) hd ?_
  rw [iR_clamp oi]
  exact kk2
theorem x_zald (C : Cb t l cc own nL ret fr mc ms) {a : Nat} {xs : List Int} {i : Int} (hd : decode cc pc = .ok (.baload, 1)) (hw : w a = some (cz xs)) (h0 : 0 ≤ i) (h1 : i < xs.length) (kk : J t kc ks (pc + 1) ml (vi (xs.getD i.toNat 0) :: st) n w) : J t kc ks pc ml (vi i :: vr a :: st) n w := by
  obtain ⟨p, l1, e, R, s, m, args, below, meth, c, Q, D, tI, tZ, tQ, A⟩ := t
  obtain ⟨-, hx, hb, -, -, hown, hts, -, ⟨hK, -⟩, -⟩ := C
  intro H locs ls hR hS hl ho hs
  obtain ⟨oi, hs1⟩ := stOk_c.mp hs
  have hs2 := (stOk_c.mp hs1).2
  obtain ⟨hok, hA, hat⟩ := hR.2 a _ hw
  have hlt : i.toNat < xs.length := by omega
  have ov : iR (xs.getD i.toNat 0) := by
    rcases hok.2 (by decide) _ (getD_mem hlt) with h | h <;> rw [h] <;> exact ⟨by decide, by decide⟩
  have kk2 := kk H locs ls hR hS hl ho (stOk_c.mpr ⟨ov, hs2⟩)
  refine va_zald (D := D) (cl := vwCl) (ws := [(a, mE tI tZ tQ (cz xs))]) (n := xs.length) (f := fun j => Int32.ofInt (xs.getD j 0)) hx hb hK (va_one hat) 0 1 rfl rfl (iR_in oi h0 h1) hd ?_
  rw [iR_clamp oi]
  exact kk2
theorem x_aald (C : Cb t l cc own nL ret fr mc ms) {a b : Nat} {rs : List (Option Nat)} {i : Int} (hd : decode cc pc = .ok (.aaload, 1)) (hw : w a = some (cq rs)) (h0 : 0 ≤ i) (h1 : i < rs.length) (hv : rs.getD i.toNat none = some b) (kk : J t kc ks (pc + 1) ml (vr b :: st) n w) : J t kc ks pc ml (vi i :: vr a :: st) n w := by
  obtain ⟨p, l1, e, R, s, m, args, below, meth, c, Q, D, tI, tZ, tQ, A⟩ := t
  obtain ⟨-, hx, hb, -, -, hown, hts, -, ⟨hK, -⟩, -⟩ := C
  intro H locs ls hR hS hl ho hs
  obtain ⟨oi, hs1⟩ := stOk_c.mp hs
  have hs2 := (stOk_c.mp hs1).2
  obtain ⟨hok, hA, hat⟩ := hR.2 a _ hw
  have kk2 := kk H locs ls hR hS hl ho (stOk_c.mpr ⟨trivial, hs2⟩)
  refine va_aldq (D := D) (cl := vwCl) (ws := [(a, mE tI tZ tQ (cq rs))]) (n := rs.length) (f := fun j => rs.getD j none) hx hb hK (va_one hat) 0 2 rfl rfl (iR_in oi h0 h1) hd ?_
  rw [iR_clamp oi, hv]
  exact kk2
theorem x_alenI (C : Cb t l cc own nL ret fr mc ms) {a : Nat} {xs : List Int} (hd : decode cc pc = .ok (.arraylength, 1)) (hw : w a = some (ca xs)) (hn : xs.length < 2147483648) (kk : J t kc ks (pc + 1) ml (vi xs.length :: st) n w) : J t kc ks pc ml (vr a :: st) n w := by
  obtain ⟨p, l1, e, R, s, m, args, below, meth, c, Q, D, tI, tZ, tQ, A⟩ := t
  obtain ⟨-, hx, hb, -, -, hown, hts, -, ⟨hK, -⟩, -⟩ := C
  intro H locs ls hR hS hl ho hs
  have hs2 := (stOk_c.mp hs).2
  obtain ⟨hok, hA, hat⟩ := hR.2 a _ hw
  have kk2 := kk H locs ls hR hS hl ho (stOk_c.mpr ⟨⟨by omega, by omega⟩, hs2⟩)
  exact va_alen (D := D) (cl := vwCl) (ws := [(a, mE tI tZ tQ (ca xs))]) (x := (xs.length, .inl (fun j => Int32.ofInt (xs.getD j 0)))) hx hb hK (va_one hat) 0 0 rfl rfl Int32.ofInt_eq_ofNat.symm hd kk2
theorem x_alenQ (C : Cb t l cc own nL ret fr mc ms) {a : Nat} {rs : List (Option Nat)} (hd : decode cc pc = .ok (.arraylength, 1)) (hw : w a = some (cq rs)) (hn : rs.length < 2147483648) (kk : J t kc ks (pc + 1) ml (vi rs.length :: st) n w) : J t kc ks pc ml (vr a :: st) n w := by
  obtain ⟨p, l1, e, R, s, m, args, below, meth, c, Q, D, tI, tZ, tQ, A⟩ := t
  obtain ⟨-, hx, hb, -, -, hown, hts, -, ⟨hK, -⟩, -⟩ := C
  intro H locs ls hR hS hl ho hs
  have hs2 := (stOk_c.mp hs).2
  obtain ⟨hok, hA, hat⟩ := hR.2 a _ hw
  have kk2 := kk H locs ls hR hS hl ho (stOk_c.mpr ⟨⟨by omega, by omega⟩, hs2⟩)
  exact va_alen (D := D) (cl := vwCl) (ws := [(a, mE tI tZ tQ (cq rs))]) (x := (rs.length, .inr (.inr (.inr (.inr (fun j => rs.getD j none)))))) hx hb hK (va_one hat) 0 2 rfl rfl Int32.ofInt_eq_ofNat.symm hd kk2
theorem getD_set_fn {α β : Type} (g : α → β) (xs : List α) (i : Nat) (x d : α) (hi : i < xs.length) : (fun j => g ((xs.set i x).getD j d)) = fun j => if j = i then g x else g (xs.getD j d) := by
  funext j
  by_cases hj : j = i
  · subst hj
    simp [List.getD, hi]
  · simp [List.getD, List.getElem?_set_ne (Ne.symm hj), hj]
theorem x_iast (C : Cb t l cc own nL ret fr mc ms) {a : Nat} {xs : List Int} {i x : Int} (hd : decode cc pc = .ok (.iastore, 1)) (hw : w a = some (ca xs)) (h0 : 0 ≤ i) (h1 : i < xs.length) (kk : J t kc ks (pc + 1) ml st n (mu w a (ca (xs.set i.toNat x)))) : J t kc ks pc ml (vi x :: vi i :: vr a :: st) n w := by
  obtain ⟨p, l1, e, R, s, m, args, below, meth, c, Q, D, tI, tZ, tQ, A⟩ := t
  obtain ⟨-, hx, hb, -, -, hown, hts, -, ⟨hK, -⟩, -⟩ := C
  intro H locs ls hR hS hl ho hs
  obtain ⟨ox, hs0⟩ := stOk_c.mp hs
  obtain ⟨oi, hs1⟩ := stOk_c.mp hs0
  have hs2 := (stOk_c.mp hs1).2
  obtain ⟨hok, hA, hat⟩ := hR.2 a _ hw
  have hlt : i.toNat < xs.length := by omega
  have hin := iR_in oi h0 h1
  have hat2 : H[a]? = some (arrV tI xs.length (fun j => .int (Int32.ofInt (xs.getD j 0)))) := hat
  refine W.iast hx hb hat2 ((hK.2 0 _ rfl).1 xs.length (fun j => .int (Int32.ofInt (xs.getD j 0)))) (fun q => by cases q) (by rw [arrV_size]; exact hin) rfl rfl hd fun H1 e1 z1 oq => ?_
  have hcok : cOk (ca (xs.set i.toNat x)) := ⟨fun _ u hu => by
    rcases List.mem_or_eq_of_mem_set hu with h7 | h7
    · exact hok.1 rfl u h7
    · rw [h7]; exact ox, fun h => absurd rfl h⟩
  refine kk H1 _ ls (hR.set z1 oq hA hcok ?_) (hS.put z1 oq hA) hl ho hs2
  show H1[a]? = some (arrV tI (xs.set i.toNat x).length (fun j => .int (Int32.ofInt ((xs.set i.toNat x).getD j 0))))
  rw [e1, arrV_store, iR_clamp oi, List.length_set]
  congr 2
  rw [getD_set_fn (fun z => Value.int (Int32.ofInt z)) xs i.toNat x 0 hlt]
  funext j
  rfl
theorem nar_z {z : Int} (h : z = 0 ∨ z = 1) : narrow .boolean (.int (Int32.ofInt z)) = .int (Int32.ofInt z) ∧ fits .boolean (.int (Int32.ofInt z)) = true := by
  rcases h with h | h <;> subst h <;> decide
theorem x_zast (C : Cb t l cc own nL ret fr mc ms) {a : Nat} {xs : List Int} {i x : Int} (hd : decode cc pc = .ok (.bastore, 1)) (hw : w a = some (cz xs)) (h0 : 0 ≤ i) (h1 : i < xs.length) (hxz : x = 0 ∨ x = 1) (kk : J t kc ks (pc + 1) ml st n (mu w a (cz (xs.set i.toNat x)))) : J t kc ks pc ml (vi x :: vi i :: vr a :: st) n w := by
  obtain ⟨p, l1, e, R, s, m, args, below, meth, c, Q, D, tI, tZ, tQ, A⟩ := t
  obtain ⟨-, hx, hb, -, -, hown, hts, -, ⟨hK, -⟩, -⟩ := C
  intro H locs ls hR hS hl ho hs
  obtain ⟨ox, hs0⟩ := stOk_c.mp hs
  obtain ⟨oi, hs1⟩ := stOk_c.mp hs0
  have hs2 := (stOk_c.mp hs1).2
  obtain ⟨hok, hA, hat⟩ := hR.2 a _ hw
  have hlt : i.toNat < xs.length := by omega
  have hin := iR_in oi h0 h1
  have hat2 : H[a]? = some (arrV tZ xs.length (fun j => .int (Int32.ofInt (xs.getD j 0)))) := hat
  refine W.zast hx hb hat2 ((hK.2 1 _ rfl).1 xs.length (fun j => .int (Int32.ofInt (xs.getD j 0)))) (fun q => by cases q) (by rw [arrV_size]; exact hin) rfl rfl hd fun H1 e1 z1 oq => ?_
  have hcok : cOk (cz (xs.set i.toNat x)) := ⟨fun h => absurd h (by decide), fun _ u hu => by
    rcases List.mem_or_eq_of_mem_set hu with h7 | h7
    · exact hok.2 (by decide) u h7
    · rw [h7]; exact hxz⟩
  refine kk H1 _ ls (hR.set z1 oq hA hcok ?_) (hS.put z1 oq hA) hl ho hs2
  show H1[a]? = some (arrV tZ (xs.set i.toNat x).length (fun j => .int (Int32.ofInt ((xs.set i.toNat x).getD j 0))))
  rw [e1, arrV_store, iR_clamp oi, List.length_set, (nar_z hxz).1]
  congr 2
  rw [getD_set_fn (fun z => Value.int (Int32.ofInt z)) xs i.toNat x 0 hlt]
  funext j
  rfl
theorem x_aast (C : Cb t l cc own nL ret fr mc ms) {a b : Nat} {rs : List (Option Nat)} {i : Int} {fs : List mV} (hd : decode cc pc = .ok (.aastore, 1)) (hw : w a = some (cq rs)) (h0 : 0 ≤ i) (h1 : i < rs.length) (hb9 : w b = some (co 2 fs)) (kk : J t kc ks (pc + 1) ml st n (mu w a (cq (rs.set i.toNat (some b))))) : J t kc ks pc ml (vr b :: vi i :: vr a :: st) n w := by
  obtain ⟨p, l1, e, R, s, m, args, below, meth, c, Q, D, tI, tZ, tQ, A⟩ := t
  obtain ⟨-, hx, hb, -, -, hown, hts, -, ⟨hK, -⟩, -⟩ := C
  intro H locs ls hR hS hl ho hs
  obtain ⟨ox, hs0⟩ := stOk_c.mp hs
  obtain ⟨oi, hs1⟩ := stOk_c.mp hs0
  have hs2 := (stOk_c.mp hs1).2
  obtain ⟨hok, hA, hat⟩ := hR.2 a _ hw
  obtain ⟨hokb, hAb, hatb⟩ := hR.2 b _ hb9
  have hlt : i.toNat < rs.length := by omega
  have hin := iR_in oi h0 h1
  have hat2 : H[a]? = some (arrV tQ rs.length (fun j => va_rf (rs.getD j none))) := hat
  obtain ⟨r', hr', cellV, g1, g2, g3, -⟩ := hatb
  have hcls := (hK.1 2 _ rfl).2
  obtain ⟨kA, comp, k1, k2, k3, -⟩ := (hK.2 2 _ rfl).2
  have hcomp : comp = D.1 2 := Option.some.inj (k3.symm.trans hcls.1)
  subst hcomp
  obtain ⟨kC, hkC, -⟩ := hcls.2
  have hlt2 : (Int32.ofInt i).toNatClampNeg < rs.length := by rw [iR_clamp oi]; exact hlt
  have h02 : ¬ Int32.ofInt i < 0 := fun q => hin (Or.inl q)
  refine W.aast hx hb hat2 (fun q h => by cases h) (fun h => by cases h) k1 k2 rfl hkC ⟨h02, by rw [arrV_size]; exact hlt2⟩ g1 (fun q h => by rw [g3] at h; cases h) (by rw [g2]; exact hkC) (by rw [g2]; exact va_assign hcls) rfl rfl hd fun H1 e1 z1 oq => ?_
  refine kk H1 _ ls (hR.set z1 oq hA trivial ?_) (hS.put z1 oq hA) hl ho hs2
  show H1[a]? = some (arrV tQ (rs.set i.toNat (some b)).length (fun j => va_rf ((rs.set i.toNat (some b)).getD j none)))
  rw [e1, arrV_store, iR_clamp oi, List.length_set]
  congr 2
  rw [getD_set_fn va_rf rs i.toNat (some b) none hlt]
  funext j
  rfl
end JH
end
section
/-! ===== entry, ends, calls ===== -/
def eml (av : List mV) (maxL : Nat) : List (Option mV) := av.map some ++ List.replicate (maxL - av.length) none
def noL (v : mV) : Bool := match v with
  | .inr (.inl _) => false
  | _ => true
theorem noL_cat {v : mV} (h : noL v = true) : (mT v).category = 1 := mT_cat (fun z hz => by subst hz; cases h)
theorem eml_sub : ∀ (av : List mV) (r k : Nat), av.all noL = true → ∀ q, q ∈ mL k (av.map some ++ List.replicate r none) → q ∈ lv_args k (av.map mT)
  | [], r, k, _, q, hq => by
    exfalso
    obtain ⟨j, v, h1, -⟩ := mL_mem.mp hq
    simp [List.getElem?_replicate] at h1
  | v :: av, r, k, h, q, hq => by
    rw [List.all_cons, Bool.and_eq_true] at h
    simp only [List.map_cons, List.cons_append, mL, List.mem_cons] at hq
    simp only [List.map_cons, lv_args, List.mem_cons]
    rw [if_neg (by rw [noL_cat h.1]; decide)]
    rcases hq with hq | hq
    · exact Or.inl hq
    · exact Or.inr (eml_sub av r (k + 1) h.2 q hq)
theorem lg_sl_len : ∀ (av : List mV), av.all noL = true → (lg_sl (av.map mT)).length = av.length
  | [], _ => rfl
  | v :: av, h => by
    rw [List.all_cons, Bool.and_eq_true] at h
    have := lg_sl_len av h.2
    simp only [lg_sl, List.map_cons, List.flatMap_cons, List.length_append] at this ⊢
    rw [this, if_neg (by rw [noL_cat h.1]; decide)]
    simp; omega
theorem Ct.ofN {l : Launch} {y : MethodName} {bytes : ByteArray} {maxL : Nat} {ret : Option FieldType} {fr mc ms np : Nat} {av : List mV} {n : Nat} {w : mW} {QQ : Option mV → Nat → mW → Prop} (ky : kY y bytes maxL ret np) (hav : av.all noL = true) (hlen : av.length ≤ maxL)
    (body : ∀ t : TX, Cb t l bytes y.cls maxL ret fr mc ms → RQ t mc ms QQ → tN t = y.name → J t 0 0 0 (eml av maxL) [] n w) : Ct l y bytes maxL ret fr mc ms av n w QQ := by
  intro D tI tZ tQ A
  refine Met.ofW (cc := bytes) (maxL := maxL) (ret := ret) ky.2.2.2.2.2.2 rfl ?_
  intro p e s m args below meth c s₁ B hml hv
  obtain ⟨rfl, hG, hR, hok⟩ := hv
  have hts := atoms_spec (ws := Cond.code y bytes maxL ret :: Gw) B.pre
  have hown : s.vm.findClass y.cls = some m.cls := findClass_of_methodNamed B.named
  have hnm : meth.name = y.name := (name_of_methodNamed B.named B.method).1
  have hJ := body (p, l, e, { frames := fr, cells := mc, slots := ms, locals := 40 * fr }, s, m, (av.map mT).toArray, below, meth, c, _, D, tI, tZ, tQ, A) ⟨rfl, B.exec, B.bytes, B.returns, hml, hown, fun w h => hts w (List.mem_cons_of_mem _ h), B.notSynchronized, hG, Nat.le_refl fr, Nat.le_refl (40 * fr), Nat.le_refl mc, Nat.le_refl ms⟩ rfl hnm
  rw [lg_entry_eq]
  have hent := lv_entry (av.map mT) (n := maxL) (by rw [lg_sl_len av hav]; exact hlen)
  refine hJ s.heap [] _ hR va_S.rf ⟨hent.1.trans hml.symm, hent.2.1, fun q hq => hent.2.2 q (eml_sub av _ 0 hav q hq)⟩ ?_ (fun v hv => by cases hv)
  intro v hv
  unfold eml at hv
  rcases List.mem_append.mp hv with h | h
  · obtain ⟨u, hu, e1⟩ := List.mem_map.mp h
    cases e1
    exact hok _ hu
  · have := List.eq_of_mem_replicate h
    cases this
theorem Ct.of {l : Launch} {y : MethodName} {bytes : ByteArray} {maxL : Nat} {ret : Option FieldType} {fr mc ms np : Nat} {av : List mV} {n : Nat} {w : mW} {QQ : Option mV → Nat → mW → Prop} (ky : kY y bytes maxL ret np) (hav : av.all noL = true) (hlen : av.length ≤ maxL)
    (body : ∀ t : TX, Cb t l bytes y.cls maxL ret fr mc ms → RQ t mc ms QQ → J t 0 0 0 (eml av maxL) [] n w) : Ct l y bytes maxL ret fr mc ms av n w QQ := Ct.ofN ky hav hlen (fun t C Q _ => body t C Q)
section JE
variable {t : TX} {l : Launch} {cc : ByteArray} {own : String} {nL : Nat} {ret : Option FieldType} {fr mc ms kc ks pc n : Nat} {ml : List (Option mV)} {st : List mV} {w : mW} {QQ : Option mV → Nat → mW → Prop}
theorem x_iret (C : Cb t l cc own nL (some .int) fr mc ms) (hQ : RQ t mc ms QQ) {z : Int} (hd : decode cc pc = .ok (.ireturn, 1)) (hk : kc ≤ mc) (hk2 : ks ≤ ms) (q : QQ (some (vi z)) n w) : J t kc ks pc ml [vi z] n w := by
  obtain ⟨p, l1, e, R, s, m, args, below, meth, c, Q, D, tI, tZ, tQ, A⟩ := t
  obtain ⟨-, hx, hb, hr, -, -, -, hlocks, -⟩ := C
  have hQ : Q = MQ below (mQ D tI tZ tQ A QQ) args s mc ms A := hQ
  subst hQ
  intro H locs ls hR hS hl ho hs
  refine W.widen (k := mc) (n := ms) hk hk2 ?_
  exact W.iret (v := Int32.ofInt z) hx hb hr (fun t ht hW => ⟨some (vi z), n, w, rfl, fun v hv => by cases hv; exact (stOk_c.mp hs).1, q, by rw [ht]; exact hR, hS.F ht⟩) hS.2.2 hd
theorem x_zret (C : Cb t l cc own nL (some .boolean) fr mc ms) (hQ : RQ t mc ms QQ) {z : Int} (hd : decode cc pc = .ok (.ireturn, 1)) (hz : z = 0 ∨ z = 1) (hk : kc ≤ mc) (hk2 : ks ≤ ms) (q : QQ (some (vi z)) n w) : J t kc ks pc ml [vi z] n w := by
  obtain ⟨p, l1, e, R, s, m, args, below, meth, c, Q, D, tI, tZ, tQ, A⟩ := t
  obtain ⟨-, hx, hb, hr, -, -, -, hlocks, -⟩ := C
  have hQ : Q = MQ below (mQ D tI tZ tQ A QQ) args s mc ms A := hQ
  subst hQ
  intro H locs ls hR hS hl ho hs
  refine W.widen (k := mc) (n := ms) hk hk2 ?_
  exact W.zret (v := Int32.ofInt z) hx hb hr (nar_z hz).1 (fun t ht hW => ⟨some (vi z), n, w, rfl, fun v hv => by cases hv; exact (stOk_c.mp hs).1, q, by rw [ht]; exact hR, hS.F ht⟩) hS.2.2 hd
theorem x_vret (C : Cb t l cc own nL none fr mc ms) (hQ : RQ t mc ms QQ) (hd : decode cc pc = .ok (.return_, 1)) (hk : kc ≤ mc) (hk2 : ks ≤ ms) (q : QQ none n w) : J t kc ks pc ml [] n w := by
  obtain ⟨p, l1, e, R, s, m, args, below, meth, c, Q, D, tI, tZ, tQ, A⟩ := t
  obtain ⟨-, hx, hb, hr, -, -, -, hlocks, -⟩ := C
  have hQ : Q = MQ below (mQ D tI tZ tQ A QQ) args s mc ms A := hQ
  subst hQ
  intro H locs ls hR hS hl ho hs
  refine W.widen (k := mc) (n := ms) hk hk2 ?_
  exact W.vret hx hb hr (fun t ht hW => ⟨none, n, w, rfl, fun v hv => absurd hv (by simp), q, by rw [ht]; exact hR, hS.F ht⟩) hS.2.2 hd
theorem Gs.warm {D : va_G} {tI tZ tQ : ClassId} {A : Nat → Prop} {s U : State} (h : Gs D tI tZ tQ A s) (hW : s.WarmedH U.vm) (hz : s.heap.size ≤ U.heap.size) : Gs D tI tZ tQ A U :=
  ⟨va_K.moved hW.alike h.1, fun q hq => va_Nw.warmF hW (h.2.1 q hq), fun q hq => va_Nw.warmM hW (h.2.2.1 q hq), va_AO.moved hW.alike h.2.2.2.1, fun q hq => h.2.2.2.2 q (Nat.le_trans hz hq)⟩
theorem Gs.blind {D : va_G} {tI tZ tQ : ClassId} {A : Nat → Prop} {U V : State} (hv : V.vm = U.vm) (hh : V.heap = U.heap) (h : Gs D tI tZ tQ A U) : Gs D tI tZ tQ A V :=
  ⟨va_K.moved (u := U) (by rw [hv]; exact Vm.Alike.refl U.vm) h.1, fun q hq => va_Nw.same rfl hv.symm (h.2.1 q hq), fun q hq => va_Nw.same rfl hv.symm (h.2.2.1 q hq), va_AO.moved (u := U) (by rw [hv]; exact Vm.Alike.refl U.vm) h.2.2.2.1, fun q hq => h.2.2.2.2 q (by rw [← hh]; exact hq)⟩
theorem mPc_blind {D : va_G} {tI tZ tQ : ClassId} {A : Nat → Prop} {av : List mV} {n : Nat} {w : mW} : FrameBlind (va_Pc (av.map mT) (fun U => Gs D tI tZ tQ A U ∧ mR D tI tZ tQ A n w U.heap ∧ stOk av)) := fun a U g mk q => ⟨q.1, q.2.1.blind (U := U) (V := U.calling g mk a) rfl rfl, q.2.2.1, q.2.2.2⟩
/-- behind a call -/
theorem x_back {p : Program} {l : Launch} {e : Env} {R : Room} {s : State} {m : MethodId} {args : Array Value} {below : List Frame} {meth : Method} {c : Code} {Q : State → Prop} {D : va_G} {tI tZ tQ : ClassId} {A : Nat → Prop} {H : Heap} {locs : List Loc} {ls : Array Slot} {mc' ms' : Nat} {rest : List mV} {g : JFrame} {a : Array Value}
    (hg : g = F0 m pc ls g.stack) (run : va_Run p l e R s m args below meth c H locs kc ks mc' ms' g (rest.map mT) (mQ D tI tZ tQ A QQ a) A) (hS : va_S A s.heap H locs) (hl : lv_has ls c.maxLocals (mL 0 ml)) (ho : mlOk ml) (hs : stOk rest)
    (kk : ∀ r n' w', QQ r n' w' → J (p, l, e, R, s, m, args, below, meth, c, Q, D, tI, tZ, tQ, A) (kc + mc') (ks + ms') (pc + 3) ml (r.toList ++ rest) n' w') : W p l e R s m args below meth c H locs kc ks Q g := by
  intro T hT X
  obtain ⟨v, st₀, t, T', L, h0, X', hL, e1, e2, ⟨r, n', w', hv, hok, hq, hR', hz, hk⟩, st⟩ := run T hT X
  cases hv
  rw [h0] at hz hk
  have hS2 : va_S A s.heap T'.heap (locs ++ L) := ⟨Nat.le_trans hS.1 (by rw [e1]; exact hz), fun q h1 h2 => by rw [e1, hk q (Nat.lt_of_lt_of_le h1 hS.1) h2]; exact hS.2.1 q h1 h2, fun q hq => by
      rcases List.mem_append.mp hq with h | h
      · exact hS.2.2 q h
      · exact hL q h⟩
  have hs2 : stOk (r.toList ++ rest) := by
    intro u hu
    rcases List.mem_append.mp hu with h | h
    · cases r with
      | none => simp at h
      | some x => simp at h; subst h; exact hok _ rfl
    · exact hs u h
  obtain ⟨t2, a1, b1⟩ := kk r n' w' hq T'.heap (locs ++ L) ls (by rw [e1]; exact hR') hS2 hl ho hs2 T' rfl X'
  refine ⟨t2, st t2 ?_, b1⟩
  rw [hg]
  have e5 : (r.map mT).toList ++ rest.map mT = (r.toList ++ rest).map mT := by cases r <;> simp
  show Steps _ _ _ (T'.setTop (F0 m (pc + 3) ls ((r.map mT).toList ++ rest.map mT))) t2
  rw [e5]
  exact a1
theorem cat_map (rest : List mV) : ((rest.map mT).map fun v => v.category) = rest.map (fun v => (mT v).category) := by simp
theorem x_callV (C : Cb t l cc own nL ret fr mc ms) {idx maxL np ci fr' mc' ms' a : Nat} {y : MethodName} {bytes : ByteArray} {ret' : Option FieldType} {As rest fs : List mV} (hd : decode cc pc = .ok (.invokevirtual idx, 3)) (ky : kY y bytes maxL ret' np) (kn : kN y ci) (km : kM kNm own idx y) (hM : Ct l y bytes maxL ret' fr' mc' ms' (vr a :: As) n w QQ) (hw : w a = some (co ci fs)) (hn : As.length = np) (hfr : fr' + 1 ≤ fr) (hc : kc + mc' ≤ mc) (hcs : ks + ms' ≤ ms) (hcat : (rest.map (fun v => (mT v).category)).sum ≤ 8) (hst : st = As.reverse ++ vr a :: rest)
    (kk : ∀ r n' w', QQ r n' w' → J t (kc + mc') (ks + ms') (pc + 3) ml (r.toList ++ rest) n' w') : J t kc ks pc ml st n w := by
  subst hst
  obtain ⟨p, l1, e, R, s, m, args, below, meth, c, Q, D, tI, tZ, tQ, A⟩ := t
  obtain ⟨rfl, hx, hb, -, hml, hown, hts, -, hG, hR1, hR2, hR3, hR4⟩ := C
  intro H locs ls hR hS hl ho hs
  obtain ⟨y1, y2, y3, y4, y5, y6, y7⟩ := ky
  obtain ⟨n1, n2, T, N, n3⟩ := kn
  obtain ⟨hok, hA, hat⟩ := hR.2 a _ hw
  have hs3 : stOk (vr a :: As) := fun v hv => hs v (by rcases List.mem_cons.mp hv with h | h <;> simp [h])
  have hs4 : stOk rest := fun v hv => hs v (by simp [hv])
  have hGG : GoodIn Gw (Cond.code y bytes maxL ret' :: Gw) := fun w h => by
    rcases List.mem_cons.mp h with h | h
    · rw [h]; exact gw_good _ y1
    · exact gw_good w h
  have hlen : ∀ sig, parseMethodDescriptor y.desc = some sig → np = sig.parameters.length := fun sig h => by
    rw [h] at y5
    exact (Option.some.inj y5).symm
  have hpre : PreV s H y.cls a (va_Pc ((vr a :: As).map mT) (fun U => Gs D tI tZ tQ A U ∧ mR D tI tZ tQ A n w U.heap ∧ stOk (vr a :: As))) (As.map mT) :=
    ⟨mPc_blind, va_recv hG.1 (va_one hat) n3 (q0 := 0) rfl, fun U hU hW => ⟨rfl, hG.warm hW (by rw [hU]; exact hS.1), by rw [hU]; exact hR, hs3⟩⟩
  have hstack : (F0 m pc ls ((As.reverse ++ vr a :: rest).map mT)).stack = (As.map mT).reverse ++ .ref a :: rest.map mT := by simp [mT, va_rf]
  have hroom : 2 * (F0 m pc ls ((As.reverse ++ vr a :: rest).map mT)).monitorRoom + ((rest.map mT).map fun v => v.category).sum ≤ 8 := lv_room (by rw [cat_map]; exact hcat)
  have hF1 : fr' + 1 ≤ R.frames := Nat.le_trans hfr hR1
  have hF2 : 8 + (maxL + 11) + 40 * fr' ≤ R.locals := by omega
  rcases km with h1 | h1
  · refine x_back rfl (va_runV (As := As.map mT) (rest := rest.map mT) (C := y.cls) ⟨hx, hb, hml, hown, hts⟩ (hM D tI tZ tQ A) ⟨⟨rfl, rfl, hF1, hF2, pay_in hts hGG, List.mem_cons_self, hts _ y1, hts _ y2, ⟨y3, y4⟩, hlen, hts _ h1⟩, hts _ n1, hts _ n2⟩ hpre rfl (by simpa using hn) (by rw [← hml]; exact hl.1) hstack hroom hd ⟨Nat.le_trans hc hR3, Nat.le_trans hcs hR4⟩) hS hl ho hs4 kk
  · refine x_back rfl (va_runVN (As := As.map mT) (rest := rest.map mT) (C := y.cls) (host := "DisplayMap") ⟨hx, hb, hml, hown, hts⟩ (hM D tI tZ tQ A) ⟨⟨⟨rfl, rfl, hF1, hF2, pay_in hts hGG, List.mem_cons_self⟩, hts _ y1, hts _ y2, ⟨y3, y4⟩, hlen, va_Nw.use rfl (hG.2.2.1 _ h1)⟩, hts _ n1, hts _ n2⟩ hpre rfl (by simpa using hn) (by rw [← hml]; exact hl.1) hstack hroom hd ⟨Nat.le_trans hc hR3, Nat.le_trans hcs hR4⟩) hS hl ho hs4 kk
theorem x_callS (C : Cb t l cc own nL ret fr mc ms) {idx maxL np fr' mc' ms' : Nat} {y : MethodName} {bytes : ByteArray} {ret' : Option FieldType} {As rest : List mV} (hd : decode cc pc = .ok (.invokestatic idx, 3)) (ky : kY y bytes maxL ret' np) (ks0 : Cond.static y ∈ Gw) (km : kM kNm own idx y) (hM : Ct l y bytes maxL ret' fr' mc' ms' As n w QQ) (hn : As.length = np) (hfr : fr' + 1 ≤ fr) (hc : kc + mc' ≤ mc) (hcs : ks + ms' ≤ ms) (hcat : (rest.map (fun v => (mT v).category)).sum ≤ 8) (hst : st = As.reverse ++ rest)
    (kk : ∀ r n' w', QQ r n' w' → J t (kc + mc') (ks + ms') (pc + 3) ml (r.toList ++ rest) n' w') : J t kc ks pc ml st n w := by
  subst hst
  obtain ⟨p, l1, e, R, s, m, args, below, meth, c, Q, D, tI, tZ, tQ, A⟩ := t
  obtain ⟨rfl, hx, hb, -, hml, hown, hts, -, hG, hR1, hR2, hR3, hR4⟩ := C
  intro H locs ls hR hS hl ho hs
  obtain ⟨y1, y2, y3, y4, y5, y6, y7⟩ := ky
  have hs3 : stOk As := fun v hv => hs v (by simp [hv])
  have hs4 : stOk rest := fun v hv => hs v (by simp [hv])
  have hGG : GoodIn Gw (Cond.code y bytes maxL ret' :: Gw) := fun w h => by
    rcases List.mem_cons.mp h with h | h
    · rw [h]; exact gw_good _ y1
    · exact gw_good w h
  have hlen : ∀ sig, parseMethodDescriptor y.desc = some sig → np = sig.parameters.length := fun sig h => by
    rw [h] at y5
    exact (Option.some.inj y5).symm
  have hpre : PreS s H (va_Pc (As.map mT) (fun U => Gs D tI tZ tQ A U ∧ mR D tI tZ tQ A n w U.heap ∧ stOk As)) (As.map mT) :=
    ⟨mPc_blind, fun U hU hW => ⟨rfl, hG.warm hW (by rw [hU]; exact hS.1), by rw [hU]; exact hR, hs3⟩⟩
  have hstack : (F0 m pc ls ((As.reverse ++ rest).map mT)).stack = (As.map mT).reverse ++ rest.map mT := by simp
  have hroom : 2 * (F0 m pc ls ((As.reverse ++ rest).map mT)).monitorRoom + ((rest.map mT).map fun v => v.category).sum ≤ 8 := lv_room (by rw [cat_map]; exact hcat)
  have hF1 : fr' + 1 ≤ R.frames := Nat.le_trans hfr hR1
  have hF2 : 8 + (maxL + 11) + 40 * fr' ≤ R.locals := by omega
  rcases km with h1 | h1
  · refine x_back rfl (va_runS (As := As.map mT) (rest := rest.map mT) ⟨hx, hb, hml, hown, hts⟩ (hM D tI tZ tQ A) ⟨⟨rfl, rfl, hF1, hF2, pay_in hts hGG, List.mem_cons_self, hts _ y1, hts _ y2, ⟨y3, y4⟩, hlen, hts _ h1⟩, hts _ ks0⟩ hpre rfl (by simpa using hn) (by rw [← hml]; exact hl.1) hstack hroom hd ⟨Nat.le_trans hc hR3, Nat.le_trans hcs hR4⟩) hS hl ho hs4 kk
  · refine x_back rfl (va_runSN (As := As.map mT) (rest := rest.map mT) (host := "DisplayMap") ⟨hx, hb, hml, hown, hts⟩ (hM D tI tZ tQ A) ⟨⟨⟨rfl, rfl, hF1, hF2, pay_in hts hGG, List.mem_cons_self⟩, hts _ y1, hts _ y2, ⟨y3, y4⟩, hlen, va_Nw.use rfl (hG.2.2.1 _ h1)⟩, hts _ ks0, trivial⟩ hpre rfl (by simpa using hn) (by rw [← hml]; exact hl.1) hstack hroom hd ⟨Nat.le_trans hc hR3, Nat.le_trans hcs hR4⟩) hS hl ho hs4 kk
theorem x_callI (C : Cb t l cc own nL ret fr mc ms) {idx maxL np fr' mc' ms' a : Nat} {y : MethodName} {bytes : ByteArray} {As rest : List mV} (hd : decode cc pc = .ok (.invokespecial idx, 3)) (ky : kY y bytes maxL none np) (hy1 : y.name = "<init>") (ki : Cond.instanceMethod y ∈ Gw) (km : kM kNm own idx y) (hM : Ct l y bytes maxL none fr' mc' ms' (vr a :: As) n w QQ) (hn : As.length = np) (hfr : fr' + 1 ≤ fr) (hc : kc + mc' ≤ mc) (hcs : ks + ms' ≤ ms) (hcat : (rest.map (fun v => (mT v).category)).sum ≤ 8) (hst : st = As.reverse ++ vr a :: rest)
    (kk : ∀ r n' w', QQ r n' w' → J t (kc + mc') (ks + ms') (pc + 3) ml (r.toList ++ rest) n' w') : J t kc ks pc ml st n w := by
  subst hst
  obtain ⟨p, l1, e, R, s, m, args, below, meth, c, Q, D, tI, tZ, tQ, A⟩ := t
  obtain ⟨rfl, hx, hb, -, hml, hown, hts, -, hG, hR1, hR2, hR3, hR4⟩ := C
  intro H locs ls hR hS hl ho hs
  obtain ⟨y1, y2, y3, y4, y5, y6, y7⟩ := ky
  have hs3 : stOk (vr a :: As) := fun v hv => hs v (by rcases List.mem_cons.mp hv with h | h <;> simp [h])
  have hs4 : stOk rest := fun v hv => hs v (by simp [hv])
  have hGG : GoodIn Gw (Cond.code y bytes maxL none :: Gw) := fun w h => by
    rcases List.mem_cons.mp h with h | h
    · rw [h]; exact gw_good _ y1
    · exact gw_good w h
  have hlen : ∀ sig, parseMethodDescriptor y.desc = some sig → np = sig.parameters.length := fun sig h => by
    rw [h] at y5
    exact (Option.some.inj y5).symm
  have hpre : PreS s H (va_Pc ((vr a :: As).map mT) (fun U => Gs D tI tZ tQ A U ∧ mR D tI tZ tQ A n w U.heap ∧ stOk (vr a :: As))) (.ref a :: As.map mT) :=
    ⟨mPc_blind, fun U hU hW => ⟨rfl, hG.warm hW (by rw [hU]; exact hS.1), by rw [hU]; exact hR, hs3⟩⟩
  have hstack : (F0 m pc ls ((As.reverse ++ vr a :: rest).map mT)).stack = (As.map mT).reverse ++ .ref a :: rest.map mT := by simp [mT, va_rf]
  have hroom : 2 * (F0 m pc ls ((As.reverse ++ vr a :: rest).map mT)).monitorRoom + ((rest.map mT).map fun v => v.category).sum ≤ 8 := lv_room (by rw [cat_map]; exact hcat)
  have hF1 : fr' + 1 ≤ R.frames := Nat.le_trans hfr hR1
  have hF2 : 8 + (maxL + 11) + 40 * fr' ≤ R.locals := by omega
  rcases km with h1 | h1
  · refine x_back rfl (va_runI (As := As.map mT) (rest := rest.map mT) ⟨hx, hb, hml, hown, hts⟩ (hM D tI tZ tQ A) ⟨⟨rfl, rfl, hF1, hF2, pay_in hts hGG, List.mem_cons_self, hts _ y1, hts _ y2, ⟨y3, y4⟩, hlen, hts _ h1⟩, hy1, hts _ ki⟩ hpre rfl (by simpa using hn) (by rw [← hml]; exact hl.1) hstack hroom hd ⟨Nat.le_trans hc hR3, Nat.le_trans hcs hR4⟩) hS hl ho hs4 kk
  · refine x_back rfl (va_runIN (As := As.map mT) (rest := rest.map mT) (host := "DisplayMap") ⟨hx, hb, hml, hown, hts⟩ (hM D tI tZ tQ A) ⟨⟨⟨rfl, rfl, hF1, hF2, pay_in hts hGG, List.mem_cons_self⟩, hts _ y1, hts _ y2, ⟨y3, y4⟩, hlen, va_Nw.use rfl (hG.2.2.1 _ h1)⟩, hy1, hts _ ki⟩ hpre rfl (by simpa using hn) (by rw [← hml]; exact hl.1) hstack hroom hd ⟨Nat.le_trans hc hR3, Nat.le_trans hcs hR4⟩) hS hl ho hs4 kk
end JE
end
section
/-! ===== switches, longs, constants, max, arraycopy, making ===== -/
section JM
variable {t : TX} {l : Launch} {cc : ByteArray} {own : String} {nL : Nat} {ret : Option FieldType} {fr mc ms kc ks pc n : Nat} {ml : List (Option mV)} {st : List mV} {w : mW}
theorem x_tabIn (C : Cb t l cc own nL ret fr mc ms) {dflt lo hi x v off : Int} {offs : Array Int} {len tgt : Nat} (hd : decode cc pc = .ok (.tableswitch dflt lo hi offs, len)) (hv : x = v) (h1 : lo ≤ v) (h2 : v ≤ hi) (ho : offs[(v - lo).toNat]? = some off) (ht : (pc : Int) + off = (tgt : Int)) (k : J t kc ks tgt ml st n w) : J t kc ks pc ml (vi x :: st) n w := by
  subst hv
  obtain ⟨p, l1, e, R, s, m, args, below, meth, c, Q, D, tI, tZ, tQ, A⟩ := t
  obtain ⟨-, hx, hb, -⟩ := C
  intro H locs ls hR hS hl ho2 hs
  obtain ⟨ox, hs2⟩ := stOk_c.mp hs
  have e1 : (Int32.ofInt x).toInt = x := iR_toInt ox
  exact lv_tableIn hx hb hd (by rw [e1]; omega) (by rw [e1]; omega) (by rw [e1]; exact ho) ht (k H locs ls hR hS hl ho2 hs2)
theorem x_tabOut (C : Cb t l cc own nL ret fr mc ms) {dflt lo hi x : Int} {offs : Array Int} {len tgt : Nat} (hd : decode cc pc = .ok (.tableswitch dflt lo hi offs, len)) (h : x < lo ∨ hi < x) (ht : (pc : Int) + dflt = (tgt : Int)) (k : J t kc ks tgt ml st n w) : J t kc ks pc ml (vi x :: st) n w := by
  obtain ⟨p, l1, e, R, s, m, args, below, meth, c, Q, D, tI, tZ, tQ, A⟩ := t
  obtain ⟨-, hx, hb, -⟩ := C
  intro H locs ls hR hS hl ho2 hs
  obtain ⟨ox, hs2⟩ := stOk_c.mp hs
  have e1 : (Int32.ofInt x).toInt = x := iR_toInt ox
  exact lv_tableOut hx hb hd (by rw [e1]; exact h) ht (k H locs ls hR hS hl ho2 hs2)
theorem x_look (C : Cb t l cc own nL ret fr mc ms) {dflt x off : Int} {ps : Array (Int × Int)} {len tgt : Nat} (hd : decode cc pc = .ok (.lookupswitch dflt ps, len)) (hp : (ps.toList.zip (ps.toList.drop 1)).all (fun (a, next) => a.1 < next.1) = true) (ho : Op.lookupswitch.offset ps.toList dflt x = off) (ht : (pc : Int) + off = (tgt : Int)) (k : J t kc ks tgt ml st n w) : J t kc ks pc ml (vi x :: st) n w := by
  obtain ⟨p, l1, e, R, s, m, args, below, meth, c, Q, D, tI, tZ, tQ, A⟩ := t
  obtain ⟨-, hx, hb, -⟩ := C
  intro H locs ls hR hS hl ho2 hs
  obtain ⟨ox, hs2⟩ := stOk_c.mp hs
  have e1 : (Int32.ofInt x).toInt = x := iR_toInt ox
  exact lv_lookup hx hb hd hp (by rw [e1]; exact ho) ht (k H locs ls hR hS hl ho2 hs2)
theorem x_i2l (C : Cb t l cc own nL ret fr mc ms) {a : Int} (hd : decode cc pc = .ok (.i2l, 1)) (k : J t kc ks (pc + 1) ml (vl a :: st) n w) : J t kc ks pc ml (vi a :: st) n w := by
  obtain ⟨p, l1, e, R, s, m, args, below, meth, c, Q, D, tI, tZ, tQ, A⟩ := t
  obtain ⟨-, hx, hb, -⟩ := C
  intro H locs ls hR hS hl ho2 hs
  obtain ⟨oa, hs2⟩ := stOk_c.mp hs
  have oa2 : iR a := oa
  have hlr : lR a := ⟨by have := oa2.1; omega, by have := oa2.2; omega⟩
  refine lv_i2l (v := Int64.ofInt a) hx hb hd ?_ (k H locs ls hR hS hl ho2 (stOk_c.mpr ⟨hlr, hs2⟩))
  rw [← Int64.toInt_inj, Int32.toInt_toInt64, iR_toInt oa2, lR_toInt hlr]
theorem x_l2i (C : Cb t l cc own nL ret fr mc ms) {a : Int} (hd : decode cc pc = .ok (.l2i, 1)) (hr : iR a) (k : J t kc ks (pc + 1) ml (vi a :: st) n w) : J t kc ks pc ml (vl a :: st) n w := by
  obtain ⟨p, l1, e, R, s, m, args, below, meth, c, Q, D, tI, tZ, tQ, A⟩ := t
  obtain ⟨-, hx, hb, -⟩ := C
  intro H locs ls hR hS hl ho2 hs
  obtain ⟨oa, hs2⟩ := stOk_c.mp hs
  exact lv_l2i (v := Int32.ofInt a) hx hb hd Int64.toInt32_ofInt (k H locs ls hR hS hl ho2 (stOk_c.mpr ⟨hr, hs2⟩))
theorem x_ladd (C : Cb t l cc own nL ret fr mc ms) {a b : Int} (hd : decode cc pc = .ok (.ladd, 1)) (hr : lR (a + b)) (k : J t kc ks (pc + 1) ml (vl (a + b) :: st) n w) : J t kc ks pc ml (vl b :: vl a :: st) n w := by
  obtain ⟨p, l1, e, R, s, m, args, below, meth, c, Q, D, tI, tZ, tQ, A⟩ := t
  obtain ⟨-, hx, hb, -⟩ := C
  intro H locs ls hR hS hl ho hs
  have hs2 := (stOk_c.mp (stOk_c.mp hs).2).2
  have := k H locs ls hR hS hl ho (stOk_c.mpr ⟨hr, hs2⟩)
  refine lv_ladd hx hb hd ?_
  rw [← Int64.ofInt_add]
  exact this
theorem x_lmul (C : Cb t l cc own nL ret fr mc ms) {a b : Int} (hd : decode cc pc = .ok (.lmul, 1)) (hr : lR (a * b)) (k : J t kc ks (pc + 1) ml (vl (a * b) :: st) n w) : J t kc ks pc ml (vl b :: vl a :: st) n w := by
  obtain ⟨p, l1, e, R, s, m, args, below, meth, c, Q, D, tI, tZ, tQ, A⟩ := t
  obtain ⟨-, hx, hb, -⟩ := C
  intro H locs ls hR hS hl ho hs
  have hs2 := (stOk_c.mp (stOk_c.mp hs).2).2
  have := k H locs ls hR hS hl ho (stOk_c.mpr ⟨hr, hs2⟩)
  refine lv_lmul hx hb hd ?_
  rw [← Int64.ofInt_mul]
  exact this
theorem x_lrem (C : Cb t l cc own nL ret fr mc ms) {a b : Int} (hd : decode cc pc = .ok (.lrem, 1)) (h0 : 0 ≤ a) (h1 : 0 < b) (k : J t kc ks (pc + 1) ml (vl (a % b) :: st) n w) : J t kc ks pc ml (vl b :: vl a :: st) n w := by
  obtain ⟨p, l1, e, R, s, m, args, below, meth, c, Q, D, tI, tZ, tQ, A⟩ := t
  obtain ⟨-, hx, hb, -⟩ := C
  intro H locs ls hR hS hl ho hs
  obtain ⟨ob, hs1⟩ := stOk_c.mp hs
  obtain ⟨oa, hs2⟩ := stOk_c.mp hs1
  have oa : lR a := oa
  have ob : lR b := ob
  have hm0 := Int.emod_nonneg a (Int.ne_of_gt h1)
  have hm1 := Int.emod_lt_of_pos a h1
  have hrr : lR (a % b) := ⟨by omega, by have := ob.2; omega⟩
  have hdd : lR (a / b) := ⟨by have := Int.ediv_nonneg h0 (Int.le_of_lt h1); omega, by have := Int.ediv_le_self b h0; have := oa.2; omega⟩
  have this := k H locs ls hR hS hl ho (stOk_c.mpr ⟨hrr, hs2⟩)
  refine lv_lrem hx hb hd (fun q => ?_) ?_
  · have h2 := congrArg Int64.toInt q
    rw [lR_toInt ob] at h2
    have h3 : (0 : Int64).toInt = 0 := by decide
    omega
  · have e0 : Int64.ofInt a / Int64.ofInt b = Int64.ofInt (a / b) := by
      rw [← Int64.toInt_inj, lR_toInt hdd, Int64.toInt_div_of_ne_right _ _ (fun h => ?_), lR_toInt oa, lR_toInt ob]
      · exact Int.tdiv_eq_ediv_of_nonneg h0
      · have h2 := congrArg Int64.toInt h
        rw [lR_toInt ob] at h2
        have h3 : (-1 : Int64).toInt = -1 := by decide
        omega
    have e2 : Int64.ofInt a - Int64.ofInt a / Int64.ofInt b * Int64.ofInt b = Int64.ofInt (a % b) := by
      rw [e0, Int.emod_def, Int64.ofInt_sub, Int64.ofInt_mul, Int64.mul_comm]
    rw [e2]
    exact this
theorem x_ldc2 (C : Cb t l cc own nL ret fr mc ms) {idx : Nat} {v : Int64} {z : Int} (hd : decode cc pc = .ok (.ldc2_w idx, 3)) (hc : Cond.constantLong own idx v ∈ Gw) (hv : v = Int64.ofInt z) (hr : lR z) (k : J t kc ks (pc + 3) ml (vl z :: st) n w) : J t kc ks pc ml st n w := by
  subst hv
  obtain ⟨p, l1, e, R, s, m, args, below, meth, c, Q, D, tI, tZ, tQ, A⟩ := t
  obtain ⟨-, hx, hb, -, -, hown, hts, -⟩ := C
  intro H locs ls hR hS hl ho hs
  exact lv_ldc2 hx hb hown (hts _ hc) hd (k H locs ls hR hS hl ho (stOk_c.mpr ⟨hr, hs⟩))
theorem x_ldc (C : Cb t l cc own nL ret fr mc ms) {idx : Nat} {v : Int32} {z : Int} (hd : decode cc pc = .ok (.ldc idx, 2)) (hc : Cond.constant own idx v ∈ Gw) (hv : v = Int32.ofInt z) (hr : iR z) (k : J t kc ks (pc + 2) ml (vi z :: st) n w) : J t kc ks pc ml st n w := by
  subst hv
  obtain ⟨p, l1, e, R, s, m, args, below, meth, c, Q, D, tI, tZ, tQ, A⟩ := t
  obtain ⟨-, hx, hb, -, -, hown, hts, -⟩ := C
  intro H locs ls hR hS hl ho hs
  exact lv_ldc hx hb hown (hts _ hc) hd (k H locs ls hR hS hl ho (stOk_c.mpr ⟨hr, hs⟩))
theorem x_lconst1 (C : Cb t l cc own nL ret fr mc ms) (hd : decode cc pc = .ok (.lconst 1, 1)) (k : J t kc ks (pc + 1) ml (vl 1 :: st) n w) : J t kc ks pc ml st n w := by
  obtain ⟨p, l1, e, R, s, m, args, below, meth, c, Q, D, tI, tZ, tQ, A⟩ := t
  obtain ⟨-, hx, hb, -⟩ := C
  intro H locs ls hR hS hl ho hs
  exact lv_lconst (v := Int64.ofInt 1) hx hb hd rfl (k H locs ls hR hS hl ho (stOk_c.mpr ⟨⟨by decide, by decide⟩, hs⟩))
theorem mL_sub2 {ls : Array Slot} {nL : Nat} {ml : List (Option mV)} {i : Nat} {v : mV} (hn : nl ml i = true) (h : lv_has ls nL ((i, mT v) :: (mL 0 ml).filter (fun q => !(q.1 == i) && (!(q.1 == i + 1) && !(q.1 + 1 == i && q.2.category == 2))))) : lv_has ls nL (mL 0 ((ml.set i (some v)).set (i + 1) none)) := by
  refine ⟨h.1, h.2.1, fun q hq => ?_⟩
  obtain ⟨j, u, h1, rfl⟩ := mL_mem.mp hq
  have hj1 : j ≠ i + 1 := by
    intro hj
    subst hj
    by_cases hlt : i + 1 < (ml.set i (some v)).length
    · rw [List.getElem?_set_self hlt] at h1
      cases h1
    · rw [List.set_eq_of_length_le (by omega), List.getElem?_eq_none (by omega)] at h1
      cases h1
  rw [List.getElem?_set_ne (Ne.symm hj1)] at h1
  by_cases hj : j = i
  · subst hj
    have hu : u = v := by
      have h2 : j < ml.length := by
        rcases Nat.lt_or_ge j ml.length with h3 | h3
        · exact h3
        · rw [List.set_eq_of_length_le h3, List.getElem?_eq_none h3] at h1
          cases h1
      rw [List.getElem?_set_self h2] at h1
      cases h1
      rfl
    subst hu
    exact h.2.2 _ (by simp)
  · rw [List.getElem?_set_ne (Ne.symm hj)] at h1
    refine h.2.2 (0 + j, mT u) (List.mem_cons_of_mem _ (List.mem_filter.mpr ⟨mL_mem.mpr ⟨j, u, h1, rfl⟩, ?_⟩))
    have e0 : 0 + j = j := Nat.zero_add j
    rw [e0]
    by_cases hji : j + 1 = i
    · subst hji
      have hu : ∀ z, u ≠ vl z := by
        intro z hz
        subst hz
        simp [nl, h1] at hn
      simp [mT_cat hu]
      omega
    · simp [hj, hji, hj1]
theorem mlOk_setN {ml : List (Option mV)} {i : Nat} (h : mlOk ml) : mlOk (ml.set i none) := by
  intro u hu
  rcases List.mem_or_eq_of_mem_set hu with h1 | h1
  · exact h u h1
  · cases h1
theorem x_lstore_n (C : Cb t l cc own nL ret fr mc ms) {i : Fin 4} {z : Int} (hd : decode cc pc = .ok (.lstore_n i, 1)) (hi : (i : Nat) + 1 < nL) (hn : nl ml i = true) (k : J t kc ks (pc + 1) ((ml.set i (some (vl z))).set (i + 1) none) st n w) : J t kc ks pc ml (vl z :: st) n w := by
  obtain ⟨p, l1, e, R, s, m, args, below, meth, c, Q, D, tI, tZ, tQ, A⟩ := t
  obtain ⟨-, hx, hb, -, hml, -⟩ := C
  intro H locs ls hR hS hl ho hs
  obtain ⟨o1, o2⟩ := stOk_c.mp hs
  exact lv_lstore_n hx hb hd rfl hl (by rw [hml]; exact hi) rfl (fun ls' hl' => k H locs ls' hR hS (mL_sub2 hn hl') (mlOk_setN (mlOk_set ho o1)) o2)
theorem x_lstore (C : Cb t l cc own nL ret fr mc ms) {i : Nat} {z : Int} (hd : decode cc pc = .ok (.lstore i, 2)) (hi : i + 1 < nL) (hn : nl ml i = true) (k : J t kc ks (pc + 2) ((ml.set i (some (vl z))).set (i + 1) none) st n w) : J t kc ks pc ml (vl z :: st) n w := by
  obtain ⟨p, l1, e, R, s, m, args, below, meth, c, Q, D, tI, tZ, tQ, A⟩ := t
  obtain ⟨-, hx, hb, -, hml, -⟩ := C
  intro H locs ls hR hS hl ho hs
  obtain ⟨o1, o2⟩ := stOk_c.mp hs
  exact lv_lstore hx hb hd hl (by rw [hml]; exact hi) rfl (fun ls' hl' => k H locs ls' hR hS (mL_sub2 hn hl') (mlOk_setN (mlOk_set ho o1)) o2)
/-- Math.max -/
theorem x_max (C : Cb t l cc own nL ret fr mc ms) {idx : Nat} {a b : Int} (hd : decode cc pc = .ok (.invokestatic idx, 3)) (hk : Cond.methodLink own idx Lib.Math.max.name ∈ Gw) (h1 : Cond.static Lib.Math.max.name ∈ Gw) (h2 : Cond.initialized "java/lang/Math" ∈ Gw) (h3 : Cond.code Lib.Math.max.name Lib.Math.max.code 2 (some .int) ∈ Gw) (hfr : 1 ≤ fr) (hkc : kc ≤ mc) (hks : ks ≤ ms) (hcat : (st.map (fun v => (mT v).category)).sum ≤ 8) (k : J t kc ks (pc + 3) ml (vi (if a < b then b else a) :: st) n w) : J t kc ks pc ml (vi b :: vi a :: st) n w := by
  obtain ⟨p, l1, e, R, s, m, args, below, meth, c, Q, D, tI, tZ, tQ, A⟩ := t
  obtain ⟨-, hx, hb, -, hml, hown, hts, -, -, hR1, hR2, hR3, hR4⟩ := C
  intro H locs ls hR hS hl ho hs
  obtain ⟨ob, hs1⟩ := stOk_c.mp hs
  obtain ⟨oa, hs2⟩ := stOk_c.mp hs1
  have om : iR (if a < b then b else a) := by split <;> assumption
  have this := k H locs ls hR hS hl ho (stOk_c.mpr ⟨om, hs2⟩)
  refine va_mmax hx hb hl.1.symm hown (hts _ hk) (hts _ h1) (hts _ h2) (hts _ h3) (Nat.le_trans hfr hR1) (by rw [cat_map]; omega) (Nat.le_trans hkc hR3) (Nat.le_trans hks hR4) hd ?_
  have e1 : (if Int32.ofInt a < Int32.ofInt b then Int32.ofInt b else Int32.ofInt a) = Int32.ofInt (if a < b then b else a) := by
    by_cases h : a < b
    · rw [if_pos h, if_pos ((iR_lt oa ob).mpr h)]
    · rw [if_neg h, if_neg (fun q => h ((iR_lt oa ob).mp q))]
  rw [e1]
  exact this
/-- System.arraycopy of a whole array of ints -/
theorem x_acopy (C : Cb t l cc own nL ret fr mc ms) {idx a0 a : Nat} {xs ys : List Int} {z : Int} (hd : decode cc pc = .ok (.invokestatic idx, 3)) (hk : Cond.methodLink own idx arraycopyName ∈ Gw) (h1 : Cond.native arraycopyName ∈ Gw) (h2 : Cond.static arraycopyName ∈ Gw) (h3 : Cond.initialized "java/lang/System" ∈ Gw) (hw0 : w a0 = some (ca xs)) (hw1 : w a = some (ca ys)) (hlx : (xs.length : Int) = z) (hly : (ys.length : Int) = z) (hfr : 1 ≤ fr) (hcat : (st.map (fun v => (mT v).category)).sum ≤ 8) (k : J t kc ks (pc + 3) ml st n (mu w a (ca xs))) : J t kc ks pc ml (vi z :: vi 0 :: vr a :: vi 0 :: vr a0 :: st) n w := by
  obtain ⟨p, l1, e, R, s, m, args, below, meth, c, Q, D, tI, tZ, tQ, A⟩ := t
  obtain ⟨-, hx, hb, -, hml, hown, hts, -, ⟨hK, -⟩, hR1, hR2, hR3, hR4⟩ := C
  intro H locs ls hR hS hl ho hs T hT X
  have oz : iR z := (stOk_c.mp hs).1
  have hs2 : stOk st := fun v hv => hs v (by simp [hv])
  obtain ⟨ok0, hA0, at0⟩ := hR.2 a0 _ hw0
  obtain ⟨ok1, hA1, at1⟩ := hR.2 a _ hw1
  have hc0 : H[a0]? = some (arrV tI xs.length (fun j => .int (Int32.ofInt (xs.getD j 0)))) := at0
  have hc1 : H[a]? = some (arrV tI ys.length (fun j => .int (Int32.ofInt (ys.getD j 0)))) := at1
  obtain ⟨-, k0, hk0, cm0, hkk0⟩ := (hK.2 0 _ rfl).1 xs.length (fun j => .int (Int32.ofInt (xs.getD j 0)))
  obtain ⟨-, k1, hk1, cm1, hkk1⟩ := (hK.2 0 _ rfl).1 ys.length (fun j => .int (Int32.ofInt (ys.getD j 0)))
  have hz0 : (0 : Int32).toInt = 0 := by decide
  have hzz : (Int32.ofInt z).toInt = z := iR_toInt oz
  have hzn : ¬ Int32.ofInt z < 0 := by rw [Int32.lt_iff_toInt_lt, hzz, hz0]; omega
  have hzc : (Int32.ofInt z).toNatClampNeg = xs.length := by rw [iR_clamp oz]; omega
  obtain ⟨vm', X', step⟩ := X.arraycopy hx hown (hts _ hk) (hts _ h1) (hts _ h2) (hts _ h3) (src := a0) (dst := a) (cs := vp_cell tI (xs.length, .inl (fun j => Int32.ofInt (xs.getD j 0)))) (cd := vp_cell tI (ys.length, .inl (fun j => Int32.ofInt (ys.getD j 0)))) (srcPos := 0) (destPos := 0) (n := Int32.ofInt z) (by rw [hT]; exact hc0) (by rw [hT]; exact hc1)
    (fun _ h => by cases h) (fun _ h => by cases h) (fun h => by cases h) (fun h => by cases h) hk0 hk1 hkk0 hkk1 (by simp [refKind]) (by decide) (by decide) hzn
    (by rw [hz0, hzz]; show ¬ _ > ((arrV tI xs.length (fun j => .int (Int32.ofInt (xs.getD j 0)))).slots.size : Int); rw [arrV_size]; omega)
    (by rw [hz0, hzz]; show ¬ _ > ((arrV tI ys.length (fun j => .int (Int32.ofInt (ys.getD j 0)))).slots.size : Int); rw [arrV_size]; omega)
    (fun vm₁ _ i hi => by
      have e : (vp_cell tI (xs.length, .inl (fun j => Int32.ofInt (xs.getD j 0)))).slots.getD ((0 : Int32).toNatClampNeg + i) .null = .int (Int32.ofInt (xs.getD ((0 : Int32).toNatClampNeg + i) 0)) := by
        show (arrV tI xs.length (fun j => .int (Int32.ofInt (xs.getD j 0)))).slots.getD _ _ = _
        have h0c : (0 : Int32).toNatClampNeg = 0 := by decide
        rw [h0c, Nat.zero_add]
        rw [hzc] at hi
        rw [Array.getD_eq_getD_getElem?, arrV_read _ _ hi]
        rfl
      refine ⟨?_, ?_⟩
      · rw [e]; rfl
      · rw [e]; exact trivial)
    (g := F0 m pc ls ((vi z :: vi 0 :: vr a :: vi 0 :: vr a0 :: st).map mT)) rfl hl.1 (rest := st.map mT) rfl (by rw [hb]; exact hd) (Nat.le_trans hfr hR1) (by show 2 * 0 + ((st.map mT).map fun v => v.category).sum + (nativeFrameWords "java/lang/System" "arraycopy" 5 + 11) ≤ _; rw [cat_map]; have h77 : nativeFrameWords "java/lang/System" "arraycopy" 5 = 7 := (by decide +kernel); rw [h77]; omega)
  have e1 : copied (vp_cell tI (xs.length, .inl (fun j => Int32.ofInt (xs.getD j 0)))) (vp_cell tI (ys.length, .inl (fun j => Int32.ofInt (ys.getD j 0)))) 0 0 (Int32.ofInt z) = arrV tI xs.length (fun j => .int (Int32.ofInt (xs.getD j 0))) := by
    have h4 : (0 : Int32).toNatClampNeg + (Int32.ofInt z).toNatClampNeg ≤ xs.length := by
      have h0c : (0 : Int32).toNatClampNeg = 0 := by decide
      rw [h0c, hzc]; omega
    have e2 := va_copied (n1 := ys.length) (dp := (0 : Int32).toNatClampNeg) (fun z => Value.int z) tI tI (fun j => Int32.ofInt (xs.getD j 0)) (fun j => Int32.ofInt (ys.getD j 0)) h4
    refine e2.trans ?_
    have hxy : ys.length = xs.length := by omega
    rw [hxy]
    congr 1
    funext j
    have h0c : (0 : Int32).toNatClampNeg = 0 := by decide
    rw [h0c, hzc]
    by_cases hj : j < xs.length
    · simp [va_cpy, hj]
    · have hx1 : xs.getD j 0 = 0 := by simp [List.getD, List.getElem?_eq_none (Nat.le_of_not_lt hj)]
      have hy1 : ys.getD j 0 = 0 := by simp [List.getD, List.getElem?_eq_none (show ys.length ≤ j by omega)]
      simp only [va_cpy]
      rw [if_neg (by omega), hx1, hy1]
  rw [e1] at X' step
  have hla : a < H.size := (Array.getElem?_eq_some_iff.mp hc1).1
  have hheap : ((T.setVm vm').setCell a (arrV tI xs.length (fun j => .int (Int32.ofInt (xs.getD j 0))))).heap = H.setIfInBounds a (arrV tI xs.length (fun j => .int (Int32.ofInt (xs.getD j 0)))) := by rw [← hT]; rfl
  have oq : ∀ q : Nat, q ≠ a → (H.setIfInBounds a (arrV tI xs.length (fun j => .int (Int32.ofInt (xs.getD j 0)))))[q]? = H[q]? := fun q hq => by simp [Array.getElem?_setIfInBounds, Ne.symm hq]
  obtain ⟨t2, a2, b2⟩ := k _ _ ls (hR.set (a := a) (c1 := ca xs) (H1 := H.setIfInBounds a (arrV tI xs.length (fun j => .int (Int32.ofInt (xs.getD j 0))))) (by simp) oq hA1 ok0 (show (H.setIfInBounds a _)[a]? = some _ by simp [Array.getElem?_setIfInBounds, hla]; rfl)) ⟨by simp; exact hS.1, fun q g1 g2 => by
      rw [oq q (fun e => g2 (by rw [e]; exact hA1))]
      exact hS.2.1 q g1 g2, fun q hq => by
      rcases List.mem_append.mp hq with h | h
      · exact hS.2.2 q h
      · obtain ⟨z, -, hz⟩ := List.mem_map.mp h
        rw [← hz]
        exact hA1⟩ hl ho hs2 _ hheap X'
  exact ⟨t2, step t2 a2, b2⟩
/-- Object's constructor -/
theorem x_objInit (C : Cb t l cc own nL ret fr mc ms) {idx a : Nat} (hd : decode cc pc = .ok (.invokespecial idx, 3)) (hk : Cond.methodLink own idx Lib.objectInit ∈ Gw) (h1 : Cond.instanceMethod Lib.objectInit ∈ Gw) (h2 : Cond.code Lib.objectInit ⟨#[0xb1]⟩ 1 none ∈ Gw) (hfr : 1 ≤ fr) (hcat : (st.map (fun v => (mT v).category)).sum ≤ 8) (k : J t kc ks (pc + 3) ml st n w) : J t kc ks pc ml (vr a :: st) n w := by
  obtain ⟨p, l1, e, R, s, m, args, below, meth, c, Q, D, tI, tZ, tQ, A⟩ := t
  obtain ⟨-, hx, hb, -, hml, hown, hts, -, -, hR1, hR2, hR3, hR4⟩ := C
  intro H locs ls hR hS hl ho hs
  exact W.objInit hx hb hown (hts _ hk) (hts _ h1) (hts _ h2) rfl hl.1 (rest := st.map mT) rfl hd (Nat.le_trans hfr hR1) (by show 2 * 0 + ((st.map mT).map fun v => v.category).sum + 12 ≤ _; rw [cat_map]; omega) (k H locs ls hR hS hl ho (stOk_c.mp hs).2)
/-- an object is made -/
theorem x_new (C : Cb t l cc own nL ret fr mc ms) {idx ci N : Nat} {Cn : String} {T : u_T} {ty : Nat → FieldType} {fs : List mV} (hd : decode cc pc = .ok (.new idx, 3)) (hc : vwCl[ci]? = some (Cn, T, N)) (hin : ∀ w ∈ u_ws Cn T N, w ∈ Gw) (hty : ∀ k, k < N → parseFieldDescriptor (T k).2.2.1 = some (ty k)) (h1 : Cond.classLink own idx Cn ∈ Gw) (h2 : Cond.instantiable Cn N ∈ Gw) (h3 : Cond.initialized Cn ∈ Gw) (hfs : ∀ j, j < N → defaultValue (ty j) = vp_V (fs.map mT) j) (hok : ∀ v ∈ fs, vOk v) (hkc : kc + 1 ≤ mc) (hks : ks + N ≤ ms) (k : J t (kc + 1) (ks + N) (pc + 3) ml (vr n :: st) (n + 1) (mu w n (co ci fs))) : J t kc ks pc ml st n w := by
  obtain ⟨p, l1, e, R, s, m, args, below, meth, c, Q, D, tI, tZ, tQ, A⟩ := t
  obtain ⟨-, hx, hb, -, hml, hown, hts, -, ⟨hK, -, -, -, hAA⟩, hR1, hR2, hR3, hR4⟩ := C
  intro H locs ls hR hS hl ho hs
  have hKn := hK.1 ci _ hc
  refine W.newcK hx hb hown (hts _ h1) (hts _ h2) (hts _ h3) rfl hd (Nat.le_trans hkc hR3) (Nat.le_trans hks hR4) hKn.2.1 hR.1 fun H1 kC hkC e1 z1 o1 => ?_
  refine k H1 locs ls (hR.push z1 o1 (hAA n (by rw [← hR.1]; exact hS.1)) hok ?_) ⟨Nat.le_trans hS.1 (by rw [z1, hR.1]; omega), fun x g1 g2 => (o1 x (by rw [← hR.1]; exact Nat.lt_of_lt_of_le g1 hS.1)).trans (hS.2.1 x g1 g2), hS.2.2⟩ hl ho (stOk_c.mpr ⟨trivial, hs⟩)
  exact ⟨_, hc, (u_born ty hts hin hKn hkC e1 hty).to hfs⟩
/-- an array of ints is made -/
theorem x_newI (C : Cb t l cc own nL ret fr mc ms) {z : Int} {N : Nat} (hd : decode cc pc = .ok (.newarray .int, 2)) (h1 : Cond.arrayClass .int ∈ Gw) (hz : z = (N : Int)) (hN : N ≤ 100000) (hkc : kc + 1 ≤ mc) (hks : ks + N ≤ ms) (k : J t (kc + 1) (ks + N) (pc + 2) ml (vr n :: st) (n + 1) (mu w n (ca (List.replicate N 0)))) : J t kc ks pc ml (vi z :: st) n w := by
  subst hz
  obtain ⟨p, l1, e, R, s, m, args, below, meth, c, Q, D, tI, tZ, tQ, A⟩ := t
  obtain ⟨-, hx, hb, -, hml, hown, hts, -, ⟨hK, -, -, -, hAA⟩, hR1, hR2, hR3, hR4⟩ := C
  intro H locs ls hR hS hl ho hs
  obtain ⟨oz, hs2⟩ := stOk_c.mp hs
  have oz : iR N := oz
  refine va_newaK (atype := .int) hx hb (hts _ h1) (g := F0 m pc ls ((vi (N : Int) :: st).map mT)) rfl hd (n := Int32.ofInt N) (N := N) (rest := st.map mT) rfl ?_ ?_ ?_ (Nat.le_trans hkc hR3) (Nat.le_trans hks hR4) hR.1 fun H1 cA e1 z1 o1 hAr hNm => ?_
  · rw [← iR_z, iR_lt oz iR_0]; omega
  · rw [iR_clamp oz]; omega
  · show N * 4 ≤ _; omega
  have hcA : cA = tI := by
    have h5 : s.vm.findClass ("[" ++ (FieldType.int).toString) = some tI := (hK.2 0 _ rfl).2
    exact Option.some.inj (hNm.symm.trans h5)
  subst hcA
  refine k H1 locs ls (hR.push z1 o1 (hAA n (by rw [← hR.1]; exact hS.1)) ⟨fun _ x hx => by rw [List.eq_of_mem_replicate hx]; exact iR_0, fun h => absurd rfl h⟩ ?_) ⟨Nat.le_trans hS.1 (by rw [z1, hR.1]; omega), fun x g1 g2 => (o1 x (by rw [← hR.1]; exact Nat.lt_of_lt_of_le g1 hS.1)).trans (hS.2.1 x g1 g2), hS.2.2⟩ hl ho (stOk_c.mpr ⟨trivial, hs2⟩)
  show H1[n]? = some (arrV cA (List.replicate N (0 : Int)).length (fun j => .int (Int32.ofInt ((List.replicate N (0 : Int)).getD j 0))))
  rw [e1, List.length_replicate]
  congr 2
  funext j
  have h9 : (List.replicate N (0 : Int)).getD j 0 = 0 := by
    simp only [List.getD, List.getElem?_replicate]
    split <;> rfl
  rw [h9]
  rfl
theorem x_newZ (C : Cb t l cc own nL ret fr mc ms) {z : Int} {N : Nat} (hd : decode cc pc = .ok (.newarray .boolean, 2)) (h1 : Cond.arrayClass .boolean ∈ Gw) (hz : z = (N : Int)) (hN : N ≤ 100000) (hkc : kc + 1 ≤ mc) (hks : ks + N ≤ ms) (k : J t (kc + 1) (ks + N) (pc + 2) ml (vr n :: st) (n + 1) (mu w n (cz (List.replicate N 0)))) : J t kc ks pc ml (vi z :: st) n w := by
  subst hz
  obtain ⟨p, l1, e, R, s, m, args, below, meth, c, Q, D, tI, tZ, tQ, A⟩ := t
  obtain ⟨-, hx, hb, -, hml, hown, hts, -, ⟨hK, -, -, -, hAA⟩, hR1, hR2, hR3, hR4⟩ := C
  intro H locs ls hR hS hl ho hs
  obtain ⟨oz, hs2⟩ := stOk_c.mp hs
  have oz : iR N := oz
  refine va_newaK (atype := .boolean) hx hb (hts _ h1) (g := F0 m pc ls ((vi (N : Int) :: st).map mT)) rfl hd (n := Int32.ofInt N) (N := N) (rest := st.map mT) rfl ?_ ?_ ?_ (Nat.le_trans hkc hR3) (Nat.le_trans hks hR4) hR.1 fun H1 cA e1 z1 o1 hAr hNm => ?_
  · rw [← iR_z, iR_lt oz iR_0]; omega
  · rw [iR_clamp oz]; omega
  · show N * 1 ≤ _; omega
  have hcA : cA = tZ := by
    have h5 : s.vm.findClass ("[" ++ (FieldType.boolean).toString) = some tZ := (hK.2 1 _ rfl).2
    exact Option.some.inj (hNm.symm.trans h5)
  subst hcA
  refine k H1 locs ls (hR.push z1 o1 (hAA n (by rw [← hR.1]; exact hS.1)) ⟨fun h => absurd h (by decide), fun _ x hx => by rw [List.eq_of_mem_replicate hx]; exact Or.inl rfl⟩ ?_) ⟨Nat.le_trans hS.1 (by rw [z1, hR.1]; omega), fun x g1 g2 => (o1 x (by rw [← hR.1]; exact Nat.lt_of_lt_of_le g1 hS.1)).trans (hS.2.1 x g1 g2), hS.2.2⟩ hl ho (stOk_c.mpr ⟨trivial, hs2⟩)
  show H1[n]? = some (arrV cA (List.replicate N (0 : Int)).length (fun j => .int (Int32.ofInt ((List.replicate N (0 : Int)).getD j 0))))
  rw [e1, List.length_replicate]
  congr 2
  funext j
  have h9 : (List.replicate N (0 : Int)).getD j 0 = 0 := by
    simp only [List.getD, List.getElem?_replicate]
    split <;> rfl
  rw [h9]
  rfl
theorem x_newQ (C : Cb t l cc own nL ret fr mc ms) {z : Int} {N idx : Nat} (hd : decode cc pc = .ok (.anewarray idx, 3)) (h1 : Cond.classLink own idx RX2 ∈ Gw) (hz : z = (N : Int)) (hN : N ≤ 100000) (hkc : kc + 1 ≤ mc) (hks : ks + N ≤ ms) (k : J t (kc + 1) (ks + N) (pc + 3) ml (vr n :: st) (n + 1) (mu w n (cq (List.replicate N none)))) : J t kc ks pc ml (vi z :: st) n w := by
  subst hz
  obtain ⟨p, l1, e, R, s, m, args, below, meth, c, Q, D, tI, tZ, tQ, A⟩ := t
  obtain ⟨-, hx, hb, -, hml, hown, hts, -, ⟨hK, -, -, hov, hAA⟩, hR1, hR2, hR3, hR4⟩ := C
  intro H locs ls hR hS hl ho hs
  obtain ⟨oz, hs2⟩ := stOk_c.mp hs
  have oz : iR N := oz
  have hcl : (Int32.ofInt N).toNatClampNeg = N := by rw [iR_clamp oz]; omega
  refine W.anew hx hb hown (hts _ h1) (va_AO.use hov) (g := F0 m pc ls ((vi (N : Int) :: st).map mT)) rfl hd (n := Int32.ofInt N) (rest := st.map mT) rfl ?_ ?_ (Nat.le_trans hkc hR3) ?_ fun cA kA comp f1 f2 f3 f4 => ?_
  · rw [← iR_z, iR_lt oz iR_0]; omega
  · rw [hcl]; omega
  · rw [hcl]; exact Nat.le_trans hks hR4
  have hcA : cA = tQ := by
    obtain ⟨_, _, -, -, -, h5⟩ := (hK.2 2 _ rfl).2
    exact Option.some.inj (f1.symm.trans h5)
  subst hcA
  rw [hcl]
  generalize hH1 : H.push ({ cls := cA, slots := Array.replicate N .null, vm := .none } : Cell) = H1
  have z1 : H1.size = n + 1 := by rw [← hH1, Array.size_push, hR.1]
  have e1 : H1[n]? = some (arrV cA N (fun _ => .null)) := by rw [← hH1, ← hR.1, Array.getElem?_push_size, ← arrV_new]
  have o1 : ∀ q : Nat, q < n → H1[q]? = H[q]? := fun q hq => by rw [← hH1, Array.getElem?_push, if_neg (by rw [hR.1]; exact Nat.ne_of_lt hq)]
  have hR1n := hR.1
  subst hR1n
  refine k H1 locs ls (hR.push z1 o1 (hAA _ hS.1) trivial ?_) ⟨Nat.le_trans hS.1 (by rw [z1]; omega), fun x g1 g2 => (o1 x (Nat.lt_of_lt_of_le g1 hS.1)).trans (hS.2.1 x g1 g2), hS.2.2⟩ hl ho (stOk_c.mpr ⟨trivial, hs2⟩)
  show H1[H.size]? = some (arrV cA (List.replicate N (none : Option Nat)).length (fun j => va_rf ((List.replicate N (none : Option Nat)).getD j none)))
  rw [e1, List.length_replicate]
  congr 2
  funext j
  have h9 : (List.replicate N (none : Option Nat)).getD j none = none := by
    simp only [List.getD, List.getElem?_replicate]
    split <;> rfl
  rw [h9]
  rfl
end JM
end
