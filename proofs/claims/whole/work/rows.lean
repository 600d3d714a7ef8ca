section
-- ===== PART A: goes FIRST, ahead of the names: the tables' words, and 'selects' of the private methods out of them =====
/-- a private method of a class that the tables say can be made, by its rows of tables_1 -/
def lw_okq (q : MethodName × Nat) : Prop := (q.1.cls ≠ "java/lang/invoke/MethodHandle" ∧ q.1.cls ≠ "java/lang/invoke/VarHandle") ∧ Cond.instantiable q.1.cls q.2 ∈ tables_1 ∧ Cond.privateMethod q.1 ∈ tables_1 ∧ Cond.instanceMethod q.1 ∈ tables_1
theorem lw_p0 : lw_okq (⟨"ObjectRows", "addObject", "(IIII)I"⟩, 10) := ⟨⟨by decide +kernel, by decide +kernel⟩, List.mem_of_getElem? (i := 14) (by decide +kernel), List.mem_of_getElem? (i := 74) (by decide +kernel), List.mem_of_getElem? (i := 75) (by decide +kernel)⟩
theorem lw_p1 : lw_okq (⟨"ObjectRows$Row", "reach", "(I)V"⟩, 2) := ⟨⟨by decide +kernel, by decide +kernel⟩, List.mem_of_getElem? (i := 22) (by decide +kernel), List.mem_of_getElem? (i := 82) (by decide +kernel), List.mem_of_getElem? (i := 83) (by decide +kernel)⟩
theorem lw_p2 : lw_okq (⟨"ObjectRows", "sizeFits", "(II)Z"⟩, 10) := ⟨⟨by decide +kernel, by decide +kernel⟩, List.mem_of_getElem? (i := 14) (by decide +kernel), List.mem_of_getElem? (i := 152) (by decide +kernel), List.mem_of_getElem? (i := 153) (by decide +kernel)⟩
theorem lw_p3 : lw_okq (⟨"ObjectRows", "makePacked", "(I)I"⟩, 10) := ⟨⟨by decide +kernel, by decide +kernel⟩, List.mem_of_getElem? (i := 14) (by decide +kernel), List.mem_of_getElem? (i := 167) (by decide +kernel), List.mem_of_getElem? (i := 168) (by decide +kernel)⟩
theorem lw_p4 : lw_okq (⟨"ObjectRows", "makeDictionary", "(I)I"⟩, 10) := ⟨⟨by decide +kernel, by decide +kernel⟩, List.mem_of_getElem? (i := 14) (by decide +kernel), List.mem_of_getElem? (i := 172) (by decide +kernel), List.mem_of_getElem? (i := 173) (by decide +kernel)⟩
theorem lw_p5 : lw_okq (⟨"ObjectRows", "makeSave", "()I"⟩, 10) := ⟨⟨by decide +kernel, by decide +kernel⟩, List.mem_of_getElem? (i := 14) (by decide +kernel), List.mem_of_getElem? (i := 176) (by decide +kernel), List.mem_of_getElem? (i := 177) (by decide +kernel)⟩
theorem lw_p6 : lw_okq (⟨"ObjectRows", "known", "(I)Z"⟩, 10) := ⟨⟨by decide +kernel, by decide +kernel⟩, List.mem_of_getElem? (i := 14) (by decide +kernel), List.mem_of_getElem? (i := 198) (by decide +kernel), List.mem_of_getElem? (i := 199) (by decide +kernel)⟩
theorem lw_p7 : lw_okq (⟨"ObjectRows", "hasElement", "(II)Z"⟩, 10) := ⟨⟨by decide +kernel, by decide +kernel⟩, List.mem_of_getElem? (i := 14) (by decide +kernel), List.mem_of_getElem? (i := 206) (by decide +kernel), List.mem_of_getElem? (i := 207) (by decide +kernel)⟩
theorem lw_p8 : lw_okq (⟨"ObjectRows", "accessOf", "(I)I"⟩, 10) := ⟨⟨by decide +kernel, by decide +kernel⟩, List.mem_of_getElem? (i := 14) (by decide +kernel), List.mem_of_getElem? (i := 210) (by decide +kernel), List.mem_of_getElem? (i := 211) (by decide +kernel)⟩
theorem lw_p9 : lw_okq (⟨"ObjectRows", "accessHolder", "(I)I"⟩, 10) := ⟨⟨by decide +kernel, by decide +kernel⟩, List.mem_of_getElem? (i := 14) (by decide +kernel), List.mem_of_getElem? (i := 214) (by decide +kernel), List.mem_of_getElem? (i := 215) (by decide +kernel)⟩
theorem lw_p10 : lw_okq (⟨"ObjectRows", "storeRow", "(I)LObjectRows$Row;"⟩, 10) := ⟨⟨by decide +kernel, by decide +kernel⟩, List.mem_of_getElem? (i := 14) (by decide +kernel), List.mem_of_getElem? (i := 218) (by decide +kernel), List.mem_of_getElem? (i := 219) (by decide +kernel)⟩
theorem lw_p11 : lw_okq (⟨"ObjectRows", "hasPart", "(III)Z"⟩, 10) := ⟨⟨by decide +kernel, by decide +kernel⟩, List.mem_of_getElem? (i := 14) (by decide +kernel), List.mem_of_getElem? (i := 232) (by decide +kernel), List.mem_of_getElem? (i := 233) (by decide +kernel)⟩
theorem lw_p12 : lw_okq (⟨"ObjectRows", "addPart", "(III)I"⟩, 10) := ⟨⟨by decide +kernel, by decide +kernel⟩, List.mem_of_getElem? (i := 14) (by decide +kernel), List.mem_of_getElem? (i := 236) (by decide +kernel), List.mem_of_getElem? (i := 237) (by decide +kernel)⟩
theorem lw_p13 : lw_okq (⟨"ObjectRows", "lowerAccess", "(II)I"⟩, 10) := ⟨⟨by decide +kernel, by decide +kernel⟩, List.mem_of_getElem? (i := 14) (by decide +kernel), List.mem_of_getElem? (i := 244) (by decide +kernel), List.mem_of_getElem? (i := 245) (by decide +kernel)⟩
theorem lw_p14 : lw_okq (⟨"ObjectRows", "letGrow", "(II)I"⟩, 10) := ⟨⟨by decide +kernel, by decide +kernel⟩, List.mem_of_getElem? (i := 14) (by decide +kernel), List.mem_of_getElem? (i := 248) (by decide +kernel), List.mem_of_getElem? (i := 249) (by decide +kernel)⟩
theorem lw_p15 : lw_okq (⟨"ObjectRows", "alike", "(II)Z"⟩, 10) := ⟨⟨by decide +kernel, by decide +kernel⟩, List.mem_of_getElem? (i := 14) (by decide +kernel), List.mem_of_getElem? (i := 263) (by decide +kernel), List.mem_of_getElem? (i := 264) (by decide +kernel)⟩
def lw_privs_1 : List (MethodName × Nat) := [(⟨"ObjectRows", "addObject", "(IIII)I"⟩, 10), (⟨"ObjectRows$Row", "reach", "(I)V"⟩, 2), (⟨"ObjectRows", "sizeFits", "(II)Z"⟩, 10), (⟨"ObjectRows", "makePacked", "(I)I"⟩, 10), (⟨"ObjectRows", "makeDictionary", "(I)I"⟩, 10), (⟨"ObjectRows", "makeSave", "()I"⟩, 10), (⟨"ObjectRows", "known", "(I)Z"⟩, 10), (⟨"ObjectRows", "hasElement", "(II)Z"⟩, 10), (⟨"ObjectRows", "accessOf", "(I)I"⟩, 10), (⟨"ObjectRows", "accessHolder", "(I)I"⟩, 10), (⟨"ObjectRows", "storeRow", "(I)LObjectRows$Row;"⟩, 10), (⟨"ObjectRows", "hasPart", "(III)Z"⟩, 10), (⟨"ObjectRows", "addPart", "(III)I"⟩, 10), (⟨"ObjectRows", "lowerAccess", "(II)I"⟩, 10), (⟨"ObjectRows", "letGrow", "(II)I"⟩, 10), (⟨"ObjectRows", "alike", "(II)Z"⟩, 10)]
theorem lw_r1 : ∀ q ∈ lw_privs_1, lw_okq q := List.forall_mem_cons.mpr ⟨lw_p0, List.forall_mem_cons.mpr ⟨lw_p1, List.forall_mem_cons.mpr ⟨lw_p2, List.forall_mem_cons.mpr ⟨lw_p3, List.forall_mem_cons.mpr ⟨lw_p4, List.forall_mem_cons.mpr ⟨lw_p5, List.forall_mem_cons.mpr ⟨lw_p6, List.forall_mem_cons.mpr ⟨lw_p7, List.forall_mem_cons.mpr ⟨lw_p8, List.forall_mem_cons.mpr ⟨lw_p9, List.forall_mem_cons.mpr ⟨lw_p10, List.forall_mem_cons.mpr ⟨lw_p11, List.forall_mem_cons.mpr ⟨lw_p12, List.forall_mem_cons.mpr ⟨lw_p13, List.forall_mem_cons.mpr ⟨lw_p14, List.forall_mem_cons.mpr ⟨lw_p15, fun _ h => absurd h List.not_mem_nil⟩⟩⟩⟩⟩⟩⟩⟩⟩⟩⟩⟩⟩⟩⟩⟩
theorem lw_p16 : lw_okq (⟨"ObjectRows", "readableString", "(I)Z"⟩, 10) := ⟨⟨by decide +kernel, by decide +kernel⟩, List.mem_of_getElem? (i := 14) (by decide +kernel), List.mem_of_getElem? (i := 267) (by decide +kernel), List.mem_of_getElem? (i := 268) (by decide +kernel)⟩
theorem lw_p17 : lw_okq (⟨"ObjectRows", "orderOfBytes", "(II)I"⟩, 10) := ⟨⟨by decide +kernel, by decide +kernel⟩, List.mem_of_getElem? (i := 14) (by decide +kernel), List.mem_of_getElem? (i := 271) (by decide +kernel), List.mem_of_getElem? (i := 272) (by decide +kernel)⟩
theorem lw_p18 : lw_okq (⟨"ObjectRows", "elementOf", "(II)I"⟩, 10) := ⟨⟨by decide +kernel, by decide +kernel⟩, List.mem_of_getElem? (i := 14) (by decide +kernel), List.mem_of_getElem? (i := 275) (by decide +kernel), List.mem_of_getElem? (i := 276) (by decide +kernel)⟩
theorem lw_p19 : lw_okq (⟨"ObjectRows", "nameOf", "(I)I"⟩, 10) := ⟨⟨by decide +kernel, by decide +kernel⟩, List.mem_of_getElem? (i := 14) (by decide +kernel), List.mem_of_getElem? (i := 282) (by decide +kernel), List.mem_of_getElem? (i := 283) (by decide +kernel)⟩
theorem lw_p20 : lw_okq (⟨"ObjectRows", "numberInTens", "(I)I"⟩, 10) := ⟨⟨by decide +kernel, by decide +kernel⟩, List.mem_of_getElem? (i := 14) (by decide +kernel), List.mem_of_getElem? (i := 286) (by decide +kernel), List.mem_of_getElem? (i := 287) (by decide +kernel)⟩
theorem lw_p21 : lw_okq (⟨"ObjectRows", "alikeButStrings", "(II)Z"⟩, 10) := ⟨⟨by decide +kernel, by decide +kernel⟩, List.mem_of_getElem? (i := 14) (by decide +kernel), List.mem_of_getElem? (i := 290) (by decide +kernel), List.mem_of_getElem? (i := 291) (by decide +kernel)⟩
theorem lw_p22 : lw_okq (⟨"ObjectRows", "alikeOfKind", "(III)Z"⟩, 10) := ⟨⟨by decide +kernel, by decide +kernel⟩, List.mem_of_getElem? (i := 14) (by decide +kernel), List.mem_of_getElem? (i := 294) (by decide +kernel), List.mem_of_getElem? (i := 295) (by decide +kernel)⟩
theorem lw_p23 : lw_okq (⟨"ObjectRows", "keyFor", "(I)I"⟩, 10) := ⟨⟨by decide +kernel, by decide +kernel⟩, List.mem_of_getElem? (i := 14) (by decide +kernel), List.mem_of_getElem? (i := 313) (by decide +kernel), List.mem_of_getElem? (i := 314) (by decide +kernel)⟩
theorem lw_p24 : lw_okq (⟨"ObjectRows", "placeOf", "(II)I"⟩, 10) := ⟨⟨by decide +kernel, by decide +kernel⟩, List.mem_of_getElem? (i := 14) (by decide +kernel), List.mem_of_getElem? (i := 317) (by decide +kernel), List.mem_of_getElem? (i := 318) (by decide +kernel)⟩
theorem lw_p25 : lw_okq (⟨"ObjectRows", "keyCell", "(II)I"⟩, 10) := ⟨⟨by decide +kernel, by decide +kernel⟩, List.mem_of_getElem? (i := 14) (by decide +kernel), List.mem_of_getElem? (i := 321) (by decide +kernel), List.mem_of_getElem? (i := 322) (by decide +kernel)⟩
theorem lw_p26 : lw_okq (⟨"ObjectRows", "alikeKeys", "(II)Z"⟩, 10) := ⟨⟨by decide +kernel, by decide +kernel⟩, List.mem_of_getElem? (i := 14) (by decide +kernel), List.mem_of_getElem? (i := 325) (by decide +kernel), List.mem_of_getElem? (i := 326) (by decide +kernel)⟩
theorem lw_p27 : lw_okq (⟨"ObjectRows", "addKey", "(II)I"⟩, 10) := ⟨⟨by decide +kernel, by decide +kernel⟩, List.mem_of_getElem? (i := 14) (by decide +kernel), List.mem_of_getElem? (i := 329) (by decide +kernel), List.mem_of_getElem? (i := 330) (by decide +kernel)⟩
theorem lw_p28 : lw_okq (⟨"ObjectRows", "grow", "(I)Z"⟩, 10) := ⟨⟨by decide +kernel, by decide +kernel⟩, List.mem_of_getElem? (i := 14) (by decide +kernel), List.mem_of_getElem? (i := 333) (by decide +kernel), List.mem_of_getElem? (i := 334) (by decide +kernel)⟩
theorem lw_p29 : lw_okq (⟨"ObjectRows", "valueCell", "(II)I"⟩, 10) := ⟨⟨by decide +kernel, by decide +kernel⟩, List.mem_of_getElem? (i := 14) (by decide +kernel), List.mem_of_getElem? (i := 337) (by decide +kernel), List.mem_of_getElem? (i := 338) (by decide +kernel)⟩
theorem lw_p30 : lw_okq (⟨"ObjectRows", "keptBy", "(I)LObjectRows$Changing;"⟩, 10) := ⟨⟨by decide +kernel, by decide +kernel⟩, List.mem_of_getElem? (i := 14) (by decide +kernel), List.mem_of_getElem? (i := 357) (by decide +kernel), List.mem_of_getElem? (i := 358) (by decide +kernel)⟩
theorem lw_p31 : lw_okq (⟨"java/lang/Throwable", "fillInStackTrace", "(I)Ljava/lang/Throwable;"⟩, 6) := ⟨⟨by decide +kernel, by decide +kernel⟩, List.mem_of_getElem? (i := 411) (by decide +kernel), List.mem_of_getElem? (i := 409) (by decide +kernel), List.mem_of_getElem? (i := 410) (by decide +kernel)⟩
def lw_privs_2 : List (MethodName × Nat) := [(⟨"ObjectRows", "readableString", "(I)Z"⟩, 10), (⟨"ObjectRows", "orderOfBytes", "(II)I"⟩, 10), (⟨"ObjectRows", "elementOf", "(II)I"⟩, 10), (⟨"ObjectRows", "nameOf", "(I)I"⟩, 10), (⟨"ObjectRows", "numberInTens", "(I)I"⟩, 10), (⟨"ObjectRows", "alikeButStrings", "(II)Z"⟩, 10), (⟨"ObjectRows", "alikeOfKind", "(III)Z"⟩, 10), (⟨"ObjectRows", "keyFor", "(I)I"⟩, 10), (⟨"ObjectRows", "placeOf", "(II)I"⟩, 10), (⟨"ObjectRows", "keyCell", "(II)I"⟩, 10), (⟨"ObjectRows", "alikeKeys", "(II)Z"⟩, 10), (⟨"ObjectRows", "addKey", "(II)I"⟩, 10), (⟨"ObjectRows", "grow", "(I)Z"⟩, 10), (⟨"ObjectRows", "valueCell", "(II)I"⟩, 10), (⟨"ObjectRows", "keptBy", "(I)LObjectRows$Changing;"⟩, 10), (⟨"java/lang/Throwable", "fillInStackTrace", "(I)Ljava/lang/Throwable;"⟩, 6)]
theorem lw_r2 : ∀ q ∈ lw_privs_2, lw_okq q := List.forall_mem_cons.mpr ⟨lw_p16, List.forall_mem_cons.mpr ⟨lw_p17, List.forall_mem_cons.mpr ⟨lw_p18, List.forall_mem_cons.mpr ⟨lw_p19, List.forall_mem_cons.mpr ⟨lw_p20, List.forall_mem_cons.mpr ⟨lw_p21, List.forall_mem_cons.mpr ⟨lw_p22, List.forall_mem_cons.mpr ⟨lw_p23, List.forall_mem_cons.mpr ⟨lw_p24, List.forall_mem_cons.mpr ⟨lw_p25, List.forall_mem_cons.mpr ⟨lw_p26, List.forall_mem_cons.mpr ⟨lw_p27, List.forall_mem_cons.mpr ⟨lw_p28, List.forall_mem_cons.mpr ⟨lw_p29, List.forall_mem_cons.mpr ⟨lw_p30, List.forall_mem_cons.mpr ⟨lw_p31, fun _ h => absurd h List.not_mem_nil⟩⟩⟩⟩⟩⟩⟩⟩⟩⟩⟩⟩⟩⟩⟩⟩
theorem lw_p32 : lw_okq (⟨"ObjectRowsModel", "isSize", "(II)Z"⟩, 19) := ⟨⟨by decide +kernel, by decide +kernel⟩, List.mem_of_getElem? (i := 444) (by decide +kernel), List.mem_of_getElem? (i := 521) (by decide +kernel), List.mem_of_getElem? (i := 522) (by decide +kernel)⟩
theorem lw_p33 : lw_okq (⟨"ObjectRowsModel", "copy", "(II)V"⟩, 19) := ⟨⟨by decide +kernel, by decide +kernel⟩, List.mem_of_getElem? (i := 444) (by decide +kernel), List.mem_of_getElem? (i := 525) (by decide +kernel), List.mem_of_getElem? (i := 526) (by decide +kernel)⟩
theorem lw_p34 : lw_okq (⟨"ObjectRowsModel", "blank", "(II)V"⟩, 19) := ⟨⟨by decide +kernel, by decide +kernel⟩, List.mem_of_getElem? (i := 444) (by decide +kernel), List.mem_of_getElem? (i := 529) (by decide +kernel), List.mem_of_getElem? (i := 530) (by decide +kernel)⟩
theorem lw_p35 : lw_okq (⟨"ObjectRowsModel", "isObject", "(I)Z"⟩, 19) := ⟨⟨by decide +kernel, by decide +kernel⟩, List.mem_of_getElem? (i := 444) (by decide +kernel), List.mem_of_getElem? (i := 537) (by decide +kernel), List.mem_of_getElem? (i := 538) (by decide +kernel)⟩
theorem lw_p36 : lw_okq (⟨"ObjectRowsModel", "accessOf", "(I)I"⟩, 19) := ⟨⟨by decide +kernel, by decide +kernel⟩, List.mem_of_getElem? (i := 444) (by decide +kernel), List.mem_of_getElem? (i := 541) (by decide +kernel), List.mem_of_getElem? (i := 542) (by decide +kernel)⟩
theorem lw_p37 : lw_okq (⟨"ObjectRowsModel", "holder", "(I)I"⟩, 19) := ⟨⟨by decide +kernel, by decide +kernel⟩, List.mem_of_getElem? (i := 444) (by decide +kernel), List.mem_of_getElem? (i := 545) (by decide +kernel), List.mem_of_getElem? (i := 546) (by decide +kernel)⟩
theorem lw_p38 : lw_okq (⟨"ObjectRowsModel", "isView", "(I)Z"⟩, 19) := ⟨⟨by decide +kernel, by decide +kernel⟩, List.mem_of_getElem? (i := 444) (by decide +kernel), List.mem_of_getElem? (i := 553) (by decide +kernel), List.mem_of_getElem? (i := 554) (by decide +kernel)⟩
theorem lw_p39 : lw_okq (⟨"ObjectRowsModel", "byteOf", "(II)I"⟩, 19) := ⟨⟨by decide +kernel, by decide +kernel⟩, List.mem_of_getElem? (i := 444) (by decide +kernel), List.mem_of_getElem? (i := 557) (by decide +kernel), List.mem_of_getElem? (i := 558) (by decide +kernel)⟩
theorem lw_p40 : lw_okq (⟨"ObjectRowsModel", "hasAccess", "(I)Z"⟩, 19) := ⟨⟨by decide +kernel, by decide +kernel⟩, List.mem_of_getElem? (i := 444) (by decide +kernel), List.mem_of_getElem? (i := 569) (by decide +kernel), List.mem_of_getElem? (i := 570) (by decide +kernel)⟩
theorem lw_p41 : lw_okq (⟨"ObjectRowsModel", "order", "(II)I"⟩, 19) := ⟨⟨by decide +kernel, by decide +kernel⟩, List.mem_of_getElem? (i := 444) (by decide +kernel), List.mem_of_getElem? (i := 581) (by decide +kernel), List.mem_of_getElem? (i := 582) (by decide +kernel)⟩
theorem lw_p42 : lw_okq (⟨"ObjectRowsModel", "code", "(I)J"⟩, 19) := ⟨⟨by decide +kernel, by decide +kernel⟩, List.mem_of_getElem? (i := 444) (by decide +kernel), List.mem_of_getElem? (i := 585) (by decide +kernel), List.mem_of_getElem? (i := 586) (by decide +kernel)⟩
theorem lw_p43 : lw_okq (⟨"ObjectRowsModel", "nameOf", "(I)I"⟩, 19) := ⟨⟨by decide +kernel, by decide +kernel⟩, List.mem_of_getElem? (i := 444) (by decide +kernel), List.mem_of_getElem? (i := 593) (by decide +kernel), List.mem_of_getElem? (i := 594) (by decide +kernel)⟩
theorem lw_p44 : lw_okq (⟨"ObjectRowsModel", "isKey", "(I)Z"⟩, 19) := ⟨⟨by decide +kernel, by decide +kernel⟩, List.mem_of_getElem? (i := 444) (by decide +kernel), List.mem_of_getElem? (i := 610) (by decide +kernel), List.mem_of_getElem? (i := 611) (by decide +kernel)⟩
theorem lw_p45 : lw_okq (⟨"ObjectRowsModel", "placeOf", "(IJ)I"⟩, 19) := ⟨⟨by decide +kernel, by decide +kernel⟩, List.mem_of_getElem? (i := 444) (by decide +kernel), List.mem_of_getElem? (i := 614) (by decide +kernel), List.mem_of_getElem? (i := 615) (by decide +kernel)⟩
def lw_privs_3 : List (MethodName × Nat) := [(⟨"ObjectRowsModel", "isSize", "(II)Z"⟩, 19), (⟨"ObjectRowsModel", "copy", "(II)V"⟩, 19), (⟨"ObjectRowsModel", "blank", "(II)V"⟩, 19), (⟨"ObjectRowsModel", "isObject", "(I)Z"⟩, 19), (⟨"ObjectRowsModel", "accessOf", "(I)I"⟩, 19), (⟨"ObjectRowsModel", "holder", "(I)I"⟩, 19), (⟨"ObjectRowsModel", "isView", "(I)Z"⟩, 19), (⟨"ObjectRowsModel", "byteOf", "(II)I"⟩, 19), (⟨"ObjectRowsModel", "hasAccess", "(I)Z"⟩, 19), (⟨"ObjectRowsModel", "order", "(II)I"⟩, 19), (⟨"ObjectRowsModel", "code", "(I)J"⟩, 19), (⟨"ObjectRowsModel", "nameOf", "(I)I"⟩, 19), (⟨"ObjectRowsModel", "isKey", "(I)Z"⟩, 19), (⟨"ObjectRowsModel", "placeOf", "(IJ)I"⟩, 19)]
theorem lw_r3 : ∀ q ∈ lw_privs_3, lw_okq q := List.forall_mem_cons.mpr ⟨lw_p32, List.forall_mem_cons.mpr ⟨lw_p33, List.forall_mem_cons.mpr ⟨lw_p34, List.forall_mem_cons.mpr ⟨lw_p35, List.forall_mem_cons.mpr ⟨lw_p36, List.forall_mem_cons.mpr ⟨lw_p37, List.forall_mem_cons.mpr ⟨lw_p38, List.forall_mem_cons.mpr ⟨lw_p39, List.forall_mem_cons.mpr ⟨lw_p40, List.forall_mem_cons.mpr ⟨lw_p41, List.forall_mem_cons.mpr ⟨lw_p42, List.forall_mem_cons.mpr ⟨lw_p43, List.forall_mem_cons.mpr ⟨lw_p44, List.forall_mem_cons.mpr ⟨lw_p45, fun _ h => absurd h List.not_mem_nil⟩⟩⟩⟩⟩⟩⟩⟩⟩⟩⟩⟩⟩⟩
def lw_privs : List (MethodName × Nat) := lw_privs_1 ++ (lw_privs_2 ++ (lw_privs_3))
def lw_tbl : List Cond := k2_sels lw_privs ++ tables_1
theorem lw_privs_ok : ∀ q ∈ lw_privs, lw_okq q := by
  show ∀ q ∈ lw_privs_1 ++ (lw_privs_2 ++ (lw_privs_3)), lw_okq q
  exact List.forall_mem_append.mpr ⟨lw_r1, List.forall_mem_append.mpr ⟨lw_r2, lw_r3⟩⟩
end
section
/-! ===== BEGIN words of one list among another's, by their places ===== -/
theorem goodIn_r {big : List Cond} (ws : List Cond) (ps : List Nat) (hp : ws = ps.filterMap (fun i => big[i]?)) (h : ws.all goodWord = true) : GoodIn big ws := by
  intro w hw
  have h1 := List.all_eq_true.mp h w hw
  rw [hp] at hw
  obtain ⟨i, -, hi⟩ := List.mem_filterMap.mp hw
  have hm : w ∈ big := by first | exact List.mem_of_getElem? hi | exact List.getElem?_mem hi
  exact ⟨hm, good_of_word h1⟩
theorem goodIn_app {big a b : List Cond} (ha : GoodIn big a) (hb : GoodIn big b) : GoodIn big (a ++ b) := fun w h => (List.mem_append.mp h).elim (ha w) (hb w)
theorem goodIn_ca {big a b : List Cond} {c : Cond} (ha : GoodIn big (c :: a)) (hb : GoodIn big b) : GoodIn big (c :: (a ++ b)) := fun w h => (List.mem_cons.mp h).elim (fun e => ha w (List.mem_cons.mpr (Or.inl e))) (fun h => (List.mem_append.mp h).elim (fun h => ha w (List.mem_cons.mpr (Or.inr h))) (hb w))
theorem goodIn_sub {big ws : List Cond} (hm : ∀ w ∈ ws, w ∈ big) (h : ws.all goodWord = true) : GoodIn big ws := fun w hw => ⟨hm w hw, good_of_word (List.all_eq_true.mp h w hw)⟩
/-! ===== END ===== -/

/-! ===== BEGIN printed: names, fields, word lists, decode rows ===== -/
def RX0 : String := "ObjectRows$Changing"
def TX0 : u_T := fun k => match k with
  | 0 => ("ObjectRows$Changing", "executables", "LObjectRows$Row;", true)
  | 1 => ("ObjectRows$Changing", "accesses", "LObjectRows$Row;", true)
  | 2 => ("ObjectRows$Changing", "capacities", "LObjectRows$Row;", true)
  | 3 => ("ObjectRows$Changing", "entries", "LObjectRows$Row;", true)
  | 4 => ("ObjectRows$Changing", "growths", "LObjectRows$Row;", true)
  | 5 => ("ObjectRows$Changing", "elements", "LObjectRows$Row;", true)
  | _ => ("ObjectRows$Changing", "storage", "I", false)
def tyX0 : Nat → FieldType := fun k => match k with
  | 0 => .object "ObjectRows$Row"
  | 1 => .object "ObjectRows$Row"
  | 2 => .object "ObjectRows$Row"
  | 3 => .object "ObjectRows$Row"
  | 4 => .object "ObjectRows$Row"
  | 5 => .object "ObjectRows$Row"
  | _ => .int
abbrev wsX00 : List Cond := u_ws RX0 TX0 7
theorem nmX0 : ∀ a, a < 7 → ∀ b, b < 7 → a ≠ b → (TX0 a).2.1 ≠ (TX0 b).2.1 := by decide +kernel
theorem tyX0_ok : ∀ k, k < 7 → parseFieldDescriptor (TX0 k).2.2.1 = some (tyX0 k) := by decide +kernel
abbrev cX0_init : ByteArray := prog_2_method_1_code
def yX0_init : MethodName := ⟨RX0, "<init>", "()V"⟩
abbrev cX0_addCells : ByteArray := prog_2_method_2_code
def yX0_addCells : MethodName := ⟨RX0, "addCells", "(I)V"⟩
abbrev cX0_become : ByteArray := prog_2_method_3_code
def yX0_become : MethodName := ⟨RX0, "become", "(LObjectRows$Changing;)V"⟩
def RX1 : String := "ObjectRows$Row"
def TX1 : u_T := fun k => match k with
  | 0 => ("ObjectRows$Row", "cells", "[I", false)
  | _ => ("ObjectRows$Row", "size", "I", false)
def tyX1 : Nat → FieldType := fun k => match k with
  | 0 => .array .int
  | _ => .int
abbrev wsX10 : List Cond := u_ws RX1 TX1 2
theorem nmX1 : ∀ a, a < 2 → ∀ b, b < 2 → a ≠ b → (TX1 a).2.1 ≠ (TX1 b).2.1 := by decide +kernel
theorem tyX1_ok : ∀ k, k < 2 → parseFieldDescriptor (TX1 k).2.2.1 = some (tyX1 k) := by decide +kernel
abbrev cX1_init : ByteArray := prog_3_method_1_code
def yX1_init : MethodName := ⟨RX1, "<init>", "()V"⟩
abbrev cX1_size : ByteArray := prog_3_method_2_code
def yX1_size : MethodName := ⟨RX1, "size", "()I"⟩
abbrev cX1_at : ByteArray := prog_3_method_3_code
def yX1_at : MethodName := ⟨RX1, "at", "(I)I"⟩
abbrev cX1_set : ByteArray := prog_3_method_4_code
def yX1_set : MethodName := ⟨RX1, "set", "(II)V"⟩
abbrev cX1_add : ByteArray := prog_3_method_5_code
def yX1_add : MethodName := ⟨RX1, "add", "(I)V"⟩
abbrev cX1_addZeros : ByteArray := prog_3_method_6_code
def yX1_addZeros : MethodName := ⟨RX1, "addZeros", "(I)I"⟩
abbrev cX1_cut : ByteArray := prog_3_method_7_code
def yX1_cut : MethodName := ⟨RX1, "cut", "(I)V"⟩
abbrev cX1_become : ByteArray := prog_3_method_8_code
def yX1_become : MethodName := ⟨RX1, "become", "(LObjectRows$Row;)V"⟩
abbrev cX1_reach : ByteArray := prog_3_method_9_code
def yX1_reach : MethodName := ⟨RX1, "reach", "(I)V"⟩
def RX2 : String := "ObjectRows"
def TX2 : u_T := fun k => match k with
  | 0 => ("ObjectRows", "kinds", "LObjectRows$Row;", true)
  | 1 => ("ObjectRows", "numbers", "LObjectRows$Row;", true)
  | 2 => ("ObjectRows", "owners", "LObjectRows$Row;", true)
  | 3 => ("ObjectRows", "starts", "LObjectRows$Row;", true)
  | 4 => ("ObjectRows", "lengths", "LObjectRows$Row;", true)
  | 5 => ("ObjectRows", "bytes", "LObjectRows$Row;", true)
  | 6 => ("ObjectRows", "now", "LObjectRows$Changing;", true)
  | 7 => ("ObjectRows", "kept", "[LObjectRows$Changing;", true)
  | 8 => ("ObjectRows", "count", "I", false)
  | _ => ("ObjectRows", "saves", "I", false)
def tyX2 : Nat → FieldType := fun k => match k with
  | 0 => .object "ObjectRows$Row"
  | 1 => .object "ObjectRows$Row"
  | 2 => .object "ObjectRows$Row"
  | 3 => .object "ObjectRows$Row"
  | 4 => .object "ObjectRows$Row"
  | 5 => .object "ObjectRows$Row"
  | 6 => .object "ObjectRows$Changing"
  | 7 => .array (.object "ObjectRows$Changing")
  | 8 => .int
  | _ => .int
abbrev wsX20 : List Cond := u_ws RX2 TX2 10
theorem nmX2 : ∀ a, a < 10 → ∀ b, b < 10 → a ≠ b → (TX2 a).2.1 ≠ (TX2 b).2.1 := by decide +kernel
theorem tyX2_ok : ∀ k, k < 10 → parseFieldDescriptor (TX2 k).2.2.1 = some (tyX2 k) := by decide +kernel
abbrev cX2_init : ByteArray := prog_1_method_1_code
def yX2_init : MethodName := ⟨RX2, "<init>", "()V"⟩
abbrev cX2_make : ByteArray := prog_1_method_2_code
def yX2_make : MethodName := ⟨RX2, "make", "(II)I"⟩
abbrev cX2_put : ByteArray := prog_1_method_3_code
def yX2_put : MethodName := ⟨RX2, "put", "(III)I"⟩
abbrev cX2_get : ByteArray := prog_1_method_4_code
def yX2_get : MethodName := ⟨RX2, "get", "(II)I"⟩
abbrev cX2_part : ByteArray := prog_1_method_5_code
def yX2_part : MethodName := ⟨RX2, "part", "(III)I"⟩
abbrev cX2_attribute : ByteArray := prog_1_method_6_code
def yX2_attribute : MethodName := ⟨RX2, "attribute", "(III)I"⟩
abbrev cX2_told : ByteArray := prog_1_method_7_code
def yX2_told : MethodName := ⟨RX2, "told", "(II)I"⟩
abbrev cX2_same : ByteArray := prog_1_method_8_code
def yX2_same : MethodName := ⟨RX2, "same", "(II)Z"⟩
abbrev cX2_compare : ByteArray := prog_1_method_9_code
def yX2_compare : MethodName := ⟨RX2, "compare", "(II)I"⟩
abbrev cX2_length : ByteArray := prog_1_method_10_code
def yX2_length : MethodName := ⟨RX2, "length", "(I)I"⟩
abbrev cX2_entry : ByteArray := prog_1_method_11_code
def yX2_entry : MethodName := ⟨RX2, "entry", "(III)I"⟩
abbrev cX2_look : ByteArray := prog_1_method_12_code
def yX2_look : MethodName := ⟨RX2, "look", "(II)I"⟩
abbrev cX2_kind : ByteArray := prog_1_method_13_code
def yX2_kind : MethodName := ⟨RX2, "kind", "(I)I"⟩
abbrev cX2_used : ByteArray := prog_1_method_14_code
def yX2_used : MethodName := ⟨RX2, "used", "()I"⟩
abbrev cX2_restore : ByteArray := prog_1_method_15_code
def yX2_restore : MethodName := ⟨RX2, "restore", "(I)I"⟩
abbrev cX2_known : ByteArray := prog_1_method_16_code
def yX2_known : MethodName := ⟨RX2, "known", "(I)Z"⟩
abbrev cX2_within : ByteArray := prog_1_method_17_code
def yX2_within : MethodName := ⟨RX2, "within", "(II)Z"⟩
abbrev cX2_sizeFits : ByteArray := prog_1_method_18_code
def yX2_sizeFits : MethodName := ⟨RX2, "sizeFits", "(II)Z"⟩
abbrev cX2_isView : ByteArray := prog_1_method_19_code
def yX2_isView : MethodName := ⟨RX2, "isView", "(I)Z"⟩
abbrev cX2_isList : ByteArray := prog_1_method_20_code
def yX2_isList : MethodName := ⟨RX2, "isList", "(I)Z"⟩
abbrev cX2_hasNumber : ByteArray := prog_1_method_21_code
def yX2_hasNumber : MethodName := ⟨RX2, "hasNumber", "(I)Z"⟩
abbrev cX2_firstAccess : ByteArray := prog_1_method_22_code
def yX2_firstAccess : MethodName := ⟨RX2, "firstAccess", "(I)I"⟩
abbrev cX2_placeStorage : ByteArray := prog_1_method_23_code
def yX2_placeStorage : MethodName := ⟨RX2, "placeStorage", "(I)I"⟩
abbrev cX2_addObject : ByteArray := prog_1_method_24_code
def yX2_addObject : MethodName := ⟨RX2, "addObject", "(IIII)I"⟩
abbrev cX2_makePacked : ByteArray := prog_1_method_25_code
def yX2_makePacked : MethodName := ⟨RX2, "makePacked", "(I)I"⟩
abbrev cX2_makeDictionary : ByteArray := prog_1_method_26_code
def yX2_makeDictionary : MethodName := ⟨RX2, "makeDictionary", "(I)I"⟩
abbrev cX2_makeSave : ByteArray := prog_1_method_27_code
def yX2_makeSave : MethodName := ⟨RX2, "makeSave", "()I"⟩
abbrev cX2_keptBy : ByteArray := prog_1_method_28_code
def yX2_keptBy : MethodName := ⟨RX2, "keptBy", "(I)LObjectRows$Changing;"⟩
abbrev cX2_addPart : ByteArray := prog_1_method_29_code
def yX2_addPart : MethodName := ⟨RX2, "addPart", "(III)I"⟩
abbrev cX2_hasElement : ByteArray := prog_1_method_30_code
def yX2_hasElement : MethodName := ⟨RX2, "hasElement", "(II)Z"⟩
abbrev cX2_hasPart : ByteArray := prog_1_method_31_code
def yX2_hasPart : MethodName := ⟨RX2, "hasPart", "(III)Z"⟩
abbrev cX2_storeRow : ByteArray := prog_1_method_32_code
def yX2_storeRow : MethodName := ⟨RX2, "storeRow", "(I)LObjectRows$Row;"⟩
abbrev cX2_elementOf : ByteArray := prog_1_method_33_code
def yX2_elementOf : MethodName := ⟨RX2, "elementOf", "(II)I"⟩
abbrev cX2_accessHolder : ByteArray := prog_1_method_34_code
def yX2_accessHolder : MethodName := ⟨RX2, "accessHolder", "(I)I"⟩
abbrev cX2_accessOf : ByteArray := prog_1_method_35_code
def yX2_accessOf : MethodName := ⟨RX2, "accessOf", "(I)I"⟩
abbrev cX2_lowerAccess : ByteArray := prog_1_method_36_code
def yX2_lowerAccess : MethodName := ⟨RX2, "lowerAccess", "(II)I"⟩
abbrev cX2_letGrow : ByteArray := prog_1_method_37_code
def yX2_letGrow : MethodName := ⟨RX2, "letGrow", "(II)I"⟩
abbrev cX2_alike : ByteArray := prog_1_method_38_code
def yX2_alike : MethodName := ⟨RX2, "alike", "(II)Z"⟩
abbrev cX2_alikeButStrings : ByteArray := prog_1_method_39_code
def yX2_alikeButStrings : MethodName := ⟨RX2, "alikeButStrings", "(II)Z"⟩
abbrev cX2_alikeOfKind : ByteArray := prog_1_method_40_code
def yX2_alikeOfKind : MethodName := ⟨RX2, "alikeOfKind", "(III)Z"⟩
abbrev cX2_readableString : ByteArray := prog_1_method_41_code
def yX2_readableString : MethodName := ⟨RX2, "readableString", "(I)Z"⟩
abbrev cX2_order : ByteArray := prog_1_method_42_code
def yX2_order : MethodName := ⟨RX2, "order", "(II)I"⟩
abbrev cX2_orderOfBytes : ByteArray := prog_1_method_43_code
def yX2_orderOfBytes : MethodName := ⟨RX2, "orderOfBytes", "(II)I"⟩
abbrev cX2_digits : ByteArray := prog_1_method_44_code
def yX2_digits : MethodName := ⟨RX2, "digits", "(I)I"⟩
abbrev cX2_nameOf : ByteArray := prog_1_method_45_code
def yX2_nameOf : MethodName := ⟨RX2, "nameOf", "(I)I"⟩
abbrev cX2_numberInTens : ByteArray := prog_1_method_46_code
def yX2_numberInTens : MethodName := ⟨RX2, "numberInTens", "(I)I"⟩
abbrev cX2_keyFor : ByteArray := prog_1_method_47_code
def yX2_keyFor : MethodName := ⟨RX2, "keyFor", "(I)I"⟩
abbrev cX2_alikeKeys : ByteArray := prog_1_method_48_code
def yX2_alikeKeys : MethodName := ⟨RX2, "alikeKeys", "(II)Z"⟩
abbrev cX2_keyCell : ByteArray := prog_1_method_49_code
def yX2_keyCell : MethodName := ⟨RX2, "keyCell", "(II)I"⟩
abbrev cX2_valueCell : ByteArray := prog_1_method_50_code
def yX2_valueCell : MethodName := ⟨RX2, "valueCell", "(II)I"⟩
abbrev cX2_placeOf : ByteArray := prog_1_method_51_code
def yX2_placeOf : MethodName := ⟨RX2, "placeOf", "(II)I"⟩
abbrev cX2_addKey : ByteArray := prog_1_method_52_code
def yX2_addKey : MethodName := ⟨RX2, "addKey", "(II)I"⟩
abbrev cX2_grow : ByteArray := prog_1_method_53_code
def yX2_grow : MethodName := ⟨RX2, "grow", "(I)Z"⟩
def RX3 : String := "ObjectRowsModel"
def TX3 : u_T := fun k => match k with
  | 0 => ("ObjectRowsModel", "thrown", "I", false)
  | 1 => ("ObjectRowsModel", "many", "I", false)
  | 2 => ("ObjectRowsModel", "used", "I", false)
  | 3 => ("ObjectRowsModel", "saves", "I", false)
  | 4 => ("ObjectRowsModel", "kinds", "[I", true)
  | 5 => ("ObjectRowsModel", "numbers", "[I", true)
  | 6 => ("ObjectRowsModel", "froms", "[I", true)
  | 7 => ("ObjectRowsModel", "lengths", "[I", true)
  | 8 => ("ObjectRowsModel", "bytes", "[B", true)
  | 9 => ("ObjectRowsModel", "executable", "[Z", true)
  | 10 => ("ObjectRowsModel", "access", "[I", true)
  | 11 => ("ObjectRowsModel", "elements", "[I", true)
  | 12 => ("ObjectRowsModel", "capacities", "[I", true)
  | 13 => ("ObjectRowsModel", "grows", "[Z", true)
  | 14 => ("ObjectRowsModel", "entries", "[I", true)
  | 15 => ("ObjectRowsModel", "keys", "[J", true)
  | 16 => ("ObjectRowsModel", "values", "[I", true)
  | 17 => ("ObjectRowsModel", "saveObject", "[I", true)
  | _ => ("ObjectRowsModel", "saveUsed", "[I", true)
def tyX3 : Nat → FieldType := fun k => match k with
  | 0 => .int
  | 1 => .int
  | 2 => .int
  | 3 => .int
  | 4 => .array .int
  | 5 => .array .int
  | 6 => .array .int
  | 7 => .array .int
  | 8 => .array .byte
  | 9 => .array .boolean
  | 10 => .array .int
  | 11 => .array .int
  | 12 => .array .int
  | 13 => .array .boolean
  | 14 => .array .int
  | 15 => .array .long
  | 16 => .array .int
  | 17 => .array .int
  | _ => .array .int
abbrev wsX30 : List Cond := u_ws RX3 TX3 19
theorem nmX3 : ∀ a, a < 19 → ∀ b, b < 19 → a ≠ b → (TX3 a).2.1 ≠ (TX3 b).2.1 := by decide +kernel
theorem tyX3_ok : ∀ k, k < 19 → parseFieldDescriptor (TX3 k).2.2.1 = some (tyX3 k) := by decide +kernel
abbrev cX3_init : ByteArray := prog_5_method_1_code
def yX3_init : MethodName := ⟨RX3, "<init>", "()V"⟩
abbrev cX3_thrown : ByteArray := prog_5_method_2_code
def yX3_thrown : MethodName := ⟨RX3, "thrown", "()I"⟩
abbrev cX3_isObject : ByteArray := prog_5_method_3_code
def yX3_isObject : MethodName := ⟨RX3, "isObject", "(I)Z"⟩
abbrev cX3_within : ByteArray := prog_5_method_4_code
def yX3_within : MethodName := ⟨RX3, "within", "(III)Z"⟩
abbrev cX3_isView : ByteArray := prog_5_method_5_code
def yX3_isView : MethodName := ⟨RX3, "isView", "(I)Z"⟩
abbrev cX3_holder : ByteArray := prog_5_method_6_code
def yX3_holder : MethodName := ⟨RX3, "holder", "(I)I"⟩
abbrev cX3_hasAccess : ByteArray := prog_5_method_7_code
def yX3_hasAccess : MethodName := ⟨RX3, "hasAccess", "(I)Z"⟩
abbrev cX3_accessOf : ByteArray := prog_5_method_8_code
def yX3_accessOf : MethodName := ⟨RX3, "accessOf", "(I)I"⟩
abbrev cX3_isSize : ByteArray := prog_5_method_9_code
def yX3_isSize : MethodName := ⟨RX3, "isSize", "(II)Z"⟩
abbrev cX3_blank : ByteArray := prog_5_method_10_code
def yX3_blank : MethodName := ⟨RX3, "blank", "(II)V"⟩
abbrev cX3_make : ByteArray := prog_5_method_11_code
def yX3_make : MethodName := ⟨RX3, "make", "(II)I"⟩
abbrev cX3_put : ByteArray := prog_5_method_12_code
def yX3_put : MethodName := ⟨RX3, "put", "(III)I"⟩
abbrev cX3_byteOf : ByteArray := prog_5_method_13_code
def yX3_byteOf : MethodName := ⟨RX3, "byteOf", "(II)I"⟩
abbrev cX3_get : ByteArray := prog_5_method_14_code
def yX3_get : MethodName := ⟨RX3, "get", "(II)I"⟩
abbrev cX3_part : ByteArray := prog_5_method_15_code
def yX3_part : MethodName := ⟨RX3, "part", "(III)I"⟩
abbrev cX3_attribute : ByteArray := prog_5_method_16_code
def yX3_attribute : MethodName := ⟨RX3, "attribute", "(III)I"⟩
abbrev cX3_told : ByteArray := prog_5_method_17_code
def yX3_told : MethodName := ⟨RX3, "told", "(II)I"⟩
abbrev cX3_nameOf : ByteArray := prog_5_method_18_code
def yX3_nameOf : MethodName := ⟨RX3, "nameOf", "(I)I"⟩
abbrev cX3_coded : ByteArray := prog_5_method_19_code
def yX3_coded : MethodName := ⟨RX3, "coded", "(II)J"⟩
abbrev cX3_code : ByteArray := prog_5_method_20_code
def yX3_code : MethodName := ⟨RX3, "code", "(I)J"⟩
abbrev cX3_order : ByteArray := prog_5_method_21_code
def yX3_order : MethodName := ⟨RX3, "order", "(II)I"⟩
abbrev cX3_same : ByteArray := prog_5_method_22_code
def yX3_same : MethodName := ⟨RX3, "same", "(II)Z"⟩
abbrev cX3_compare : ByteArray := prog_5_method_23_code
def yX3_compare : MethodName := ⟨RX3, "compare", "(II)I"⟩
abbrev cX3_length : ByteArray := prog_5_method_24_code
def yX3_length : MethodName := ⟨RX3, "length", "(I)I"⟩
abbrev cX3_placeOf : ByteArray := prog_5_method_25_code
def yX3_placeOf : MethodName := ⟨RX3, "placeOf", "(IJ)I"⟩
abbrev cX3_isKey : ByteArray := prog_5_method_26_code
def yX3_isKey : MethodName := ⟨RX3, "isKey", "(I)Z"⟩
abbrev cX3_entry : ByteArray := prog_5_method_27_code
def yX3_entry : MethodName := ⟨RX3, "entry", "(III)I"⟩
abbrev cX3_look : ByteArray := prog_5_method_28_code
def yX3_look : MethodName := ⟨RX3, "look", "(II)I"⟩
abbrev cX3_kind : ByteArray := prog_5_method_29_code
def yX3_kind : MethodName := ⟨RX3, "kind", "(I)I"⟩
abbrev cX3_used : ByteArray := prog_5_method_30_code
def yX3_used : MethodName := ⟨RX3, "used", "()I"⟩
abbrev cX3_copy : ByteArray := prog_5_method_31_code
def yX3_copy : MethodName := ⟨RX3, "copy", "(II)V"⟩
abbrev cX3_restore : ByteArray := prog_5_method_32_code
def yX3_restore : MethodName := ⟨RX3, "restore", "(I)I"⟩
def RJx00060 : String := "java/lang/ArrayIndexOutOfBoundsException"
def TJx00060 : u_T := fun k => match k with
  | 0 => ("java/lang/Throwable", "cause", "Ljava/lang/Throwable;", false)
  | 1 => ("java/lang/Throwable", "stackTrace", "[Ljava/lang/StackTraceElement;", false)
  | 2 => ("java/lang/Throwable", "suppressedExceptions", "Ljava/util/List;", false)
  | 3 => ("java/lang/Throwable", "detailMessage", "Ljava/lang/String;", false)
  | 4 => ("java/lang/Throwable", "backtrace", "Ljava/lang/Object;", false)
  | _ => ("java/lang/Throwable", "depth", "I", false)
def tyJx00060 : Nat → FieldType := fun k => match k with
  | 0 => .object "java/lang/Throwable"
  | 1 => .array (.object "java/lang/StackTraceElement")
  | 2 => .object "java/util/List"
  | 3 => .object "java/lang/String"
  | 4 => .object "java/lang/Object"
  | _ => .int
abbrev wsJx000600 : List Cond := u_ws RJx00060 TJx00060 6
theorem nmJx00060 : ∀ a, a < 6 → ∀ b, b < 6 → a ≠ b → (TJx00060 a).2.1 ≠ (TJx00060 b).2.1 := by decide +kernel
theorem tyJx00060_ok : ∀ k, k < 6 → parseFieldDescriptor (TJx00060 k).2.2.1 = some (tyJx00060 k) := by decide +kernel
abbrev cJx00060_init_a7421 : ByteArray := prog_6_method_2_code
def yJx00060_init_a7421 : MethodName := ⟨RJx00060, "<init>", "(Ljava/lang/String;)V"⟩
def RJx8e188 : String := "java/lang/Cloneable"
def TJx8e188 : u_T := fun k => match k with
  | _ => ("", "", "", false)
def tyJx8e188 : Nat → FieldType := fun k => match k with
  | _ => .int
abbrev wsJx8e1880 : List Cond := u_ws RJx8e188 TJx8e188 0
theorem nmJx8e188 : ∀ a, a < 0 → ∀ b, b < 0 → a ≠ b → (TJx8e188 a).2.1 ≠ (TJx8e188 b).2.1 := by decide +kernel
theorem tyJx8e188_ok : ∀ k, k < 0 → parseFieldDescriptor (TJx8e188 k).2.2.1 = some (tyJx8e188 k) := by decide +kernel
def RJ9 : String := "java/lang/Math"
def TJ9 : u_T := fun k => match k with
  | _ => ("", "", "", false)
def tyJ9 : Nat → FieldType := fun k => match k with
  | _ => .int
abbrev wsJ90 : List Cond := u_ws RJ9 TJ9 0
theorem nmJ9 : ∀ a, a < 0 → ∀ b, b < 0 → a ≠ b → (TJ9 a).2.1 ≠ (TJ9 b).2.1 := by decide +kernel
theorem tyJ9_ok : ∀ k, k < 0 → parseFieldDescriptor (TJ9 k).2.2.1 = some (tyJ9 k) := by decide +kernel
abbrev cJ9_max_7cf53 : ByteArray := prog_10_method_65_code
def yJ9_max_7cf53 : MethodName := ⟨RJ9, "max", "(II)I"⟩
abbrev cJ9_min_7cf53 : ByteArray := prog_10_method_69_code
def yJ9_min_7cf53 : MethodName := ⟨RJ9, "min", "(II)I"⟩
def RJ0 : String := "java/lang/String"
def TJ0 : u_T := fun k => match k with
  | _ => ("", "", "", false)
def tyJ0 : Nat → FieldType := fun k => match k with
  | _ => .int
abbrev wsJ00 : List Cond := u_ws RJ0 TJ0 0
theorem nmJ0 : ∀ a, a < 0 → ∀ b, b < 0 → a ≠ b → (TJ0 a).2.1 ≠ (TJ0 b).2.1 := by decide +kernel
theorem tyJ0_ok : ∀ k, k < 0 → parseFieldDescriptor (TJ0 k).2.2.1 = some (tyJ0 k) := by decide +kernel
def RJ10 : String := "java/lang/System"
def TJ10 : u_T := fun k => match k with
  | _ => ("", "", "", false)
def tyJ10 : Nat → FieldType := fun k => match k with
  | _ => .int
abbrev wsJ100 : List Cond := u_ws RJ10 TJ10 0
theorem nmJ10 : ∀ a, a < 0 → ∀ b, b < 0 → a ≠ b → (TJ10 a).2.1 ≠ (TJ10 b).2.1 := by decide +kernel
theorem tyJ10_ok : ∀ k, k < 0 → parseFieldDescriptor (TJ10 k).2.2.1 = some (tyJ10 k) := by decide +kernel
def RJ7 : String := "java/util/Arrays"
def TJ7 : u_T := fun k => match k with
  | _ => ("", "", "", false)
def tyJ7 : Nat → FieldType := fun k => match k with
  | _ => .int
abbrev wsJ70 : List Cond := u_ws RJ7 TJ7 0
theorem nmJ7 : ∀ a, a < 0 → ∀ b, b < 0 → a ≠ b → (TJ7 a).2.1 ≠ (TJ7 b).2.1 := by decide +kernel
theorem tyJ7_ok : ∀ k, k < 0 → parseFieldDescriptor (TJ7 k).2.2.1 = some (tyJ7 k) := by decide +kernel
abbrev cJ7_copyOf_59c91 : ByteArray := prog_15_method_123_code
def yJ7_copyOf_59c91 : MethodName := ⟨RJ7, "copyOf", "([II)[I"⟩
def RL : String := "ObjectRowsLaw"
abbrev cL_get : ByteArray := method_3_code
def yL_get : MethodName := ⟨RL, "get", "(LObjectRows;II[J)I"⟩
abbrev cL_law : ByteArray := code
def yL_law : MethodName := ⟨RL, "law", "([I)Z"⟩
def wsX1_init : List Cond := .code yX1_init cX1_init 1 none :: ([.methodLink RX1 1 objectInit, .instanceMethod objectInit, .code objectInit ⟨#[0xb1]⟩ 1 none, .arrayClass .int, .fieldLink RX1 9 "ObjectRows$Row" "cells" "[I"] ++ wsX10)
def wsX0_init : List Cond := .code yX0_init cX0_init 1 none :: ([.methodLink RX0 1 objectInit, .instanceMethod objectInit, .code objectInit ⟨#[0xb1]⟩ 1 none, .classLink RX0 7 RX1, .instantiable RX1 2, .initialized RX1, .fieldLink RX0 10 "ObjectRows$Changing" "executables" "LObjectRows$Row;", .fieldLink RX0 16 "ObjectRows$Changing" "accesses" "LObjectRows$Row;", .fieldLink RX0 19 "ObjectRows$Changing" "capacities" "LObjectRows$Row;", .fieldLink RX0 22 "ObjectRows$Changing" "entries" "LObjectRows$Row;", .fieldLink RX0 25 "ObjectRows$Changing" "growths" "LObjectRows$Row;", .fieldLink RX0 28 "ObjectRows$Changing" "elements" "LObjectRows$Row;", .instanceMethod yX1_init, .code yX1_init cX1_init 1 none, .methodLink RX1 1 objectInit, .arrayClass .int, .fieldLink RX1 9 "ObjectRows$Row" "cells" "[I"] ++ wsX10 ++ wsX00)
def wsJ7_copyOf_59c91 : List Cond := .code yJ7_copyOf_59c91 cJ7_copyOf_59c91 3 (some (.array .int)) :: ([.methodLink RJ7 316 ⟨"[I", "clone", "()Ljava/lang/Object;"⟩, .sameMethod "[I" "java/lang/Object" "clone" "()Ljava/lang/Object;", .native ⟨"java/lang/Object", "clone", "()Ljava/lang/Object;"⟩, .instanceMethod ⟨"java/lang/Object", "clone", "()Ljava/lang/Object;"⟩, .selects "[I" ⟨"[I", "clone", "()Ljava/lang/Object;"⟩ ⟨"java/lang/Object", "clone", "()Ljava/lang/Object;"⟩, .classLink RJ7 317 "[I", .arrayClass .int, .methodLink RJ7 304 Lib.Math.min.name, .static Lib.Math.min.name, .initialized "java/lang/Math", .code Lib.Math.min.name Lib.Math.min.code 2 (some .int), .methodLink RJ7 150 arraycopyName, .native arraycopyName, .static arraycopyName, .initialized "java/lang/System"])
def wsX1_reach : List Cond := .code yX1_reach cX1_reach 2 none :: ([.fieldLink RX1 9 "ObjectRows$Row" "cells" "[I", .methodLink RX1 37 Lib.Math.max.name, .static Lib.Math.max.name, .initialized "java/lang/Math", .code Lib.Math.max.name Lib.Math.max.code 2 (some .int), .methodLink RX1 40 yJ7_copyOf_59c91, .static yJ7_copyOf_59c91, .initialized RJ7, .code yJ7_copyOf_59c91 cJ7_copyOf_59c91 3 (some (.array .int)), .methodLink RJ7 316 ⟨"[I", "clone", "()Ljava/lang/Object;"⟩, .sameMethod "[I" "java/lang/Object" "clone" "()Ljava/lang/Object;", .native ⟨"java/lang/Object", "clone", "()Ljava/lang/Object;"⟩, .instanceMethod ⟨"java/lang/Object", "clone", "()Ljava/lang/Object;"⟩, .selects "[I" ⟨"[I", "clone", "()Ljava/lang/Object;"⟩ ⟨"java/lang/Object", "clone", "()Ljava/lang/Object;"⟩, .classLink RJ7 317 "[I", .arrayClass .int, .methodLink RJ7 304 Lib.Math.min.name, .static Lib.Math.min.name, .code Lib.Math.min.name Lib.Math.min.code 2 (some .int), .methodLink RJ7 150 arraycopyName, .native arraycopyName, .static arraycopyName, .initialized "java/lang/System"] ++ wsX10)
def wsX1_set : List Cond := .code yX1_set cX1_set 3 none :: ([.fieldLink RX1 9 "ObjectRows$Row" "cells" "[I"] ++ wsX10)
def wsX1_add_r1 : List Cond := [Cond.fieldLink RX1 13 "ObjectRows$Row" "size" "I", Cond.methodLink RX1 17 yX1_reach, Cond.instanceMethod yX1_reach, Cond.selects RX1 yX1_reach yX1_reach, Cond.initialized RX1, Cond.code yX1_reach cX1_reach 2 none, Cond.fieldLink RX1 9 "ObjectRows$Row" "cells" "[I", Cond.methodLink RX1 37 Lib.Math.max.name, Cond.static Lib.Math.max.name, Cond.initialized "java/lang/Math", Cond.code Lib.Math.max.name Lib.Math.max.code 2 (some .int), Cond.methodLink RX1 40 yJ7_copyOf_59c91, Cond.static yJ7_copyOf_59c91, Cond.initialized RJ7, Cond.code yJ7_copyOf_59c91 cJ7_copyOf_59c91 3 (some (.array .int)), Cond.methodLink RJ7 316 ⟨"[I", "clone", "()Ljava/lang/Object;"⟩, Cond.sameMethod "[I" "java/lang/Object" "clone" "()Ljava/lang/Object;", Cond.native ⟨"java/lang/Object", "clone", "()Ljava/lang/Object;"⟩, Cond.instanceMethod ⟨"java/lang/Object", "clone", "()Ljava/lang/Object;"⟩, Cond.selects "[I" ⟨"[I", "clone", "()Ljava/lang/Object;"⟩ ⟨"java/lang/Object", "clone", "()Ljava/lang/Object;"⟩, Cond.classLink RJ7 317 "[I", Cond.arrayClass .int, Cond.methodLink RJ7 304 Lib.Math.min.name, Cond.static Lib.Math.min.name]
def wsX1_add_r2 : List Cond := [Cond.code Lib.Math.min.name Lib.Math.min.code 2 (some .int), Cond.methodLink RJ7 150 arraycopyName, Cond.native arraycopyName, Cond.static arraycopyName, Cond.initialized "java/lang/System", Cond.methodLink RX1 21 yX1_set, Cond.instanceMethod yX1_set, Cond.selects RX1 yX1_set yX1_set, Cond.code yX1_set cX1_set 3 none]
def wsX1_add : List Cond := .code yX1_add cX1_add 2 none :: ((wsX1_add_r1 ++ wsX1_add_r2) ++ wsX10)
def wsX0_addCells_r1 : List Cond := [Cond.fieldLink RX0 10 "ObjectRows$Changing" "executables" "LObjectRows$Row;", Cond.fieldLink RX0 16 "ObjectRows$Changing" "accesses" "LObjectRows$Row;", Cond.fieldLink RX0 19 "ObjectRows$Changing" "capacities" "LObjectRows$Row;", Cond.fieldLink RX0 22 "ObjectRows$Changing" "entries" "LObjectRows$Row;", Cond.fieldLink RX0 25 "ObjectRows$Changing" "growths" "LObjectRows$Row;", Cond.methodLink RX0 31 yX1_add, Cond.instanceMethod yX1_add, Cond.selects RX1 yX1_add yX1_add, Cond.initialized RX1, Cond.code yX1_add cX1_add 2 none, Cond.fieldLink RX1 13 "ObjectRows$Row" "size" "I", Cond.methodLink RX1 17 yX1_reach, Cond.instanceMethod yX1_reach, Cond.selects RX1 yX1_reach yX1_reach, Cond.code yX1_reach cX1_reach 2 none, Cond.fieldLink RX1 9 "ObjectRows$Row" "cells" "[I", Cond.methodLink RX1 37 Lib.Math.max.name, Cond.static Lib.Math.max.name, Cond.initialized "java/lang/Math", Cond.code Lib.Math.max.name Lib.Math.max.code 2 (some .int), Cond.methodLink RX1 40 yJ7_copyOf_59c91, Cond.static yJ7_copyOf_59c91, Cond.initialized RJ7, Cond.code yJ7_copyOf_59c91 cJ7_copyOf_59c91 3 (some (.array .int))]
def wsX0_addCells_r2 : List Cond := [Cond.methodLink RJ7 316 ⟨"[I", "clone", "()Ljava/lang/Object;"⟩, Cond.sameMethod "[I" "java/lang/Object" "clone" "()Ljava/lang/Object;", Cond.native ⟨"java/lang/Object", "clone", "()Ljava/lang/Object;"⟩, Cond.instanceMethod ⟨"java/lang/Object", "clone", "()Ljava/lang/Object;"⟩, Cond.selects "[I" ⟨"[I", "clone", "()Ljava/lang/Object;"⟩ ⟨"java/lang/Object", "clone", "()Ljava/lang/Object;"⟩, Cond.classLink RJ7 317 "[I", Cond.arrayClass .int, Cond.methodLink RJ7 304 Lib.Math.min.name, Cond.static Lib.Math.min.name, Cond.code Lib.Math.min.name Lib.Math.min.code 2 (some .int), Cond.methodLink RJ7 150 arraycopyName, Cond.native arraycopyName, Cond.static arraycopyName, Cond.initialized "java/lang/System", Cond.methodLink RX1 21 yX1_set, Cond.instanceMethod yX1_set, Cond.selects RX1 yX1_set yX1_set, Cond.code yX1_set cX1_set 3 none]
def wsX0_addCells : List Cond := .code yX0_addCells cX0_addCells 2 none :: ((wsX0_addCells_r1 ++ wsX0_addCells_r2) ++ wsX00 ++ wsX10)
def wsX1_become_r1 : List Cond := [Cond.fieldLink RX1 13 "ObjectRows$Row" "size" "I", Cond.fieldLink RX1 9 "ObjectRows$Row" "cells" "[I", Cond.methodLink RX1 25 Lib.Math.min.name, Cond.static Lib.Math.min.name, Cond.initialized "java/lang/Math", Cond.code Lib.Math.min.name Lib.Math.min.code 2 (some .int), Cond.methodLink RX1 31 arraycopyName, Cond.native arraycopyName, Cond.static arraycopyName, Cond.initialized "java/lang/System", Cond.methodLink RX1 17 yX1_reach, Cond.instanceMethod yX1_reach, Cond.selects RX1 yX1_reach yX1_reach, Cond.initialized RX1, Cond.code yX1_reach cX1_reach 2 none, Cond.methodLink RX1 37 Lib.Math.max.name, Cond.static Lib.Math.max.name, Cond.code Lib.Math.max.name Lib.Math.max.code 2 (some .int), Cond.methodLink RX1 40 yJ7_copyOf_59c91, Cond.static yJ7_copyOf_59c91, Cond.initialized RJ7, Cond.code yJ7_copyOf_59c91 cJ7_copyOf_59c91 3 (some (.array .int)), Cond.methodLink RJ7 316 ⟨"[I", "clone", "()Ljava/lang/Object;"⟩, Cond.sameMethod "[I" "java/lang/Object" "clone" "()Ljava/lang/Object;"]
def wsX1_become_r2 : List Cond := [Cond.native ⟨"java/lang/Object", "clone", "()Ljava/lang/Object;"⟩, Cond.instanceMethod ⟨"java/lang/Object", "clone", "()Ljava/lang/Object;"⟩, Cond.selects "[I" ⟨"[I", "clone", "()Ljava/lang/Object;"⟩ ⟨"java/lang/Object", "clone", "()Ljava/lang/Object;"⟩, Cond.classLink RJ7 317 "[I", Cond.arrayClass .int, Cond.methodLink RJ7 304 Lib.Math.min.name, Cond.methodLink RJ7 150 arraycopyName]
def wsX1_become : List Cond := .code yX1_become cX1_become 2 none :: ((wsX1_become_r1 ++ wsX1_become_r2) ++ wsX10)
def wsX0_become_r1 : List Cond := [Cond.fieldLink RX0 10 "ObjectRows$Changing" "executables" "LObjectRows$Row;", Cond.fieldLink RX0 16 "ObjectRows$Changing" "accesses" "LObjectRows$Row;", Cond.fieldLink RX0 19 "ObjectRows$Changing" "capacities" "LObjectRows$Row;", Cond.fieldLink RX0 22 "ObjectRows$Changing" "entries" "LObjectRows$Row;", Cond.fieldLink RX0 25 "ObjectRows$Changing" "growths" "LObjectRows$Row;", Cond.fieldLink RX0 28 "ObjectRows$Changing" "elements" "LObjectRows$Row;", Cond.fieldLink RX0 39 "ObjectRows$Changing" "storage" "I", Cond.methodLink RX0 35 yX1_become, Cond.instanceMethod yX1_become, Cond.selects RX1 yX1_become yX1_become, Cond.initialized RX1, Cond.code yX1_become cX1_become 2 none, Cond.fieldLink RX1 13 "ObjectRows$Row" "size" "I", Cond.fieldLink RX1 9 "ObjectRows$Row" "cells" "[I", Cond.methodLink RX1 25 Lib.Math.min.name, Cond.static Lib.Math.min.name, Cond.initialized "java/lang/Math", Cond.code Lib.Math.min.name Lib.Math.min.code 2 (some .int), Cond.methodLink RX1 31 arraycopyName, Cond.native arraycopyName, Cond.static arraycopyName, Cond.initialized "java/lang/System", Cond.methodLink RX1 17 yX1_reach, Cond.instanceMethod yX1_reach]
def wsX0_become_r2 : List Cond := [Cond.selects RX1 yX1_reach yX1_reach, Cond.code yX1_reach cX1_reach 2 none, Cond.methodLink RX1 37 Lib.Math.max.name, Cond.static Lib.Math.max.name, Cond.code Lib.Math.max.name Lib.Math.max.code 2 (some .int), Cond.methodLink RX1 40 yJ7_copyOf_59c91, Cond.static yJ7_copyOf_59c91, Cond.initialized RJ7, Cond.code yJ7_copyOf_59c91 cJ7_copyOf_59c91 3 (some (.array .int)), Cond.methodLink RJ7 316 ⟨"[I", "clone", "()Ljava/lang/Object;"⟩, Cond.sameMethod "[I" "java/lang/Object" "clone" "()Ljava/lang/Object;", Cond.native ⟨"java/lang/Object", "clone", "()Ljava/lang/Object;"⟩, Cond.instanceMethod ⟨"java/lang/Object", "clone", "()Ljava/lang/Object;"⟩, Cond.selects "[I" ⟨"[I", "clone", "()Ljava/lang/Object;"⟩ ⟨"java/lang/Object", "clone", "()Ljava/lang/Object;"⟩, Cond.classLink RJ7 317 "[I", Cond.arrayClass .int, Cond.methodLink RJ7 304 Lib.Math.min.name, Cond.methodLink RJ7 150 arraycopyName]
def wsX0_become : List Cond := .code yX0_become cX0_become 2 none :: ((wsX0_become_r1 ++ wsX0_become_r2) ++ wsX00 ++ wsX10)
def wsX1_size : List Cond := .code yX1_size cX1_size 1 (some .int) :: ([.fieldLink RX1 13 "ObjectRows$Row" "size" "I"] ++ wsX10)
def wsX1_at : List Cond := .code yX1_at cX1_at 2 (some .int) :: ([.fieldLink RX1 9 "ObjectRows$Row" "cells" "[I"] ++ wsX10)
def wsX1_addZeros_r1 : List Cond := [Cond.fieldLink RX1 13 "ObjectRows$Row" "size" "I", Cond.methodLink RX1 17 yX1_reach, Cond.instanceMethod yX1_reach, Cond.selects RX1 yX1_reach yX1_reach, Cond.initialized RX1, Cond.code yX1_reach cX1_reach 2 none, Cond.fieldLink RX1 9 "ObjectRows$Row" "cells" "[I", Cond.methodLink RX1 37 Lib.Math.max.name, Cond.static Lib.Math.max.name, Cond.initialized "java/lang/Math", Cond.code Lib.Math.max.name Lib.Math.max.code 2 (some .int), Cond.methodLink RX1 40 yJ7_copyOf_59c91, Cond.static yJ7_copyOf_59c91, Cond.initialized RJ7, Cond.code yJ7_copyOf_59c91 cJ7_copyOf_59c91 3 (some (.array .int)), Cond.methodLink RJ7 316 ⟨"[I", "clone", "()Ljava/lang/Object;"⟩, Cond.sameMethod "[I" "java/lang/Object" "clone" "()Ljava/lang/Object;", Cond.native ⟨"java/lang/Object", "clone", "()Ljava/lang/Object;"⟩, Cond.instanceMethod ⟨"java/lang/Object", "clone", "()Ljava/lang/Object;"⟩, Cond.selects "[I" ⟨"[I", "clone", "()Ljava/lang/Object;"⟩ ⟨"java/lang/Object", "clone", "()Ljava/lang/Object;"⟩, Cond.classLink RJ7 317 "[I", Cond.arrayClass .int, Cond.methodLink RJ7 304 Lib.Math.min.name, Cond.static Lib.Math.min.name]
def wsX1_addZeros_r2 : List Cond := [Cond.code Lib.Math.min.name Lib.Math.min.code 2 (some .int), Cond.methodLink RJ7 150 arraycopyName, Cond.native arraycopyName, Cond.static arraycopyName, Cond.initialized "java/lang/System", Cond.methodLink RX1 21 yX1_set, Cond.instanceMethod yX1_set, Cond.selects RX1 yX1_set yX1_set, Cond.code yX1_set cX1_set 3 none]
def wsX1_addZeros : List Cond := .code yX1_addZeros cX1_addZeros 4 (some .int) :: ((wsX1_addZeros_r1 ++ wsX1_addZeros_r2) ++ wsX10)
def wsX1_cut : List Cond := .code yX1_cut cX1_cut 2 none :: ([.fieldLink RX1 13 "ObjectRows$Row" "size" "I"] ++ wsX10)
def wsX2_firstAccess : List Cond := .code yX2_firstAccess cX2_firstAccess 1 (some .int) :: ([])
def wsX2_addObject_r1 : List Cond := [Cond.fieldLink RX2 50 "ObjectRows" "count" "I", Cond.fieldLink RX2 12 "ObjectRows" "kinds" "LObjectRows$Row;", Cond.fieldLink RX2 16 "ObjectRows" "numbers" "LObjectRows$Row;", Cond.fieldLink RX2 19 "ObjectRows" "owners" "LObjectRows$Row;", Cond.fieldLink RX2 22 "ObjectRows" "starts" "LObjectRows$Row;", Cond.fieldLink RX2 25 "ObjectRows" "lengths" "LObjectRows$Row;", Cond.fieldLink RX2 34 "ObjectRows" "now" "LObjectRows$Changing;", Cond.fieldLink RX2 57 "ObjectRows$Changing" "storage" "I", Cond.methodLink RX2 194 yX1_add, Cond.instanceMethod yX1_add, Cond.selects RX1 yX1_add yX1_add, Cond.initialized RX1, Cond.code yX1_add cX1_add 2 none, Cond.fieldLink RX1 13 "ObjectRows$Row" "size" "I", Cond.methodLink RX1 17 yX1_reach, Cond.instanceMethod yX1_reach, Cond.selects RX1 yX1_reach yX1_reach, Cond.code yX1_reach cX1_reach 2 none, Cond.fieldLink RX1 9 "ObjectRows$Row" "cells" "[I", Cond.methodLink RX1 37 Lib.Math.max.name, Cond.static Lib.Math.max.name, Cond.initialized "java/lang/Math", Cond.code Lib.Math.max.name Lib.Math.max.code 2 (some .int), Cond.methodLink RX1 40 yJ7_copyOf_59c91]
def wsX2_addObject_r2 : List Cond := [Cond.static yJ7_copyOf_59c91, Cond.initialized RJ7, Cond.code yJ7_copyOf_59c91 cJ7_copyOf_59c91 3 (some (.array .int)), Cond.methodLink RJ7 316 ⟨"[I", "clone", "()Ljava/lang/Object;"⟩, Cond.sameMethod "[I" "java/lang/Object" "clone" "()Ljava/lang/Object;", Cond.native ⟨"java/lang/Object", "clone", "()Ljava/lang/Object;"⟩, Cond.instanceMethod ⟨"java/lang/Object", "clone", "()Ljava/lang/Object;"⟩, Cond.selects "[I" ⟨"[I", "clone", "()Ljava/lang/Object;"⟩ ⟨"java/lang/Object", "clone", "()Ljava/lang/Object;"⟩, Cond.classLink RJ7 317 "[I", Cond.arrayClass .int, Cond.methodLink RJ7 304 Lib.Math.min.name, Cond.static Lib.Math.min.name, Cond.code Lib.Math.min.name Lib.Math.min.code 2 (some .int), Cond.methodLink RJ7 150 arraycopyName, Cond.native arraycopyName, Cond.static arraycopyName, Cond.initialized "java/lang/System", Cond.methodLink RX1 21 yX1_set, Cond.instanceMethod yX1_set, Cond.selects RX1 yX1_set yX1_set, Cond.code yX1_set cX1_set 3 none, Cond.methodLink RX2 197 yX2_firstAccess, Cond.static yX2_firstAccess, Cond.initialized RX2]
def wsX2_addObject_r3 : List Cond := [Cond.code yX2_firstAccess cX2_firstAccess 1 (some .int), Cond.methodLink RX2 200 yX0_addCells, Cond.instanceMethod yX0_addCells, Cond.selects RX0 yX0_addCells yX0_addCells, Cond.initialized RX0, Cond.code yX0_addCells cX0_addCells 2 none, Cond.fieldLink RX0 10 "ObjectRows$Changing" "executables" "LObjectRows$Row;", Cond.fieldLink RX0 16 "ObjectRows$Changing" "accesses" "LObjectRows$Row;", Cond.fieldLink RX0 19 "ObjectRows$Changing" "capacities" "LObjectRows$Row;", Cond.fieldLink RX0 22 "ObjectRows$Changing" "entries" "LObjectRows$Row;", Cond.fieldLink RX0 25 "ObjectRows$Changing" "growths" "LObjectRows$Row;", Cond.methodLink RX0 31 yX1_add]
def wsX2_addObject : List Cond := .code yX2_addObject cX2_addObject 6 (some .int) :: ((wsX2_addObject_r1 ++ (wsX2_addObject_r2 ++ wsX2_addObject_r3)) ++ wsX20 ++ wsX00 ++ wsX10)
def wsX2_init_r1 : List Cond := [Cond.methodLink RX2 3 objectInit, Cond.instanceMethod objectInit, Cond.code objectInit ⟨#[0xb1]⟩ 1 none, Cond.classLink RX2 9 RX1, Cond.instantiable RX1 2, Cond.initialized RX1, Cond.fieldLink RX2 12 "ObjectRows" "kinds" "LObjectRows$Row;", Cond.fieldLink RX2 16 "ObjectRows" "numbers" "LObjectRows$Row;", Cond.fieldLink RX2 19 "ObjectRows" "owners" "LObjectRows$Row;", Cond.fieldLink RX2 22 "ObjectRows" "starts" "LObjectRows$Row;", Cond.fieldLink RX2 25 "ObjectRows" "lengths" "LObjectRows$Row;", Cond.fieldLink RX2 28 "ObjectRows" "bytes" "LObjectRows$Row;", Cond.classLink RX2 31 RX0, Cond.instantiable RX0 7, Cond.initialized RX0, Cond.fieldLink RX2 34 "ObjectRows" "now" "LObjectRows$Changing;", Cond.fieldLink RX2 38 "ObjectRows" "kept" "[LObjectRows$Changing;", Cond.instanceMethod yX1_init, Cond.code yX1_init cX1_init 1 none, Cond.methodLink RX1 1 objectInit, Cond.arrayClass .int, Cond.fieldLink RX1 9 "ObjectRows$Row" "cells" "[I", Cond.instanceMethod yX0_init, Cond.code yX0_init cX0_init 1 none]
def wsX2_init_r2 : List Cond := [Cond.methodLink RX0 1 objectInit, Cond.classLink RX0 7 RX1, Cond.fieldLink RX0 10 "ObjectRows$Changing" "executables" "LObjectRows$Row;", Cond.fieldLink RX0 16 "ObjectRows$Changing" "accesses" "LObjectRows$Row;", Cond.fieldLink RX0 19 "ObjectRows$Changing" "capacities" "LObjectRows$Row;", Cond.fieldLink RX0 22 "ObjectRows$Changing" "entries" "LObjectRows$Row;", Cond.fieldLink RX0 25 "ObjectRows$Changing" "growths" "LObjectRows$Row;", Cond.fieldLink RX0 28 "ObjectRows$Changing" "elements" "LObjectRows$Row;", Cond.methodLink RX2 42 yX2_addObject, Cond.instanceMethod yX2_addObject, Cond.selects RX2 yX2_addObject yX2_addObject, Cond.initialized RX2, Cond.code yX2_addObject cX2_addObject 6 (some .int), Cond.fieldLink RX2 50 "ObjectRows" "count" "I", Cond.fieldLink RX2 57 "ObjectRows$Changing" "storage" "I", Cond.methodLink RX2 194 yX1_add, Cond.instanceMethod yX1_add, Cond.selects RX1 yX1_add yX1_add, Cond.code yX1_add cX1_add 2 none, Cond.fieldLink RX1 13 "ObjectRows$Row" "size" "I", Cond.methodLink RX1 17 yX1_reach, Cond.instanceMethod yX1_reach, Cond.selects RX1 yX1_reach yX1_reach, Cond.code yX1_reach cX1_reach 2 none]
def wsX2_init_r3 : List Cond := [Cond.methodLink RX1 37 Lib.Math.max.name, Cond.static Lib.Math.max.name, Cond.initialized "java/lang/Math", Cond.code Lib.Math.max.name Lib.Math.max.code 2 (some .int), Cond.methodLink RX1 40 yJ7_copyOf_59c91, Cond.static yJ7_copyOf_59c91, Cond.initialized RJ7, Cond.code yJ7_copyOf_59c91 cJ7_copyOf_59c91 3 (some (.array .int)), Cond.methodLink RJ7 316 ⟨"[I", "clone", "()Ljava/lang/Object;"⟩, Cond.sameMethod "[I" "java/lang/Object" "clone" "()Ljava/lang/Object;", Cond.native ⟨"java/lang/Object", "clone", "()Ljava/lang/Object;"⟩, Cond.instanceMethod ⟨"java/lang/Object", "clone", "()Ljava/lang/Object;"⟩, Cond.selects "[I" ⟨"[I", "clone", "()Ljava/lang/Object;"⟩ ⟨"java/lang/Object", "clone", "()Ljava/lang/Object;"⟩, Cond.classLink RJ7 317 "[I", Cond.methodLink RJ7 304 Lib.Math.min.name, Cond.static Lib.Math.min.name, Cond.code Lib.Math.min.name Lib.Math.min.code 2 (some .int), Cond.methodLink RJ7 150 arraycopyName, Cond.native arraycopyName, Cond.static arraycopyName, Cond.initialized "java/lang/System", Cond.methodLink RX1 21 yX1_set, Cond.instanceMethod yX1_set, Cond.selects RX1 yX1_set yX1_set]
def wsX2_init_r4 : List Cond := [Cond.code yX1_set cX1_set 3 none, Cond.methodLink RX2 197 yX2_firstAccess, Cond.static yX2_firstAccess, Cond.code yX2_firstAccess cX2_firstAccess 1 (some .int), Cond.methodLink RX2 200 yX0_addCells, Cond.instanceMethod yX0_addCells, Cond.selects RX0 yX0_addCells yX0_addCells, Cond.code yX0_addCells cX0_addCells 2 none, Cond.methodLink RX0 31 yX1_add]
def wsX2_init : List Cond := .code yX2_init cX2_init 1 none :: ((wsX2_init_r1 ++ (wsX2_init_r2 ++ (wsX2_init_r3 ++ wsX2_init_r4))) ++ wsX10 ++ wsX20 ++ wsX00)
def wsX2_within : List Cond := .code yX2_within cX2_within 2 (some .boolean) :: ([])
def wsX2_sizeFits : List Cond := .code yX2_sizeFits cX2_sizeFits 3 (some .boolean) :: ([.fieldLink RX2 50 "ObjectRows" "count" "I", .methodLink RX2 186 Lib.Math.min.name, .static Lib.Math.min.name, .initialized "java/lang/Math", .code Lib.Math.min.name Lib.Math.min.code 2 (some .int), .methodLink RX2 90 yX2_within, .static yX2_within, .initialized RX2, .code yX2_within cX2_within 2 (some .boolean)] ++ wsX20)
def wsX2_placeStorage : List Cond := .code yX2_placeStorage cX2_placeStorage 1 (some .int) :: ([])
def wsX2_makePacked_r1 : List Cond := [Cond.fieldLink RX2 50 "ObjectRows" "count" "I", Cond.fieldLink RX2 34 "ObjectRows" "now" "LObjectRows$Changing;", Cond.fieldLink RX2 67 "ObjectRows$Changing" "elements" "LObjectRows$Row;", Cond.methodLink RX2 64 yX1_addZeros, Cond.instanceMethod yX1_addZeros, Cond.selects RX1 yX1_addZeros yX1_addZeros, Cond.initialized RX1, Cond.code yX1_addZeros cX1_addZeros 4 (some .int), Cond.fieldLink RX1 13 "ObjectRows$Row" "size" "I", Cond.methodLink RX1 17 yX1_reach, Cond.instanceMethod yX1_reach, Cond.selects RX1 yX1_reach yX1_reach, Cond.code yX1_reach cX1_reach 2 none, Cond.fieldLink RX1 9 "ObjectRows$Row" "cells" "[I", Cond.methodLink RX1 37 Lib.Math.max.name, Cond.static Lib.Math.max.name, Cond.initialized "java/lang/Math", Cond.code Lib.Math.max.name Lib.Math.max.code 2 (some .int), Cond.methodLink RX1 40 yJ7_copyOf_59c91, Cond.static yJ7_copyOf_59c91, Cond.initialized RJ7, Cond.code yJ7_copyOf_59c91 cJ7_copyOf_59c91 3 (some (.array .int)), Cond.methodLink RJ7 316 ⟨"[I", "clone", "()Ljava/lang/Object;"⟩, Cond.sameMethod "[I" "java/lang/Object" "clone" "()Ljava/lang/Object;"]
def wsX2_makePacked_r2 : List Cond := [Cond.native ⟨"java/lang/Object", "clone", "()Ljava/lang/Object;"⟩, Cond.instanceMethod ⟨"java/lang/Object", "clone", "()Ljava/lang/Object;"⟩, Cond.selects "[I" ⟨"[I", "clone", "()Ljava/lang/Object;"⟩ ⟨"java/lang/Object", "clone", "()Ljava/lang/Object;"⟩, Cond.classLink RJ7 317 "[I", Cond.arrayClass .int, Cond.methodLink RJ7 304 Lib.Math.min.name, Cond.static Lib.Math.min.name, Cond.code Lib.Math.min.name Lib.Math.min.code 2 (some .int), Cond.methodLink RJ7 150 arraycopyName, Cond.native arraycopyName, Cond.static arraycopyName, Cond.initialized "java/lang/System", Cond.methodLink RX1 21 yX1_set, Cond.instanceMethod yX1_set, Cond.selects RX1 yX1_set yX1_set, Cond.code yX1_set cX1_set 3 none, Cond.methodLink RX2 100 yX1_set, Cond.methodLink RX2 42 yX2_addObject, Cond.instanceMethod yX2_addObject, Cond.selects RX2 yX2_addObject yX2_addObject, Cond.initialized RX2, Cond.code yX2_addObject cX2_addObject 6 (some .int), Cond.fieldLink RX2 12 "ObjectRows" "kinds" "LObjectRows$Row;", Cond.fieldLink RX2 16 "ObjectRows" "numbers" "LObjectRows$Row;"]
def wsX2_makePacked_r3 : List Cond := [Cond.fieldLink RX2 19 "ObjectRows" "owners" "LObjectRows$Row;", Cond.fieldLink RX2 22 "ObjectRows" "starts" "LObjectRows$Row;", Cond.fieldLink RX2 25 "ObjectRows" "lengths" "LObjectRows$Row;", Cond.fieldLink RX2 57 "ObjectRows$Changing" "storage" "I", Cond.methodLink RX2 194 yX1_add, Cond.instanceMethod yX1_add, Cond.selects RX1 yX1_add yX1_add, Cond.code yX1_add cX1_add 2 none, Cond.methodLink RX2 197 yX2_firstAccess, Cond.static yX2_firstAccess, Cond.code yX2_firstAccess cX2_firstAccess 1 (some .int), Cond.methodLink RX2 200 yX0_addCells, Cond.instanceMethod yX0_addCells, Cond.selects RX0 yX0_addCells yX0_addCells, Cond.initialized RX0, Cond.code yX0_addCells cX0_addCells 2 none, Cond.fieldLink RX0 10 "ObjectRows$Changing" "executables" "LObjectRows$Row;", Cond.fieldLink RX0 16 "ObjectRows$Changing" "accesses" "LObjectRows$Row;", Cond.fieldLink RX0 19 "ObjectRows$Changing" "capacities" "LObjectRows$Row;", Cond.fieldLink RX0 22 "ObjectRows$Changing" "entries" "LObjectRows$Row;", Cond.fieldLink RX0 25 "ObjectRows$Changing" "growths" "LObjectRows$Row;", Cond.methodLink RX0 31 yX1_add]
def wsX2_makePacked : List Cond := .code yX2_makePacked cX2_makePacked 5 (some .int) :: ((wsX2_makePacked_r1 ++ (wsX2_makePacked_r2 ++ wsX2_makePacked_r3)) ++ wsX20 ++ wsX00 ++ wsX10)
def wsX2_makeDictionary_r1 : List Cond := [Cond.fieldLink RX2 34 "ObjectRows" "now" "LObjectRows$Changing;", Cond.fieldLink RX2 67 "ObjectRows$Changing" "elements" "LObjectRows$Row;", Cond.fieldLink RX2 141 "ObjectRows$Changing" "capacities" "LObjectRows$Row;", Cond.methodLink RX2 64 yX1_addZeros, Cond.instanceMethod yX1_addZeros, Cond.selects RX1 yX1_addZeros yX1_addZeros, Cond.initialized RX1, Cond.code yX1_addZeros cX1_addZeros 4 (some .int), Cond.fieldLink RX1 13 "ObjectRows$Row" "size" "I", Cond.methodLink RX1 17 yX1_reach, Cond.instanceMethod yX1_reach, Cond.selects RX1 yX1_reach yX1_reach, Cond.code yX1_reach cX1_reach 2 none, Cond.fieldLink RX1 9 "ObjectRows$Row" "cells" "[I", Cond.methodLink RX1 37 Lib.Math.max.name, Cond.static Lib.Math.max.name, Cond.initialized "java/lang/Math", Cond.code Lib.Math.max.name Lib.Math.max.code 2 (some .int), Cond.methodLink RX1 40 yJ7_copyOf_59c91, Cond.static yJ7_copyOf_59c91, Cond.initialized RJ7, Cond.code yJ7_copyOf_59c91 cJ7_copyOf_59c91 3 (some (.array .int)), Cond.methodLink RJ7 316 ⟨"[I", "clone", "()Ljava/lang/Object;"⟩, Cond.sameMethod "[I" "java/lang/Object" "clone" "()Ljava/lang/Object;"]
def wsX2_makeDictionary_r2 : List Cond := [Cond.native ⟨"java/lang/Object", "clone", "()Ljava/lang/Object;"⟩, Cond.instanceMethod ⟨"java/lang/Object", "clone", "()Ljava/lang/Object;"⟩, Cond.selects "[I" ⟨"[I", "clone", "()Ljava/lang/Object;"⟩ ⟨"java/lang/Object", "clone", "()Ljava/lang/Object;"⟩, Cond.classLink RJ7 317 "[I", Cond.arrayClass .int, Cond.methodLink RJ7 304 Lib.Math.min.name, Cond.static Lib.Math.min.name, Cond.code Lib.Math.min.name Lib.Math.min.code 2 (some .int), Cond.methodLink RJ7 150 arraycopyName, Cond.native arraycopyName, Cond.static arraycopyName, Cond.initialized "java/lang/System", Cond.methodLink RX1 21 yX1_set, Cond.instanceMethod yX1_set, Cond.selects RX1 yX1_set yX1_set, Cond.code yX1_set cX1_set 3 none, Cond.methodLink RX2 42 yX2_addObject, Cond.instanceMethod yX2_addObject, Cond.selects RX2 yX2_addObject yX2_addObject, Cond.initialized RX2, Cond.code yX2_addObject cX2_addObject 6 (some .int), Cond.fieldLink RX2 50 "ObjectRows" "count" "I", Cond.fieldLink RX2 12 "ObjectRows" "kinds" "LObjectRows$Row;", Cond.fieldLink RX2 16 "ObjectRows" "numbers" "LObjectRows$Row;"]
def wsX2_makeDictionary_r3 : List Cond := [Cond.fieldLink RX2 19 "ObjectRows" "owners" "LObjectRows$Row;", Cond.fieldLink RX2 22 "ObjectRows" "starts" "LObjectRows$Row;", Cond.fieldLink RX2 25 "ObjectRows" "lengths" "LObjectRows$Row;", Cond.fieldLink RX2 57 "ObjectRows$Changing" "storage" "I", Cond.methodLink RX2 194 yX1_add, Cond.instanceMethod yX1_add, Cond.selects RX1 yX1_add yX1_add, Cond.code yX1_add cX1_add 2 none, Cond.methodLink RX2 197 yX2_firstAccess, Cond.static yX2_firstAccess, Cond.code yX2_firstAccess cX2_firstAccess 1 (some .int), Cond.methodLink RX2 200 yX0_addCells, Cond.instanceMethod yX0_addCells, Cond.selects RX0 yX0_addCells yX0_addCells, Cond.initialized RX0, Cond.code yX0_addCells cX0_addCells 2 none, Cond.fieldLink RX0 10 "ObjectRows$Changing" "executables" "LObjectRows$Row;", Cond.fieldLink RX0 16 "ObjectRows$Changing" "accesses" "LObjectRows$Row;", Cond.fieldLink RX0 19 "ObjectRows$Changing" "capacities" "LObjectRows$Row;", Cond.fieldLink RX0 22 "ObjectRows$Changing" "entries" "LObjectRows$Row;", Cond.fieldLink RX0 25 "ObjectRows$Changing" "growths" "LObjectRows$Row;", Cond.methodLink RX0 31 yX1_add, Cond.methodLink RX2 100 yX1_set]
def wsX2_makeDictionary : List Cond := .code yX2_makeDictionary cX2_makeDictionary 3 (some .int) :: ((wsX2_makeDictionary_r1 ++ (wsX2_makeDictionary_r2 ++ wsX2_makeDictionary_r3)) ++ wsX20 ++ wsX00 ++ wsX10)
def wsX2_makeSave_r1 : List Cond := [Cond.fieldLink RX2 54 "ObjectRows" "saves" "I", Cond.fieldLink RX2 38 "ObjectRows" "kept" "[LObjectRows$Changing;", Cond.classLink RX2 31 RX0, Cond.instantiable RX0 7, Cond.initialized RX0, Cond.fieldLink RX2 34 "ObjectRows" "now" "LObjectRows$Changing;", Cond.fieldLink RX2 28 "ObjectRows" "bytes" "LObjectRows$Row;", Cond.instanceMethod yX0_init, Cond.code yX0_init cX0_init 1 none, Cond.methodLink RX0 1 objectInit, Cond.instanceMethod objectInit, Cond.code objectInit ⟨#[0xb1]⟩ 1 none, Cond.classLink RX0 7 RX1, Cond.instantiable RX1 2, Cond.initialized RX1, Cond.fieldLink RX0 10 "ObjectRows$Changing" "executables" "LObjectRows$Row;", Cond.fieldLink RX0 16 "ObjectRows$Changing" "accesses" "LObjectRows$Row;", Cond.fieldLink RX0 19 "ObjectRows$Changing" "capacities" "LObjectRows$Row;", Cond.fieldLink RX0 22 "ObjectRows$Changing" "entries" "LObjectRows$Row;", Cond.fieldLink RX0 25 "ObjectRows$Changing" "growths" "LObjectRows$Row;", Cond.fieldLink RX0 28 "ObjectRows$Changing" "elements" "LObjectRows$Row;", Cond.instanceMethod yX1_init, Cond.code yX1_init cX1_init 1 none, Cond.methodLink RX1 1 objectInit]
def wsX2_makeSave_r2 : List Cond := [Cond.arrayClass .int, Cond.fieldLink RX1 9 "ObjectRows$Row" "cells" "[I", Cond.methodLink RX2 182 yX0_become, Cond.instanceMethod yX0_become, Cond.selects RX0 yX0_become yX0_become, Cond.code yX0_become cX0_become 2 none, Cond.fieldLink RX0 39 "ObjectRows$Changing" "storage" "I", Cond.methodLink RX0 35 yX1_become, Cond.instanceMethod yX1_become, Cond.selects RX1 yX1_become yX1_become, Cond.code yX1_become cX1_become 2 none, Cond.fieldLink RX1 13 "ObjectRows$Row" "size" "I", Cond.methodLink RX1 25 Lib.Math.min.name, Cond.static Lib.Math.min.name, Cond.initialized "java/lang/Math", Cond.code Lib.Math.min.name Lib.Math.min.code 2 (some .int), Cond.methodLink RX1 31 arraycopyName, Cond.native arraycopyName, Cond.static arraycopyName, Cond.initialized "java/lang/System", Cond.methodLink RX1 17 yX1_reach, Cond.instanceMethod yX1_reach, Cond.selects RX1 yX1_reach yX1_reach, Cond.code yX1_reach cX1_reach 2 none]
def wsX2_makeSave_r3 : List Cond := [Cond.methodLink RX1 37 Lib.Math.max.name, Cond.static Lib.Math.max.name, Cond.code Lib.Math.max.name Lib.Math.max.code 2 (some .int), Cond.methodLink RX1 40 yJ7_copyOf_59c91, Cond.static yJ7_copyOf_59c91, Cond.initialized RJ7, Cond.code yJ7_copyOf_59c91 cJ7_copyOf_59c91 3 (some (.array .int)), Cond.methodLink RJ7 316 ⟨"[I", "clone", "()Ljava/lang/Object;"⟩, Cond.sameMethod "[I" "java/lang/Object" "clone" "()Ljava/lang/Object;", Cond.native ⟨"java/lang/Object", "clone", "()Ljava/lang/Object;"⟩, Cond.instanceMethod ⟨"java/lang/Object", "clone", "()Ljava/lang/Object;"⟩, Cond.selects "[I" ⟨"[I", "clone", "()Ljava/lang/Object;"⟩ ⟨"java/lang/Object", "clone", "()Ljava/lang/Object;"⟩, Cond.classLink RJ7 317 "[I", Cond.methodLink RJ7 304 Lib.Math.min.name, Cond.methodLink RJ7 150 arraycopyName, Cond.methodLink RX2 203 yX1_size, Cond.instanceMethod yX1_size, Cond.selects RX1 yX1_size yX1_size, Cond.code yX1_size cX1_size 1 (some .int), Cond.methodLink RX2 42 yX2_addObject, Cond.instanceMethod yX2_addObject, Cond.selects RX2 yX2_addObject yX2_addObject, Cond.initialized RX2, Cond.code yX2_addObject cX2_addObject 6 (some .int)]
def wsX2_makeSave_r4 : List Cond := [Cond.fieldLink RX2 50 "ObjectRows" "count" "I", Cond.fieldLink RX2 12 "ObjectRows" "kinds" "LObjectRows$Row;", Cond.fieldLink RX2 16 "ObjectRows" "numbers" "LObjectRows$Row;", Cond.fieldLink RX2 19 "ObjectRows" "owners" "LObjectRows$Row;", Cond.fieldLink RX2 22 "ObjectRows" "starts" "LObjectRows$Row;", Cond.fieldLink RX2 25 "ObjectRows" "lengths" "LObjectRows$Row;", Cond.fieldLink RX2 57 "ObjectRows$Changing" "storage" "I", Cond.methodLink RX2 194 yX1_add, Cond.instanceMethod yX1_add, Cond.selects RX1 yX1_add yX1_add, Cond.code yX1_add cX1_add 2 none, Cond.methodLink RX1 21 yX1_set, Cond.instanceMethod yX1_set, Cond.selects RX1 yX1_set yX1_set, Cond.code yX1_set cX1_set 3 none, Cond.methodLink RX2 197 yX2_firstAccess, Cond.static yX2_firstAccess, Cond.code yX2_firstAccess cX2_firstAccess 1 (some .int), Cond.methodLink RX2 200 yX0_addCells, Cond.instanceMethod yX0_addCells, Cond.selects RX0 yX0_addCells yX0_addCells, Cond.code yX0_addCells cX0_addCells 2 none, Cond.methodLink RX0 31 yX1_add]
def wsX2_makeSave : List Cond := .code yX2_makeSave cX2_makeSave 2 (some .int) :: ((wsX2_makeSave_r1 ++ (wsX2_makeSave_r2 ++ (wsX2_makeSave_r3 ++ wsX2_makeSave_r4))) ++ wsX20 ++ wsX00 ++ wsX10)
def wsX2_make_r1 : List Cond := [Cond.fieldLink RX2 50 "ObjectRows" "count" "I", Cond.fieldLink RX2 54 "ObjectRows" "saves" "I", Cond.fieldLink RX2 34 "ObjectRows" "now" "LObjectRows$Changing;", Cond.fieldLink RX2 57 "ObjectRows$Changing" "storage" "I", Cond.fieldLink RX2 28 "ObjectRows" "bytes" "LObjectRows$Row;", Cond.fieldLink RX2 67 "ObjectRows$Changing" "elements" "LObjectRows$Row;", Cond.methodLink RX2 46 yX2_sizeFits, Cond.instanceMethod yX2_sizeFits, Cond.selects RX2 yX2_sizeFits yX2_sizeFits, Cond.initialized RX2, Cond.code yX2_sizeFits cX2_sizeFits 3 (some .boolean), Cond.methodLink RX2 186 Lib.Math.min.name, Cond.static Lib.Math.min.name, Cond.initialized "java/lang/Math", Cond.code Lib.Math.min.name Lib.Math.min.code 2 (some .int), Cond.methodLink RX2 90 yX2_within, Cond.static yX2_within, Cond.code yX2_within cX2_within 2 (some .boolean), Cond.methodLink RX2 60 yX2_placeStorage, Cond.static yX2_placeStorage, Cond.code yX2_placeStorage cX2_placeStorage 1 (some .int), Cond.methodLink RX2 64 yX1_addZeros, Cond.instanceMethod yX1_addZeros, Cond.selects RX1 yX1_addZeros yX1_addZeros]
def wsX2_make_r2 : List Cond := [Cond.initialized RX1, Cond.code yX1_addZeros cX1_addZeros 4 (some .int), Cond.fieldLink RX1 13 "ObjectRows$Row" "size" "I", Cond.methodLink RX1 17 yX1_reach, Cond.instanceMethod yX1_reach, Cond.selects RX1 yX1_reach yX1_reach, Cond.code yX1_reach cX1_reach 2 none, Cond.fieldLink RX1 9 "ObjectRows$Row" "cells" "[I", Cond.methodLink RX1 37 Lib.Math.max.name, Cond.static Lib.Math.max.name, Cond.code Lib.Math.max.name Lib.Math.max.code 2 (some .int), Cond.methodLink RX1 40 yJ7_copyOf_59c91, Cond.static yJ7_copyOf_59c91, Cond.initialized RJ7, Cond.code yJ7_copyOf_59c91 cJ7_copyOf_59c91 3 (some (.array .int)), Cond.methodLink RJ7 316 ⟨"[I", "clone", "()Ljava/lang/Object;"⟩, Cond.sameMethod "[I" "java/lang/Object" "clone" "()Ljava/lang/Object;", Cond.native ⟨"java/lang/Object", "clone", "()Ljava/lang/Object;"⟩, Cond.instanceMethod ⟨"java/lang/Object", "clone", "()Ljava/lang/Object;"⟩, Cond.selects "[I" ⟨"[I", "clone", "()Ljava/lang/Object;"⟩ ⟨"java/lang/Object", "clone", "()Ljava/lang/Object;"⟩, Cond.classLink RJ7 317 "[I", Cond.arrayClass .int, Cond.methodLink RJ7 304 Lib.Math.min.name, Cond.methodLink RJ7 150 arraycopyName]
def wsX2_make_r3 : List Cond := [Cond.native arraycopyName, Cond.static arraycopyName, Cond.initialized "java/lang/System", Cond.methodLink RX1 21 yX1_set, Cond.instanceMethod yX1_set, Cond.selects RX1 yX1_set yX1_set, Cond.code yX1_set cX1_set 3 none, Cond.methodLink RX2 42 yX2_addObject, Cond.instanceMethod yX2_addObject, Cond.selects RX2 yX2_addObject yX2_addObject, Cond.code yX2_addObject cX2_addObject 6 (some .int), Cond.fieldLink RX2 12 "ObjectRows" "kinds" "LObjectRows$Row;", Cond.fieldLink RX2 16 "ObjectRows" "numbers" "LObjectRows$Row;", Cond.fieldLink RX2 19 "ObjectRows" "owners" "LObjectRows$Row;", Cond.fieldLink RX2 22 "ObjectRows" "starts" "LObjectRows$Row;", Cond.fieldLink RX2 25 "ObjectRows" "lengths" "LObjectRows$Row;", Cond.methodLink RX2 194 yX1_add, Cond.instanceMethod yX1_add, Cond.selects RX1 yX1_add yX1_add, Cond.code yX1_add cX1_add 2 none, Cond.methodLink RX2 197 yX2_firstAccess, Cond.static yX2_firstAccess, Cond.code yX2_firstAccess cX2_firstAccess 1 (some .int), Cond.methodLink RX2 200 yX0_addCells]
def wsX2_make_r4 : List Cond := [Cond.instanceMethod yX0_addCells, Cond.selects RX0 yX0_addCells yX0_addCells, Cond.initialized RX0, Cond.code yX0_addCells cX0_addCells 2 none, Cond.fieldLink RX0 10 "ObjectRows$Changing" "executables" "LObjectRows$Row;", Cond.fieldLink RX0 16 "ObjectRows$Changing" "accesses" "LObjectRows$Row;", Cond.fieldLink RX0 19 "ObjectRows$Changing" "capacities" "LObjectRows$Row;", Cond.fieldLink RX0 22 "ObjectRows$Changing" "entries" "LObjectRows$Row;", Cond.fieldLink RX0 25 "ObjectRows$Changing" "growths" "LObjectRows$Row;", Cond.methodLink RX0 31 yX1_add, Cond.methodLink RX2 70 yX2_makePacked, Cond.instanceMethod yX2_makePacked, Cond.selects RX2 yX2_makePacked yX2_makePacked, Cond.code yX2_makePacked cX2_makePacked 5 (some .int), Cond.methodLink RX2 100 yX1_set, Cond.methodLink RX2 73 yX2_makeDictionary, Cond.instanceMethod yX2_makeDictionary, Cond.selects RX2 yX2_makeDictionary yX2_makeDictionary, Cond.code yX2_makeDictionary cX2_makeDictionary 3 (some .int), Cond.fieldLink RX2 141 "ObjectRows$Changing" "capacities" "LObjectRows$Row;", Cond.methodLink RX2 76 yX2_makeSave, Cond.instanceMethod yX2_makeSave, Cond.selects RX2 yX2_makeSave yX2_makeSave, Cond.code yX2_makeSave cX2_makeSave 2 (some .int)]
def wsX2_make_r5 : List Cond := [Cond.fieldLink RX2 38 "ObjectRows" "kept" "[LObjectRows$Changing;", Cond.classLink RX2 31 RX0, Cond.instantiable RX0 7, Cond.instanceMethod yX0_init, Cond.code yX0_init cX0_init 1 none, Cond.methodLink RX0 1 objectInit, Cond.instanceMethod objectInit, Cond.code objectInit ⟨#[0xb1]⟩ 1 none, Cond.classLink RX0 7 RX1, Cond.instantiable RX1 2, Cond.fieldLink RX0 28 "ObjectRows$Changing" "elements" "LObjectRows$Row;", Cond.instanceMethod yX1_init, Cond.code yX1_init cX1_init 1 none, Cond.methodLink RX1 1 objectInit, Cond.methodLink RX2 182 yX0_become, Cond.instanceMethod yX0_become, Cond.selects RX0 yX0_become yX0_become, Cond.code yX0_become cX0_become 2 none, Cond.fieldLink RX0 39 "ObjectRows$Changing" "storage" "I", Cond.methodLink RX0 35 yX1_become, Cond.instanceMethod yX1_become, Cond.selects RX1 yX1_become yX1_become, Cond.code yX1_become cX1_become 2 none, Cond.methodLink RX1 25 Lib.Math.min.name]
def wsX2_make_r6 : List Cond := [Cond.methodLink RX1 31 arraycopyName, Cond.methodLink RX2 203 yX1_size, Cond.instanceMethod yX1_size, Cond.selects RX1 yX1_size yX1_size, Cond.code yX1_size cX1_size 1 (some .int)]
def wsX2_make : List Cond := .code yX2_make cX2_make 3 (some .int) :: ((wsX2_make_r1 ++ (wsX2_make_r2 ++ (wsX2_make_r3 ++ (wsX2_make_r4 ++ (wsX2_make_r5 ++ wsX2_make_r6))))) ++ wsX20 ++ wsX00 ++ wsX10)
def wsX2_known : List Cond := .code yX2_known cX2_known 2 (some .boolean) :: ([.fieldLink RX2 50 "ObjectRows" "count" "I"] ++ wsX20)
def wsX2_hasElement : List Cond := .code yX2_hasElement cX2_hasElement 3 (some .boolean) :: ([.fieldLink RX2 25 "ObjectRows" "lengths" "LObjectRows$Row;", .methodLink RX2 84 yX1_at, .instanceMethod yX1_at, .selects RX1 yX1_at yX1_at, .initialized RX1, .code yX1_at cX1_at 2 (some .int), .fieldLink RX1 9 "ObjectRows$Row" "cells" "[I"] ++ wsX20 ++ wsX10)
def wsX2_accessHolder : List Cond := .code yX2_accessHolder cX2_accessHolder 2 (some .int) :: ([.fieldLink RX2 12 "ObjectRows" "kinds" "LObjectRows$Row;", .fieldLink RX2 19 "ObjectRows" "owners" "LObjectRows$Row;", .methodLink RX2 84 yX1_at, .instanceMethod yX1_at, .selects RX1 yX1_at yX1_at, .initialized RX1, .code yX1_at cX1_at 2 (some .int), .fieldLink RX1 9 "ObjectRows$Row" "cells" "[I"] ++ wsX20 ++ wsX10)
def wsX2_accessOf : List Cond := .code yX2_accessOf cX2_accessOf 2 (some .int) :: ([.fieldLink RX2 34 "ObjectRows" "now" "LObjectRows$Changing;", .fieldLink RX2 206 "ObjectRows$Changing" "accesses" "LObjectRows$Row;", .methodLink RX2 209 yX2_accessHolder, .instanceMethod yX2_accessHolder, .selects RX2 yX2_accessHolder yX2_accessHolder, .initialized RX2, .code yX2_accessHolder cX2_accessHolder 2 (some .int), .fieldLink RX2 12 "ObjectRows" "kinds" "LObjectRows$Row;", .fieldLink RX2 19 "ObjectRows" "owners" "LObjectRows$Row;", .methodLink RX2 84 yX1_at, .instanceMethod yX1_at, .selects RX1 yX1_at yX1_at, .initialized RX1, .code yX1_at cX1_at 2 (some .int), .fieldLink RX1 9 "ObjectRows$Row" "cells" "[I"] ++ wsX20 ++ wsX00 ++ wsX10)
def wsX2_storeRow : List Cond := .code yX2_storeRow cX2_storeRow 2 (some (.object "ObjectRows$Row")) :: ([.fieldLink RX2 28 "ObjectRows" "bytes" "LObjectRows$Row;", .fieldLink RX2 34 "ObjectRows" "now" "LObjectRows$Changing;", .fieldLink RX2 67 "ObjectRows$Changing" "elements" "LObjectRows$Row;"] ++ wsX20 ++ wsX00)
def wsX2_put_r1 : List Cond := [Cond.fieldLink RX2 12 "ObjectRows" "kinds" "LObjectRows$Row;", Cond.fieldLink RX2 22 "ObjectRows" "starts" "LObjectRows$Row;", Cond.methodLink RX2 80 yX2_known, Cond.instanceMethod yX2_known, Cond.selects RX2 yX2_known yX2_known, Cond.initialized RX2, Cond.code yX2_known cX2_known 2 (some .boolean), Cond.fieldLink RX2 50 "ObjectRows" "count" "I", Cond.methodLink RX2 84 yX1_at, Cond.instanceMethod yX1_at, Cond.selects RX1 yX1_at yX1_at, Cond.initialized RX1, Cond.code yX1_at cX1_at 2 (some .int), Cond.fieldLink RX1 9 "ObjectRows$Row" "cells" "[I", Cond.methodLink RX2 87 yX2_hasElement, Cond.instanceMethod yX2_hasElement, Cond.selects RX2 yX2_hasElement yX2_hasElement, Cond.code yX2_hasElement cX2_hasElement 3 (some .boolean), Cond.fieldLink RX2 25 "ObjectRows" "lengths" "LObjectRows$Row;", Cond.methodLink RX2 90 yX2_within, Cond.static yX2_within, Cond.code yX2_within cX2_within 2 (some .boolean), Cond.methodLink RX2 93 yX2_accessOf, Cond.instanceMethod yX2_accessOf]
def wsX2_put_r2 : List Cond := [Cond.selects RX2 yX2_accessOf yX2_accessOf, Cond.code yX2_accessOf cX2_accessOf 2 (some .int), Cond.fieldLink RX2 34 "ObjectRows" "now" "LObjectRows$Changing;", Cond.fieldLink RX2 206 "ObjectRows$Changing" "accesses" "LObjectRows$Row;", Cond.methodLink RX2 209 yX2_accessHolder, Cond.instanceMethod yX2_accessHolder, Cond.selects RX2 yX2_accessHolder yX2_accessHolder, Cond.code yX2_accessHolder cX2_accessHolder 2 (some .int), Cond.fieldLink RX2 19 "ObjectRows" "owners" "LObjectRows$Row;", Cond.methodLink RX2 96 yX2_storeRow, Cond.instanceMethod yX2_storeRow, Cond.selects RX2 yX2_storeRow yX2_storeRow, Cond.code yX2_storeRow cX2_storeRow 2 (some (.object "ObjectRows$Row")), Cond.fieldLink RX2 28 "ObjectRows" "bytes" "LObjectRows$Row;", Cond.fieldLink RX2 67 "ObjectRows$Changing" "elements" "LObjectRows$Row;", Cond.methodLink RX2 100 yX1_set, Cond.instanceMethod yX1_set, Cond.selects RX1 yX1_set yX1_set, Cond.code yX1_set cX1_set 3 none]
def wsX2_put : List Cond := .code yX2_put cX2_put 5 (some .int) :: ((wsX2_put_r1 ++ wsX2_put_r2) ++ wsX20 ++ wsX10 ++ wsX00)
def wsX2_isList : List Cond := .code yX2_isList cX2_isList 1 (some .boolean) :: ([])
def wsX2_isView : List Cond := .code yX2_isView cX2_isView 1 (some .boolean) :: ([.methodLink RX2 191 yX2_isList, .static yX2_isList, .initialized RX2, .code yX2_isList cX2_isList 1 (some .boolean)])
def wsX2_elementOf : List Cond := .code yX2_elementOf cX2_elementOf 3 (some .int) :: ([.fieldLink RX2 12 "ObjectRows" "kinds" "LObjectRows$Row;", .fieldLink RX2 22 "ObjectRows" "starts" "LObjectRows$Row;", .methodLink RX2 84 yX1_at, .instanceMethod yX1_at, .selects RX1 yX1_at yX1_at, .initialized RX1, .code yX1_at cX1_at 2 (some .int), .fieldLink RX1 9 "ObjectRows$Row" "cells" "[I", .methodLink RX2 96 yX2_storeRow, .instanceMethod yX2_storeRow, .selects RX2 yX2_storeRow yX2_storeRow, .initialized RX2, .code yX2_storeRow cX2_storeRow 2 (some (.object "ObjectRows$Row")), .fieldLink RX2 28 "ObjectRows" "bytes" "LObjectRows$Row;", .fieldLink RX2 34 "ObjectRows" "now" "LObjectRows$Changing;", .fieldLink RX2 67 "ObjectRows$Changing" "elements" "LObjectRows$Row;"] ++ wsX20 ++ wsX10 ++ wsX00)
def wsX2_get_r1 : List Cond := [Cond.fieldLink RX2 12 "ObjectRows" "kinds" "LObjectRows$Row;", Cond.classLink RX2 107 RJx00060, Cond.instantiable RJx00060 6, Cond.initialized RJx00060, Cond.methodLink RX2 80 yX2_known, Cond.instanceMethod yX2_known, Cond.selects RX2 yX2_known yX2_known, Cond.initialized RX2, Cond.code yX2_known cX2_known 2 (some .boolean), Cond.fieldLink RX2 50 "ObjectRows" "count" "I", Cond.methodLink RX2 84 yX1_at, Cond.instanceMethod yX1_at, Cond.selects RX1 yX1_at yX1_at, Cond.initialized RX1, Cond.code yX1_at cX1_at 2 (some .int), Cond.fieldLink RX1 9 "ObjectRows$Row" "cells" "[I", Cond.methodLink RX2 104 yX2_isView, Cond.static yX2_isView, Cond.code yX2_isView cX2_isView 1 (some .boolean), Cond.methodLink RX2 191 yX2_isList, Cond.static yX2_isList, Cond.code yX2_isList cX2_isList 1 (some .boolean), Cond.methodLink RX2 93 yX2_accessOf, Cond.instanceMethod yX2_accessOf]
def wsX2_get_r2 : List Cond := [Cond.selects RX2 yX2_accessOf yX2_accessOf, Cond.code yX2_accessOf cX2_accessOf 2 (some .int), Cond.fieldLink RX2 34 "ObjectRows" "now" "LObjectRows$Changing;", Cond.fieldLink RX2 206 "ObjectRows$Changing" "accesses" "LObjectRows$Row;", Cond.methodLink RX2 209 yX2_accessHolder, Cond.instanceMethod yX2_accessHolder, Cond.selects RX2 yX2_accessHolder yX2_accessHolder, Cond.code yX2_accessHolder cX2_accessHolder 2 (some .int), Cond.fieldLink RX2 19 "ObjectRows" "owners" "LObjectRows$Row;", Cond.methodLink RX2 87 yX2_hasElement, Cond.instanceMethod yX2_hasElement, Cond.selects RX2 yX2_hasElement yX2_hasElement, Cond.code yX2_hasElement cX2_hasElement 3 (some .boolean), Cond.fieldLink RX2 25 "ObjectRows" "lengths" "LObjectRows$Row;", Cond.methodLink RX2 114 yX2_elementOf, Cond.instanceMethod yX2_elementOf, Cond.selects RX2 yX2_elementOf yX2_elementOf, Cond.code yX2_elementOf cX2_elementOf 3 (some .int), Cond.fieldLink RX2 22 "ObjectRows" "starts" "LObjectRows$Row;", Cond.methodLink RX2 96 yX2_storeRow, Cond.instanceMethod yX2_storeRow, Cond.selects RX2 yX2_storeRow yX2_storeRow, Cond.code yX2_storeRow cX2_storeRow 2 (some (.object "ObjectRows$Row")), Cond.fieldLink RX2 28 "ObjectRows" "bytes" "LObjectRows$Row;"]
def wsX2_get_r3 : List Cond := [Cond.fieldLink RX2 67 "ObjectRows$Changing" "elements" "LObjectRows$Row;"]
def wsX2_get : List Cond := .code yX2_get cX2_get 3 (some .int) :: ((wsX2_get_r1 ++ (wsX2_get_r2 ++ wsX2_get_r3)) ++ wsX20 ++ wsJx000600 ++ wsX10 ++ wsX00)
def wsX2_hasPart : List Cond := .code yX2_hasPart cX2_hasPart 5 (some .boolean) :: ([.fieldLink RX2 25 "ObjectRows" "lengths" "LObjectRows$Row;", .methodLink RX2 84 yX1_at, .instanceMethod yX1_at, .selects RX1 yX1_at yX1_at, .initialized RX1, .code yX1_at cX1_at 2 (some .int), .fieldLink RX1 9 "ObjectRows$Row" "cells" "[I", .methodLink RX2 90 yX2_within, .static yX2_within, .initialized RX2, .code yX2_within cX2_within 2 (some .boolean)] ++ wsX20 ++ wsX10)
def wsX2_addPart_r1 : List Cond := [Cond.fieldLink RX2 12 "ObjectRows" "kinds" "LObjectRows$Row;", Cond.fieldLink RX2 22 "ObjectRows" "starts" "LObjectRows$Row;", Cond.fieldLink RX2 19 "ObjectRows" "owners" "LObjectRows$Row;", Cond.fieldLink RX2 34 "ObjectRows" "now" "LObjectRows$Changing;", Cond.fieldLink RX2 206 "ObjectRows$Changing" "accesses" "LObjectRows$Row;", Cond.fieldLink RX2 126 "ObjectRows$Changing" "executables" "LObjectRows$Row;", Cond.methodLink RX2 84 yX1_at, Cond.instanceMethod yX1_at, Cond.selects RX1 yX1_at yX1_at, Cond.initialized RX1, Cond.code yX1_at cX1_at 2 (some .int), Cond.fieldLink RX1 9 "ObjectRows$Row" "cells" "[I", Cond.methodLink RX2 42 yX2_addObject, Cond.instanceMethod yX2_addObject, Cond.selects RX2 yX2_addObject yX2_addObject, Cond.initialized RX2, Cond.code yX2_addObject cX2_addObject 6 (some .int), Cond.fieldLink RX2 50 "ObjectRows" "count" "I", Cond.fieldLink RX2 16 "ObjectRows" "numbers" "LObjectRows$Row;", Cond.fieldLink RX2 25 "ObjectRows" "lengths" "LObjectRows$Row;", Cond.fieldLink RX2 57 "ObjectRows$Changing" "storage" "I", Cond.methodLink RX2 194 yX1_add, Cond.instanceMethod yX1_add, Cond.selects RX1 yX1_add yX1_add]
def wsX2_addPart_r2 : List Cond := [Cond.code yX1_add cX1_add 2 none, Cond.fieldLink RX1 13 "ObjectRows$Row" "size" "I", Cond.methodLink RX1 17 yX1_reach, Cond.instanceMethod yX1_reach, Cond.selects RX1 yX1_reach yX1_reach, Cond.code yX1_reach cX1_reach 2 none, Cond.methodLink RX1 37 Lib.Math.max.name, Cond.static Lib.Math.max.name, Cond.initialized "java/lang/Math", Cond.code Lib.Math.max.name Lib.Math.max.code 2 (some .int), Cond.methodLink RX1 40 yJ7_copyOf_59c91, Cond.static yJ7_copyOf_59c91, Cond.initialized RJ7, Cond.code yJ7_copyOf_59c91 cJ7_copyOf_59c91 3 (some (.array .int)), Cond.methodLink RJ7 316 ⟨"[I", "clone", "()Ljava/lang/Object;"⟩, Cond.sameMethod "[I" "java/lang/Object" "clone" "()Ljava/lang/Object;", Cond.native ⟨"java/lang/Object", "clone", "()Ljava/lang/Object;"⟩, Cond.instanceMethod ⟨"java/lang/Object", "clone", "()Ljava/lang/Object;"⟩, Cond.selects "[I" ⟨"[I", "clone", "()Ljava/lang/Object;"⟩ ⟨"java/lang/Object", "clone", "()Ljava/lang/Object;"⟩, Cond.classLink RJ7 317 "[I", Cond.arrayClass .int, Cond.methodLink RJ7 304 Lib.Math.min.name, Cond.static Lib.Math.min.name, Cond.code Lib.Math.min.name Lib.Math.min.code 2 (some .int)]
def wsX2_addPart_r3 : List Cond := [Cond.methodLink RJ7 150 arraycopyName, Cond.native arraycopyName, Cond.static arraycopyName, Cond.initialized "java/lang/System", Cond.methodLink RX1 21 yX1_set, Cond.instanceMethod yX1_set, Cond.selects RX1 yX1_set yX1_set, Cond.code yX1_set cX1_set 3 none, Cond.methodLink RX2 197 yX2_firstAccess, Cond.static yX2_firstAccess, Cond.code yX2_firstAccess cX2_firstAccess 1 (some .int), Cond.methodLink RX2 200 yX0_addCells, Cond.instanceMethod yX0_addCells, Cond.selects RX0 yX0_addCells yX0_addCells, Cond.initialized RX0, Cond.code yX0_addCells cX0_addCells 2 none, Cond.fieldLink RX0 10 "ObjectRows$Changing" "executables" "LObjectRows$Row;", Cond.fieldLink RX0 16 "ObjectRows$Changing" "accesses" "LObjectRows$Row;", Cond.fieldLink RX0 19 "ObjectRows$Changing" "capacities" "LObjectRows$Row;", Cond.fieldLink RX0 22 "ObjectRows$Changing" "entries" "LObjectRows$Row;", Cond.fieldLink RX0 25 "ObjectRows$Changing" "growths" "LObjectRows$Row;", Cond.methodLink RX0 31 yX1_add, Cond.methodLink RX2 100 yX1_set]
def wsX2_addPart : List Cond := .code yX2_addPart cX2_addPart 5 (some .int) :: ((wsX2_addPart_r1 ++ (wsX2_addPart_r2 ++ wsX2_addPart_r3)) ++ wsX20 ++ wsX00 ++ wsX10)
def wsX2_part_r1 : List Cond := [Cond.fieldLink RX2 12 "ObjectRows" "kinds" "LObjectRows$Row;", Cond.fieldLink RX2 50 "ObjectRows" "count" "I", Cond.methodLink RX2 80 yX2_known, Cond.instanceMethod yX2_known, Cond.selects RX2 yX2_known yX2_known, Cond.initialized RX2, Cond.code yX2_known cX2_known 2 (some .boolean), Cond.methodLink RX2 84 yX1_at, Cond.instanceMethod yX1_at, Cond.selects RX1 yX1_at yX1_at, Cond.initialized RX1, Cond.code yX1_at cX1_at 2 (some .int), Cond.fieldLink RX1 9 "ObjectRows$Row" "cells" "[I", Cond.methodLink RX2 104 yX2_isView, Cond.static yX2_isView, Cond.code yX2_isView cX2_isView 1 (some .boolean), Cond.methodLink RX2 191 yX2_isList, Cond.static yX2_isList, Cond.code yX2_isList cX2_isList 1 (some .boolean), Cond.methodLink RX2 118 yX2_hasPart, Cond.instanceMethod yX2_hasPart, Cond.selects RX2 yX2_hasPart yX2_hasPart, Cond.code yX2_hasPart cX2_hasPart 5 (some .boolean), Cond.fieldLink RX2 25 "ObjectRows" "lengths" "LObjectRows$Row;"]
def wsX2_part_r2 : List Cond := [Cond.methodLink RX2 90 yX2_within, Cond.static yX2_within, Cond.code yX2_within cX2_within 2 (some .boolean), Cond.methodLink RX2 93 yX2_accessOf, Cond.instanceMethod yX2_accessOf, Cond.selects RX2 yX2_accessOf yX2_accessOf, Cond.code yX2_accessOf cX2_accessOf 2 (some .int), Cond.fieldLink RX2 34 "ObjectRows" "now" "LObjectRows$Changing;", Cond.fieldLink RX2 206 "ObjectRows$Changing" "accesses" "LObjectRows$Row;", Cond.methodLink RX2 209 yX2_accessHolder, Cond.instanceMethod yX2_accessHolder, Cond.selects RX2 yX2_accessHolder yX2_accessHolder, Cond.code yX2_accessHolder cX2_accessHolder 2 (some .int), Cond.fieldLink RX2 19 "ObjectRows" "owners" "LObjectRows$Row;", Cond.methodLink RX2 122 yX2_addPart, Cond.instanceMethod yX2_addPart, Cond.selects RX2 yX2_addPart yX2_addPart, Cond.code yX2_addPart cX2_addPart 5 (some .int), Cond.fieldLink RX2 22 "ObjectRows" "starts" "LObjectRows$Row;", Cond.fieldLink RX2 126 "ObjectRows$Changing" "executables" "LObjectRows$Row;", Cond.methodLink RX2 42 yX2_addObject, Cond.instanceMethod yX2_addObject, Cond.selects RX2 yX2_addObject yX2_addObject, Cond.code yX2_addObject cX2_addObject 6 (some .int)]
def wsX2_part_r3 : List Cond := [Cond.fieldLink RX2 16 "ObjectRows" "numbers" "LObjectRows$Row;", Cond.fieldLink RX2 57 "ObjectRows$Changing" "storage" "I", Cond.methodLink RX2 194 yX1_add, Cond.instanceMethod yX1_add, Cond.selects RX1 yX1_add yX1_add, Cond.code yX1_add cX1_add 2 none, Cond.fieldLink RX1 13 "ObjectRows$Row" "size" "I", Cond.methodLink RX1 17 yX1_reach, Cond.instanceMethod yX1_reach, Cond.selects RX1 yX1_reach yX1_reach, Cond.code yX1_reach cX1_reach 2 none, Cond.methodLink RX1 37 Lib.Math.max.name, Cond.static Lib.Math.max.name, Cond.initialized "java/lang/Math", Cond.code Lib.Math.max.name Lib.Math.max.code 2 (some .int), Cond.methodLink RX1 40 yJ7_copyOf_59c91, Cond.static yJ7_copyOf_59c91, Cond.initialized RJ7, Cond.code yJ7_copyOf_59c91 cJ7_copyOf_59c91 3 (some (.array .int)), Cond.methodLink RJ7 316 ⟨"[I", "clone", "()Ljava/lang/Object;"⟩, Cond.sameMethod "[I" "java/lang/Object" "clone" "()Ljava/lang/Object;", Cond.native ⟨"java/lang/Object", "clone", "()Ljava/lang/Object;"⟩, Cond.instanceMethod ⟨"java/lang/Object", "clone", "()Ljava/lang/Object;"⟩, Cond.selects "[I" ⟨"[I", "clone", "()Ljava/lang/Object;"⟩ ⟨"java/lang/Object", "clone", "()Ljava/lang/Object;"⟩]
def wsX2_part_r4 : List Cond := [Cond.classLink RJ7 317 "[I", Cond.arrayClass .int, Cond.methodLink RJ7 304 Lib.Math.min.name, Cond.static Lib.Math.min.name, Cond.code Lib.Math.min.name Lib.Math.min.code 2 (some .int), Cond.methodLink RJ7 150 arraycopyName, Cond.native arraycopyName, Cond.static arraycopyName, Cond.initialized "java/lang/System", Cond.methodLink RX1 21 yX1_set, Cond.instanceMethod yX1_set, Cond.selects RX1 yX1_set yX1_set, Cond.code yX1_set cX1_set 3 none, Cond.methodLink RX2 197 yX2_firstAccess, Cond.static yX2_firstAccess, Cond.code yX2_firstAccess cX2_firstAccess 1 (some .int), Cond.methodLink RX2 200 yX0_addCells, Cond.instanceMethod yX0_addCells, Cond.selects RX0 yX0_addCells yX0_addCells, Cond.initialized RX0, Cond.code yX0_addCells cX0_addCells 2 none, Cond.fieldLink RX0 10 "ObjectRows$Changing" "executables" "LObjectRows$Row;", Cond.fieldLink RX0 16 "ObjectRows$Changing" "accesses" "LObjectRows$Row;", Cond.fieldLink RX0 19 "ObjectRows$Changing" "capacities" "LObjectRows$Row;"]
def wsX2_part_r5 : List Cond := [Cond.fieldLink RX0 22 "ObjectRows$Changing" "entries" "LObjectRows$Row;", Cond.fieldLink RX0 25 "ObjectRows$Changing" "growths" "LObjectRows$Row;", Cond.methodLink RX0 31 yX1_add, Cond.methodLink RX2 100 yX1_set]
def wsX2_part : List Cond := .code yX2_part cX2_part 5 (some .int) :: ((wsX2_part_r1 ++ (wsX2_part_r2 ++ (wsX2_part_r3 ++ (wsX2_part_r4 ++ wsX2_part_r5)))) ++ wsX20 ++ wsX10 ++ wsX00)
def wsX2_lowerAccess_r1 : List Cond := [Cond.fieldLink RX2 12 "ObjectRows" "kinds" "LObjectRows$Row;", Cond.fieldLink RX2 34 "ObjectRows" "now" "LObjectRows$Changing;", Cond.fieldLink RX2 206 "ObjectRows$Changing" "accesses" "LObjectRows$Row;", Cond.methodLink RX2 84 yX1_at, Cond.instanceMethod yX1_at, Cond.selects RX1 yX1_at yX1_at, Cond.initialized RX1, Cond.code yX1_at cX1_at 2 (some .int), Cond.fieldLink RX1 9 "ObjectRows$Row" "cells" "[I", Cond.methodLink RX2 197 yX2_firstAccess, Cond.static yX2_firstAccess, Cond.initialized RX2, Cond.code yX2_firstAccess cX2_firstAccess 1 (some .int), Cond.methodLink RX2 93 yX2_accessOf, Cond.instanceMethod yX2_accessOf, Cond.selects RX2 yX2_accessOf yX2_accessOf, Cond.code yX2_accessOf cX2_accessOf 2 (some .int), Cond.methodLink RX2 209 yX2_accessHolder, Cond.instanceMethod yX2_accessHolder, Cond.selects RX2 yX2_accessHolder yX2_accessHolder, Cond.code yX2_accessHolder cX2_accessHolder 2 (some .int), Cond.fieldLink RX2 19 "ObjectRows" "owners" "LObjectRows$Row;", Cond.methodLink RX2 100 yX1_set, Cond.instanceMethod yX1_set]
def wsX2_lowerAccess_r2 : List Cond := [Cond.selects RX1 yX1_set yX1_set, Cond.code yX1_set cX1_set 3 none]
def wsX2_lowerAccess : List Cond := .code yX2_lowerAccess cX2_lowerAccess 3 (some .int) :: ((wsX2_lowerAccess_r1 ++ wsX2_lowerAccess_r2) ++ wsX20 ++ wsX00 ++ wsX10)
def wsX2_letGrow : List Cond := .code yX2_letGrow cX2_letGrow 3 (some .int) :: ([.fieldLink RX2 12 "ObjectRows" "kinds" "LObjectRows$Row;", .fieldLink RX2 34 "ObjectRows" "now" "LObjectRows$Changing;", .fieldLink RX2 135 "ObjectRows$Changing" "growths" "LObjectRows$Row;", .fieldLink RX2 19 "ObjectRows" "owners" "LObjectRows$Row;", .methodLink RX2 84 yX1_at, .instanceMethod yX1_at, .selects RX1 yX1_at yX1_at, .initialized RX1, .code yX1_at cX1_at 2 (some .int), .fieldLink RX1 9 "ObjectRows$Row" "cells" "[I", .methodLink RX2 100 yX1_set, .instanceMethod yX1_set, .selects RX1 yX1_set yX1_set, .code yX1_set cX1_set 3 none] ++ wsX20 ++ wsX00 ++ wsX10)
def wsX2_attribute_r1 : List Cond := [Cond.fieldLink RX2 34 "ObjectRows" "now" "LObjectRows$Changing;", Cond.fieldLink RX2 126 "ObjectRows$Changing" "executables" "LObjectRows$Row;", Cond.methodLink RX2 80 yX2_known, Cond.instanceMethod yX2_known, Cond.selects RX2 yX2_known yX2_known, Cond.initialized RX2, Cond.code yX2_known cX2_known 2 (some .boolean), Cond.fieldLink RX2 50 "ObjectRows" "count" "I", Cond.methodLink RX2 90 yX2_within, Cond.static yX2_within, Cond.code yX2_within cX2_within 2 (some .boolean), Cond.methodLink RX2 100 yX1_set, Cond.instanceMethod yX1_set, Cond.selects RX1 yX1_set yX1_set, Cond.initialized RX1, Cond.code yX1_set cX1_set 3 none, Cond.fieldLink RX1 9 "ObjectRows$Row" "cells" "[I", Cond.methodLink RX2 129 yX2_lowerAccess, Cond.instanceMethod yX2_lowerAccess, Cond.selects RX2 yX2_lowerAccess yX2_lowerAccess, Cond.code yX2_lowerAccess cX2_lowerAccess 3 (some .int), Cond.fieldLink RX2 12 "ObjectRows" "kinds" "LObjectRows$Row;", Cond.fieldLink RX2 206 "ObjectRows$Changing" "accesses" "LObjectRows$Row;", Cond.methodLink RX2 84 yX1_at]
def wsX2_attribute_r2 : List Cond := [Cond.instanceMethod yX1_at, Cond.selects RX1 yX1_at yX1_at, Cond.code yX1_at cX1_at 2 (some .int), Cond.methodLink RX2 197 yX2_firstAccess, Cond.static yX2_firstAccess, Cond.code yX2_firstAccess cX2_firstAccess 1 (some .int), Cond.methodLink RX2 93 yX2_accessOf, Cond.instanceMethod yX2_accessOf, Cond.selects RX2 yX2_accessOf yX2_accessOf, Cond.code yX2_accessOf cX2_accessOf 2 (some .int), Cond.methodLink RX2 209 yX2_accessHolder, Cond.instanceMethod yX2_accessHolder, Cond.selects RX2 yX2_accessHolder yX2_accessHolder, Cond.code yX2_accessHolder cX2_accessHolder 2 (some .int), Cond.fieldLink RX2 19 "ObjectRows" "owners" "LObjectRows$Row;", Cond.methodLink RX2 132 yX2_letGrow, Cond.instanceMethod yX2_letGrow, Cond.selects RX2 yX2_letGrow yX2_letGrow, Cond.code yX2_letGrow cX2_letGrow 3 (some .int), Cond.fieldLink RX2 135 "ObjectRows$Changing" "growths" "LObjectRows$Row;"]
def wsX2_attribute : List Cond := .code yX2_attribute cX2_attribute 4 (some .int) :: ((wsX2_attribute_r1 ++ wsX2_attribute_r2) ++ wsX20 ++ wsX00 ++ wsX10)
def wsX2_hasNumber : List Cond := .code yX2_hasNumber cX2_hasNumber 1 (some .boolean) :: ([])
def wsX2_told_r1 : List Cond := [Cond.fieldLink RX2 34 "ObjectRows" "now" "LObjectRows$Changing;", Cond.fieldLink RX2 126 "ObjectRows$Changing" "executables" "LObjectRows$Row;", Cond.fieldLink RX2 135 "ObjectRows$Changing" "growths" "LObjectRows$Row;", Cond.fieldLink RX2 19 "ObjectRows" "owners" "LObjectRows$Row;", Cond.fieldLink RX2 12 "ObjectRows" "kinds" "LObjectRows$Row;", Cond.fieldLink RX2 16 "ObjectRows" "numbers" "LObjectRows$Row;", Cond.fieldLink RX2 141 "ObjectRows$Changing" "capacities" "LObjectRows$Row;", Cond.methodLink RX2 80 yX2_known, Cond.instanceMethod yX2_known, Cond.selects RX2 yX2_known yX2_known, Cond.initialized RX2, Cond.code yX2_known cX2_known 2 (some .boolean), Cond.fieldLink RX2 50 "ObjectRows" "count" "I", Cond.methodLink RX2 84 yX1_at, Cond.instanceMethod yX1_at, Cond.selects RX1 yX1_at yX1_at, Cond.initialized RX1, Cond.code yX1_at cX1_at 2 (some .int), Cond.fieldLink RX1 9 "ObjectRows$Row" "cells" "[I", Cond.methodLink RX2 93 yX2_accessOf, Cond.instanceMethod yX2_accessOf, Cond.selects RX2 yX2_accessOf yX2_accessOf, Cond.code yX2_accessOf cX2_accessOf 2 (some .int), Cond.fieldLink RX2 206 "ObjectRows$Changing" "accesses" "LObjectRows$Row;"]
def wsX2_told_r2 : List Cond := [Cond.methodLink RX2 209 yX2_accessHolder, Cond.instanceMethod yX2_accessHolder, Cond.selects RX2 yX2_accessHolder yX2_accessHolder, Cond.code yX2_accessHolder cX2_accessHolder 2 (some .int), Cond.methodLink RX2 138 yX2_hasNumber, Cond.static yX2_hasNumber, Cond.code yX2_hasNumber cX2_hasNumber 1 (some .boolean)]
def wsX2_told : List Cond := .code yX2_told cX2_told 3 (some .int) :: ((wsX2_told_r1 ++ wsX2_told_r2) ++ wsX20 ++ wsX00 ++ wsX10)
def wsX2_readableString : List Cond := .code yX2_readableString cX2_readableString 2 (some .boolean) :: ([.fieldLink RX2 12 "ObjectRows" "kinds" "LObjectRows$Row;", .methodLink RX2 84 yX1_at, .instanceMethod yX1_at, .selects RX1 yX1_at yX1_at, .initialized RX1, .code yX1_at cX1_at 2 (some .int), .fieldLink RX1 9 "ObjectRows$Row" "cells" "[I", .methodLink RX2 93 yX2_accessOf, .instanceMethod yX2_accessOf, .selects RX2 yX2_accessOf yX2_accessOf, .initialized RX2, .code yX2_accessOf cX2_accessOf 2 (some .int), .fieldLink RX2 34 "ObjectRows" "now" "LObjectRows$Changing;", .fieldLink RX2 206 "ObjectRows$Changing" "accesses" "LObjectRows$Row;", .methodLink RX2 209 yX2_accessHolder, .instanceMethod yX2_accessHolder, .selects RX2 yX2_accessHolder yX2_accessHolder, .code yX2_accessHolder cX2_accessHolder 2 (some .int), .fieldLink RX2 19 "ObjectRows" "owners" "LObjectRows$Row;"] ++ wsX20 ++ wsX10 ++ wsX00)
def wsX2_order : List Cond := .code yX2_order cX2_order 2 (some .int) :: ([])
def wsX2_orderOfBytes_r1 : List Cond := [Cond.fieldLink RX2 25 "ObjectRows" "lengths" "LObjectRows$Row;", Cond.methodLink RX2 186 Lib.Math.min.name, Cond.static Lib.Math.min.name, Cond.initialized "java/lang/Math", Cond.code Lib.Math.min.name Lib.Math.min.code 2 (some .int), Cond.methodLink RX2 84 yX1_at, Cond.instanceMethod yX1_at, Cond.selects RX1 yX1_at yX1_at, Cond.initialized RX1, Cond.code yX1_at cX1_at 2 (some .int), Cond.fieldLink RX1 9 "ObjectRows$Row" "cells" "[I", Cond.methodLink RX2 114 yX2_elementOf, Cond.instanceMethod yX2_elementOf, Cond.selects RX2 yX2_elementOf yX2_elementOf, Cond.initialized RX2, Cond.code yX2_elementOf cX2_elementOf 3 (some .int), Cond.fieldLink RX2 12 "ObjectRows" "kinds" "LObjectRows$Row;", Cond.fieldLink RX2 22 "ObjectRows" "starts" "LObjectRows$Row;", Cond.methodLink RX2 96 yX2_storeRow, Cond.instanceMethod yX2_storeRow, Cond.selects RX2 yX2_storeRow yX2_storeRow, Cond.code yX2_storeRow cX2_storeRow 2 (some (.object "ObjectRows$Row")), Cond.fieldLink RX2 28 "ObjectRows" "bytes" "LObjectRows$Row;", Cond.fieldLink RX2 34 "ObjectRows" "now" "LObjectRows$Changing;"]
def wsX2_orderOfBytes_r2 : List Cond := [Cond.fieldLink RX2 67 "ObjectRows$Changing" "elements" "LObjectRows$Row;", Cond.methodLink RX2 147 yX2_order, Cond.static yX2_order, Cond.code yX2_order cX2_order 2 (some .int)]
def wsX2_orderOfBytes : List Cond := .code yX2_orderOfBytes cX2_orderOfBytes 6 (some .int) :: ((wsX2_orderOfBytes_r1 ++ wsX2_orderOfBytes_r2) ++ wsX20 ++ wsX10 ++ wsX00)
def wsX2_numberInTens : List Cond := .code yX2_numberInTens cX2_numberInTens 7 (some .int) :: ([.fieldLink RX2 25 "ObjectRows" "lengths" "LObjectRows$Row;", .methodLink RX2 84 yX1_at, .instanceMethod yX1_at, .selects RX1 yX1_at yX1_at, .initialized RX1, .code yX1_at cX1_at 2 (some .int), .fieldLink RX1 9 "ObjectRows$Row" "cells" "[I", .methodLink RX2 114 yX2_elementOf, .instanceMethod yX2_elementOf, .selects RX2 yX2_elementOf yX2_elementOf, .initialized RX2, .code yX2_elementOf cX2_elementOf 3 (some .int), .fieldLink RX2 12 "ObjectRows" "kinds" "LObjectRows$Row;", .fieldLink RX2 22 "ObjectRows" "starts" "LObjectRows$Row;", .methodLink RX2 96 yX2_storeRow, .instanceMethod yX2_storeRow, .selects RX2 yX2_storeRow yX2_storeRow, .code yX2_storeRow cX2_storeRow 2 (some (.object "ObjectRows$Row")), .fieldLink RX2 28 "ObjectRows" "bytes" "LObjectRows$Row;", .fieldLink RX2 34 "ObjectRows" "now" "LObjectRows$Changing;", .fieldLink RX2 67 "ObjectRows$Changing" "elements" "LObjectRows$Row;", .methodLink RX2 90 yX2_within, .static yX2_within, .code yX2_within cX2_within 2 (some .boolean)] ++ wsX20 ++ wsX10 ++ wsX00)
def wsX2_nameOf_r1 : List Cond := [Cond.fieldLink RX2 12 "ObjectRows" "kinds" "LObjectRows$Row;", Cond.fieldLink RX2 16 "ObjectRows" "numbers" "LObjectRows$Row;", Cond.methodLink RX2 84 yX1_at, Cond.instanceMethod yX1_at, Cond.selects RX1 yX1_at yX1_at, Cond.initialized RX1, Cond.code yX1_at cX1_at 2 (some .int), Cond.fieldLink RX1 9 "ObjectRows$Row" "cells" "[I", Cond.methodLink RX2 150 yX2_readableString, Cond.instanceMethod yX2_readableString, Cond.selects RX2 yX2_readableString yX2_readableString, Cond.initialized RX2, Cond.code yX2_readableString cX2_readableString 2 (some .boolean), Cond.methodLink RX2 93 yX2_accessOf, Cond.instanceMethod yX2_accessOf, Cond.selects RX2 yX2_accessOf yX2_accessOf, Cond.code yX2_accessOf cX2_accessOf 2 (some .int), Cond.fieldLink RX2 34 "ObjectRows" "now" "LObjectRows$Changing;", Cond.fieldLink RX2 206 "ObjectRows$Changing" "accesses" "LObjectRows$Row;", Cond.methodLink RX2 209 yX2_accessHolder, Cond.instanceMethod yX2_accessHolder, Cond.selects RX2 yX2_accessHolder yX2_accessHolder, Cond.code yX2_accessHolder cX2_accessHolder 2 (some .int), Cond.fieldLink RX2 19 "ObjectRows" "owners" "LObjectRows$Row;"]
def wsX2_nameOf_r2 : List Cond := [Cond.methodLink RX2 221 yX2_numberInTens, Cond.instanceMethod yX2_numberInTens, Cond.selects RX2 yX2_numberInTens yX2_numberInTens, Cond.code yX2_numberInTens cX2_numberInTens 7 (some .int), Cond.fieldLink RX2 25 "ObjectRows" "lengths" "LObjectRows$Row;", Cond.methodLink RX2 114 yX2_elementOf, Cond.instanceMethod yX2_elementOf, Cond.selects RX2 yX2_elementOf yX2_elementOf, Cond.code yX2_elementOf cX2_elementOf 3 (some .int), Cond.fieldLink RX2 22 "ObjectRows" "starts" "LObjectRows$Row;", Cond.methodLink RX2 96 yX2_storeRow, Cond.instanceMethod yX2_storeRow, Cond.selects RX2 yX2_storeRow yX2_storeRow, Cond.code yX2_storeRow cX2_storeRow 2 (some (.object "ObjectRows$Row")), Cond.fieldLink RX2 28 "ObjectRows" "bytes" "LObjectRows$Row;", Cond.fieldLink RX2 67 "ObjectRows$Changing" "elements" "LObjectRows$Row;", Cond.methodLink RX2 90 yX2_within, Cond.static yX2_within, Cond.code yX2_within cX2_within 2 (some .boolean)]
def wsX2_nameOf : List Cond := .code yX2_nameOf cX2_nameOf 2 (some .int) :: ((wsX2_nameOf_r1 ++ wsX2_nameOf_r2) ++ wsX20 ++ wsX10 ++ wsX00)
def wsX2_alikeOfKind : List Cond := .code yX2_alikeOfKind cX2_alikeOfKind 4 (some .boolean) :: ([.fieldLink RX2 19 "ObjectRows" "owners" "LObjectRows$Row;", .fieldLink RX2 22 "ObjectRows" "starts" "LObjectRows$Row;", .fieldLink RX2 25 "ObjectRows" "lengths" "LObjectRows$Row;", .fieldLink RX2 16 "ObjectRows" "numbers" "LObjectRows$Row;", .methodLink RX2 84 yX1_at, .instanceMethod yX1_at, .selects RX1 yX1_at yX1_at, .initialized RX1, .code yX1_at cX1_at 2 (some .int), .fieldLink RX1 9 "ObjectRows$Row" "cells" "[I"] ++ wsX20 ++ wsX10)
def wsX2_alikeButStrings : List Cond := .code yX2_alikeButStrings cX2_alikeButStrings 5 (some .boolean) :: ([.fieldLink RX2 12 "ObjectRows" "kinds" "LObjectRows$Row;", .fieldLink RX2 25 "ObjectRows" "lengths" "LObjectRows$Row;", .methodLink RX2 84 yX1_at, .instanceMethod yX1_at, .selects RX1 yX1_at yX1_at, .initialized RX1, .code yX1_at cX1_at 2 (some .int), .fieldLink RX1 9 "ObjectRows$Row" "cells" "[I", .methodLink RX2 191 yX2_isList, .static yX2_isList, .initialized RX2, .code yX2_isList cX2_isList 1 (some .boolean), .methodLink RX2 218 yX2_alikeOfKind, .instanceMethod yX2_alikeOfKind, .selects RX2 yX2_alikeOfKind yX2_alikeOfKind, .code yX2_alikeOfKind cX2_alikeOfKind 4 (some .boolean), .fieldLink RX2 19 "ObjectRows" "owners" "LObjectRows$Row;", .fieldLink RX2 22 "ObjectRows" "starts" "LObjectRows$Row;", .fieldLink RX2 16 "ObjectRows" "numbers" "LObjectRows$Row;"] ++ wsX20 ++ wsX10)
def wsX2_alike_r1 : List Cond := [Cond.fieldLink RX2 12 "ObjectRows" "kinds" "LObjectRows$Row;", Cond.methodLink RX2 84 yX1_at, Cond.instanceMethod yX1_at, Cond.selects RX1 yX1_at yX1_at, Cond.initialized RX1, Cond.code yX1_at cX1_at 2 (some .int), Cond.fieldLink RX1 9 "ObjectRows$Row" "cells" "[I", Cond.methodLink RX2 150 yX2_readableString, Cond.instanceMethod yX2_readableString, Cond.selects RX2 yX2_readableString yX2_readableString, Cond.initialized RX2, Cond.code yX2_readableString cX2_readableString 2 (some .boolean), Cond.methodLink RX2 93 yX2_accessOf, Cond.instanceMethod yX2_accessOf, Cond.selects RX2 yX2_accessOf yX2_accessOf, Cond.code yX2_accessOf cX2_accessOf 2 (some .int), Cond.fieldLink RX2 34 "ObjectRows" "now" "LObjectRows$Changing;", Cond.fieldLink RX2 206 "ObjectRows$Changing" "accesses" "LObjectRows$Row;", Cond.methodLink RX2 209 yX2_accessHolder, Cond.instanceMethod yX2_accessHolder, Cond.selects RX2 yX2_accessHolder yX2_accessHolder, Cond.code yX2_accessHolder cX2_accessHolder 2 (some .int), Cond.fieldLink RX2 19 "ObjectRows" "owners" "LObjectRows$Row;", Cond.methodLink RX2 153 yX2_orderOfBytes]
def wsX2_alike_r2 : List Cond := [Cond.instanceMethod yX2_orderOfBytes, Cond.selects RX2 yX2_orderOfBytes yX2_orderOfBytes, Cond.code yX2_orderOfBytes cX2_orderOfBytes 6 (some .int), Cond.fieldLink RX2 25 "ObjectRows" "lengths" "LObjectRows$Row;", Cond.methodLink RX2 186 Lib.Math.min.name, Cond.static Lib.Math.min.name, Cond.initialized "java/lang/Math", Cond.code Lib.Math.min.name Lib.Math.min.code 2 (some .int), Cond.methodLink RX2 114 yX2_elementOf, Cond.instanceMethod yX2_elementOf, Cond.selects RX2 yX2_elementOf yX2_elementOf, Cond.code yX2_elementOf cX2_elementOf 3 (some .int), Cond.fieldLink RX2 22 "ObjectRows" "starts" "LObjectRows$Row;", Cond.methodLink RX2 96 yX2_storeRow, Cond.instanceMethod yX2_storeRow, Cond.selects RX2 yX2_storeRow yX2_storeRow, Cond.code yX2_storeRow cX2_storeRow 2 (some (.object "ObjectRows$Row")), Cond.fieldLink RX2 28 "ObjectRows" "bytes" "LObjectRows$Row;", Cond.fieldLink RX2 67 "ObjectRows$Changing" "elements" "LObjectRows$Row;", Cond.methodLink RX2 147 yX2_order, Cond.static yX2_order, Cond.code yX2_order cX2_order 2 (some .int), Cond.methodLink RX2 212 yX2_nameOf, Cond.instanceMethod yX2_nameOf]
def wsX2_alike_r3 : List Cond := [Cond.selects RX2 yX2_nameOf yX2_nameOf, Cond.code yX2_nameOf cX2_nameOf 2 (some .int), Cond.fieldLink RX2 16 "ObjectRows" "numbers" "LObjectRows$Row;", Cond.methodLink RX2 221 yX2_numberInTens, Cond.instanceMethod yX2_numberInTens, Cond.selects RX2 yX2_numberInTens yX2_numberInTens, Cond.code yX2_numberInTens cX2_numberInTens 7 (some .int), Cond.methodLink RX2 90 yX2_within, Cond.static yX2_within, Cond.code yX2_within cX2_within 2 (some .boolean), Cond.methodLink RX2 215 yX2_alikeButStrings, Cond.instanceMethod yX2_alikeButStrings, Cond.selects RX2 yX2_alikeButStrings yX2_alikeButStrings, Cond.code yX2_alikeButStrings cX2_alikeButStrings 5 (some .boolean), Cond.methodLink RX2 191 yX2_isList, Cond.static yX2_isList, Cond.code yX2_isList cX2_isList 1 (some .boolean), Cond.methodLink RX2 218 yX2_alikeOfKind, Cond.instanceMethod yX2_alikeOfKind, Cond.selects RX2 yX2_alikeOfKind yX2_alikeOfKind, Cond.code yX2_alikeOfKind cX2_alikeOfKind 4 (some .boolean)]
def wsX2_alike : List Cond := .code yX2_alike cX2_alike 5 (some .boolean) :: ((wsX2_alike_r1 ++ (wsX2_alike_r2 ++ wsX2_alike_r3)) ++ wsX20 ++ wsX10 ++ wsX00)
def wsX2_same_r1 : List Cond := [Cond.methodLink RX2 80 yX2_known, Cond.instanceMethod yX2_known, Cond.selects RX2 yX2_known yX2_known, Cond.initialized RX2, Cond.code yX2_known cX2_known 2 (some .boolean), Cond.fieldLink RX2 50 "ObjectRows" "count" "I", Cond.methodLink RX2 144 yX2_alike, Cond.instanceMethod yX2_alike, Cond.selects RX2 yX2_alike yX2_alike, Cond.code yX2_alike cX2_alike 5 (some .boolean), Cond.fieldLink RX2 12 "ObjectRows" "kinds" "LObjectRows$Row;", Cond.methodLink RX2 84 yX1_at, Cond.instanceMethod yX1_at, Cond.selects RX1 yX1_at yX1_at, Cond.initialized RX1, Cond.code yX1_at cX1_at 2 (some .int), Cond.fieldLink RX1 9 "ObjectRows$Row" "cells" "[I", Cond.methodLink RX2 150 yX2_readableString, Cond.instanceMethod yX2_readableString, Cond.selects RX2 yX2_readableString yX2_readableString, Cond.code yX2_readableString cX2_readableString 2 (some .boolean), Cond.methodLink RX2 93 yX2_accessOf, Cond.instanceMethod yX2_accessOf, Cond.selects RX2 yX2_accessOf yX2_accessOf]
def wsX2_same_r2 : List Cond := [Cond.code yX2_accessOf cX2_accessOf 2 (some .int), Cond.fieldLink RX2 34 "ObjectRows" "now" "LObjectRows$Changing;", Cond.fieldLink RX2 206 "ObjectRows$Changing" "accesses" "LObjectRows$Row;", Cond.methodLink RX2 209 yX2_accessHolder, Cond.instanceMethod yX2_accessHolder, Cond.selects RX2 yX2_accessHolder yX2_accessHolder, Cond.code yX2_accessHolder cX2_accessHolder 2 (some .int), Cond.fieldLink RX2 19 "ObjectRows" "owners" "LObjectRows$Row;", Cond.methodLink RX2 153 yX2_orderOfBytes, Cond.instanceMethod yX2_orderOfBytes, Cond.selects RX2 yX2_orderOfBytes yX2_orderOfBytes, Cond.code yX2_orderOfBytes cX2_orderOfBytes 6 (some .int), Cond.fieldLink RX2 25 "ObjectRows" "lengths" "LObjectRows$Row;", Cond.methodLink RX2 186 Lib.Math.min.name, Cond.static Lib.Math.min.name, Cond.initialized "java/lang/Math", Cond.code Lib.Math.min.name Lib.Math.min.code 2 (some .int), Cond.methodLink RX2 114 yX2_elementOf, Cond.instanceMethod yX2_elementOf, Cond.selects RX2 yX2_elementOf yX2_elementOf, Cond.code yX2_elementOf cX2_elementOf 3 (some .int), Cond.fieldLink RX2 22 "ObjectRows" "starts" "LObjectRows$Row;", Cond.methodLink RX2 96 yX2_storeRow, Cond.instanceMethod yX2_storeRow]
def wsX2_same_r3 : List Cond := [Cond.selects RX2 yX2_storeRow yX2_storeRow, Cond.code yX2_storeRow cX2_storeRow 2 (some (.object "ObjectRows$Row")), Cond.fieldLink RX2 28 "ObjectRows" "bytes" "LObjectRows$Row;", Cond.fieldLink RX2 67 "ObjectRows$Changing" "elements" "LObjectRows$Row;", Cond.methodLink RX2 147 yX2_order, Cond.static yX2_order, Cond.code yX2_order cX2_order 2 (some .int), Cond.methodLink RX2 212 yX2_nameOf, Cond.instanceMethod yX2_nameOf, Cond.selects RX2 yX2_nameOf yX2_nameOf, Cond.code yX2_nameOf cX2_nameOf 2 (some .int), Cond.fieldLink RX2 16 "ObjectRows" "numbers" "LObjectRows$Row;", Cond.methodLink RX2 221 yX2_numberInTens, Cond.instanceMethod yX2_numberInTens, Cond.selects RX2 yX2_numberInTens yX2_numberInTens, Cond.code yX2_numberInTens cX2_numberInTens 7 (some .int), Cond.methodLink RX2 90 yX2_within, Cond.static yX2_within, Cond.code yX2_within cX2_within 2 (some .boolean), Cond.methodLink RX2 215 yX2_alikeButStrings, Cond.instanceMethod yX2_alikeButStrings, Cond.selects RX2 yX2_alikeButStrings yX2_alikeButStrings, Cond.code yX2_alikeButStrings cX2_alikeButStrings 5 (some .boolean), Cond.methodLink RX2 191 yX2_isList]
def wsX2_same_r4 : List Cond := [Cond.static yX2_isList, Cond.code yX2_isList cX2_isList 1 (some .boolean), Cond.methodLink RX2 218 yX2_alikeOfKind, Cond.instanceMethod yX2_alikeOfKind, Cond.selects RX2 yX2_alikeOfKind yX2_alikeOfKind, Cond.code yX2_alikeOfKind cX2_alikeOfKind 4 (some .boolean)]
def wsX2_same : List Cond := .code yX2_same cX2_same 3 (some .boolean) :: ((wsX2_same_r1 ++ (wsX2_same_r2 ++ (wsX2_same_r3 ++ wsX2_same_r4))) ++ wsX20 ++ wsX10 ++ wsX00)
def wsX2_compare_r1 : List Cond := [Cond.fieldLink RX2 12 "ObjectRows" "kinds" "LObjectRows$Row;", Cond.fieldLink RX2 16 "ObjectRows" "numbers" "LObjectRows$Row;", Cond.methodLink RX2 80 yX2_known, Cond.instanceMethod yX2_known, Cond.selects RX2 yX2_known yX2_known, Cond.initialized RX2, Cond.code yX2_known cX2_known 2 (some .boolean), Cond.fieldLink RX2 50 "ObjectRows" "count" "I", Cond.methodLink RX2 84 yX1_at, Cond.instanceMethod yX1_at, Cond.selects RX1 yX1_at yX1_at, Cond.initialized RX1, Cond.code yX1_at cX1_at 2 (some .int), Cond.fieldLink RX1 9 "ObjectRows$Row" "cells" "[I", Cond.methodLink RX2 147 yX2_order, Cond.static yX2_order, Cond.code yX2_order cX2_order 2 (some .int), Cond.methodLink RX2 150 yX2_readableString, Cond.instanceMethod yX2_readableString, Cond.selects RX2 yX2_readableString yX2_readableString, Cond.code yX2_readableString cX2_readableString 2 (some .boolean), Cond.methodLink RX2 93 yX2_accessOf, Cond.instanceMethod yX2_accessOf, Cond.selects RX2 yX2_accessOf yX2_accessOf]
def wsX2_compare_r2 : List Cond := [Cond.code yX2_accessOf cX2_accessOf 2 (some .int), Cond.fieldLink RX2 34 "ObjectRows" "now" "LObjectRows$Changing;", Cond.fieldLink RX2 206 "ObjectRows$Changing" "accesses" "LObjectRows$Row;", Cond.methodLink RX2 209 yX2_accessHolder, Cond.instanceMethod yX2_accessHolder, Cond.selects RX2 yX2_accessHolder yX2_accessHolder, Cond.code yX2_accessHolder cX2_accessHolder 2 (some .int), Cond.fieldLink RX2 19 "ObjectRows" "owners" "LObjectRows$Row;", Cond.methodLink RX2 153 yX2_orderOfBytes, Cond.instanceMethod yX2_orderOfBytes, Cond.selects RX2 yX2_orderOfBytes yX2_orderOfBytes, Cond.code yX2_orderOfBytes cX2_orderOfBytes 6 (some .int), Cond.fieldLink RX2 25 "ObjectRows" "lengths" "LObjectRows$Row;", Cond.methodLink RX2 186 Lib.Math.min.name, Cond.static Lib.Math.min.name, Cond.initialized "java/lang/Math", Cond.code Lib.Math.min.name Lib.Math.min.code 2 (some .int), Cond.methodLink RX2 114 yX2_elementOf, Cond.instanceMethod yX2_elementOf, Cond.selects RX2 yX2_elementOf yX2_elementOf, Cond.code yX2_elementOf cX2_elementOf 3 (some .int), Cond.fieldLink RX2 22 "ObjectRows" "starts" "LObjectRows$Row;", Cond.methodLink RX2 96 yX2_storeRow, Cond.instanceMethod yX2_storeRow]
def wsX2_compare_r3 : List Cond := [Cond.selects RX2 yX2_storeRow yX2_storeRow, Cond.code yX2_storeRow cX2_storeRow 2 (some (.object "ObjectRows$Row")), Cond.fieldLink RX2 28 "ObjectRows" "bytes" "LObjectRows$Row;", Cond.fieldLink RX2 67 "ObjectRows$Changing" "elements" "LObjectRows$Row;"]
def wsX2_compare : List Cond := .code yX2_compare cX2_compare 3 (some .int) :: ((wsX2_compare_r1 ++ (wsX2_compare_r2 ++ wsX2_compare_r3)) ++ wsX20 ++ wsX10 ++ wsX00)
def wsX2_digits : List Cond := .code yX2_digits cX2_digits 1 (some .int) :: ([])
def wsX2_length : List Cond := .code yX2_length cX2_length 2 (some .int) :: ([.fieldLink RX2 12 "ObjectRows" "kinds" "LObjectRows$Row;", .fieldLink RX2 16 "ObjectRows" "numbers" "LObjectRows$Row;", .fieldLink RX2 25 "ObjectRows" "lengths" "LObjectRows$Row;", .fieldLink RX2 34 "ObjectRows" "now" "LObjectRows$Changing;", .fieldLink RX2 159 "ObjectRows$Changing" "entries" "LObjectRows$Row;", .fieldLink RX2 19 "ObjectRows" "owners" "LObjectRows$Row;", .methodLink RX2 80 yX2_known, .instanceMethod yX2_known, .selects RX2 yX2_known yX2_known, .initialized RX2, .code yX2_known cX2_known 2 (some .boolean), .fieldLink RX2 50 "ObjectRows" "count" "I", .methodLink RX2 84 yX1_at, .instanceMethod yX1_at, .selects RX1 yX1_at yX1_at, .initialized RX1, .code yX1_at cX1_at 2 (some .int), .fieldLink RX1 9 "ObjectRows$Row" "cells" "[I", .methodLink RX2 156 yX2_digits, .static yX2_digits, .code yX2_digits cX2_digits 1 (some .int)] ++ wsX20 ++ wsX00 ++ wsX10)
def wsX2_keyFor_r1 : List Cond := [Cond.fieldLink RX2 12 "ObjectRows" "kinds" "LObjectRows$Row;", Cond.methodLink RX2 84 yX1_at, Cond.instanceMethod yX1_at, Cond.selects RX1 yX1_at yX1_at, Cond.initialized RX1, Cond.code yX1_at cX1_at 2 (some .int), Cond.fieldLink RX1 9 "ObjectRows$Row" "cells" "[I", Cond.methodLink RX2 212 yX2_nameOf, Cond.instanceMethod yX2_nameOf, Cond.selects RX2 yX2_nameOf yX2_nameOf, Cond.initialized RX2, Cond.code yX2_nameOf cX2_nameOf 2 (some .int), Cond.fieldLink RX2 16 "ObjectRows" "numbers" "LObjectRows$Row;", Cond.methodLink RX2 150 yX2_readableString, Cond.instanceMethod yX2_readableString, Cond.selects RX2 yX2_readableString yX2_readableString, Cond.code yX2_readableString cX2_readableString 2 (some .boolean), Cond.methodLink RX2 93 yX2_accessOf, Cond.instanceMethod yX2_accessOf, Cond.selects RX2 yX2_accessOf yX2_accessOf, Cond.code yX2_accessOf cX2_accessOf 2 (some .int), Cond.fieldLink RX2 34 "ObjectRows" "now" "LObjectRows$Changing;", Cond.fieldLink RX2 206 "ObjectRows$Changing" "accesses" "LObjectRows$Row;", Cond.methodLink RX2 209 yX2_accessHolder]
def wsX2_keyFor_r2 : List Cond := [Cond.instanceMethod yX2_accessHolder, Cond.selects RX2 yX2_accessHolder yX2_accessHolder, Cond.code yX2_accessHolder cX2_accessHolder 2 (some .int), Cond.fieldLink RX2 19 "ObjectRows" "owners" "LObjectRows$Row;", Cond.methodLink RX2 221 yX2_numberInTens, Cond.instanceMethod yX2_numberInTens, Cond.selects RX2 yX2_numberInTens yX2_numberInTens, Cond.code yX2_numberInTens cX2_numberInTens 7 (some .int), Cond.fieldLink RX2 25 "ObjectRows" "lengths" "LObjectRows$Row;", Cond.methodLink RX2 114 yX2_elementOf, Cond.instanceMethod yX2_elementOf, Cond.selects RX2 yX2_elementOf yX2_elementOf, Cond.code yX2_elementOf cX2_elementOf 3 (some .int), Cond.fieldLink RX2 22 "ObjectRows" "starts" "LObjectRows$Row;", Cond.methodLink RX2 96 yX2_storeRow, Cond.instanceMethod yX2_storeRow, Cond.selects RX2 yX2_storeRow yX2_storeRow, Cond.code yX2_storeRow cX2_storeRow 2 (some (.object "ObjectRows$Row")), Cond.fieldLink RX2 28 "ObjectRows" "bytes" "LObjectRows$Row;", Cond.fieldLink RX2 67 "ObjectRows$Changing" "elements" "LObjectRows$Row;", Cond.methodLink RX2 90 yX2_within, Cond.static yX2_within, Cond.code yX2_within cX2_within 2 (some .boolean)]
def wsX2_keyFor : List Cond := .code yX2_keyFor cX2_keyFor 4 (some .int) :: ((wsX2_keyFor_r1 ++ wsX2_keyFor_r2) ++ wsX20 ++ wsX10 ++ wsX00)
def wsX2_keyCell : List Cond := .code yX2_keyCell cX2_keyCell 3 (some .int) :: ([.fieldLink RX2 22 "ObjectRows" "starts" "LObjectRows$Row;", .methodLink RX2 84 yX1_at, .instanceMethod yX1_at, .selects RX1 yX1_at yX1_at, .initialized RX1, .code yX1_at cX1_at 2 (some .int), .fieldLink RX1 9 "ObjectRows$Row" "cells" "[I"] ++ wsX20 ++ wsX10)
def wsX2_alikeKeys : List Cond := .code yX2_alikeKeys cX2_alikeKeys 3 (some .boolean) :: ([.methodLink RX2 215 yX2_alikeButStrings, .instanceMethod yX2_alikeButStrings, .selects RX2 yX2_alikeButStrings yX2_alikeButStrings, .initialized RX2, .code yX2_alikeButStrings cX2_alikeButStrings 5 (some .boolean), .fieldLink RX2 12 "ObjectRows" "kinds" "LObjectRows$Row;", .fieldLink RX2 25 "ObjectRows" "lengths" "LObjectRows$Row;", .methodLink RX2 84 yX1_at, .instanceMethod yX1_at, .selects RX1 yX1_at yX1_at, .initialized RX1, .code yX1_at cX1_at 2 (some .int), .fieldLink RX1 9 "ObjectRows$Row" "cells" "[I", .methodLink RX2 191 yX2_isList, .static yX2_isList, .code yX2_isList cX2_isList 1 (some .boolean), .methodLink RX2 218 yX2_alikeOfKind, .instanceMethod yX2_alikeOfKind, .selects RX2 yX2_alikeOfKind yX2_alikeOfKind, .code yX2_alikeOfKind cX2_alikeOfKind 4 (some .boolean), .fieldLink RX2 19 "ObjectRows" "owners" "LObjectRows$Row;", .fieldLink RX2 22 "ObjectRows" "starts" "LObjectRows$Row;", .fieldLink RX2 16 "ObjectRows" "numbers" "LObjectRows$Row;"] ++ wsX20 ++ wsX10)
def wsX2_placeOf_r1 : List Cond := [Cond.fieldLink RX2 34 "ObjectRows" "now" "LObjectRows$Changing;", Cond.fieldLink RX2 159 "ObjectRows$Changing" "entries" "LObjectRows$Row;", Cond.fieldLink RX2 19 "ObjectRows" "owners" "LObjectRows$Row;", Cond.fieldLink RX2 67 "ObjectRows$Changing" "elements" "LObjectRows$Row;", Cond.methodLink RX2 84 yX1_at, Cond.instanceMethod yX1_at, Cond.selects RX1 yX1_at yX1_at, Cond.initialized RX1, Cond.code yX1_at cX1_at 2 (some .int), Cond.fieldLink RX1 9 "ObjectRows$Row" "cells" "[I", Cond.methodLink RX2 224 yX2_keyCell, Cond.instanceMethod yX2_keyCell, Cond.selects RX2 yX2_keyCell yX2_keyCell, Cond.initialized RX2, Cond.code yX2_keyCell cX2_keyCell 3 (some .int), Cond.fieldLink RX2 22 "ObjectRows" "starts" "LObjectRows$Row;", Cond.methodLink RX2 227 yX2_alikeKeys, Cond.instanceMethod yX2_alikeKeys, Cond.selects RX2 yX2_alikeKeys yX2_alikeKeys, Cond.code yX2_alikeKeys cX2_alikeKeys 3 (some .boolean), Cond.methodLink RX2 215 yX2_alikeButStrings, Cond.instanceMethod yX2_alikeButStrings, Cond.selects RX2 yX2_alikeButStrings yX2_alikeButStrings, Cond.code yX2_alikeButStrings cX2_alikeButStrings 5 (some .boolean)]
def wsX2_placeOf_r2 : List Cond := [Cond.fieldLink RX2 12 "ObjectRows" "kinds" "LObjectRows$Row;", Cond.fieldLink RX2 25 "ObjectRows" "lengths" "LObjectRows$Row;", Cond.methodLink RX2 191 yX2_isList, Cond.static yX2_isList, Cond.code yX2_isList cX2_isList 1 (some .boolean), Cond.methodLink RX2 218 yX2_alikeOfKind, Cond.instanceMethod yX2_alikeOfKind, Cond.selects RX2 yX2_alikeOfKind yX2_alikeOfKind, Cond.code yX2_alikeOfKind cX2_alikeOfKind 4 (some .boolean), Cond.fieldLink RX2 16 "ObjectRows" "numbers" "LObjectRows$Row;"]
def wsX2_placeOf : List Cond := .code yX2_placeOf cX2_placeOf 5 (some .int) :: ((wsX2_placeOf_r1 ++ wsX2_placeOf_r2) ++ wsX20 ++ wsX00 ++ wsX10)
def wsX2_grow : List Cond := .code yX2_grow cX2_grow 4 (some .boolean) :: ([.fieldLink RX2 34 "ObjectRows" "now" "LObjectRows$Changing;", .fieldLink RX2 141 "ObjectRows$Changing" "capacities" "LObjectRows$Row;", .fieldLink RX2 135 "ObjectRows$Changing" "growths" "LObjectRows$Row;", .methodLink RX2 186 Lib.Math.min.name, .static Lib.Math.min.name, .initialized "java/lang/Math", .code Lib.Math.min.name Lib.Math.min.code 2 (some .int), .fieldLink RX2 57 "ObjectRows$Changing" "storage" "I", .methodLink RX2 84 yX1_at, .instanceMethod yX1_at, .selects RX1 yX1_at yX1_at, .initialized RX1, .code yX1_at cX1_at 2 (some .int), .fieldLink RX1 9 "ObjectRows$Row" "cells" "[I", .methodLink RX2 100 yX1_set, .instanceMethod yX1_set, .selects RX1 yX1_set yX1_set, .code yX1_set cX1_set 3 none, .methodLink RX2 60 yX2_placeStorage, .static yX2_placeStorage, .initialized RX2, .code yX2_placeStorage cX2_placeStorage 1 (some .int)] ++ wsX20 ++ wsX00 ++ wsX10)
def wsX2_addKey_r1 : List Cond := [Cond.fieldLink RX2 19 "ObjectRows" "owners" "LObjectRows$Row;", Cond.fieldLink RX2 34 "ObjectRows" "now" "LObjectRows$Changing;", Cond.fieldLink RX2 159 "ObjectRows$Changing" "entries" "LObjectRows$Row;", Cond.fieldLink RX2 141 "ObjectRows$Changing" "capacities" "LObjectRows$Row;", Cond.fieldLink RX2 67 "ObjectRows$Changing" "elements" "LObjectRows$Row;", Cond.methodLink RX2 84 yX1_at, Cond.instanceMethod yX1_at, Cond.selects RX1 yX1_at yX1_at, Cond.initialized RX1, Cond.code yX1_at cX1_at 2 (some .int), Cond.fieldLink RX1 9 "ObjectRows$Row" "cells" "[I", Cond.methodLink RX2 230 yX2_grow, Cond.instanceMethod yX2_grow, Cond.selects RX2 yX2_grow yX2_grow, Cond.initialized RX2, Cond.code yX2_grow cX2_grow 4 (some .boolean), Cond.fieldLink RX2 135 "ObjectRows$Changing" "growths" "LObjectRows$Row;", Cond.methodLink RX2 186 Lib.Math.min.name, Cond.static Lib.Math.min.name, Cond.initialized "java/lang/Math", Cond.code Lib.Math.min.name Lib.Math.min.code 2 (some .int), Cond.fieldLink RX2 57 "ObjectRows$Changing" "storage" "I", Cond.methodLink RX2 100 yX1_set, Cond.instanceMethod yX1_set]
def wsX2_addKey_r2 : List Cond := [Cond.selects RX1 yX1_set yX1_set, Cond.code yX1_set cX1_set 3 none, Cond.methodLink RX2 60 yX2_placeStorage, Cond.static yX2_placeStorage, Cond.code yX2_placeStorage cX2_placeStorage 1 (some .int), Cond.methodLink RX2 224 yX2_keyCell, Cond.instanceMethod yX2_keyCell, Cond.selects RX2 yX2_keyCell yX2_keyCell, Cond.code yX2_keyCell cX2_keyCell 3 (some .int), Cond.fieldLink RX2 22 "ObjectRows" "starts" "LObjectRows$Row;"]
def wsX2_addKey : List Cond := .code yX2_addKey cX2_addKey 5 (some .int) :: ((wsX2_addKey_r1 ++ wsX2_addKey_r2) ++ wsX20 ++ wsX00 ++ wsX10)
def wsX2_valueCell : List Cond := .code yX2_valueCell cX2_valueCell 3 (some .int) :: ([.fieldLink RX2 22 "ObjectRows" "starts" "LObjectRows$Row;", .methodLink RX2 84 yX1_at, .instanceMethod yX1_at, .selects RX1 yX1_at yX1_at, .initialized RX1, .code yX1_at cX1_at 2 (some .int), .fieldLink RX1 9 "ObjectRows$Row" "cells" "[I"] ++ wsX20 ++ wsX10)
def wsX2_entry_r1 : List Cond := [Cond.fieldLink RX2 12 "ObjectRows" "kinds" "LObjectRows$Row;", Cond.fieldLink RX2 34 "ObjectRows" "now" "LObjectRows$Changing;", Cond.fieldLink RX2 67 "ObjectRows$Changing" "elements" "LObjectRows$Row;", Cond.methodLink RX2 80 yX2_known, Cond.instanceMethod yX2_known, Cond.selects RX2 yX2_known yX2_known, Cond.initialized RX2, Cond.code yX2_known cX2_known 2 (some .boolean), Cond.fieldLink RX2 50 "ObjectRows" "count" "I", Cond.methodLink RX2 162 yX2_keyFor, Cond.instanceMethod yX2_keyFor, Cond.selects RX2 yX2_keyFor yX2_keyFor, Cond.code yX2_keyFor cX2_keyFor 4 (some .int), Cond.methodLink RX2 84 yX1_at, Cond.instanceMethod yX1_at, Cond.selects RX1 yX1_at yX1_at, Cond.initialized RX1, Cond.code yX1_at cX1_at 2 (some .int), Cond.fieldLink RX1 9 "ObjectRows$Row" "cells" "[I", Cond.methodLink RX2 212 yX2_nameOf, Cond.instanceMethod yX2_nameOf, Cond.selects RX2 yX2_nameOf yX2_nameOf, Cond.code yX2_nameOf cX2_nameOf 2 (some .int), Cond.fieldLink RX2 16 "ObjectRows" "numbers" "LObjectRows$Row;"]
def wsX2_entry_r2 : List Cond := [Cond.methodLink RX2 150 yX2_readableString, Cond.instanceMethod yX2_readableString, Cond.selects RX2 yX2_readableString yX2_readableString, Cond.code yX2_readableString cX2_readableString 2 (some .boolean), Cond.methodLink RX2 93 yX2_accessOf, Cond.instanceMethod yX2_accessOf, Cond.selects RX2 yX2_accessOf yX2_accessOf, Cond.code yX2_accessOf cX2_accessOf 2 (some .int), Cond.fieldLink RX2 206 "ObjectRows$Changing" "accesses" "LObjectRows$Row;", Cond.methodLink RX2 209 yX2_accessHolder, Cond.instanceMethod yX2_accessHolder, Cond.selects RX2 yX2_accessHolder yX2_accessHolder, Cond.code yX2_accessHolder cX2_accessHolder 2 (some .int), Cond.fieldLink RX2 19 "ObjectRows" "owners" "LObjectRows$Row;", Cond.methodLink RX2 221 yX2_numberInTens, Cond.instanceMethod yX2_numberInTens, Cond.selects RX2 yX2_numberInTens yX2_numberInTens, Cond.code yX2_numberInTens cX2_numberInTens 7 (some .int), Cond.fieldLink RX2 25 "ObjectRows" "lengths" "LObjectRows$Row;", Cond.methodLink RX2 114 yX2_elementOf, Cond.instanceMethod yX2_elementOf, Cond.selects RX2 yX2_elementOf yX2_elementOf, Cond.code yX2_elementOf cX2_elementOf 3 (some .int), Cond.fieldLink RX2 22 "ObjectRows" "starts" "LObjectRows$Row;"]
def wsX2_entry_r3 : List Cond := [Cond.methodLink RX2 96 yX2_storeRow, Cond.instanceMethod yX2_storeRow, Cond.selects RX2 yX2_storeRow yX2_storeRow, Cond.code yX2_storeRow cX2_storeRow 2 (some (.object "ObjectRows$Row")), Cond.fieldLink RX2 28 "ObjectRows" "bytes" "LObjectRows$Row;", Cond.methodLink RX2 90 yX2_within, Cond.static yX2_within, Cond.code yX2_within cX2_within 2 (some .boolean), Cond.methodLink RX2 165 yX2_placeOf, Cond.instanceMethod yX2_placeOf, Cond.selects RX2 yX2_placeOf yX2_placeOf, Cond.code yX2_placeOf cX2_placeOf 5 (some .int), Cond.fieldLink RX2 159 "ObjectRows$Changing" "entries" "LObjectRows$Row;", Cond.methodLink RX2 224 yX2_keyCell, Cond.instanceMethod yX2_keyCell, Cond.selects RX2 yX2_keyCell yX2_keyCell, Cond.code yX2_keyCell cX2_keyCell 3 (some .int), Cond.methodLink RX2 227 yX2_alikeKeys, Cond.instanceMethod yX2_alikeKeys, Cond.selects RX2 yX2_alikeKeys yX2_alikeKeys, Cond.code yX2_alikeKeys cX2_alikeKeys 3 (some .boolean), Cond.methodLink RX2 215 yX2_alikeButStrings, Cond.instanceMethod yX2_alikeButStrings, Cond.selects RX2 yX2_alikeButStrings yX2_alikeButStrings]
def wsX2_entry_r4 : List Cond := [Cond.code yX2_alikeButStrings cX2_alikeButStrings 5 (some .boolean), Cond.methodLink RX2 191 yX2_isList, Cond.static yX2_isList, Cond.code yX2_isList cX2_isList 1 (some .boolean), Cond.methodLink RX2 218 yX2_alikeOfKind, Cond.instanceMethod yX2_alikeOfKind, Cond.selects RX2 yX2_alikeOfKind yX2_alikeOfKind, Cond.code yX2_alikeOfKind cX2_alikeOfKind 4 (some .boolean), Cond.methodLink RX2 168 yX2_addKey, Cond.instanceMethod yX2_addKey, Cond.selects RX2 yX2_addKey yX2_addKey, Cond.code yX2_addKey cX2_addKey 5 (some .int), Cond.fieldLink RX2 141 "ObjectRows$Changing" "capacities" "LObjectRows$Row;", Cond.methodLink RX2 230 yX2_grow, Cond.instanceMethod yX2_grow, Cond.selects RX2 yX2_grow yX2_grow, Cond.code yX2_grow cX2_grow 4 (some .boolean), Cond.fieldLink RX2 135 "ObjectRows$Changing" "growths" "LObjectRows$Row;", Cond.methodLink RX2 186 Lib.Math.min.name, Cond.static Lib.Math.min.name, Cond.initialized "java/lang/Math", Cond.code Lib.Math.min.name Lib.Math.min.code 2 (some .int), Cond.fieldLink RX2 57 "ObjectRows$Changing" "storage" "I", Cond.methodLink RX2 100 yX1_set]
def wsX2_entry_r5 : List Cond := [Cond.instanceMethod yX1_set, Cond.selects RX1 yX1_set yX1_set, Cond.code yX1_set cX1_set 3 none, Cond.methodLink RX2 60 yX2_placeStorage, Cond.static yX2_placeStorage, Cond.code yX2_placeStorage cX2_placeStorage 1 (some .int), Cond.methodLink RX2 171 yX2_valueCell, Cond.instanceMethod yX2_valueCell, Cond.selects RX2 yX2_valueCell yX2_valueCell, Cond.code yX2_valueCell cX2_valueCell 3 (some .int)]
def wsX2_entry : List Cond := .code yX2_entry cX2_entry 6 (some .int) :: ((wsX2_entry_r1 ++ (wsX2_entry_r2 ++ (wsX2_entry_r3 ++ (wsX2_entry_r4 ++ wsX2_entry_r5)))) ++ wsX20 ++ wsX00 ++ wsX10)
def wsX2_look_r1 : List Cond := [Cond.fieldLink RX2 12 "ObjectRows" "kinds" "LObjectRows$Row;", Cond.fieldLink RX2 34 "ObjectRows" "now" "LObjectRows$Changing;", Cond.fieldLink RX2 67 "ObjectRows$Changing" "elements" "LObjectRows$Row;", Cond.methodLink RX2 80 yX2_known, Cond.instanceMethod yX2_known, Cond.selects RX2 yX2_known yX2_known, Cond.initialized RX2, Cond.code yX2_known cX2_known 2 (some .boolean), Cond.fieldLink RX2 50 "ObjectRows" "count" "I", Cond.methodLink RX2 162 yX2_keyFor, Cond.instanceMethod yX2_keyFor, Cond.selects RX2 yX2_keyFor yX2_keyFor, Cond.code yX2_keyFor cX2_keyFor 4 (some .int), Cond.methodLink RX2 84 yX1_at, Cond.instanceMethod yX1_at, Cond.selects RX1 yX1_at yX1_at, Cond.initialized RX1, Cond.code yX1_at cX1_at 2 (some .int), Cond.fieldLink RX1 9 "ObjectRows$Row" "cells" "[I", Cond.methodLink RX2 212 yX2_nameOf, Cond.instanceMethod yX2_nameOf, Cond.selects RX2 yX2_nameOf yX2_nameOf, Cond.code yX2_nameOf cX2_nameOf 2 (some .int), Cond.fieldLink RX2 16 "ObjectRows" "numbers" "LObjectRows$Row;"]
def wsX2_look_r2 : List Cond := [Cond.methodLink RX2 150 yX2_readableString, Cond.instanceMethod yX2_readableString, Cond.selects RX2 yX2_readableString yX2_readableString, Cond.code yX2_readableString cX2_readableString 2 (some .boolean), Cond.methodLink RX2 93 yX2_accessOf, Cond.instanceMethod yX2_accessOf, Cond.selects RX2 yX2_accessOf yX2_accessOf, Cond.code yX2_accessOf cX2_accessOf 2 (some .int), Cond.fieldLink RX2 206 "ObjectRows$Changing" "accesses" "LObjectRows$Row;", Cond.methodLink RX2 209 yX2_accessHolder, Cond.instanceMethod yX2_accessHolder, Cond.selects RX2 yX2_accessHolder yX2_accessHolder, Cond.code yX2_accessHolder cX2_accessHolder 2 (some .int), Cond.fieldLink RX2 19 "ObjectRows" "owners" "LObjectRows$Row;", Cond.methodLink RX2 221 yX2_numberInTens, Cond.instanceMethod yX2_numberInTens, Cond.selects RX2 yX2_numberInTens yX2_numberInTens, Cond.code yX2_numberInTens cX2_numberInTens 7 (some .int), Cond.fieldLink RX2 25 "ObjectRows" "lengths" "LObjectRows$Row;", Cond.methodLink RX2 114 yX2_elementOf, Cond.instanceMethod yX2_elementOf, Cond.selects RX2 yX2_elementOf yX2_elementOf, Cond.code yX2_elementOf cX2_elementOf 3 (some .int), Cond.fieldLink RX2 22 "ObjectRows" "starts" "LObjectRows$Row;"]
def wsX2_look_r3 : List Cond := [Cond.methodLink RX2 96 yX2_storeRow, Cond.instanceMethod yX2_storeRow, Cond.selects RX2 yX2_storeRow yX2_storeRow, Cond.code yX2_storeRow cX2_storeRow 2 (some (.object "ObjectRows$Row")), Cond.fieldLink RX2 28 "ObjectRows" "bytes" "LObjectRows$Row;", Cond.methodLink RX2 90 yX2_within, Cond.static yX2_within, Cond.code yX2_within cX2_within 2 (some .boolean), Cond.methodLink RX2 165 yX2_placeOf, Cond.instanceMethod yX2_placeOf, Cond.selects RX2 yX2_placeOf yX2_placeOf, Cond.code yX2_placeOf cX2_placeOf 5 (some .int), Cond.fieldLink RX2 159 "ObjectRows$Changing" "entries" "LObjectRows$Row;", Cond.methodLink RX2 224 yX2_keyCell, Cond.instanceMethod yX2_keyCell, Cond.selects RX2 yX2_keyCell yX2_keyCell, Cond.code yX2_keyCell cX2_keyCell 3 (some .int), Cond.methodLink RX2 227 yX2_alikeKeys, Cond.instanceMethod yX2_alikeKeys, Cond.selects RX2 yX2_alikeKeys yX2_alikeKeys, Cond.code yX2_alikeKeys cX2_alikeKeys 3 (some .boolean), Cond.methodLink RX2 215 yX2_alikeButStrings, Cond.instanceMethod yX2_alikeButStrings, Cond.selects RX2 yX2_alikeButStrings yX2_alikeButStrings]
def wsX2_look_r4 : List Cond := [Cond.code yX2_alikeButStrings cX2_alikeButStrings 5 (some .boolean), Cond.methodLink RX2 191 yX2_isList, Cond.static yX2_isList, Cond.code yX2_isList cX2_isList 1 (some .boolean), Cond.methodLink RX2 218 yX2_alikeOfKind, Cond.instanceMethod yX2_alikeOfKind, Cond.selects RX2 yX2_alikeOfKind yX2_alikeOfKind, Cond.code yX2_alikeOfKind cX2_alikeOfKind 4 (some .boolean), Cond.methodLink RX2 171 yX2_valueCell, Cond.instanceMethod yX2_valueCell, Cond.selects RX2 yX2_valueCell yX2_valueCell, Cond.code yX2_valueCell cX2_valueCell 3 (some .int)]
def wsX2_look : List Cond := .code yX2_look cX2_look 5 (some .int) :: ((wsX2_look_r1 ++ (wsX2_look_r2 ++ (wsX2_look_r3 ++ wsX2_look_r4))) ++ wsX20 ++ wsX00 ++ wsX10)
def wsX2_kind : List Cond := .code yX2_kind cX2_kind 2 (some .int) :: ([.fieldLink RX2 12 "ObjectRows" "kinds" "LObjectRows$Row;", .methodLink RX2 80 yX2_known, .instanceMethod yX2_known, .selects RX2 yX2_known yX2_known, .initialized RX2, .code yX2_known cX2_known 2 (some .boolean), .fieldLink RX2 50 "ObjectRows" "count" "I", .methodLink RX2 84 yX1_at, .instanceMethod yX1_at, .selects RX1 yX1_at yX1_at, .initialized RX1, .code yX1_at cX1_at 2 (some .int), .fieldLink RX1 9 "ObjectRows$Row" "cells" "[I"] ++ wsX20 ++ wsX10)
def wsX2_used : List Cond := .code yX2_used cX2_used 1 (some .int) :: ([.fieldLink RX2 34 "ObjectRows" "now" "LObjectRows$Changing;", .fieldLink RX2 57 "ObjectRows$Changing" "storage" "I"] ++ wsX20 ++ wsX00)
def wsX2_keptBy : List Cond := .code yX2_keptBy cX2_keptBy 4 (some (.object "ObjectRows$Changing")) :: ([.fieldLink RX2 16 "ObjectRows" "numbers" "LObjectRows$Row;", .fieldLink RX2 12 "ObjectRows" "kinds" "LObjectRows$Row;", .fieldLink RX2 38 "ObjectRows" "kept" "[LObjectRows$Changing;", .methodLink RX2 84 yX1_at, .instanceMethod yX1_at, .selects RX1 yX1_at yX1_at, .initialized RX1, .code yX1_at cX1_at 2 (some .int), .fieldLink RX1 9 "ObjectRows$Row" "cells" "[I"] ++ wsX20 ++ wsX10)
def wsX2_restore_r1 : List Cond := [Cond.fieldLink RX2 16 "ObjectRows" "numbers" "LObjectRows$Row;", Cond.fieldLink RX2 54 "ObjectRows" "saves" "I", Cond.fieldLink RX2 28 "ObjectRows" "bytes" "LObjectRows$Row;", Cond.fieldLink RX2 22 "ObjectRows" "starts" "LObjectRows$Row;", Cond.fieldLink RX2 34 "ObjectRows" "now" "LObjectRows$Changing;", Cond.fieldLink RX2 12 "ObjectRows" "kinds" "LObjectRows$Row;", Cond.fieldLink RX2 19 "ObjectRows" "owners" "LObjectRows$Row;", Cond.fieldLink RX2 25 "ObjectRows" "lengths" "LObjectRows$Row;", Cond.fieldLink RX2 50 "ObjectRows" "count" "I", Cond.methodLink RX2 80 yX2_known, Cond.instanceMethod yX2_known, Cond.selects RX2 yX2_known yX2_known, Cond.initialized RX2, Cond.code yX2_known cX2_known 2 (some .boolean), Cond.methodLink RX2 174 yX2_keptBy, Cond.instanceMethod yX2_keptBy, Cond.selects RX2 yX2_keptBy yX2_keptBy, Cond.code yX2_keptBy cX2_keptBy 4 (some (.object "ObjectRows$Changing")), Cond.fieldLink RX2 38 "ObjectRows" "kept" "[LObjectRows$Changing;", Cond.methodLink RX2 84 yX1_at, Cond.instanceMethod yX1_at, Cond.selects RX1 yX1_at yX1_at, Cond.initialized RX1, Cond.code yX1_at cX1_at 2 (some .int)]
def wsX2_restore_r2 : List Cond := [Cond.fieldLink RX1 9 "ObjectRows$Row" "cells" "[I", Cond.methodLink RX2 178 yX1_cut, Cond.instanceMethod yX1_cut, Cond.selects RX1 yX1_cut yX1_cut, Cond.code yX1_cut cX1_cut 2 none, Cond.fieldLink RX1 13 "ObjectRows$Row" "size" "I", Cond.methodLink RX2 182 yX0_become, Cond.instanceMethod yX0_become, Cond.selects RX0 yX0_become yX0_become, Cond.initialized RX0, Cond.code yX0_become cX0_become 2 none, Cond.fieldLink RX0 10 "ObjectRows$Changing" "executables" "LObjectRows$Row;", Cond.fieldLink RX0 16 "ObjectRows$Changing" "accesses" "LObjectRows$Row;", Cond.fieldLink RX0 19 "ObjectRows$Changing" "capacities" "LObjectRows$Row;", Cond.fieldLink RX0 22 "ObjectRows$Changing" "entries" "LObjectRows$Row;", Cond.fieldLink RX0 25 "ObjectRows$Changing" "growths" "LObjectRows$Row;", Cond.fieldLink RX0 28 "ObjectRows$Changing" "elements" "LObjectRows$Row;", Cond.fieldLink RX0 39 "ObjectRows$Changing" "storage" "I", Cond.methodLink RX0 35 yX1_become, Cond.instanceMethod yX1_become, Cond.selects RX1 yX1_become yX1_become, Cond.code yX1_become cX1_become 2 none, Cond.methodLink RX1 25 Lib.Math.min.name, Cond.static Lib.Math.min.name]
def wsX2_restore_r3 : List Cond := [Cond.initialized "java/lang/Math", Cond.code Lib.Math.min.name Lib.Math.min.code 2 (some .int), Cond.methodLink RX1 31 arraycopyName, Cond.native arraycopyName, Cond.static arraycopyName, Cond.initialized "java/lang/System", Cond.methodLink RX1 17 yX1_reach, Cond.instanceMethod yX1_reach, Cond.selects RX1 yX1_reach yX1_reach, Cond.code yX1_reach cX1_reach 2 none, Cond.methodLink RX1 37 Lib.Math.max.name, Cond.static Lib.Math.max.name, Cond.code Lib.Math.max.name Lib.Math.max.code 2 (some .int), Cond.methodLink RX1 40 yJ7_copyOf_59c91, Cond.static yJ7_copyOf_59c91, Cond.initialized RJ7, Cond.code yJ7_copyOf_59c91 cJ7_copyOf_59c91 3 (some (.array .int)), Cond.methodLink RJ7 316 ⟨"[I", "clone", "()Ljava/lang/Object;"⟩, Cond.sameMethod "[I" "java/lang/Object" "clone" "()Ljava/lang/Object;", Cond.native ⟨"java/lang/Object", "clone", "()Ljava/lang/Object;"⟩, Cond.instanceMethod ⟨"java/lang/Object", "clone", "()Ljava/lang/Object;"⟩, Cond.selects "[I" ⟨"[I", "clone", "()Ljava/lang/Object;"⟩ ⟨"java/lang/Object", "clone", "()Ljava/lang/Object;"⟩, Cond.classLink RJ7 317 "[I", Cond.arrayClass .int]
def wsX2_restore_r4 : List Cond := [Cond.methodLink RJ7 304 Lib.Math.min.name, Cond.methodLink RJ7 150 arraycopyName]
def wsX2_restore : List Cond := .code yX2_restore cX2_restore 3 (some .int) :: ((wsX2_restore_r1 ++ (wsX2_restore_r2 ++ (wsX2_restore_r3 ++ wsX2_restore_r4))) ++ wsX20 ++ wsX10 ++ wsX00)
def wsX3_init : List Cond := .code yX3_init cX3_init 1 none :: ([.methodLink RX3 1 objectInit, .instanceMethod objectInit, .code objectInit ⟨#[0xb1]⟩ 1 none, .fieldLink RX3 7 "ObjectRowsModel" "many" "I", .fieldLink RX3 13 "ObjectRowsModel" "used" "I", .arrayClass .int, .fieldLink RX3 16 "ObjectRowsModel" "kinds" "[I", .fieldLink RX3 20 "ObjectRowsModel" "numbers" "[I", .fieldLink RX3 23 "ObjectRowsModel" "froms" "[I", .fieldLink RX3 26 "ObjectRowsModel" "lengths" "[I", .arrayClass .byte, .fieldLink RX3 29 "ObjectRowsModel" "bytes" "[B", .arrayClass .boolean, .fieldLink RX3 33 "ObjectRowsModel" "executable" "[Z", .fieldLink RX3 37 "ObjectRowsModel" "access" "[I", .fieldLink RX3 40 "ObjectRowsModel" "elements" "[I", .fieldLink RX3 43 "ObjectRowsModel" "capacities" "[I", .fieldLink RX3 46 "ObjectRowsModel" "grows" "[Z", .fieldLink RX3 49 "ObjectRowsModel" "entries" "[I", .arrayClass .long, .fieldLink RX3 52 "ObjectRowsModel" "keys" "[J", .fieldLink RX3 56 "ObjectRowsModel" "values" "[I", .fieldLink RX3 59 "ObjectRowsModel" "saveObject" "[I", .fieldLink RX3 62 "ObjectRowsModel" "saveUsed" "[I"] ++ wsX30)
def wsX3_thrown : List Cond := .code yX3_thrown cX3_thrown 1 (some .int) :: ([.fieldLink RX3 65 "ObjectRowsModel" "thrown" "I"] ++ wsX30)
def wsX3_isObject : List Cond := .code yX3_isObject cX3_isObject 2 (some .boolean) :: ([.fieldLink RX3 7 "ObjectRowsModel" "many" "I"] ++ wsX30)
def wsX3_within : List Cond := .code yX3_within cX3_within 3 (some .boolean) :: ([])
def wsX3_isView : List Cond := .code yX3_isView cX3_isView 2 (some .boolean) :: ([.fieldLink RX3 16 "ObjectRowsModel" "kinds" "[I", .methodLink RX3 68 yX3_within, .static yX3_within, .initialized RX3, .code yX3_within cX3_within 3 (some .boolean)] ++ wsX30)
def wsX3_holder : List Cond := .code yX3_holder cX3_holder 2 (some .int) :: ([.fieldLink RX3 16 "ObjectRowsModel" "kinds" "[I", .fieldLink RX3 20 "ObjectRowsModel" "numbers" "[I"] ++ wsX30)
def wsX3_hasAccess : List Cond := .code yX3_hasAccess cX3_hasAccess 2 (some .boolean) :: ([.fieldLink RX3 16 "ObjectRowsModel" "kinds" "[I", .methodLink RX3 68 yX3_within, .static yX3_within, .initialized RX3, .code yX3_within cX3_within 3 (some .boolean)] ++ wsX30)
def wsX3_accessOf : List Cond := .code yX3_accessOf cX3_accessOf 2 (some .int) :: ([.fieldLink RX3 37 "ObjectRowsModel" "access" "[I", .methodLink RX3 72 yX3_holder, .instanceMethod yX3_holder, .selects RX3 yX3_holder yX3_holder, .initialized RX3, .code yX3_holder cX3_holder 2 (some .int), .fieldLink RX3 16 "ObjectRowsModel" "kinds" "[I", .fieldLink RX3 20 "ObjectRowsModel" "numbers" "[I"] ++ wsX30)
def wsX3_isSize : List Cond := .code yX3_isSize cX3_isSize 3 (some .boolean) :: ([.fieldLink RX3 7 "ObjectRowsModel" "many" "I", .methodLink RX3 68 yX3_within, .static yX3_within, .initialized RX3, .code yX3_within cX3_within 3 (some .boolean)] ++ wsX30)
def wsX3_blank : List Cond := .code yX3_blank cX3_blank 3 none :: ([.fieldLink RX3 16 "ObjectRowsModel" "kinds" "[I", .fieldLink RX3 20 "ObjectRowsModel" "numbers" "[I", .fieldLink RX3 23 "ObjectRowsModel" "froms" "[I", .fieldLink RX3 26 "ObjectRowsModel" "lengths" "[I", .fieldLink RX3 33 "ObjectRowsModel" "executable" "[Z", .fieldLink RX3 37 "ObjectRowsModel" "access" "[I"] ++ wsX30)
def wsX3_copy : List Cond := .code yX3_copy cX3_copy 4 none :: ([.fieldLink RX3 33 "ObjectRowsModel" "executable" "[Z", .fieldLink RX3 37 "ObjectRowsModel" "access" "[I", .fieldLink RX3 43 "ObjectRowsModel" "capacities" "[I", .fieldLink RX3 46 "ObjectRowsModel" "grows" "[Z", .fieldLink RX3 49 "ObjectRowsModel" "entries" "[I", .fieldLink RX3 40 "ObjectRowsModel" "elements" "[I", .fieldLink RX3 52 "ObjectRowsModel" "keys" "[J", .fieldLink RX3 56 "ObjectRowsModel" "values" "[I"] ++ wsX30)
def wsX3_make_r1 : List Cond := [Cond.fieldLink RX3 65 "ObjectRowsModel" "thrown" "I", Cond.fieldLink RX3 7 "ObjectRowsModel" "many" "I", Cond.fieldLink RX3 80 "ObjectRowsModel" "saves" "I", Cond.fieldLink RX3 59 "ObjectRowsModel" "saveObject" "[I", Cond.fieldLink RX3 62 "ObjectRowsModel" "saveUsed" "[I", Cond.fieldLink RX3 13 "ObjectRowsModel" "used" "I", Cond.fieldLink RX3 20 "ObjectRowsModel" "numbers" "[I", Cond.fieldLink RX3 26 "ObjectRowsModel" "lengths" "[I", Cond.fieldLink RX3 29 "ObjectRowsModel" "bytes" "[B", Cond.fieldLink RX3 40 "ObjectRowsModel" "elements" "[I", Cond.fieldLink RX3 43 "ObjectRowsModel" "capacities" "[I", Cond.fieldLink RX3 46 "ObjectRowsModel" "grows" "[Z", Cond.fieldLink RX3 49 "ObjectRowsModel" "entries" "[I", Cond.methodLink RX3 68 yX3_within, Cond.static yX3_within, Cond.initialized RX3, Cond.code yX3_within cX3_within 3 (some .boolean), Cond.methodLink RX3 76 yX3_isSize, Cond.instanceMethod yX3_isSize, Cond.selects RX3 yX3_isSize yX3_isSize, Cond.code yX3_isSize cX3_isSize 3 (some .boolean), Cond.methodLink RX3 83 yX3_copy, Cond.instanceMethod yX3_copy, Cond.selects RX3 yX3_copy yX3_copy]
def wsX3_make_r2 : List Cond := [Cond.code yX3_copy cX3_copy 4 none, Cond.fieldLink RX3 33 "ObjectRowsModel" "executable" "[Z", Cond.fieldLink RX3 37 "ObjectRowsModel" "access" "[I", Cond.fieldLink RX3 52 "ObjectRowsModel" "keys" "[J", Cond.fieldLink RX3 56 "ObjectRowsModel" "values" "[I", Cond.methodLink RX3 87 yX3_blank, Cond.instanceMethod yX3_blank, Cond.selects RX3 yX3_blank yX3_blank, Cond.code yX3_blank cX3_blank 3 none, Cond.fieldLink RX3 16 "ObjectRowsModel" "kinds" "[I", Cond.fieldLink RX3 23 "ObjectRowsModel" "froms" "[I"]
def wsX3_make : List Cond := .code yX3_make cX3_make 6 (some .int) :: ((wsX3_make_r1 ++ wsX3_make_r2) ++ wsX30)
def wsX3_put_r1 : List Cond := [Cond.fieldLink RX3 65 "ObjectRowsModel" "thrown" "I", Cond.fieldLink RX3 16 "ObjectRowsModel" "kinds" "[I", Cond.fieldLink RX3 26 "ObjectRowsModel" "lengths" "[I", Cond.fieldLink RX3 29 "ObjectRowsModel" "bytes" "[B", Cond.fieldLink RX3 20 "ObjectRowsModel" "numbers" "[I", Cond.fieldLink RX3 23 "ObjectRowsModel" "froms" "[I", Cond.fieldLink RX3 40 "ObjectRowsModel" "elements" "[I", Cond.methodLink RX3 90 yX3_isObject, Cond.instanceMethod yX3_isObject, Cond.selects RX3 yX3_isObject yX3_isObject, Cond.initialized RX3, Cond.code yX3_isObject cX3_isObject 2 (some .boolean), Cond.fieldLink RX3 7 "ObjectRowsModel" "many" "I", Cond.methodLink RX3 68 yX3_within, Cond.static yX3_within, Cond.code yX3_within cX3_within 3 (some .boolean), Cond.methodLink RX3 94 yX3_accessOf, Cond.instanceMethod yX3_accessOf, Cond.selects RX3 yX3_accessOf yX3_accessOf, Cond.code yX3_accessOf cX3_accessOf 2 (some .int), Cond.fieldLink RX3 37 "ObjectRowsModel" "access" "[I", Cond.methodLink RX3 72 yX3_holder, Cond.instanceMethod yX3_holder, Cond.selects RX3 yX3_holder yX3_holder]
def wsX3_put_r2 : List Cond := [Cond.code yX3_holder cX3_holder 2 (some .int)]
def wsX3_put : List Cond := .code yX3_put cX3_put 5 (some .int) :: ((wsX3_put_r1 ++ wsX3_put_r2) ++ wsX30)
def wsX3_byteOf : List Cond := .code yX3_byteOf cX3_byteOf 3 (some .int) :: ([.fieldLink RX3 29 "ObjectRowsModel" "bytes" "[B", .fieldLink RX3 20 "ObjectRowsModel" "numbers" "[I", .fieldLink RX3 23 "ObjectRowsModel" "froms" "[I"] ++ wsX30)
def wsX3_get_r1 : List Cond := [Cond.fieldLink RX3 65 "ObjectRowsModel" "thrown" "I", Cond.fieldLink RX3 26 "ObjectRowsModel" "lengths" "[I", Cond.fieldLink RX3 16 "ObjectRowsModel" "kinds" "[I", Cond.fieldLink RX3 40 "ObjectRowsModel" "elements" "[I", Cond.fieldLink RX3 20 "ObjectRowsModel" "numbers" "[I", Cond.fieldLink RX3 23 "ObjectRowsModel" "froms" "[I", Cond.methodLink RX3 90 yX3_isObject, Cond.instanceMethod yX3_isObject, Cond.selects RX3 yX3_isObject yX3_isObject, Cond.initialized RX3, Cond.code yX3_isObject cX3_isObject 2 (some .boolean), Cond.fieldLink RX3 7 "ObjectRowsModel" "many" "I", Cond.methodLink RX3 97 yX3_isView, Cond.instanceMethod yX3_isView, Cond.selects RX3 yX3_isView yX3_isView, Cond.code yX3_isView cX3_isView 2 (some .boolean), Cond.methodLink RX3 68 yX3_within, Cond.static yX3_within, Cond.code yX3_within cX3_within 3 (some .boolean), Cond.methodLink RX3 94 yX3_accessOf, Cond.instanceMethod yX3_accessOf, Cond.selects RX3 yX3_accessOf yX3_accessOf, Cond.code yX3_accessOf cX3_accessOf 2 (some .int), Cond.fieldLink RX3 37 "ObjectRowsModel" "access" "[I"]
def wsX3_get_r2 : List Cond := [Cond.methodLink RX3 72 yX3_holder, Cond.instanceMethod yX3_holder, Cond.selects RX3 yX3_holder yX3_holder, Cond.code yX3_holder cX3_holder 2 (some .int), Cond.methodLink RX3 100 yX3_byteOf, Cond.instanceMethod yX3_byteOf, Cond.selects RX3 yX3_byteOf yX3_byteOf, Cond.code yX3_byteOf cX3_byteOf 3 (some .int), Cond.fieldLink RX3 29 "ObjectRowsModel" "bytes" "[B"]
def wsX3_get : List Cond := .code yX3_get cX3_get 3 (some .int) :: ((wsX3_get_r1 ++ wsX3_get_r2) ++ wsX30)
def wsX3_part_r1 : List Cond := [Cond.fieldLink RX3 65 "ObjectRowsModel" "thrown" "I", Cond.fieldLink RX3 26 "ObjectRowsModel" "lengths" "[I", Cond.fieldLink RX3 16 "ObjectRowsModel" "kinds" "[I", Cond.fieldLink RX3 7 "ObjectRowsModel" "many" "I", Cond.fieldLink RX3 20 "ObjectRowsModel" "numbers" "[I", Cond.fieldLink RX3 23 "ObjectRowsModel" "froms" "[I", Cond.fieldLink RX3 33 "ObjectRowsModel" "executable" "[Z", Cond.fieldLink RX3 37 "ObjectRowsModel" "access" "[I", Cond.fieldLink RX3 13 "ObjectRowsModel" "used" "I", Cond.methodLink RX3 90 yX3_isObject, Cond.instanceMethod yX3_isObject, Cond.selects RX3 yX3_isObject yX3_isObject, Cond.initialized RX3, Cond.code yX3_isObject cX3_isObject 2 (some .boolean), Cond.methodLink RX3 97 yX3_isView, Cond.instanceMethod yX3_isView, Cond.selects RX3 yX3_isView yX3_isView, Cond.code yX3_isView cX3_isView 2 (some .boolean), Cond.methodLink RX3 68 yX3_within, Cond.static yX3_within, Cond.code yX3_within cX3_within 3 (some .boolean), Cond.methodLink RX3 94 yX3_accessOf, Cond.instanceMethod yX3_accessOf, Cond.selects RX3 yX3_accessOf yX3_accessOf]
def wsX3_part_r2 : List Cond := [Cond.code yX3_accessOf cX3_accessOf 2 (some .int), Cond.methodLink RX3 72 yX3_holder, Cond.instanceMethod yX3_holder, Cond.selects RX3 yX3_holder yX3_holder, Cond.code yX3_holder cX3_holder 2 (some .int), Cond.methodLink RX3 87 yX3_blank, Cond.instanceMethod yX3_blank, Cond.selects RX3 yX3_blank yX3_blank, Cond.code yX3_blank cX3_blank 3 none]
def wsX3_part : List Cond := .code yX3_part cX3_part 5 (some .int) :: ((wsX3_part_r1 ++ wsX3_part_r2) ++ wsX30)
def wsX3_attribute_r1 : List Cond := [Cond.fieldLink RX3 65 "ObjectRowsModel" "thrown" "I", Cond.fieldLink RX3 16 "ObjectRowsModel" "kinds" "[I", Cond.fieldLink RX3 33 "ObjectRowsModel" "executable" "[Z", Cond.fieldLink RX3 37 "ObjectRowsModel" "access" "[I", Cond.fieldLink RX3 46 "ObjectRowsModel" "grows" "[Z", Cond.fieldLink RX3 20 "ObjectRowsModel" "numbers" "[I", Cond.methodLink RX3 90 yX3_isObject, Cond.instanceMethod yX3_isObject, Cond.selects RX3 yX3_isObject yX3_isObject, Cond.initialized RX3, Cond.code yX3_isObject cX3_isObject 2 (some .boolean), Cond.fieldLink RX3 7 "ObjectRowsModel" "many" "I", Cond.methodLink RX3 68 yX3_within, Cond.static yX3_within, Cond.code yX3_within cX3_within 3 (some .boolean), Cond.methodLink RX3 104 yX3_hasAccess, Cond.instanceMethod yX3_hasAccess, Cond.selects RX3 yX3_hasAccess yX3_hasAccess, Cond.code yX3_hasAccess cX3_hasAccess 2 (some .boolean), Cond.methodLink RX3 94 yX3_accessOf, Cond.instanceMethod yX3_accessOf, Cond.selects RX3 yX3_accessOf yX3_accessOf, Cond.code yX3_accessOf cX3_accessOf 2 (some .int), Cond.methodLink RX3 72 yX3_holder]
def wsX3_attribute_r2 : List Cond := [Cond.instanceMethod yX3_holder, Cond.selects RX3 yX3_holder yX3_holder, Cond.code yX3_holder cX3_holder 2 (some .int)]
def wsX3_attribute : List Cond := .code yX3_attribute cX3_attribute 4 (some .int) :: ((wsX3_attribute_r1 ++ wsX3_attribute_r2) ++ wsX30)
def wsX3_told_r1 : List Cond := [Cond.fieldLink RX3 65 "ObjectRowsModel" "thrown" "I", Cond.fieldLink RX3 16 "ObjectRowsModel" "kinds" "[I", Cond.fieldLink RX3 33 "ObjectRowsModel" "executable" "[Z", Cond.fieldLink RX3 46 "ObjectRowsModel" "grows" "[Z", Cond.fieldLink RX3 20 "ObjectRowsModel" "numbers" "[I", Cond.fieldLink RX3 43 "ObjectRowsModel" "capacities" "[I", Cond.methodLink RX3 90 yX3_isObject, Cond.instanceMethod yX3_isObject, Cond.selects RX3 yX3_isObject yX3_isObject, Cond.initialized RX3, Cond.code yX3_isObject cX3_isObject 2 (some .boolean), Cond.fieldLink RX3 7 "ObjectRowsModel" "many" "I", Cond.methodLink RX3 104 yX3_hasAccess, Cond.instanceMethod yX3_hasAccess, Cond.selects RX3 yX3_hasAccess yX3_hasAccess, Cond.code yX3_hasAccess cX3_hasAccess 2 (some .boolean), Cond.methodLink RX3 68 yX3_within, Cond.static yX3_within, Cond.code yX3_within cX3_within 3 (some .boolean), Cond.methodLink RX3 94 yX3_accessOf, Cond.instanceMethod yX3_accessOf, Cond.selects RX3 yX3_accessOf yX3_accessOf, Cond.code yX3_accessOf cX3_accessOf 2 (some .int), Cond.fieldLink RX3 37 "ObjectRowsModel" "access" "[I"]
def wsX3_told_r2 : List Cond := [Cond.methodLink RX3 72 yX3_holder, Cond.instanceMethod yX3_holder, Cond.selects RX3 yX3_holder yX3_holder, Cond.code yX3_holder cX3_holder 2 (some .int)]
def wsX3_told : List Cond := .code yX3_told cX3_told 4 (some .int) :: ((wsX3_told_r1 ++ wsX3_told_r2) ++ wsX30)
def wsX3_nameOf : List Cond := .code yX3_nameOf cX3_nameOf 6 (some .int) :: ([.fieldLink RX3 26 "ObjectRowsModel" "lengths" "[I", .methodLink RX3 100 yX3_byteOf, .instanceMethod yX3_byteOf, .selects RX3 yX3_byteOf yX3_byteOf, .initialized RX3, .code yX3_byteOf cX3_byteOf 3 (some .int), .fieldLink RX3 29 "ObjectRowsModel" "bytes" "[B", .fieldLink RX3 20 "ObjectRowsModel" "numbers" "[I", .fieldLink RX3 23 "ObjectRowsModel" "froms" "[I", .methodLink RX3 94 yX3_accessOf, .instanceMethod yX3_accessOf, .selects RX3 yX3_accessOf yX3_accessOf, .code yX3_accessOf cX3_accessOf 2 (some .int), .fieldLink RX3 37 "ObjectRowsModel" "access" "[I", .methodLink RX3 72 yX3_holder, .instanceMethod yX3_holder, .selects RX3 yX3_holder yX3_holder, .code yX3_holder cX3_holder 2 (some .int), .fieldLink RX3 16 "ObjectRowsModel" "kinds" "[I"] ++ wsX30)
def wsX3_coded : List Cond := .code yX3_coded cX3_coded 2 (some .long) :: ([.constantLong RX3 107 (4294967295)])
def wsX3_code_r1 : List Cond := [Cond.fieldLink RX3 16 "ObjectRowsModel" "kinds" "[I", Cond.constantLong RX3 116 (-1), Cond.fieldLink RX3 26 "ObjectRowsModel" "lengths" "[I", Cond.fieldLink RX3 20 "ObjectRowsModel" "numbers" "[I", Cond.fieldLink RX3 23 "ObjectRowsModel" "froms" "[I", Cond.methodLink RX3 109 yX3_coded, Cond.static yX3_coded, Cond.initialized RX3, Cond.code yX3_coded cX3_coded 2 (some .long), Cond.constantLong RX3 107 (4294967295), Cond.methodLink RX3 113 yX3_nameOf, Cond.instanceMethod yX3_nameOf, Cond.selects RX3 yX3_nameOf yX3_nameOf, Cond.code yX3_nameOf cX3_nameOf 6 (some .int), Cond.methodLink RX3 100 yX3_byteOf, Cond.instanceMethod yX3_byteOf, Cond.selects RX3 yX3_byteOf yX3_byteOf, Cond.code yX3_byteOf cX3_byteOf 3 (some .int), Cond.fieldLink RX3 29 "ObjectRowsModel" "bytes" "[B", Cond.methodLink RX3 94 yX3_accessOf, Cond.instanceMethod yX3_accessOf, Cond.selects RX3 yX3_accessOf yX3_accessOf, Cond.code yX3_accessOf cX3_accessOf 2 (some .int), Cond.fieldLink RX3 37 "ObjectRowsModel" "access" "[I"]
def wsX3_code_r2 : List Cond := [Cond.methodLink RX3 72 yX3_holder, Cond.instanceMethod yX3_holder, Cond.selects RX3 yX3_holder yX3_holder, Cond.code yX3_holder cX3_holder 2 (some .int)]
def wsX3_code : List Cond := .code yX3_code cX3_code 4 (some .long) :: ((wsX3_code_r1 ++ wsX3_code_r2) ++ wsX30)
def wsX3_order : List Cond := .code yX3_order cX3_order 6 (some .int) :: ([.fieldLink RX3 26 "ObjectRowsModel" "lengths" "[I", .methodLink RX3 100 yX3_byteOf, .instanceMethod yX3_byteOf, .selects RX3 yX3_byteOf yX3_byteOf, .initialized RX3, .code yX3_byteOf cX3_byteOf 3 (some .int), .fieldLink RX3 29 "ObjectRowsModel" "bytes" "[B", .fieldLink RX3 20 "ObjectRowsModel" "numbers" "[I", .fieldLink RX3 23 "ObjectRowsModel" "froms" "[I"] ++ wsX30)
def wsX3_same_r1 : List Cond := [Cond.fieldLink RX3 65 "ObjectRowsModel" "thrown" "I", Cond.fieldLink RX3 16 "ObjectRowsModel" "kinds" "[I", Cond.methodLink RX3 90 yX3_isObject, Cond.instanceMethod yX3_isObject, Cond.selects RX3 yX3_isObject yX3_isObject, Cond.initialized RX3, Cond.code yX3_isObject cX3_isObject 2 (some .boolean), Cond.fieldLink RX3 7 "ObjectRowsModel" "many" "I", Cond.methodLink RX3 94 yX3_accessOf, Cond.instanceMethod yX3_accessOf, Cond.selects RX3 yX3_accessOf yX3_accessOf, Cond.code yX3_accessOf cX3_accessOf 2 (some .int), Cond.fieldLink RX3 37 "ObjectRowsModel" "access" "[I", Cond.methodLink RX3 72 yX3_holder, Cond.instanceMethod yX3_holder, Cond.selects RX3 yX3_holder yX3_holder, Cond.code yX3_holder cX3_holder 2 (some .int), Cond.fieldLink RX3 20 "ObjectRowsModel" "numbers" "[I", Cond.methodLink RX3 118 yX3_order, Cond.instanceMethod yX3_order, Cond.selects RX3 yX3_order yX3_order, Cond.code yX3_order cX3_order 6 (some .int), Cond.fieldLink RX3 26 "ObjectRowsModel" "lengths" "[I", Cond.methodLink RX3 100 yX3_byteOf]
def wsX3_same_r2 : List Cond := [Cond.instanceMethod yX3_byteOf, Cond.selects RX3 yX3_byteOf yX3_byteOf, Cond.code yX3_byteOf cX3_byteOf 3 (some .int), Cond.fieldLink RX3 29 "ObjectRowsModel" "bytes" "[B", Cond.fieldLink RX3 23 "ObjectRowsModel" "froms" "[I", Cond.methodLink RX3 121 yX3_code, Cond.instanceMethod yX3_code, Cond.selects RX3 yX3_code yX3_code, Cond.code yX3_code cX3_code 4 (some .long), Cond.constantLong RX3 116 (-1), Cond.methodLink RX3 109 yX3_coded, Cond.static yX3_coded, Cond.code yX3_coded cX3_coded 2 (some .long), Cond.constantLong RX3 107 (4294967295), Cond.methodLink RX3 113 yX3_nameOf, Cond.instanceMethod yX3_nameOf, Cond.selects RX3 yX3_nameOf yX3_nameOf, Cond.code yX3_nameOf cX3_nameOf 6 (some .int)]
def wsX3_same : List Cond := .code yX3_same cX3_same 3 (some .boolean) :: ((wsX3_same_r1 ++ wsX3_same_r2) ++ wsX30)
def wsX3_compare_r1 : List Cond := [Cond.fieldLink RX3 65 "ObjectRowsModel" "thrown" "I", Cond.fieldLink RX3 16 "ObjectRowsModel" "kinds" "[I", Cond.fieldLink RX3 20 "ObjectRowsModel" "numbers" "[I", Cond.methodLink RX3 90 yX3_isObject, Cond.instanceMethod yX3_isObject, Cond.selects RX3 yX3_isObject yX3_isObject, Cond.initialized RX3, Cond.code yX3_isObject cX3_isObject 2 (some .boolean), Cond.fieldLink RX3 7 "ObjectRowsModel" "many" "I", Cond.methodLink RX3 94 yX3_accessOf, Cond.instanceMethod yX3_accessOf, Cond.selects RX3 yX3_accessOf yX3_accessOf, Cond.code yX3_accessOf cX3_accessOf 2 (some .int), Cond.fieldLink RX3 37 "ObjectRowsModel" "access" "[I", Cond.methodLink RX3 72 yX3_holder, Cond.instanceMethod yX3_holder, Cond.selects RX3 yX3_holder yX3_holder, Cond.code yX3_holder cX3_holder 2 (some .int), Cond.methodLink RX3 118 yX3_order, Cond.instanceMethod yX3_order, Cond.selects RX3 yX3_order yX3_order, Cond.code yX3_order cX3_order 6 (some .int), Cond.fieldLink RX3 26 "ObjectRowsModel" "lengths" "[I", Cond.methodLink RX3 100 yX3_byteOf]
def wsX3_compare_r2 : List Cond := [Cond.instanceMethod yX3_byteOf, Cond.selects RX3 yX3_byteOf yX3_byteOf, Cond.code yX3_byteOf cX3_byteOf 3 (some .int), Cond.fieldLink RX3 29 "ObjectRowsModel" "bytes" "[B", Cond.fieldLink RX3 23 "ObjectRowsModel" "froms" "[I"]
def wsX3_compare : List Cond := .code yX3_compare cX3_compare 3 (some .int) :: ((wsX3_compare_r1 ++ wsX3_compare_r2) ++ wsX30)
def wsX3_length : List Cond := .code yX3_length cX3_length 2 (some .int) :: ([.fieldLink RX3 65 "ObjectRowsModel" "thrown" "I", .fieldLink RX3 16 "ObjectRowsModel" "kinds" "[I", .fieldLink RX3 20 "ObjectRowsModel" "numbers" "[I", .fieldLink RX3 26 "ObjectRowsModel" "lengths" "[I", .fieldLink RX3 49 "ObjectRowsModel" "entries" "[I", .methodLink RX3 90 yX3_isObject, .instanceMethod yX3_isObject, .selects RX3 yX3_isObject yX3_isObject, .initialized RX3, .code yX3_isObject cX3_isObject 2 (some .boolean), .fieldLink RX3 7 "ObjectRowsModel" "many" "I", .methodLink RX3 97 yX3_isView, .instanceMethod yX3_isView, .selects RX3 yX3_isView yX3_isView, .code yX3_isView cX3_isView 2 (some .boolean), .methodLink RX3 68 yX3_within, .static yX3_within, .code yX3_within cX3_within 3 (some .boolean)] ++ wsX30)
def wsX3_placeOf : List Cond := .code yX3_placeOf cX3_placeOf 5 (some .int) :: ([.fieldLink RX3 49 "ObjectRowsModel" "entries" "[I", .fieldLink RX3 52 "ObjectRowsModel" "keys" "[J"] ++ wsX30)
def wsX3_isKey_r1 : List Cond := [Cond.fieldLink RX3 16 "ObjectRowsModel" "kinds" "[I", Cond.methodLink RX3 121 yX3_code, Cond.instanceMethod yX3_code, Cond.selects RX3 yX3_code yX3_code, Cond.initialized RX3, Cond.code yX3_code cX3_code 4 (some .long), Cond.constantLong RX3 116 (-1), Cond.fieldLink RX3 26 "ObjectRowsModel" "lengths" "[I", Cond.fieldLink RX3 20 "ObjectRowsModel" "numbers" "[I", Cond.fieldLink RX3 23 "ObjectRowsModel" "froms" "[I", Cond.methodLink RX3 109 yX3_coded, Cond.static yX3_coded, Cond.code yX3_coded cX3_coded 2 (some .long), Cond.constantLong RX3 107 (4294967295), Cond.methodLink RX3 113 yX3_nameOf, Cond.instanceMethod yX3_nameOf, Cond.selects RX3 yX3_nameOf yX3_nameOf, Cond.code yX3_nameOf cX3_nameOf 6 (some .int), Cond.methodLink RX3 100 yX3_byteOf, Cond.instanceMethod yX3_byteOf, Cond.selects RX3 yX3_byteOf yX3_byteOf, Cond.code yX3_byteOf cX3_byteOf 3 (some .int), Cond.fieldLink RX3 29 "ObjectRowsModel" "bytes" "[B", Cond.methodLink RX3 94 yX3_accessOf]
def wsX3_isKey_r2 : List Cond := [Cond.instanceMethod yX3_accessOf, Cond.selects RX3 yX3_accessOf yX3_accessOf, Cond.code yX3_accessOf cX3_accessOf 2 (some .int), Cond.fieldLink RX3 37 "ObjectRowsModel" "access" "[I", Cond.methodLink RX3 72 yX3_holder, Cond.instanceMethod yX3_holder, Cond.selects RX3 yX3_holder yX3_holder, Cond.code yX3_holder cX3_holder 2 (some .int)]
def wsX3_isKey : List Cond := .code yX3_isKey cX3_isKey 2 (some .boolean) :: ((wsX3_isKey_r1 ++ wsX3_isKey_r2) ++ wsX30)
def wsX3_entry_r1 : List Cond := [Cond.fieldLink RX3 65 "ObjectRowsModel" "thrown" "I", Cond.fieldLink RX3 16 "ObjectRowsModel" "kinds" "[I", Cond.fieldLink RX3 20 "ObjectRowsModel" "numbers" "[I", Cond.fieldLink RX3 49 "ObjectRowsModel" "entries" "[I", Cond.fieldLink RX3 43 "ObjectRowsModel" "capacities" "[I", Cond.fieldLink RX3 46 "ObjectRowsModel" "grows" "[Z", Cond.fieldLink RX3 13 "ObjectRowsModel" "used" "I", Cond.fieldLink RX3 52 "ObjectRowsModel" "keys" "[J", Cond.fieldLink RX3 56 "ObjectRowsModel" "values" "[I", Cond.methodLink RX3 90 yX3_isObject, Cond.instanceMethod yX3_isObject, Cond.selects RX3 yX3_isObject yX3_isObject, Cond.initialized RX3, Cond.code yX3_isObject cX3_isObject 2 (some .boolean), Cond.fieldLink RX3 7 "ObjectRowsModel" "many" "I", Cond.methodLink RX3 94 yX3_accessOf, Cond.instanceMethod yX3_accessOf, Cond.selects RX3 yX3_accessOf yX3_accessOf, Cond.code yX3_accessOf cX3_accessOf 2 (some .int), Cond.fieldLink RX3 37 "ObjectRowsModel" "access" "[I", Cond.methodLink RX3 72 yX3_holder, Cond.instanceMethod yX3_holder, Cond.selects RX3 yX3_holder yX3_holder, Cond.code yX3_holder cX3_holder 2 (some .int)]
def wsX3_entry_r2 : List Cond := [Cond.methodLink RX3 125 yX3_isKey, Cond.instanceMethod yX3_isKey, Cond.selects RX3 yX3_isKey yX3_isKey, Cond.code yX3_isKey cX3_isKey 2 (some .boolean), Cond.methodLink RX3 121 yX3_code, Cond.instanceMethod yX3_code, Cond.selects RX3 yX3_code yX3_code, Cond.code yX3_code cX3_code 4 (some .long), Cond.constantLong RX3 116 (-1), Cond.fieldLink RX3 26 "ObjectRowsModel" "lengths" "[I", Cond.fieldLink RX3 23 "ObjectRowsModel" "froms" "[I", Cond.methodLink RX3 109 yX3_coded, Cond.static yX3_coded, Cond.code yX3_coded cX3_coded 2 (some .long), Cond.constantLong RX3 107 (4294967295), Cond.methodLink RX3 113 yX3_nameOf, Cond.instanceMethod yX3_nameOf, Cond.selects RX3 yX3_nameOf yX3_nameOf, Cond.code yX3_nameOf cX3_nameOf 6 (some .int), Cond.methodLink RX3 100 yX3_byteOf, Cond.instanceMethod yX3_byteOf, Cond.selects RX3 yX3_byteOf yX3_byteOf, Cond.code yX3_byteOf cX3_byteOf 3 (some .int), Cond.fieldLink RX3 29 "ObjectRowsModel" "bytes" "[B"]
def wsX3_entry_r3 : List Cond := [Cond.methodLink RX3 128 yX3_placeOf, Cond.instanceMethod yX3_placeOf, Cond.selects RX3 yX3_placeOf yX3_placeOf, Cond.code yX3_placeOf cX3_placeOf 5 (some .int)]
def wsX3_entry : List Cond := .code yX3_entry cX3_entry 8 (some .int) :: ((wsX3_entry_r1 ++ (wsX3_entry_r2 ++ wsX3_entry_r3)) ++ wsX30)
def wsX3_look_r1 : List Cond := [Cond.fieldLink RX3 65 "ObjectRowsModel" "thrown" "I", Cond.fieldLink RX3 16 "ObjectRowsModel" "kinds" "[I", Cond.fieldLink RX3 20 "ObjectRowsModel" "numbers" "[I", Cond.fieldLink RX3 56 "ObjectRowsModel" "values" "[I", Cond.methodLink RX3 90 yX3_isObject, Cond.instanceMethod yX3_isObject, Cond.selects RX3 yX3_isObject yX3_isObject, Cond.initialized RX3, Cond.code yX3_isObject cX3_isObject 2 (some .boolean), Cond.fieldLink RX3 7 "ObjectRowsModel" "many" "I", Cond.methodLink RX3 94 yX3_accessOf, Cond.instanceMethod yX3_accessOf, Cond.selects RX3 yX3_accessOf yX3_accessOf, Cond.code yX3_accessOf cX3_accessOf 2 (some .int), Cond.fieldLink RX3 37 "ObjectRowsModel" "access" "[I", Cond.methodLink RX3 72 yX3_holder, Cond.instanceMethod yX3_holder, Cond.selects RX3 yX3_holder yX3_holder, Cond.code yX3_holder cX3_holder 2 (some .int), Cond.methodLink RX3 125 yX3_isKey, Cond.instanceMethod yX3_isKey, Cond.selects RX3 yX3_isKey yX3_isKey, Cond.code yX3_isKey cX3_isKey 2 (some .boolean), Cond.methodLink RX3 121 yX3_code]
def wsX3_look_r2 : List Cond := [Cond.instanceMethod yX3_code, Cond.selects RX3 yX3_code yX3_code, Cond.code yX3_code cX3_code 4 (some .long), Cond.constantLong RX3 116 (-1), Cond.fieldLink RX3 26 "ObjectRowsModel" "lengths" "[I", Cond.fieldLink RX3 23 "ObjectRowsModel" "froms" "[I", Cond.methodLink RX3 109 yX3_coded, Cond.static yX3_coded, Cond.code yX3_coded cX3_coded 2 (some .long), Cond.constantLong RX3 107 (4294967295), Cond.methodLink RX3 113 yX3_nameOf, Cond.instanceMethod yX3_nameOf, Cond.selects RX3 yX3_nameOf yX3_nameOf, Cond.code yX3_nameOf cX3_nameOf 6 (some .int), Cond.methodLink RX3 100 yX3_byteOf, Cond.instanceMethod yX3_byteOf, Cond.selects RX3 yX3_byteOf yX3_byteOf, Cond.code yX3_byteOf cX3_byteOf 3 (some .int), Cond.fieldLink RX3 29 "ObjectRowsModel" "bytes" "[B", Cond.methodLink RX3 128 yX3_placeOf, Cond.instanceMethod yX3_placeOf, Cond.selects RX3 yX3_placeOf yX3_placeOf, Cond.code yX3_placeOf cX3_placeOf 5 (some .int), Cond.fieldLink RX3 49 "ObjectRowsModel" "entries" "[I"]
def wsX3_look_r3 : List Cond := [Cond.fieldLink RX3 52 "ObjectRowsModel" "keys" "[J"]
def wsX3_look : List Cond := .code yX3_look cX3_look 4 (some .int) :: ((wsX3_look_r1 ++ (wsX3_look_r2 ++ wsX3_look_r3)) ++ wsX30)
def wsX3_kind : List Cond := .code yX3_kind cX3_kind 2 (some .int) :: ([.fieldLink RX3 65 "ObjectRowsModel" "thrown" "I", .fieldLink RX3 16 "ObjectRowsModel" "kinds" "[I", .methodLink RX3 90 yX3_isObject, .instanceMethod yX3_isObject, .selects RX3 yX3_isObject yX3_isObject, .initialized RX3, .code yX3_isObject cX3_isObject 2 (some .boolean), .fieldLink RX3 7 "ObjectRowsModel" "many" "I"] ++ wsX30)
def wsX3_used : List Cond := .code yX3_used cX3_used 1 (some .int) :: ([.fieldLink RX3 65 "ObjectRowsModel" "thrown" "I", .fieldLink RX3 13 "ObjectRowsModel" "used" "I"] ++ wsX30)
def wsX3_restore : List Cond := .code yX3_restore cX3_restore 3 (some .int) :: ([.fieldLink RX3 65 "ObjectRowsModel" "thrown" "I", .fieldLink RX3 16 "ObjectRowsModel" "kinds" "[I", .fieldLink RX3 59 "ObjectRowsModel" "saveObject" "[I", .fieldLink RX3 7 "ObjectRowsModel" "many" "I", .fieldLink RX3 62 "ObjectRowsModel" "saveUsed" "[I", .fieldLink RX3 13 "ObjectRowsModel" "used" "I", .fieldLink RX3 80 "ObjectRowsModel" "saves" "I", .methodLink RX3 90 yX3_isObject, .instanceMethod yX3_isObject, .selects RX3 yX3_isObject yX3_isObject, .initialized RX3, .code yX3_isObject cX3_isObject 2 (some .boolean), .methodLink RX3 83 yX3_copy, .instanceMethod yX3_copy, .selects RX3 yX3_copy yX3_copy, .code yX3_copy cX3_copy 4 none, .fieldLink RX3 33 "ObjectRowsModel" "executable" "[Z", .fieldLink RX3 37 "ObjectRowsModel" "access" "[I", .fieldLink RX3 43 "ObjectRowsModel" "capacities" "[I", .fieldLink RX3 46 "ObjectRowsModel" "grows" "[Z", .fieldLink RX3 49 "ObjectRowsModel" "entries" "[I", .fieldLink RX3 40 "ObjectRowsModel" "elements" "[I", .fieldLink RX3 52 "ObjectRowsModel" "keys" "[J", .fieldLink RX3 56 "ObjectRowsModel" "values" "[I"] ++ wsX30)
def wsJx00060_init_a7421 : List Cond := .code yJx00060_init_a7421 cJx00060_init_a7421 2 none :: ([])
def wsJ9_max_7cf53 : List Cond := .code yJ9_max_7cf53 cJ9_max_7cf53 2 (some .int) :: ([])
def wsJ9_min_7cf53 : List Cond := .code yJ9_min_7cf53 cJ9_min_7cf53 2 (some .int) :: ([])
def wsL_get_r1 : List Cond := [Cond.methodLink RL 7 yX2_get, Cond.instanceMethod yX2_get, Cond.selects RX2 yX2_get yX2_get, Cond.initialized RX2, Cond.code yX2_get cX2_get 3 (some .int), Cond.fieldLink RX2 12 "ObjectRows" "kinds" "LObjectRows$Row;", Cond.classLink RX2 107 RJx00060, Cond.instantiable RJx00060 6, Cond.initialized RJx00060, Cond.methodLink RX2 80 yX2_known, Cond.instanceMethod yX2_known, Cond.selects RX2 yX2_known yX2_known, Cond.code yX2_known cX2_known 2 (some .boolean), Cond.fieldLink RX2 50 "ObjectRows" "count" "I", Cond.methodLink RX2 84 yX1_at, Cond.instanceMethod yX1_at, Cond.selects RX1 yX1_at yX1_at, Cond.initialized RX1, Cond.code yX1_at cX1_at 2 (some .int), Cond.fieldLink RX1 9 "ObjectRows$Row" "cells" "[I", Cond.methodLink RX2 104 yX2_isView, Cond.static yX2_isView, Cond.code yX2_isView cX2_isView 1 (some .boolean), Cond.methodLink RX2 191 yX2_isList]
def wsL_get_r2 : List Cond := [Cond.static yX2_isList, Cond.code yX2_isList cX2_isList 1 (some .boolean), Cond.methodLink RX2 93 yX2_accessOf, Cond.instanceMethod yX2_accessOf, Cond.selects RX2 yX2_accessOf yX2_accessOf, Cond.code yX2_accessOf cX2_accessOf 2 (some .int), Cond.fieldLink RX2 34 "ObjectRows" "now" "LObjectRows$Changing;", Cond.fieldLink RX2 206 "ObjectRows$Changing" "accesses" "LObjectRows$Row;", Cond.methodLink RX2 209 yX2_accessHolder, Cond.instanceMethod yX2_accessHolder, Cond.selects RX2 yX2_accessHolder yX2_accessHolder, Cond.code yX2_accessHolder cX2_accessHolder 2 (some .int), Cond.fieldLink RX2 19 "ObjectRows" "owners" "LObjectRows$Row;", Cond.methodLink RX2 87 yX2_hasElement, Cond.instanceMethod yX2_hasElement, Cond.selects RX2 yX2_hasElement yX2_hasElement, Cond.code yX2_hasElement cX2_hasElement 3 (some .boolean), Cond.fieldLink RX2 25 "ObjectRows" "lengths" "LObjectRows$Row;", Cond.methodLink RX2 114 yX2_elementOf, Cond.instanceMethod yX2_elementOf, Cond.selects RX2 yX2_elementOf yX2_elementOf, Cond.code yX2_elementOf cX2_elementOf 3 (some .int), Cond.fieldLink RX2 22 "ObjectRows" "starts" "LObjectRows$Row;", Cond.methodLink RX2 96 yX2_storeRow]
def wsL_get_r3 : List Cond := [Cond.instanceMethod yX2_storeRow, Cond.selects RX2 yX2_storeRow yX2_storeRow, Cond.code yX2_storeRow cX2_storeRow 2 (some (.object "ObjectRows$Row")), Cond.fieldLink RX2 28 "ObjectRows" "bytes" "LObjectRows$Row;", Cond.fieldLink RX2 67 "ObjectRows$Changing" "elements" "LObjectRows$Row;"]
def wsL_get : List Cond := .codeWith yL_get cL_get 5 (some .int) [(0, 10, 13, 13)] :: ((wsL_get_r1 ++ (wsL_get_r2 ++ wsL_get_r3)) ++ wsX20 ++ wsJx000600 ++ wsX10 ++ wsX00)
def wsL_law_r1 : List Cond := [Cond.classLink RL 8 RX2, Cond.instantiable RX2 10, Cond.initialized RX2, Cond.classLink RL 16 RX3, Cond.instantiable RX3 19, Cond.initialized RX3, Cond.arrayClass .long, Cond.methodLink RL 15 yX2_init, Cond.instanceMethod yX2_init, Cond.code yX2_init cX2_init 1 none, Cond.methodLink RX2 3 objectInit, Cond.instanceMethod objectInit, Cond.code objectInit ⟨#[0xb1]⟩ 1 none, Cond.classLink RX2 9 RX1, Cond.instantiable RX1 2, Cond.initialized RX1, Cond.fieldLink RX2 12 "ObjectRows" "kinds" "LObjectRows$Row;", Cond.fieldLink RX2 16 "ObjectRows" "numbers" "LObjectRows$Row;", Cond.fieldLink RX2 19 "ObjectRows" "owners" "LObjectRows$Row;", Cond.fieldLink RX2 22 "ObjectRows" "starts" "LObjectRows$Row;", Cond.fieldLink RX2 25 "ObjectRows" "lengths" "LObjectRows$Row;", Cond.fieldLink RX2 28 "ObjectRows" "bytes" "LObjectRows$Row;", Cond.classLink RX2 31 RX0, Cond.instantiable RX0 7]
def wsL_law_r2 : List Cond := [Cond.initialized RX0, Cond.fieldLink RX2 34 "ObjectRows" "now" "LObjectRows$Changing;", Cond.fieldLink RX2 38 "ObjectRows" "kept" "[LObjectRows$Changing;", Cond.instanceMethod yX1_init, Cond.code yX1_init cX1_init 1 none, Cond.methodLink RX1 1 objectInit, Cond.arrayClass .int, Cond.fieldLink RX1 9 "ObjectRows$Row" "cells" "[I", Cond.instanceMethod yX0_init, Cond.code yX0_init cX0_init 1 none, Cond.methodLink RX0 1 objectInit, Cond.classLink RX0 7 RX1, Cond.fieldLink RX0 10 "ObjectRows$Changing" "executables" "LObjectRows$Row;", Cond.fieldLink RX0 16 "ObjectRows$Changing" "accesses" "LObjectRows$Row;", Cond.fieldLink RX0 19 "ObjectRows$Changing" "capacities" "LObjectRows$Row;", Cond.fieldLink RX0 22 "ObjectRows$Changing" "entries" "LObjectRows$Row;", Cond.fieldLink RX0 25 "ObjectRows$Changing" "growths" "LObjectRows$Row;", Cond.fieldLink RX0 28 "ObjectRows$Changing" "elements" "LObjectRows$Row;", Cond.methodLink RX2 42 yX2_addObject, Cond.instanceMethod yX2_addObject, Cond.selects RX2 yX2_addObject yX2_addObject, Cond.code yX2_addObject cX2_addObject 6 (some .int), Cond.fieldLink RX2 50 "ObjectRows" "count" "I", Cond.fieldLink RX2 57 "ObjectRows$Changing" "storage" "I"]
def wsL_law_r3 : List Cond := [Cond.methodLink RX2 194 yX1_add, Cond.instanceMethod yX1_add, Cond.selects RX1 yX1_add yX1_add, Cond.code yX1_add cX1_add 2 none, Cond.fieldLink RX1 13 "ObjectRows$Row" "size" "I", Cond.methodLink RX1 17 yX1_reach, Cond.instanceMethod yX1_reach, Cond.selects RX1 yX1_reach yX1_reach, Cond.code yX1_reach cX1_reach 2 none, Cond.methodLink RX1 37 Lib.Math.max.name, Cond.static Lib.Math.max.name, Cond.initialized "java/lang/Math", Cond.code Lib.Math.max.name Lib.Math.max.code 2 (some .int), Cond.methodLink RX1 40 yJ7_copyOf_59c91, Cond.static yJ7_copyOf_59c91, Cond.initialized RJ7, Cond.code yJ7_copyOf_59c91 cJ7_copyOf_59c91 3 (some (.array .int)), Cond.methodLink RJ7 316 ⟨"[I", "clone", "()Ljava/lang/Object;"⟩, Cond.sameMethod "[I" "java/lang/Object" "clone" "()Ljava/lang/Object;", Cond.native ⟨"java/lang/Object", "clone", "()Ljava/lang/Object;"⟩, Cond.instanceMethod ⟨"java/lang/Object", "clone", "()Ljava/lang/Object;"⟩, Cond.selects "[I" ⟨"[I", "clone", "()Ljava/lang/Object;"⟩ ⟨"java/lang/Object", "clone", "()Ljava/lang/Object;"⟩, Cond.classLink RJ7 317 "[I", Cond.methodLink RJ7 304 Lib.Math.min.name]
def wsL_law_r4 : List Cond := [Cond.static Lib.Math.min.name, Cond.code Lib.Math.min.name Lib.Math.min.code 2 (some .int), Cond.methodLink RJ7 150 arraycopyName, Cond.native arraycopyName, Cond.static arraycopyName, Cond.initialized "java/lang/System", Cond.methodLink RX1 21 yX1_set, Cond.instanceMethod yX1_set, Cond.selects RX1 yX1_set yX1_set, Cond.code yX1_set cX1_set 3 none, Cond.methodLink RX2 197 yX2_firstAccess, Cond.static yX2_firstAccess, Cond.code yX2_firstAccess cX2_firstAccess 1 (some .int), Cond.methodLink RX2 200 yX0_addCells, Cond.instanceMethod yX0_addCells, Cond.selects RX0 yX0_addCells yX0_addCells, Cond.code yX0_addCells cX0_addCells 2 none, Cond.methodLink RX0 31 yX1_add, Cond.methodLink RL 18 yX3_init, Cond.instanceMethod yX3_init, Cond.code yX3_init cX3_init 1 none, Cond.methodLink RX3 1 objectInit, Cond.fieldLink RX3 7 "ObjectRowsModel" "many" "I", Cond.fieldLink RX3 13 "ObjectRowsModel" "used" "I"]
def wsL_law_r5 : List Cond := [Cond.fieldLink RX3 16 "ObjectRowsModel" "kinds" "[I", Cond.fieldLink RX3 20 "ObjectRowsModel" "numbers" "[I", Cond.fieldLink RX3 23 "ObjectRowsModel" "froms" "[I", Cond.fieldLink RX3 26 "ObjectRowsModel" "lengths" "[I", Cond.arrayClass .byte, Cond.fieldLink RX3 29 "ObjectRowsModel" "bytes" "[B", Cond.arrayClass .boolean, Cond.fieldLink RX3 33 "ObjectRowsModel" "executable" "[Z", Cond.fieldLink RX3 37 "ObjectRowsModel" "access" "[I", Cond.fieldLink RX3 40 "ObjectRowsModel" "elements" "[I", Cond.fieldLink RX3 43 "ObjectRowsModel" "capacities" "[I", Cond.fieldLink RX3 46 "ObjectRowsModel" "grows" "[Z", Cond.fieldLink RX3 49 "ObjectRowsModel" "entries" "[I", Cond.fieldLink RX3 52 "ObjectRowsModel" "keys" "[J", Cond.fieldLink RX3 56 "ObjectRowsModel" "values" "[I", Cond.fieldLink RX3 59 "ObjectRowsModel" "saveObject" "[I", Cond.fieldLink RX3 62 "ObjectRowsModel" "saveUsed" "[I", Cond.methodLink RL 19 yX2_make, Cond.instanceMethod yX2_make, Cond.selects RX2 yX2_make yX2_make, Cond.code yX2_make cX2_make 3 (some .int), Cond.fieldLink RX2 54 "ObjectRows" "saves" "I", Cond.fieldLink RX2 67 "ObjectRows$Changing" "elements" "LObjectRows$Row;", Cond.methodLink RX2 46 yX2_sizeFits]
def wsL_law_r6 : List Cond := [Cond.instanceMethod yX2_sizeFits, Cond.selects RX2 yX2_sizeFits yX2_sizeFits, Cond.code yX2_sizeFits cX2_sizeFits 3 (some .boolean), Cond.methodLink RX2 186 Lib.Math.min.name, Cond.methodLink RX2 90 yX2_within, Cond.static yX2_within, Cond.code yX2_within cX2_within 2 (some .boolean), Cond.methodLink RX2 60 yX2_placeStorage, Cond.static yX2_placeStorage, Cond.code yX2_placeStorage cX2_placeStorage 1 (some .int), Cond.methodLink RX2 64 yX1_addZeros, Cond.instanceMethod yX1_addZeros, Cond.selects RX1 yX1_addZeros yX1_addZeros, Cond.code yX1_addZeros cX1_addZeros 4 (some .int), Cond.methodLink RX2 70 yX2_makePacked, Cond.instanceMethod yX2_makePacked, Cond.selects RX2 yX2_makePacked yX2_makePacked, Cond.code yX2_makePacked cX2_makePacked 5 (some .int), Cond.methodLink RX2 100 yX1_set, Cond.methodLink RX2 73 yX2_makeDictionary, Cond.instanceMethod yX2_makeDictionary, Cond.selects RX2 yX2_makeDictionary yX2_makeDictionary, Cond.code yX2_makeDictionary cX2_makeDictionary 3 (some .int), Cond.fieldLink RX2 141 "ObjectRows$Changing" "capacities" "LObjectRows$Row;"]
def wsL_law_r7 : List Cond := [Cond.methodLink RX2 76 yX2_makeSave, Cond.instanceMethod yX2_makeSave, Cond.selects RX2 yX2_makeSave yX2_makeSave, Cond.code yX2_makeSave cX2_makeSave 2 (some .int), Cond.methodLink RX2 182 yX0_become, Cond.instanceMethod yX0_become, Cond.selects RX0 yX0_become yX0_become, Cond.code yX0_become cX0_become 2 none, Cond.fieldLink RX0 39 "ObjectRows$Changing" "storage" "I", Cond.methodLink RX0 35 yX1_become, Cond.instanceMethod yX1_become, Cond.selects RX1 yX1_become yX1_become, Cond.code yX1_become cX1_become 2 none, Cond.methodLink RX1 25 Lib.Math.min.name, Cond.methodLink RX1 31 arraycopyName, Cond.methodLink RX2 203 yX1_size, Cond.instanceMethod yX1_size, Cond.selects RX1 yX1_size yX1_size, Cond.code yX1_size cX1_size 1 (some .int), Cond.methodLink RL 22 yX3_make, Cond.instanceMethod yX3_make, Cond.selects RX3 yX3_make yX3_make, Cond.code yX3_make cX3_make 6 (some .int), Cond.fieldLink RX3 65 "ObjectRowsModel" "thrown" "I"]
def wsL_law_r8 : List Cond := [Cond.fieldLink RX3 80 "ObjectRowsModel" "saves" "I", Cond.methodLink RX3 68 yX3_within, Cond.static yX3_within, Cond.code yX3_within cX3_within 3 (some .boolean), Cond.methodLink RX3 76 yX3_isSize, Cond.instanceMethod yX3_isSize, Cond.selects RX3 yX3_isSize yX3_isSize, Cond.code yX3_isSize cX3_isSize 3 (some .boolean), Cond.methodLink RX3 83 yX3_copy, Cond.instanceMethod yX3_copy, Cond.selects RX3 yX3_copy yX3_copy, Cond.code yX3_copy cX3_copy 4 none, Cond.methodLink RX3 87 yX3_blank, Cond.instanceMethod yX3_blank, Cond.selects RX3 yX3_blank yX3_blank, Cond.code yX3_blank cX3_blank 3 none, Cond.methodLink RL 23 yX2_put, Cond.instanceMethod yX2_put, Cond.selects RX2 yX2_put yX2_put, Cond.code yX2_put cX2_put 5 (some .int), Cond.methodLink RX2 80 yX2_known, Cond.instanceMethod yX2_known, Cond.selects RX2 yX2_known yX2_known, Cond.code yX2_known cX2_known 2 (some .boolean)]
def wsL_law_r9 : List Cond := [Cond.methodLink RX2 84 yX1_at, Cond.instanceMethod yX1_at, Cond.selects RX1 yX1_at yX1_at, Cond.code yX1_at cX1_at 2 (some .int), Cond.methodLink RX2 87 yX2_hasElement, Cond.instanceMethod yX2_hasElement, Cond.selects RX2 yX2_hasElement yX2_hasElement, Cond.code yX2_hasElement cX2_hasElement 3 (some .boolean), Cond.methodLink RX2 93 yX2_accessOf, Cond.instanceMethod yX2_accessOf, Cond.selects RX2 yX2_accessOf yX2_accessOf, Cond.code yX2_accessOf cX2_accessOf 2 (some .int), Cond.fieldLink RX2 206 "ObjectRows$Changing" "accesses" "LObjectRows$Row;", Cond.methodLink RX2 209 yX2_accessHolder, Cond.instanceMethod yX2_accessHolder, Cond.selects RX2 yX2_accessHolder yX2_accessHolder, Cond.code yX2_accessHolder cX2_accessHolder 2 (some .int), Cond.methodLink RX2 96 yX2_storeRow, Cond.instanceMethod yX2_storeRow, Cond.selects RX2 yX2_storeRow yX2_storeRow, Cond.code yX2_storeRow cX2_storeRow 2 (some (.object "ObjectRows$Row")), Cond.methodLink RL 27 yX3_put, Cond.instanceMethod yX3_put, Cond.selects RX3 yX3_put yX3_put]
def wsL_law_r10 : List Cond := [Cond.code yX3_put cX3_put 5 (some .int), Cond.methodLink RX3 90 yX3_isObject, Cond.instanceMethod yX3_isObject, Cond.selects RX3 yX3_isObject yX3_isObject, Cond.code yX3_isObject cX3_isObject 2 (some .boolean), Cond.methodLink RX3 94 yX3_accessOf, Cond.instanceMethod yX3_accessOf, Cond.selects RX3 yX3_accessOf yX3_accessOf, Cond.code yX3_accessOf cX3_accessOf 2 (some .int), Cond.methodLink RX3 72 yX3_holder, Cond.instanceMethod yX3_holder, Cond.selects RX3 yX3_holder yX3_holder, Cond.code yX3_holder cX3_holder 2 (some .int), Cond.methodLink RL 28 yL_get, Cond.static yL_get, Cond.initialized RL, Cond.codeWith yL_get cL_get 5 (some .int) [(0, 10, 13, 13)], Cond.methodLink RL 7 yX2_get, Cond.instanceMethod yX2_get, Cond.selects RX2 yX2_get yX2_get, Cond.code yX2_get cX2_get 3 (some .int), Cond.classLink RX2 107 RJx00060, Cond.instantiable RJx00060 6, Cond.initialized RJx00060]
def wsL_law_r11 : List Cond := [Cond.methodLink RX2 104 yX2_isView, Cond.static yX2_isView, Cond.code yX2_isView cX2_isView 1 (some .boolean), Cond.methodLink RX2 191 yX2_isList, Cond.static yX2_isList, Cond.code yX2_isList cX2_isList 1 (some .boolean), Cond.methodLink RX2 114 yX2_elementOf, Cond.instanceMethod yX2_elementOf, Cond.selects RX2 yX2_elementOf yX2_elementOf, Cond.code yX2_elementOf cX2_elementOf 3 (some .int), Cond.methodLink RL 33 yX3_get, Cond.instanceMethod yX3_get, Cond.selects RX3 yX3_get yX3_get, Cond.code yX3_get cX3_get 3 (some .int), Cond.methodLink RX3 97 yX3_isView, Cond.instanceMethod yX3_isView, Cond.selects RX3 yX3_isView yX3_isView, Cond.code yX3_isView cX3_isView 2 (some .boolean), Cond.methodLink RX3 100 yX3_byteOf, Cond.instanceMethod yX3_byteOf, Cond.selects RX3 yX3_byteOf yX3_byteOf, Cond.code yX3_byteOf cX3_byteOf 3 (some .int), Cond.methodLink RL 34 yX3_thrown, Cond.instanceMethod yX3_thrown]
def wsL_law_r12 : List Cond := [Cond.selects RX3 yX3_thrown yX3_thrown, Cond.code yX3_thrown cX3_thrown 1 (some .int), Cond.methodLink RL 38 yX2_part, Cond.instanceMethod yX2_part, Cond.selects RX2 yX2_part yX2_part, Cond.code yX2_part cX2_part 5 (some .int), Cond.methodLink RX2 118 yX2_hasPart, Cond.instanceMethod yX2_hasPart, Cond.selects RX2 yX2_hasPart yX2_hasPart, Cond.code yX2_hasPart cX2_hasPart 5 (some .boolean), Cond.methodLink RX2 122 yX2_addPart, Cond.instanceMethod yX2_addPart, Cond.selects RX2 yX2_addPart yX2_addPart, Cond.code yX2_addPart cX2_addPart 5 (some .int), Cond.fieldLink RX2 126 "ObjectRows$Changing" "executables" "LObjectRows$Row;", Cond.methodLink RL 41 yX3_part, Cond.instanceMethod yX3_part, Cond.selects RX3 yX3_part yX3_part, Cond.code yX3_part cX3_part 5 (some .int), Cond.methodLink RL 42 yX2_attribute, Cond.instanceMethod yX2_attribute, Cond.selects RX2 yX2_attribute yX2_attribute, Cond.code yX2_attribute cX2_attribute 4 (some .int), Cond.methodLink RX2 129 yX2_lowerAccess]
def wsL_law_r13 : List Cond := [Cond.instanceMethod yX2_lowerAccess, Cond.selects RX2 yX2_lowerAccess yX2_lowerAccess, Cond.code yX2_lowerAccess cX2_lowerAccess 3 (some .int), Cond.methodLink RX2 132 yX2_letGrow, Cond.instanceMethod yX2_letGrow, Cond.selects RX2 yX2_letGrow yX2_letGrow, Cond.code yX2_letGrow cX2_letGrow 3 (some .int), Cond.fieldLink RX2 135 "ObjectRows$Changing" "growths" "LObjectRows$Row;", Cond.methodLink RL 45 yX3_attribute, Cond.instanceMethod yX3_attribute, Cond.selects RX3 yX3_attribute yX3_attribute, Cond.code yX3_attribute cX3_attribute 4 (some .int), Cond.methodLink RX3 104 yX3_hasAccess, Cond.instanceMethod yX3_hasAccess, Cond.selects RX3 yX3_hasAccess yX3_hasAccess, Cond.code yX3_hasAccess cX3_hasAccess 2 (some .boolean), Cond.methodLink RL 46 yX2_told, Cond.instanceMethod yX2_told, Cond.selects RX2 yX2_told yX2_told, Cond.code yX2_told cX2_told 3 (some .int), Cond.methodLink RX2 138 yX2_hasNumber, Cond.static yX2_hasNumber, Cond.code yX2_hasNumber cX2_hasNumber 1 (some .boolean), Cond.methodLink RL 49 yX3_told]
def wsL_law_r14 : List Cond := [Cond.instanceMethod yX3_told, Cond.selects RX3 yX3_told yX3_told, Cond.code yX3_told cX3_told 4 (some .int), Cond.methodLink RL 50 yX2_same, Cond.instanceMethod yX2_same, Cond.selects RX2 yX2_same yX2_same, Cond.code yX2_same cX2_same 3 (some .boolean), Cond.methodLink RX2 144 yX2_alike, Cond.instanceMethod yX2_alike, Cond.selects RX2 yX2_alike yX2_alike, Cond.code yX2_alike cX2_alike 5 (some .boolean), Cond.methodLink RX2 150 yX2_readableString, Cond.instanceMethod yX2_readableString, Cond.selects RX2 yX2_readableString yX2_readableString, Cond.code yX2_readableString cX2_readableString 2 (some .boolean), Cond.methodLink RX2 153 yX2_orderOfBytes, Cond.instanceMethod yX2_orderOfBytes, Cond.selects RX2 yX2_orderOfBytes yX2_orderOfBytes, Cond.code yX2_orderOfBytes cX2_orderOfBytes 6 (some .int), Cond.methodLink RX2 147 yX2_order, Cond.static yX2_order, Cond.code yX2_order cX2_order 2 (some .int), Cond.methodLink RX2 212 yX2_nameOf, Cond.instanceMethod yX2_nameOf]
def wsL_law_r15 : List Cond := [Cond.selects RX2 yX2_nameOf yX2_nameOf, Cond.code yX2_nameOf cX2_nameOf 2 (some .int), Cond.methodLink RX2 221 yX2_numberInTens, Cond.instanceMethod yX2_numberInTens, Cond.selects RX2 yX2_numberInTens yX2_numberInTens, Cond.code yX2_numberInTens cX2_numberInTens 7 (some .int), Cond.methodLink RX2 215 yX2_alikeButStrings, Cond.instanceMethod yX2_alikeButStrings, Cond.selects RX2 yX2_alikeButStrings yX2_alikeButStrings, Cond.code yX2_alikeButStrings cX2_alikeButStrings 5 (some .boolean), Cond.methodLink RX2 218 yX2_alikeOfKind, Cond.instanceMethod yX2_alikeOfKind, Cond.selects RX2 yX2_alikeOfKind yX2_alikeOfKind, Cond.code yX2_alikeOfKind cX2_alikeOfKind 4 (some .boolean), Cond.methodLink RL 54 yX3_same, Cond.instanceMethod yX3_same, Cond.selects RX3 yX3_same yX3_same, Cond.code yX3_same cX3_same 3 (some .boolean), Cond.methodLink RX3 118 yX3_order, Cond.instanceMethod yX3_order, Cond.selects RX3 yX3_order yX3_order, Cond.code yX3_order cX3_order 6 (some .int), Cond.methodLink RX3 121 yX3_code, Cond.instanceMethod yX3_code]
def wsL_law_r16 : List Cond := [Cond.selects RX3 yX3_code yX3_code, Cond.code yX3_code cX3_code 4 (some .long), Cond.constantLong RX3 116 (-1), Cond.methodLink RX3 109 yX3_coded, Cond.static yX3_coded, Cond.code yX3_coded cX3_coded 2 (some .long), Cond.constantLong RX3 107 (4294967295), Cond.methodLink RX3 113 yX3_nameOf, Cond.instanceMethod yX3_nameOf, Cond.selects RX3 yX3_nameOf yX3_nameOf, Cond.code yX3_nameOf cX3_nameOf 6 (some .int), Cond.methodLink RL 55 yX2_compare, Cond.instanceMethod yX2_compare, Cond.selects RX2 yX2_compare yX2_compare, Cond.code yX2_compare cX2_compare 3 (some .int), Cond.methodLink RL 58 yX3_compare, Cond.instanceMethod yX3_compare, Cond.selects RX3 yX3_compare yX3_compare, Cond.code yX3_compare cX3_compare 3 (some .int), Cond.methodLink RL 59 yX2_length, Cond.instanceMethod yX2_length, Cond.selects RX2 yX2_length yX2_length, Cond.code yX2_length cX2_length 2 (some .int), Cond.fieldLink RX2 159 "ObjectRows$Changing" "entries" "LObjectRows$Row;"]
def wsL_law_r17 : List Cond := [Cond.methodLink RX2 156 yX2_digits, Cond.static yX2_digits, Cond.code yX2_digits cX2_digits 1 (some .int), Cond.methodLink RL 63 yX3_length, Cond.instanceMethod yX3_length, Cond.selects RX3 yX3_length yX3_length, Cond.code yX3_length cX3_length 2 (some .int), Cond.methodLink RL 64 yX2_entry, Cond.instanceMethod yX2_entry, Cond.selects RX2 yX2_entry yX2_entry, Cond.code yX2_entry cX2_entry 6 (some .int), Cond.methodLink RX2 162 yX2_keyFor, Cond.instanceMethod yX2_keyFor, Cond.selects RX2 yX2_keyFor yX2_keyFor, Cond.code yX2_keyFor cX2_keyFor 4 (some .int), Cond.methodLink RX2 165 yX2_placeOf, Cond.instanceMethod yX2_placeOf, Cond.selects RX2 yX2_placeOf yX2_placeOf, Cond.code yX2_placeOf cX2_placeOf 5 (some .int), Cond.methodLink RX2 224 yX2_keyCell, Cond.instanceMethod yX2_keyCell, Cond.selects RX2 yX2_keyCell yX2_keyCell, Cond.code yX2_keyCell cX2_keyCell 3 (some .int), Cond.methodLink RX2 227 yX2_alikeKeys]
def wsL_law_r18 : List Cond := [Cond.instanceMethod yX2_alikeKeys, Cond.selects RX2 yX2_alikeKeys yX2_alikeKeys, Cond.code yX2_alikeKeys cX2_alikeKeys 3 (some .boolean), Cond.methodLink RX2 168 yX2_addKey, Cond.instanceMethod yX2_addKey, Cond.selects RX2 yX2_addKey yX2_addKey, Cond.code yX2_addKey cX2_addKey 5 (some .int), Cond.methodLink RX2 230 yX2_grow, Cond.instanceMethod yX2_grow, Cond.selects RX2 yX2_grow yX2_grow, Cond.code yX2_grow cX2_grow 4 (some .boolean), Cond.methodLink RX2 171 yX2_valueCell, Cond.instanceMethod yX2_valueCell, Cond.selects RX2 yX2_valueCell yX2_valueCell, Cond.code yX2_valueCell cX2_valueCell 3 (some .int), Cond.methodLink RL 67 yX3_entry, Cond.instanceMethod yX3_entry, Cond.selects RX3 yX3_entry yX3_entry, Cond.code yX3_entry cX3_entry 8 (some .int), Cond.methodLink RX3 125 yX3_isKey, Cond.instanceMethod yX3_isKey, Cond.selects RX3 yX3_isKey yX3_isKey, Cond.code yX3_isKey cX3_isKey 2 (some .boolean), Cond.methodLink RX3 128 yX3_placeOf]
def wsL_law_r19 : List Cond := [Cond.instanceMethod yX3_placeOf, Cond.selects RX3 yX3_placeOf yX3_placeOf, Cond.code yX3_placeOf cX3_placeOf 5 (some .int), Cond.methodLink RL 68 yX2_look, Cond.instanceMethod yX2_look, Cond.selects RX2 yX2_look yX2_look, Cond.code yX2_look cX2_look 5 (some .int), Cond.methodLink RL 71 yX3_look, Cond.instanceMethod yX3_look, Cond.selects RX3 yX3_look yX3_look, Cond.code yX3_look cX3_look 4 (some .int), Cond.methodLink RL 72 yX2_kind, Cond.instanceMethod yX2_kind, Cond.selects RX2 yX2_kind yX2_kind, Cond.code yX2_kind cX2_kind 2 (some .int), Cond.methodLink RL 75 yX3_kind, Cond.instanceMethod yX3_kind, Cond.selects RX3 yX3_kind yX3_kind, Cond.code yX3_kind cX3_kind 2 (some .int), Cond.methodLink RL 76 yX2_used, Cond.instanceMethod yX2_used, Cond.selects RX2 yX2_used yX2_used, Cond.code yX2_used cX2_used 1 (some .int), Cond.methodLink RL 79 yX3_used]
def wsL_law_r20 : List Cond := [Cond.instanceMethod yX3_used, Cond.selects RX3 yX3_used yX3_used, Cond.code yX3_used cX3_used 1 (some .int), Cond.methodLink RL 80 yX2_restore, Cond.instanceMethod yX2_restore, Cond.selects RX2 yX2_restore yX2_restore, Cond.code yX2_restore cX2_restore 3 (some .int), Cond.methodLink RX2 174 yX2_keptBy, Cond.instanceMethod yX2_keptBy, Cond.selects RX2 yX2_keptBy yX2_keptBy, Cond.code yX2_keptBy cX2_keptBy 4 (some (.object "ObjectRows$Changing")), Cond.methodLink RX2 178 yX1_cut, Cond.instanceMethod yX1_cut, Cond.selects RX1 yX1_cut yX1_cut, Cond.code yX1_cut cX1_cut 2 none, Cond.methodLink RL 83 yX3_restore, Cond.instanceMethod yX3_restore, Cond.selects RX3 yX3_restore yX3_restore, Cond.code yX3_restore cX3_restore 3 (some .int)]
def wsL_law : List Cond := (wsL_law_r1 ++ (wsL_law_r2 ++ (wsL_law_r3 ++ (wsL_law_r4 ++ (wsL_law_r5 ++ (wsL_law_r6 ++ (wsL_law_r7 ++ (wsL_law_r8 ++ (wsL_law_r9 ++ (wsL_law_r10 ++ (wsL_law_r11 ++ (wsL_law_r12 ++ (wsL_law_r13 ++ (wsL_law_r14 ++ (wsL_law_r15 ++ (wsL_law_r16 ++ (wsL_law_r17 ++ (wsL_law_r18 ++ (wsL_law_r19 ++ wsL_law_r20))))))))))))))))))) ++ wsX20 ++ wsX30 ++ wsX10 ++ wsX00 ++ wsJx000600 ++ ([] : List Cond)
abbrev vwCl : List vw_C := [(RJx00060, TJx00060, 6), (RX0, TX0, 7), (RX1, TX1, 2), (RX2, TX2, 10), (RX3, TX3, 19)]
end
section
set_option maxRecDepth 20000 in
theorem ggX0_init_X1_init : GoodIn wsX0_init wsX1_init := goodIn_r _ [14, 15, 2, 3, 16, 17, 18, 19] (by decide +kernel) (by decide +kernel)
set_option maxRecDepth 20000 in
theorem gX0_init_X1_init_n9 : GoodIn wsX0_init (wsX1_init) := ggX0_init_X1_init
theorem dX0_init_0 : decode cX0_init 0 = .ok (.aload_n 0, 1) := by decide +kernel
theorem dX0_init_1 : decode cX0_init 1 = .ok (.invokespecial 1, 3) := by decide +kernel
theorem dX0_init_4 : decode cX0_init 4 = .ok (.aload_n 0, 1) := by decide +kernel
theorem dX0_init_5 : decode cX0_init 5 = .ok (.new 7, 3) := by decide +kernel
theorem dX0_init_8 : decode cX0_init 8 = .ok (.dup, 1) := by decide +kernel
theorem dX0_init_9 : decode cX0_init 9 = .ok (.invokespecial 9, 3) := by decide +kernel
theorem dX0_init_12 : decode cX0_init 12 = .ok (.putfield 10, 3) := by decide +kernel
theorem dX0_init_15 : decode cX0_init 15 = .ok (.aload_n 0, 1) := by decide +kernel
theorem dX0_init_16 : decode cX0_init 16 = .ok (.new 7, 3) := by decide +kernel
theorem dX0_init_19 : decode cX0_init 19 = .ok (.dup, 1) := by decide +kernel
theorem dX0_init_20 : decode cX0_init 20 = .ok (.invokespecial 9, 3) := by decide +kernel
theorem dX0_init_23 : decode cX0_init 23 = .ok (.putfield 16, 3) := by decide +kernel
theorem dX0_init_26 : decode cX0_init 26 = .ok (.aload_n 0, 1) := by decide +kernel
theorem dX0_init_27 : decode cX0_init 27 = .ok (.new 7, 3) := by decide +kernel
theorem dX0_init_30 : decode cX0_init 30 = .ok (.dup, 1) := by decide +kernel
theorem dX0_init_31 : decode cX0_init 31 = .ok (.invokespecial 9, 3) := by decide +kernel
theorem dX0_init_34 : decode cX0_init 34 = .ok (.putfield 19, 3) := by decide +kernel
theorem dX0_init_37 : decode cX0_init 37 = .ok (.aload_n 0, 1) := by decide +kernel
theorem dX0_init_38 : decode cX0_init 38 = .ok (.new 7, 3) := by decide +kernel
theorem dX0_init_41 : decode cX0_init 41 = .ok (.dup, 1) := by decide +kernel
theorem dX0_init_42 : decode cX0_init 42 = .ok (.invokespecial 9, 3) := by decide +kernel
theorem dX0_init_45 : decode cX0_init 45 = .ok (.putfield 22, 3) := by decide +kernel
theorem dX0_init_48 : decode cX0_init 48 = .ok (.aload_n 0, 1) := by decide +kernel
theorem dX0_init_49 : decode cX0_init 49 = .ok (.new 7, 3) := by decide +kernel
theorem dX0_init_52 : decode cX0_init 52 = .ok (.dup, 1) := by decide +kernel
theorem dX0_init_53 : decode cX0_init 53 = .ok (.invokespecial 9, 3) := by decide +kernel
theorem dX0_init_56 : decode cX0_init 56 = .ok (.putfield 25, 3) := by decide +kernel
theorem dX0_init_59 : decode cX0_init 59 = .ok (.aload_n 0, 1) := by decide +kernel
theorem dX0_init_60 : decode cX0_init 60 = .ok (.new 7, 3) := by decide +kernel
theorem dX0_init_63 : decode cX0_init 63 = .ok (.dup, 1) := by decide +kernel
theorem dX0_init_64 : decode cX0_init 64 = .ok (.invokespecial 9, 3) := by decide +kernel
theorem dX0_init_67 : decode cX0_init 67 = .ok (.putfield 28, 3) := by decide +kernel
theorem dX0_init_70 : decode cX0_init 70 = .ok (.return_, 1) := by decide +kernel
set_option maxRecDepth 20000 in
theorem ggX0_addCells_X1_add : GoodIn wsX0_addCells wsX1_add := goodIn_r _ [10, 11, 12, 13, 14, 9, 15, 16, 17, 18, 19, 20, 21, 22, 23, 24, 25, 26, 27, 28, 29, 30, 31, 32, 33, 34, 35, 36, 37, 38, 39, 40, 41, 42, 50, 51] (by decide +kernel) (by decide +kernel)
set_option maxRecDepth 20000 in
theorem gX0_addCells_X1_add : GoodIn wsX0_addCells (wsV RX0 31 RX1 yX1_add wsX1_add) := goodIn_app (goodIn_of _ (by decide +kernel)) ggX0_addCells_X1_add
theorem dX0_addCells_0 : decode cX0_addCells 0 = .ok (.aload_n 0, 1) := by decide +kernel
theorem dX0_addCells_1 : decode cX0_addCells 1 = .ok (.getfield 10, 3) := by decide +kernel
theorem dX0_addCells_4 : decode cX0_addCells 4 = .ok (.iconst 0, 1) := by decide +kernel
theorem dX0_addCells_5 : decode cX0_addCells 5 = .ok (.invokevirtual 31, 3) := by decide +kernel
theorem dX0_addCells_8 : decode cX0_addCells 8 = .ok (.aload_n 0, 1) := by decide +kernel
theorem dX0_addCells_9 : decode cX0_addCells 9 = .ok (.getfield 16, 3) := by decide +kernel
theorem dX0_addCells_12 : decode cX0_addCells 12 = .ok (.iload_n 1, 1) := by decide +kernel
theorem dX0_addCells_13 : decode cX0_addCells 13 = .ok (.invokevirtual 31, 3) := by decide +kernel
theorem dX0_addCells_16 : decode cX0_addCells 16 = .ok (.aload_n 0, 1) := by decide +kernel
theorem dX0_addCells_17 : decode cX0_addCells 17 = .ok (.getfield 19, 3) := by decide +kernel
theorem dX0_addCells_20 : decode cX0_addCells 20 = .ok (.iconst 0, 1) := by decide +kernel
theorem dX0_addCells_21 : decode cX0_addCells 21 = .ok (.invokevirtual 31, 3) := by decide +kernel
theorem dX0_addCells_24 : decode cX0_addCells 24 = .ok (.aload_n 0, 1) := by decide +kernel
theorem dX0_addCells_25 : decode cX0_addCells 25 = .ok (.getfield 22, 3) := by decide +kernel
theorem dX0_addCells_28 : decode cX0_addCells 28 = .ok (.iconst 0, 1) := by decide +kernel
theorem dX0_addCells_29 : decode cX0_addCells 29 = .ok (.invokevirtual 31, 3) := by decide +kernel
theorem dX0_addCells_32 : decode cX0_addCells 32 = .ok (.aload_n 0, 1) := by decide +kernel
theorem dX0_addCells_33 : decode cX0_addCells 33 = .ok (.getfield 25, 3) := by decide +kernel
theorem dX0_addCells_36 : decode cX0_addCells 36 = .ok (.iconst 0, 1) := by decide +kernel
theorem dX0_addCells_37 : decode cX0_addCells 37 = .ok (.invokevirtual 31, 3) := by decide +kernel
theorem dX0_addCells_40 : decode cX0_addCells 40 = .ok (.return_, 1) := by decide +kernel
set_option maxRecDepth 20000 in
theorem ggX0_become_X1_become : GoodIn wsX0_become wsX1_become := goodIn_r _ [12, 13, 14, 15, 16, 17, 18, 19, 20, 21, 22, 23, 24, 25, 11, 26, 27, 28, 29, 30, 31, 32, 33, 34, 35, 36, 37, 38, 39, 40, 41, 42, 50, 51] (by decide +kernel) (by decide +kernel)
set_option maxRecDepth 20000 in
theorem gX0_become_X1_become : GoodIn wsX0_become (wsV RX0 35 RX1 yX1_become wsX1_become) := goodIn_app (goodIn_of _ (by decide +kernel)) ggX0_become_X1_become
theorem dX0_become_0 : decode cX0_become 0 = .ok (.aload_n 0, 1) := by decide +kernel
theorem dX0_become_1 : decode cX0_become 1 = .ok (.getfield 10, 3) := by decide +kernel
theorem dX0_become_4 : decode cX0_become 4 = .ok (.aload_n 1, 1) := by decide +kernel
theorem dX0_become_5 : decode cX0_become 5 = .ok (.getfield 10, 3) := by decide +kernel
theorem dX0_become_8 : decode cX0_become 8 = .ok (.invokevirtual 35, 3) := by decide +kernel
theorem dX0_become_11 : decode cX0_become 11 = .ok (.aload_n 0, 1) := by decide +kernel
theorem dX0_become_12 : decode cX0_become 12 = .ok (.getfield 16, 3) := by decide +kernel
theorem dX0_become_15 : decode cX0_become 15 = .ok (.aload_n 1, 1) := by decide +kernel
theorem dX0_become_16 : decode cX0_become 16 = .ok (.getfield 16, 3) := by decide +kernel
theorem dX0_become_19 : decode cX0_become 19 = .ok (.invokevirtual 35, 3) := by decide +kernel
theorem dX0_become_22 : decode cX0_become 22 = .ok (.aload_n 0, 1) := by decide +kernel
theorem dX0_become_23 : decode cX0_become 23 = .ok (.getfield 19, 3) := by decide +kernel
theorem dX0_become_26 : decode cX0_become 26 = .ok (.aload_n 1, 1) := by decide +kernel
theorem dX0_become_27 : decode cX0_become 27 = .ok (.getfield 19, 3) := by decide +kernel
theorem dX0_become_30 : decode cX0_become 30 = .ok (.invokevirtual 35, 3) := by decide +kernel
theorem dX0_become_33 : decode cX0_become 33 = .ok (.aload_n 0, 1) := by decide +kernel
theorem dX0_become_34 : decode cX0_become 34 = .ok (.getfield 22, 3) := by decide +kernel
theorem dX0_become_37 : decode cX0_become 37 = .ok (.aload_n 1, 1) := by decide +kernel
theorem dX0_become_38 : decode cX0_become 38 = .ok (.getfield 22, 3) := by decide +kernel
theorem dX0_become_41 : decode cX0_become 41 = .ok (.invokevirtual 35, 3) := by decide +kernel
theorem dX0_become_44 : decode cX0_become 44 = .ok (.aload_n 0, 1) := by decide +kernel
theorem dX0_become_45 : decode cX0_become 45 = .ok (.getfield 25, 3) := by decide +kernel
theorem dX0_become_48 : decode cX0_become 48 = .ok (.aload_n 1, 1) := by decide +kernel
theorem dX0_become_49 : decode cX0_become 49 = .ok (.getfield 25, 3) := by decide +kernel
theorem dX0_become_52 : decode cX0_become 52 = .ok (.invokevirtual 35, 3) := by decide +kernel
theorem dX0_become_55 : decode cX0_become 55 = .ok (.aload_n 0, 1) := by decide +kernel
theorem dX0_become_56 : decode cX0_become 56 = .ok (.getfield 28, 3) := by decide +kernel
theorem dX0_become_59 : decode cX0_become 59 = .ok (.aload_n 1, 1) := by decide +kernel
theorem dX0_become_60 : decode cX0_become 60 = .ok (.getfield 28, 3) := by decide +kernel
theorem dX0_become_63 : decode cX0_become 63 = .ok (.invokevirtual 35, 3) := by decide +kernel
theorem dX0_become_66 : decode cX0_become 66 = .ok (.aload_n 0, 1) := by decide +kernel
theorem dX0_become_67 : decode cX0_become 67 = .ok (.aload_n 1, 1) := by decide +kernel
theorem dX0_become_68 : decode cX0_become 68 = .ok (.getfield 39, 3) := by decide +kernel
theorem dX0_become_71 : decode cX0_become 71 = .ok (.putfield 39, 3) := by decide +kernel
theorem dX0_become_74 : decode cX0_become 74 = .ok (.return_, 1) := by decide +kernel
theorem dX1_init_0 : decode cX1_init 0 = .ok (.aload_n 0, 1) := by decide +kernel
theorem dX1_init_1 : decode cX1_init 1 = .ok (.invokespecial 1, 3) := by decide +kernel
theorem dX1_init_4 : decode cX1_init 4 = .ok (.aload_n 0, 1) := by decide +kernel
theorem dX1_init_5 : decode cX1_init 5 = .ok (.bipush 8, 2) := by decide +kernel
theorem dX1_init_7 : decode cX1_init 7 = .ok (.newarray .int, 2) := by decide +kernel
theorem dX1_init_9 : decode cX1_init 9 = .ok (.putfield 9, 3) := by decide +kernel
theorem dX1_init_12 : decode cX1_init 12 = .ok (.return_, 1) := by decide +kernel
theorem dX1_size_0 : decode cX1_size 0 = .ok (.aload_n 0, 1) := by decide +kernel
theorem dX1_size_1 : decode cX1_size 1 = .ok (.getfield 13, 3) := by decide +kernel
theorem dX1_size_4 : decode cX1_size 4 = .ok (.ireturn, 1) := by decide +kernel
theorem dX1_at_0 : decode cX1_at 0 = .ok (.iload_n 1, 1) := by decide +kernel
theorem dX1_at_1 : decode cX1_at 1 = .ok (.ifCond .lt 21, 3) := by decide +kernel
theorem dX1_at_4 : decode cX1_at 4 = .ok (.iload_n 1, 1) := by decide +kernel
theorem dX1_at_5 : decode cX1_at 5 = .ok (.aload_n 0, 1) := by decide +kernel
theorem dX1_at_6 : decode cX1_at 6 = .ok (.getfield 9, 3) := by decide +kernel
theorem dX1_at_9 : decode cX1_at 9 = .ok (.arraylength, 1) := by decide +kernel
theorem dX1_at_10 : decode cX1_at 10 = .ok (.if_icmp .ge 12, 3) := by decide +kernel
theorem dX1_at_13 : decode cX1_at 13 = .ok (.aload_n 0, 1) := by decide +kernel
theorem dX1_at_14 : decode cX1_at 14 = .ok (.getfield 9, 3) := by decide +kernel
theorem dX1_at_17 : decode cX1_at 17 = .ok (.iload_n 1, 1) := by decide +kernel
theorem dX1_at_18 : decode cX1_at 18 = .ok (.iaload, 1) := by decide +kernel
theorem dX1_at_19 : decode cX1_at 19 = .ok (.goto 4, 3) := by decide +kernel
theorem dX1_at_22 : decode cX1_at 22 = .ok (.iconst 0, 1) := by decide +kernel
theorem dX1_at_23 : decode cX1_at 23 = .ok (.ireturn, 1) := by decide +kernel
theorem dX1_set_0 : decode cX1_set 0 = .ok (.iload_n 1, 1) := by decide +kernel
theorem dX1_set_1 : decode cX1_set 1 = .ok (.ifCond .lt 19, 3) := by decide +kernel
theorem dX1_set_4 : decode cX1_set 4 = .ok (.iload_n 1, 1) := by decide +kernel
theorem dX1_set_5 : decode cX1_set 5 = .ok (.aload_n 0, 1) := by decide +kernel
theorem dX1_set_6 : decode cX1_set 6 = .ok (.getfield 9, 3) := by decide +kernel
theorem dX1_set_9 : decode cX1_set 9 = .ok (.arraylength, 1) := by decide +kernel
theorem dX1_set_10 : decode cX1_set 10 = .ok (.if_icmp .ge 10, 3) := by decide +kernel
theorem dX1_set_13 : decode cX1_set 13 = .ok (.aload_n 0, 1) := by decide +kernel
theorem dX1_set_14 : decode cX1_set 14 = .ok (.getfield 9, 3) := by decide +kernel
theorem dX1_set_17 : decode cX1_set 17 = .ok (.iload_n 1, 1) := by decide +kernel
theorem dX1_set_18 : decode cX1_set 18 = .ok (.iload_n 2, 1) := by decide +kernel
theorem dX1_set_19 : decode cX1_set 19 = .ok (.iastore, 1) := by decide +kernel
theorem dX1_set_20 : decode cX1_set 20 = .ok (.return_, 1) := by decide +kernel
set_option maxRecDepth 20000 in
theorem ggX1_add_X1_reach : GoodIn wsX1_add wsX1_reach := goodIn_r _ [6, 7, 8, 9, 10, 11, 12, 13, 14, 15, 16, 17, 18, 19, 20, 21, 22, 23, 24, 25, 26, 27, 28, 29, 34, 35] (by decide +kernel) (by decide +kernel)
set_option maxRecDepth 20000 in
theorem gX1_add_X1_reach : GoodIn wsX1_add (wsV RX1 17 RX1 yX1_reach wsX1_reach) := goodIn_app (goodIn_of _ (by decide +kernel)) ggX1_add_X1_reach
set_option maxRecDepth 20000 in
theorem ggX1_add_X1_set : GoodIn wsX1_add wsX1_set := goodIn_r _ [33, 7, 34, 35] (by decide +kernel) (by decide +kernel)
set_option maxRecDepth 20000 in
theorem gX1_add_X1_set : GoodIn wsX1_add (wsV RX1 21 RX1 yX1_set wsX1_set) := goodIn_app (goodIn_of _ (by decide +kernel)) ggX1_add_X1_set
theorem dX1_add_0 : decode cX1_add 0 = .ok (.aload_n 0, 1) := by decide +kernel
theorem dX1_add_1 : decode cX1_add 1 = .ok (.aload_n 0, 1) := by decide +kernel
theorem dX1_add_2 : decode cX1_add 2 = .ok (.getfield 13, 3) := by decide +kernel
theorem dX1_add_5 : decode cX1_add 5 = .ok (.iconst 1, 1) := by decide +kernel
theorem dX1_add_6 : decode cX1_add 6 = .ok (.iadd, 1) := by decide +kernel
theorem dX1_add_7 : decode cX1_add 7 = .ok (.invokevirtual 17, 3) := by decide +kernel
theorem dX1_add_10 : decode cX1_add 10 = .ok (.aload_n 0, 1) := by decide +kernel
theorem dX1_add_11 : decode cX1_add 11 = .ok (.aload_n 0, 1) := by decide +kernel
theorem dX1_add_12 : decode cX1_add 12 = .ok (.getfield 13, 3) := by decide +kernel
theorem dX1_add_15 : decode cX1_add 15 = .ok (.iload_n 1, 1) := by decide +kernel
theorem dX1_add_16 : decode cX1_add 16 = .ok (.invokevirtual 21, 3) := by decide +kernel
theorem dX1_add_19 : decode cX1_add 19 = .ok (.aload_n 0, 1) := by decide +kernel
theorem dX1_add_20 : decode cX1_add 20 = .ok (.dup, 1) := by decide +kernel
theorem dX1_add_21 : decode cX1_add 21 = .ok (.getfield 13, 3) := by decide +kernel
theorem dX1_add_24 : decode cX1_add 24 = .ok (.iconst 1, 1) := by decide +kernel
theorem dX1_add_25 : decode cX1_add 25 = .ok (.iadd, 1) := by decide +kernel
theorem dX1_add_26 : decode cX1_add 26 = .ok (.putfield 13, 3) := by decide +kernel
theorem dX1_add_29 : decode cX1_add 29 = .ok (.return_, 1) := by decide +kernel
set_option maxRecDepth 20000 in
theorem ggX1_addZeros_X1_reach : GoodIn wsX1_addZeros wsX1_reach := goodIn_r _ [6, 7, 8, 9, 10, 11, 12, 13, 14, 15, 16, 17, 18, 19, 20, 21, 22, 23, 24, 25, 26, 27, 28, 29, 34, 35] (by decide +kernel) (by decide +kernel)
set_option maxRecDepth 20000 in
theorem gX1_addZeros_X1_reach : GoodIn wsX1_addZeros (wsV RX1 17 RX1 yX1_reach wsX1_reach) := goodIn_app (goodIn_of _ (by decide +kernel)) ggX1_addZeros_X1_reach
set_option maxRecDepth 20000 in
theorem ggX1_addZeros_X1_set : GoodIn wsX1_addZeros wsX1_set := goodIn_r _ [33, 7, 34, 35] (by decide +kernel) (by decide +kernel)
set_option maxRecDepth 20000 in
theorem gX1_addZeros_X1_set : GoodIn wsX1_addZeros (wsV RX1 21 RX1 yX1_set wsX1_set) := goodIn_app (goodIn_of _ (by decide +kernel)) ggX1_addZeros_X1_set
theorem dX1_addZeros_0 : decode cX1_addZeros 0 = .ok (.aload_n 0, 1) := by decide +kernel
theorem dX1_addZeros_1 : decode cX1_addZeros 1 = .ok (.getfield 13, 3) := by decide +kernel
theorem dX1_addZeros_4 : decode cX1_addZeros 4 = .ok (.istore_n 2, 1) := by decide +kernel
theorem dX1_addZeros_5 : decode cX1_addZeros 5 = .ok (.aload_n 0, 1) := by decide +kernel
theorem dX1_addZeros_6 : decode cX1_addZeros 6 = .ok (.iload_n 2, 1) := by decide +kernel
theorem dX1_addZeros_7 : decode cX1_addZeros 7 = .ok (.iload_n 1, 1) := by decide +kernel
theorem dX1_addZeros_8 : decode cX1_addZeros 8 = .ok (.iadd, 1) := by decide +kernel
theorem dX1_addZeros_9 : decode cX1_addZeros 9 = .ok (.invokevirtual 17, 3) := by decide +kernel
theorem dX1_addZeros_12 : decode cX1_addZeros 12 = .ok (.iconst 0, 1) := by decide +kernel
theorem dX1_addZeros_13 : decode cX1_addZeros 13 = .ok (.istore_n 3, 1) := by decide +kernel
theorem dX1_addZeros_14 : decode cX1_addZeros 14 = .ok (.iload_n 3, 1) := by decide +kernel
theorem dX1_addZeros_15 : decode cX1_addZeros 15 = .ok (.iload_n 1, 1) := by decide +kernel
theorem dX1_addZeros_16 : decode cX1_addZeros 16 = .ok (.if_icmp .ge 17, 3) := by decide +kernel
theorem dX1_addZeros_19 : decode cX1_addZeros 19 = .ok (.aload_n 0, 1) := by decide +kernel
theorem dX1_addZeros_20 : decode cX1_addZeros 20 = .ok (.iload_n 2, 1) := by decide +kernel
theorem dX1_addZeros_21 : decode cX1_addZeros 21 = .ok (.iload_n 3, 1) := by decide +kernel
theorem dX1_addZeros_22 : decode cX1_addZeros 22 = .ok (.iadd, 1) := by decide +kernel
theorem dX1_addZeros_23 : decode cX1_addZeros 23 = .ok (.iconst 0, 1) := by decide +kernel
theorem dX1_addZeros_24 : decode cX1_addZeros 24 = .ok (.invokevirtual 21, 3) := by decide +kernel
theorem dX1_addZeros_27 : decode cX1_addZeros 27 = .ok (.iinc 3 1, 3) := by decide +kernel
theorem dX1_addZeros_30 : decode cX1_addZeros 30 = .ok (.goto (-16), 3) := by decide +kernel
theorem dX1_addZeros_33 : decode cX1_addZeros 33 = .ok (.aload_n 0, 1) := by decide +kernel
theorem dX1_addZeros_34 : decode cX1_addZeros 34 = .ok (.iload_n 2, 1) := by decide +kernel
theorem dX1_addZeros_35 : decode cX1_addZeros 35 = .ok (.iload_n 1, 1) := by decide +kernel
theorem dX1_addZeros_36 : decode cX1_addZeros 36 = .ok (.iadd, 1) := by decide +kernel
theorem dX1_addZeros_37 : decode cX1_addZeros 37 = .ok (.putfield 13, 3) := by decide +kernel
theorem dX1_addZeros_40 : decode cX1_addZeros 40 = .ok (.iload_n 2, 1) := by decide +kernel
theorem dX1_addZeros_41 : decode cX1_addZeros 41 = .ok (.ireturn, 1) := by decide +kernel
theorem dX1_cut_0 : decode cX1_cut 0 = .ok (.iload_n 1, 1) := by decide +kernel
theorem dX1_cut_1 : decode cX1_cut 1 = .ok (.ifCond .lt 16, 3) := by decide +kernel
theorem dX1_cut_4 : decode cX1_cut 4 = .ok (.iload_n 1, 1) := by decide +kernel
theorem dX1_cut_5 : decode cX1_cut 5 = .ok (.aload_n 0, 1) := by decide +kernel
theorem dX1_cut_6 : decode cX1_cut 6 = .ok (.getfield 13, 3) := by decide +kernel
theorem dX1_cut_9 : decode cX1_cut 9 = .ok (.if_icmp .ge 8, 3) := by decide +kernel
theorem dX1_cut_12 : decode cX1_cut 12 = .ok (.aload_n 0, 1) := by decide +kernel
theorem dX1_cut_13 : decode cX1_cut 13 = .ok (.iload_n 1, 1) := by decide +kernel
theorem dX1_cut_14 : decode cX1_cut 14 = .ok (.putfield 13, 3) := by decide +kernel
theorem dX1_cut_17 : decode cX1_cut 17 = .ok (.return_, 1) := by decide +kernel
set_option maxRecDepth 20000 in
theorem ggX1_become_X1_reach : GoodIn wsX1_become wsX1_reach := goodIn_r _ [15, 2, 16, 17, 5, 18, 19, 20, 21, 22, 23, 24, 25, 26, 27, 28, 29, 30, 4, 6, 31, 8, 9, 10, 32, 33] (by decide +kernel) (by decide +kernel)
set_option maxRecDepth 20000 in
theorem gX1_become_X1_reach : GoodIn wsX1_become (wsV RX1 17 RX1 yX1_reach wsX1_reach) := goodIn_app (goodIn_of _ (by decide +kernel)) ggX1_become_X1_reach
theorem dX1_become_0 : decode cX1_become 0 = .ok (.aload_n 0, 1) := by decide +kernel
theorem dX1_become_1 : decode cX1_become 1 = .ok (.aload_n 1, 1) := by decide +kernel
theorem dX1_become_2 : decode cX1_become 2 = .ok (.getfield 13, 3) := by decide +kernel
theorem dX1_become_5 : decode cX1_become 5 = .ok (.invokevirtual 17, 3) := by decide +kernel
theorem dX1_become_8 : decode cX1_become 8 = .ok (.aload_n 0, 1) := by decide +kernel
theorem dX1_become_9 : decode cX1_become 9 = .ok (.aload_n 1, 1) := by decide +kernel
theorem dX1_become_10 : decode cX1_become 10 = .ok (.getfield 13, 3) := by decide +kernel
theorem dX1_become_13 : decode cX1_become 13 = .ok (.aload_n 0, 1) := by decide +kernel
theorem dX1_become_14 : decode cX1_become 14 = .ok (.getfield 9, 3) := by decide +kernel
theorem dX1_become_17 : decode cX1_become 17 = .ok (.arraylength, 1) := by decide +kernel
theorem dX1_become_18 : decode cX1_become 18 = .ok (.aload_n 1, 1) := by decide +kernel
theorem dX1_become_19 : decode cX1_become 19 = .ok (.getfield 9, 3) := by decide +kernel
theorem dX1_become_22 : decode cX1_become 22 = .ok (.arraylength, 1) := by decide +kernel
theorem dX1_become_23 : decode cX1_become 23 = .ok (.invokestatic 25, 3) := by decide +kernel
theorem dX1_become_26 : decode cX1_become 26 = .ok (.invokestatic 25, 3) := by decide +kernel
theorem dX1_become_29 : decode cX1_become 29 = .ok (.putfield 13, 3) := by decide +kernel
theorem dX1_become_32 : decode cX1_become 32 = .ok (.aload_n 1, 1) := by decide +kernel
theorem dX1_become_33 : decode cX1_become 33 = .ok (.getfield 9, 3) := by decide +kernel
theorem dX1_become_36 : decode cX1_become 36 = .ok (.iconst 0, 1) := by decide +kernel
theorem dX1_become_37 : decode cX1_become 37 = .ok (.aload_n 0, 1) := by decide +kernel
theorem dX1_become_38 : decode cX1_become 38 = .ok (.getfield 9, 3) := by decide +kernel
theorem dX1_become_41 : decode cX1_become 41 = .ok (.iconst 0, 1) := by decide +kernel
theorem dX1_become_42 : decode cX1_become 42 = .ok (.aload_n 0, 1) := by decide +kernel
theorem dX1_become_43 : decode cX1_become 43 = .ok (.getfield 13, 3) := by decide +kernel
theorem dX1_become_46 : decode cX1_become 46 = .ok (.invokestatic 31, 3) := by decide +kernel
theorem dX1_become_49 : decode cX1_become 49 = .ok (.return_, 1) := by decide +kernel
set_option maxRecDepth 20000 in
theorem ggX1_reach_J7_copyOf_59c91 : GoodIn wsX1_reach wsJ7_copyOf_59c91 := goodIn_r _ [9, 10, 11, 12, 13, 14, 15, 16, 17, 18, 4, 19, 20, 21, 22, 23] (by decide +kernel) (by decide +kernel)
set_option maxRecDepth 20000 in
theorem gX1_reach_J7_copyOf_59c91 : GoodIn wsX1_reach (va_wsS RX1 40 yJ7_copyOf_59c91 wsJ7_copyOf_59c91) := goodIn_app (goodIn_of _ (by decide +kernel)) ggX1_reach_J7_copyOf_59c91
theorem dX1_reach_0 : decode cX1_reach 0 = .ok (.iload_n 1, 1) := by decide +kernel
theorem dX1_reach_1 : decode cX1_reach 1 = .ok (.aload_n 0, 1) := by decide +kernel
theorem dX1_reach_2 : decode cX1_reach 2 = .ok (.getfield 9, 3) := by decide +kernel
theorem dX1_reach_5 : decode cX1_reach 5 = .ok (.arraylength, 1) := by decide +kernel
theorem dX1_reach_6 : decode cX1_reach 6 = .ok (.if_icmp .le 25, 3) := by decide +kernel
theorem dX1_reach_9 : decode cX1_reach 9 = .ok (.aload_n 0, 1) := by decide +kernel
theorem dX1_reach_10 : decode cX1_reach 10 = .ok (.aload_n 0, 1) := by decide +kernel
theorem dX1_reach_11 : decode cX1_reach 11 = .ok (.getfield 9, 3) := by decide +kernel
theorem dX1_reach_14 : decode cX1_reach 14 = .ok (.iload_n 1, 1) := by decide +kernel
theorem dX1_reach_15 : decode cX1_reach 15 = .ok (.iconst 2, 1) := by decide +kernel
theorem dX1_reach_16 : decode cX1_reach 16 = .ok (.aload_n 0, 1) := by decide +kernel
theorem dX1_reach_17 : decode cX1_reach 17 = .ok (.getfield 9, 3) := by decide +kernel
theorem dX1_reach_20 : decode cX1_reach 20 = .ok (.arraylength, 1) := by decide +kernel
theorem dX1_reach_21 : decode cX1_reach 21 = .ok (.imul, 1) := by decide +kernel
theorem dX1_reach_22 : decode cX1_reach 22 = .ok (.invokestatic 37, 3) := by decide +kernel
theorem dX1_reach_25 : decode cX1_reach 25 = .ok (.invokestatic 40, 3) := by decide +kernel
theorem dX1_reach_28 : decode cX1_reach 28 = .ok (.putfield 9, 3) := by decide +kernel
theorem dX1_reach_31 : decode cX1_reach 31 = .ok (.return_, 1) := by decide +kernel
set_option maxRecDepth 20000 in
theorem ggX2_init_X1_init : GoodIn wsX2_init wsX1_init := goodIn_r _ [19, 20, 2, 3, 21, 22, 82, 83] (by decide +kernel) (by decide +kernel)
set_option maxRecDepth 20000 in
theorem gX2_init_X1_init_n11 : GoodIn wsX2_init (wsX1_init) := ggX2_init_X1_init
set_option maxRecDepth 20000 in
theorem ggX2_init_X0_init : GoodIn wsX2_init wsX0_init := goodIn_r _ [24, 25, 2, 3, 26, 5, 6, 27, 28, 29, 30, 31, 32, 18, 19, 20, 21, 22, 82, 83, 94, 95, 96, 97, 98, 99, 100] (by decide +kernel) (by decide +kernel)
set_option maxRecDepth 20000 in
theorem gX2_init_X0_init_n33 : GoodIn wsX2_init (wsX0_init) := ggX2_init_X0_init
set_option maxRecDepth 20000 in
theorem ggX2_init_X2_addObject : GoodIn wsX2_init wsX2_addObject := goodIn_r _ [37, 38, 7, 8, 9, 10, 11, 16, 39, 40, 41, 42, 6, 43, 44, 45, 46, 47, 48, 22, 49, 50, 51, 52, 53, 54, 55, 56, 57, 58, 59, 60, 61, 62, 21, 63, 64, 65, 66, 67, 68, 69, 70, 71, 72, 73, 74, 75, 36, 76, 77, 78, 79, 15, 80, 27, 28, 29, 30, 31, 81, 84, 85, 86, 87, 88, 89, 90, 91, 92, 93, 94, 95, 96, 97, 98, 99, 100, 82, 83] (by decide +kernel) (by decide +kernel)
set_option maxRecDepth 20000 in
theorem gX2_init_X2_addObject : GoodIn wsX2_init (wsV RX2 42 RX2 yX2_addObject wsX2_addObject) := goodIn_app (goodIn_of _ (by decide +kernel)) ggX2_init_X2_addObject
theorem dX2_init_0 : decode cX2_init 0 = .ok (.aload_n 0, 1) := by decide +kernel
theorem dX2_init_1 : decode cX2_init 1 = .ok (.invokespecial 3, 3) := by decide +kernel
theorem dX2_init_4 : decode cX2_init 4 = .ok (.aload_n 0, 1) := by decide +kernel
theorem dX2_init_5 : decode cX2_init 5 = .ok (.new 9, 3) := by decide +kernel
theorem dX2_init_8 : decode cX2_init 8 = .ok (.dup, 1) := by decide +kernel
theorem dX2_init_9 : decode cX2_init 9 = .ok (.invokespecial 11, 3) := by decide +kernel
theorem dX2_init_12 : decode cX2_init 12 = .ok (.putfield 12, 3) := by decide +kernel
theorem dX2_init_15 : decode cX2_init 15 = .ok (.aload_n 0, 1) := by decide +kernel
theorem dX2_init_16 : decode cX2_init 16 = .ok (.new 9, 3) := by decide +kernel
theorem dX2_init_19 : decode cX2_init 19 = .ok (.dup, 1) := by decide +kernel
theorem dX2_init_20 : decode cX2_init 20 = .ok (.invokespecial 11, 3) := by decide +kernel
theorem dX2_init_23 : decode cX2_init 23 = .ok (.putfield 16, 3) := by decide +kernel
theorem dX2_init_26 : decode cX2_init 26 = .ok (.aload_n 0, 1) := by decide +kernel
theorem dX2_init_27 : decode cX2_init 27 = .ok (.new 9, 3) := by decide +kernel
theorem dX2_init_30 : decode cX2_init 30 = .ok (.dup, 1) := by decide +kernel
theorem dX2_init_31 : decode cX2_init 31 = .ok (.invokespecial 11, 3) := by decide +kernel
theorem dX2_init_34 : decode cX2_init 34 = .ok (.putfield 19, 3) := by decide +kernel
theorem dX2_init_37 : decode cX2_init 37 = .ok (.aload_n 0, 1) := by decide +kernel
theorem dX2_init_38 : decode cX2_init 38 = .ok (.new 9, 3) := by decide +kernel
theorem dX2_init_41 : decode cX2_init 41 = .ok (.dup, 1) := by decide +kernel
theorem dX2_init_42 : decode cX2_init 42 = .ok (.invokespecial 11, 3) := by decide +kernel
theorem dX2_init_45 : decode cX2_init 45 = .ok (.putfield 22, 3) := by decide +kernel
theorem dX2_init_48 : decode cX2_init 48 = .ok (.aload_n 0, 1) := by decide +kernel
theorem dX2_init_49 : decode cX2_init 49 = .ok (.new 9, 3) := by decide +kernel
theorem dX2_init_52 : decode cX2_init 52 = .ok (.dup, 1) := by decide +kernel
theorem dX2_init_53 : decode cX2_init 53 = .ok (.invokespecial 11, 3) := by decide +kernel
theorem dX2_init_56 : decode cX2_init 56 = .ok (.putfield 25, 3) := by decide +kernel
theorem dX2_init_59 : decode cX2_init 59 = .ok (.aload_n 0, 1) := by decide +kernel
theorem dX2_init_60 : decode cX2_init 60 = .ok (.new 9, 3) := by decide +kernel
theorem dX2_init_63 : decode cX2_init 63 = .ok (.dup, 1) := by decide +kernel
theorem dX2_init_64 : decode cX2_init 64 = .ok (.invokespecial 11, 3) := by decide +kernel
theorem dX2_init_67 : decode cX2_init 67 = .ok (.putfield 28, 3) := by decide +kernel
theorem dX2_init_70 : decode cX2_init 70 = .ok (.aload_n 0, 1) := by decide +kernel
theorem dX2_init_71 : decode cX2_init 71 = .ok (.new 31, 3) := by decide +kernel
theorem dX2_init_74 : decode cX2_init 74 = .ok (.dup, 1) := by decide +kernel
theorem dX2_init_75 : decode cX2_init 75 = .ok (.invokespecial 33, 3) := by decide +kernel
theorem dX2_init_78 : decode cX2_init 78 = .ok (.putfield 34, 3) := by decide +kernel
theorem dX2_init_81 : decode cX2_init 81 = .ok (.aload_n 0, 1) := by decide +kernel
theorem dX2_init_82 : decode cX2_init 82 = .ok (.iconst 3, 1) := by decide +kernel
theorem dX2_init_83 : decode cX2_init 83 = .ok (.anewarray 31, 3) := by decide +kernel
theorem dX2_init_86 : decode cX2_init 86 = .ok (.putfield 38, 3) := by decide +kernel
theorem dX2_init_89 : decode cX2_init 89 = .ok (.aload_n 0, 1) := by decide +kernel
theorem dX2_init_90 : decode cX2_init 90 = .ok (.iconst 0, 1) := by decide +kernel
theorem dX2_init_91 : decode cX2_init 91 = .ok (.iconst 0, 1) := by decide +kernel
theorem dX2_init_92 : decode cX2_init 92 = .ok (.iconst 0, 1) := by decide +kernel
theorem dX2_init_93 : decode cX2_init 93 = .ok (.iconst 0, 1) := by decide +kernel
theorem dX2_init_94 : decode cX2_init 94 = .ok (.invokevirtual 42, 3) := by decide +kernel
theorem dX2_init_97 : decode cX2_init 97 = .ok (.pop, 1) := by decide +kernel
theorem dX2_init_98 : decode cX2_init 98 = .ok (.return_, 1) := by decide +kernel
set_option maxRecDepth 20000 in
theorem ggX2_make_X2_sizeFits : GoodIn wsX2_make wsX2_sizeFits := goodIn_r _ [11, 1, 12, 13, 14, 15, 16, 17, 10, 18, 126, 127, 128, 129, 130, 131, 132, 133, 134, 135] (by decide +kernel) (by decide +kernel)
set_option maxRecDepth 20000 in
theorem gX2_make_X2_sizeFits : GoodIn wsX2_make (wsV RX2 46 RX2 yX2_sizeFits wsX2_sizeFits) := goodIn_app (goodIn_of _ (by decide +kernel)) ggX2_make_X2_sizeFits
set_option maxRecDepth 20000 in
theorem ggX2_make_X2_placeStorage : GoodIn wsX2_make wsX2_placeStorage := goodIn_r _ [21] (by decide +kernel) (by decide +kernel)
set_option maxRecDepth 20000 in
theorem gX2_make_X2_placeStorage : GoodIn wsX2_make (va_wsS RX2 60 yX2_placeStorage wsX2_placeStorage) := goodIn_app (goodIn_of _ (by decide +kernel)) ggX2_make_X2_placeStorage
set_option maxRecDepth 20000 in
theorem ggX2_make_X1_addZeros : GoodIn wsX2_make wsX1_addZeros := goodIn_r _ [26, 27, 28, 29, 30, 25, 31, 32, 33, 34, 14, 35, 36, 37, 38, 39, 40, 41, 42, 43, 44, 45, 46, 47, 13, 15, 48, 49, 50, 51, 52, 53, 54, 55, 143, 144] (by decide +kernel) (by decide +kernel)
set_option maxRecDepth 20000 in
theorem gX2_make_X1_addZeros : GoodIn wsX2_make (wsV RX2 64 RX1 yX1_addZeros wsX1_addZeros) := goodIn_app (goodIn_of _ (by decide +kernel)) ggX2_make_X1_addZeros
set_option maxRecDepth 20000 in
theorem ggX2_make_X2_addObject : GoodIn wsX2_make wsX2_addObject := goodIn_r _ [59, 1, 60, 61, 62, 63, 64, 3, 4, 65, 66, 67, 25, 68, 27, 28, 29, 30, 31, 32, 33, 34, 14, 35, 36, 37, 38, 39, 40, 41, 42, 43, 44, 45, 46, 47, 13, 15, 48, 49, 50, 51, 52, 53, 54, 55, 69, 70, 10, 71, 72, 73, 74, 75, 76, 77, 78, 79, 80, 81, 82, 126, 127, 128, 129, 130, 131, 132, 133, 134, 135, 136, 137, 138, 139, 140, 141, 142, 143, 144] (by decide +kernel) (by decide +kernel)
set_option maxRecDepth 20000 in
theorem gX2_make_X2_addObject : GoodIn wsX2_make (wsV RX2 42 RX2 yX2_addObject wsX2_addObject) := goodIn_app (goodIn_of _ (by decide +kernel)) ggX2_make_X2_addObject
set_option maxRecDepth 20000 in
theorem ggX2_make_X2_makePacked : GoodIn wsX2_make wsX2_makePacked := goodIn_r _ [86, 1, 3, 6, 22, 23, 24, 25, 26, 27, 28, 29, 30, 31, 32, 33, 34, 14, 35, 36, 37, 38, 39, 40, 41, 42, 43, 44, 45, 46, 47, 13, 15, 48, 49, 50, 51, 52, 53, 54, 55, 87, 56, 57, 58, 10, 59, 60, 61, 62, 63, 64, 4, 65, 66, 67, 68, 69, 70, 71, 72, 73, 74, 75, 76, 77, 78, 79, 80, 81, 82, 126, 127, 128, 129, 130, 131, 132, 133, 134, 135, 136, 137, 138, 139, 140, 141, 142, 143, 144] (by decide +kernel) (by decide +kernel)
set_option maxRecDepth 20000 in
theorem gX2_make_X2_makePacked : GoodIn wsX2_make (wsV RX2 70 RX2 yX2_makePacked wsX2_makePacked) := goodIn_app (goodIn_of _ (by decide +kernel)) ggX2_make_X2_makePacked
set_option maxRecDepth 20000 in
theorem ggX2_make_X2_makeDictionary : GoodIn wsX2_make wsX2_makeDictionary := goodIn_r _ [91, 3, 6, 92, 22, 23, 24, 25, 26, 27, 28, 29, 30, 31, 32, 33, 34, 14, 35, 36, 37, 38, 39, 40, 41, 42, 43, 44, 45, 46, 47, 13, 15, 48, 49, 50, 51, 52, 53, 54, 55, 56, 57, 58, 10, 59, 1, 60, 61, 62, 63, 64, 4, 65, 66, 67, 68, 69, 70, 71, 72, 73, 74, 75, 76, 77, 78, 79, 80, 81, 82, 87, 126, 127, 128, 129, 130, 131, 132, 133, 134, 135, 136, 137, 138, 139, 140, 141, 142, 143, 144] (by decide +kernel) (by decide +kernel)
set_option maxRecDepth 20000 in
theorem gX2_make_X2_makeDictionary : GoodIn wsX2_make (wsV RX2 73 RX2 yX2_makeDictionary wsX2_makeDictionary) := goodIn_app (goodIn_of _ (by decide +kernel)) ggX2_make_X2_makeDictionary
set_option maxRecDepth 20000 in
theorem ggX2_make_X2_makeSave : GoodIn wsX2_make wsX2_makeSave := goodIn_r _ [96, 2, 97, 98, 99, 75, 3, 5, 100, 101, 102, 103, 104, 105, 106, 25, 77, 78, 79, 80, 81, 107, 108, 109, 110, 46, 32, 111, 112, 113, 114, 115, 116, 117, 118, 119, 27, 120, 13, 14, 15, 121, 49, 50, 51, 28, 29, 30, 31, 33, 34, 35, 36, 37, 38, 39, 40, 41, 42, 43, 44, 45, 47, 48, 122, 123, 124, 125, 56, 57, 58, 10, 59, 1, 60, 61, 62, 63, 64, 4, 65, 66, 67, 68, 52, 53, 54, 55, 69, 70, 71, 72, 73, 74, 76, 82, 126, 127, 128, 129, 130, 131, 132, 133, 134, 135, 136, 137, 138, 139, 140, 141, 142, 143, 144] (by decide +kernel) (by decide +kernel)
set_option maxRecDepth 20000 in
theorem gX2_make_X2_makeSave : GoodIn wsX2_make (wsV RX2 76 RX2 yX2_makeSave wsX2_makeSave) := goodIn_app (goodIn_of _ (by decide +kernel)) ggX2_make_X2_makeSave
theorem dX2_make_0 : decode cX2_make 0 = .ok (.iload_n 1, 1) := by decide +kernel
theorem dX2_make_1 : decode cX2_make 1 = .ok (.ifCond .lt 9, 3) := by decide +kernel
theorem dX2_make_4 : decode cX2_make 4 = .ok (.iload_n 1, 1) := by decide +kernel
theorem dX2_make_5 : decode cX2_make 5 = .ok (.bipush 11, 2) := by decide +kernel
theorem dX2_make_7 : decode cX2_make 7 = .ok (.if_icmp .le 5, 3) := by decide +kernel
theorem dX2_make_10 : decode cX2_make 10 = .ok (.iconst (-1), 1) := by decide +kernel
theorem dX2_make_11 : decode cX2_make 11 = .ok (.ireturn, 1) := by decide +kernel
theorem dX2_make_12 : decode cX2_make 12 = .ok (.aload_n 0, 1) := by decide +kernel
theorem dX2_make_13 : decode cX2_make 13 = .ok (.iload_n 1, 1) := by decide +kernel
theorem dX2_make_14 : decode cX2_make 14 = .ok (.iload_n 2, 1) := by decide +kernel
theorem dX2_make_15 : decode cX2_make 15 = .ok (.invokevirtual 46, 3) := by decide +kernel
theorem dX2_make_18 : decode cX2_make 18 = .ok (.ifCond .ne 6, 3) := by decide +kernel
theorem dX2_make_21 : decode cX2_make 21 = .ok (.bipush (-2), 2) := by decide +kernel
theorem dX2_make_23 : decode cX2_make 23 = .ok (.ireturn, 1) := by decide +kernel
theorem dX2_make_24 : decode cX2_make 24 = .ok (.aload_n 0, 1) := by decide +kernel
theorem dX2_make_25 : decode cX2_make 25 = .ok (.getfield 50, 3) := by decide +kernel
theorem dX2_make_28 : decode cX2_make 28 = .ok (.bipush 100, 2) := by decide +kernel
theorem dX2_make_30 : decode cX2_make 30 = .ok (.if_icmp .ge 17, 3) := by decide +kernel
theorem dX2_make_33 : decode cX2_make 33 = .ok (.iload_n 1, 1) := by decide +kernel
theorem dX2_make_34 : decode cX2_make 34 = .ok (.bipush 11, 2) := by decide +kernel
theorem dX2_make_36 : decode cX2_make 36 = .ok (.if_icmp .ne 14, 3) := by decide +kernel
theorem dX2_make_39 : decode cX2_make 39 = .ok (.aload_n 0, 1) := by decide +kernel
theorem dX2_make_40 : decode cX2_make 40 = .ok (.getfield 54, 3) := by decide +kernel
theorem dX2_make_43 : decode cX2_make 43 = .ok (.iconst 3, 1) := by decide +kernel
theorem dX2_make_44 : decode cX2_make 44 = .ok (.if_icmp .lt 6, 3) := by decide +kernel
theorem dX2_make_47 : decode cX2_make 47 = .ok (.bipush (-4), 2) := by decide +kernel
theorem dX2_make_49 : decode cX2_make 49 = .ok (.ireturn, 1) := by decide +kernel
theorem dX2_make_50 : decode cX2_make 50 = .ok (.aload_n 0, 1) := by decide +kernel
theorem dX2_make_51 : decode cX2_make 51 = .ok (.getfield 34, 3) := by decide +kernel
theorem dX2_make_54 : decode cX2_make 54 = .ok (.dup, 1) := by decide +kernel
theorem dX2_make_55 : decode cX2_make 55 = .ok (.getfield 57, 3) := by decide +kernel
theorem dX2_make_58 : decode cX2_make 58 = .ok (.iload_n 2, 1) := by decide +kernel
theorem dX2_make_59 : decode cX2_make 59 = .ok (.iload_n 1, 1) := by decide +kernel
theorem dX2_make_60 : decode cX2_make 60 = .ok (.invokestatic 60, 3) := by decide +kernel
theorem dX2_make_63 : decode cX2_make 63 = .ok (.imul, 1) := by decide +kernel
theorem dX2_make_64 : decode cX2_make 64 = .ok (.iadd, 1) := by decide +kernel
theorem dX2_make_65 : decode cX2_make 65 = .ok (.putfield 57, 3) := by decide +kernel
theorem dX2_make_68 : decode cX2_make 68 = .ok (.iload_n 1, 1) := by decide +kernel
theorem dX2_make_69 : decode cX2_make 69 = .ok (.tableswitch 99 4 11 #[47, 63, 82, 88, 99, 99, 99, 94], 47) := by decide +kernel
theorem dX2_make_116 : decode cX2_make 116 = .ok (.aload_n 0, 1) := by decide +kernel
theorem dX2_make_117 : decode cX2_make 117 = .ok (.iload_n 1, 1) := by decide +kernel
theorem dX2_make_118 : decode cX2_make 118 = .ok (.iconst 0, 1) := by decide +kernel
theorem dX2_make_119 : decode cX2_make 119 = .ok (.aload_n 0, 1) := by decide +kernel
theorem dX2_make_120 : decode cX2_make 120 = .ok (.getfield 28, 3) := by decide +kernel
theorem dX2_make_123 : decode cX2_make 123 = .ok (.iload_n 2, 1) := by decide +kernel
theorem dX2_make_124 : decode cX2_make 124 = .ok (.invokevirtual 64, 3) := by decide +kernel
theorem dX2_make_127 : decode cX2_make 127 = .ok (.iload_n 2, 1) := by decide +kernel
theorem dX2_make_128 : decode cX2_make 128 = .ok (.invokevirtual 42, 3) := by decide +kernel
theorem dX2_make_131 : decode cX2_make 131 = .ok (.ireturn, 1) := by decide +kernel
theorem dX2_make_132 : decode cX2_make 132 = .ok (.aload_n 0, 1) := by decide +kernel
theorem dX2_make_133 : decode cX2_make 133 = .ok (.iload_n 1, 1) := by decide +kernel
theorem dX2_make_134 : decode cX2_make 134 = .ok (.iconst 0, 1) := by decide +kernel
theorem dX2_make_135 : decode cX2_make 135 = .ok (.aload_n 0, 1) := by decide +kernel
theorem dX2_make_136 : decode cX2_make 136 = .ok (.getfield 34, 3) := by decide +kernel
theorem dX2_make_139 : decode cX2_make 139 = .ok (.getfield 67, 3) := by decide +kernel
theorem dX2_make_142 : decode cX2_make 142 = .ok (.iload_n 2, 1) := by decide +kernel
theorem dX2_make_143 : decode cX2_make 143 = .ok (.invokevirtual 64, 3) := by decide +kernel
theorem dX2_make_146 : decode cX2_make 146 = .ok (.iload_n 2, 1) := by decide +kernel
theorem dX2_make_147 : decode cX2_make 147 = .ok (.invokevirtual 42, 3) := by decide +kernel
theorem dX2_make_150 : decode cX2_make 150 = .ok (.ireturn, 1) := by decide +kernel
theorem dX2_make_151 : decode cX2_make 151 = .ok (.aload_n 0, 1) := by decide +kernel
theorem dX2_make_152 : decode cX2_make 152 = .ok (.iload_n 2, 1) := by decide +kernel
theorem dX2_make_153 : decode cX2_make 153 = .ok (.invokevirtual 70, 3) := by decide +kernel
theorem dX2_make_156 : decode cX2_make 156 = .ok (.ireturn, 1) := by decide +kernel
theorem dX2_make_157 : decode cX2_make 157 = .ok (.aload_n 0, 1) := by decide +kernel
theorem dX2_make_158 : decode cX2_make 158 = .ok (.iload_n 2, 1) := by decide +kernel
theorem dX2_make_159 : decode cX2_make 159 = .ok (.invokevirtual 73, 3) := by decide +kernel
theorem dX2_make_162 : decode cX2_make 162 = .ok (.ireturn, 1) := by decide +kernel
theorem dX2_make_163 : decode cX2_make 163 = .ok (.aload_n 0, 1) := by decide +kernel
theorem dX2_make_164 : decode cX2_make 164 = .ok (.invokevirtual 76, 3) := by decide +kernel
theorem dX2_make_167 : decode cX2_make 167 = .ok (.ireturn, 1) := by decide +kernel
theorem dX2_make_168 : decode cX2_make 168 = .ok (.aload_n 0, 1) := by decide +kernel
theorem dX2_make_169 : decode cX2_make 169 = .ok (.iload_n 1, 1) := by decide +kernel
theorem dX2_make_170 : decode cX2_make 170 = .ok (.iload_n 2, 1) := by decide +kernel
theorem dX2_make_171 : decode cX2_make 171 = .ok (.iconst 0, 1) := by decide +kernel
theorem dX2_make_172 : decode cX2_make 172 = .ok (.iconst 0, 1) := by decide +kernel
theorem dX2_make_173 : decode cX2_make 173 = .ok (.invokevirtual 42, 3) := by decide +kernel
theorem dX2_make_176 : decode cX2_make 176 = .ok (.ireturn, 1) := by decide +kernel
set_option maxRecDepth 20000 in
theorem ggX2_put_X2_known : GoodIn wsX2_put wsX2_known := goodIn_r _ [7, 8, 44, 45, 46, 47, 48, 49, 50, 51, 52, 53] (by decide +kernel) (by decide +kernel)
set_option maxRecDepth 20000 in
theorem gX2_put_X2_known : GoodIn wsX2_put (wsV RX2 80 RX2 yX2_known wsX2_known) := goodIn_app (goodIn_of _ (by decide +kernel)) ggX2_put_X2_known
set_option maxRecDepth 20000 in
theorem ggX2_put_X1_at : GoodIn wsX2_put wsX1_at := goodIn_r _ [13, 14, 54, 55] (by decide +kernel) (by decide +kernel)
set_option maxRecDepth 20000 in
theorem gX2_put_X1_at : GoodIn wsX2_put (wsV RX2 84 RX1 yX1_at wsX1_at) := goodIn_app (goodIn_of _ (by decide +kernel)) ggX2_put_X1_at
set_option maxRecDepth 20000 in
theorem ggX2_put_X2_hasElement : GoodIn wsX2_put wsX2_hasElement := goodIn_r _ [18, 19, 9, 10, 11, 12, 13, 14, 44, 45, 46, 47, 48, 49, 50, 51, 52, 53, 54, 55] (by decide +kernel) (by decide +kernel)
set_option maxRecDepth 20000 in
theorem gX2_put_X2_hasElement : GoodIn wsX2_put (wsV RX2 87 RX2 yX2_hasElement wsX2_hasElement) := goodIn_app (goodIn_of _ (by decide +kernel)) ggX2_put_X2_hasElement
set_option maxRecDepth 20000 in
theorem ggX2_put_X2_within : GoodIn wsX2_put wsX2_within := goodIn_r _ [22] (by decide +kernel) (by decide +kernel)
set_option maxRecDepth 20000 in
theorem gX2_put_X2_within : GoodIn wsX2_put (va_wsS RX2 90 yX2_within wsX2_within) := goodIn_app (goodIn_of _ (by decide +kernel)) ggX2_put_X2_within
set_option maxRecDepth 20000 in
theorem ggX2_put_X2_accessOf : GoodIn wsX2_put wsX2_accessOf := goodIn_r _ [26, 27, 28, 29, 30, 31, 6, 32, 1, 33, 9, 10, 11, 12, 13, 14, 44, 45, 46, 47, 48, 49, 50, 51, 52, 53, 56, 57, 58, 59, 60, 61, 62, 54, 55] (by decide +kernel) (by decide +kernel)
set_option maxRecDepth 20000 in
theorem gX2_put_X2_accessOf : GoodIn wsX2_put (wsV RX2 93 RX2 yX2_accessOf wsX2_accessOf) := goodIn_app (goodIn_of _ (by decide +kernel)) ggX2_put_X2_accessOf
set_option maxRecDepth 20000 in
theorem ggX2_put_X2_storeRow : GoodIn wsX2_put wsX2_storeRow := goodIn_r _ [37, 38, 27, 39, 44, 45, 46, 47, 48, 49, 50, 51, 52, 53, 56, 57, 58, 59, 60, 61, 62] (by decide +kernel) (by decide +kernel)
set_option maxRecDepth 20000 in
theorem gX2_put_X2_storeRow : GoodIn wsX2_put (wsV RX2 96 RX2 yX2_storeRow wsX2_storeRow) := goodIn_app (goodIn_of _ (by decide +kernel)) ggX2_put_X2_storeRow
set_option maxRecDepth 20000 in
theorem ggX2_put_X1_set : GoodIn wsX2_put wsX1_set := goodIn_r _ [43, 14, 54, 55] (by decide +kernel) (by decide +kernel)
set_option maxRecDepth 20000 in
theorem gX2_put_X1_set : GoodIn wsX2_put (wsV RX2 100 RX1 yX1_set wsX1_set) := goodIn_app (goodIn_of _ (by decide +kernel)) ggX2_put_X1_set
theorem dX2_put_0 : decode cX2_put 0 = .ok (.aload_n 0, 1) := by decide +kernel
theorem dX2_put_1 : decode cX2_put 1 = .ok (.iload_n 1, 1) := by decide +kernel
theorem dX2_put_2 : decode cX2_put 2 = .ok (.invokevirtual 80, 3) := by decide +kernel
theorem dX2_put_5 : decode cX2_put 5 = .ok (.ifCond .ne 5, 3) := by decide +kernel
theorem dX2_put_8 : decode cX2_put 8 = .ok (.iconst (-1), 1) := by decide +kernel
theorem dX2_put_9 : decode cX2_put 9 = .ok (.ireturn, 1) := by decide +kernel
theorem dX2_put_10 : decode cX2_put 10 = .ok (.aload_n 0, 1) := by decide +kernel
theorem dX2_put_11 : decode cX2_put 11 = .ok (.getfield 12, 3) := by decide +kernel
theorem dX2_put_14 : decode cX2_put 14 = .ok (.iload_n 1, 1) := by decide +kernel
theorem dX2_put_15 : decode cX2_put 15 = .ok (.invokevirtual 84, 3) := by decide +kernel
theorem dX2_put_18 : decode cX2_put 18 = .ok (.istore 4, 2) := by decide +kernel
theorem dX2_put_20 : decode cX2_put 20 = .ok (.iload 4, 2) := by decide +kernel
theorem dX2_put_22 : decode cX2_put 22 = .ok (.iconst 4, 1) := by decide +kernel
theorem dX2_put_23 : decode cX2_put 23 = .ok (.if_icmp .eq 12, 3) := by decide +kernel
theorem dX2_put_26 : decode cX2_put 26 = .ok (.iload 4, 2) := by decide +kernel
theorem dX2_put_28 : decode cX2_put 28 = .ok (.iconst 5, 1) := by decide +kernel
theorem dX2_put_29 : decode cX2_put 29 = .ok (.if_icmp .eq 6, 3) := by decide +kernel
theorem dX2_put_32 : decode cX2_put 32 = .ok (.bipush (-3), 2) := by decide +kernel
theorem dX2_put_34 : decode cX2_put 34 = .ok (.ireturn, 1) := by decide +kernel
theorem dX2_put_35 : decode cX2_put 35 = .ok (.iload 4, 2) := by decide +kernel
theorem dX2_put_37 : decode cX2_put 37 = .ok (.iconst 5, 1) := by decide +kernel
theorem dX2_put_38 : decode cX2_put 38 = .ok (.if_icmp .ne 13, 3) := by decide +kernel
theorem dX2_put_41 : decode cX2_put 41 = .ok (.aload_n 0, 1) := by decide +kernel
theorem dX2_put_42 : decode cX2_put 42 = .ok (.iload_n 3, 1) := by decide +kernel
theorem dX2_put_43 : decode cX2_put 43 = .ok (.invokevirtual 80, 3) := by decide +kernel
theorem dX2_put_46 : decode cX2_put 46 = .ok (.ifCond .ne 5, 3) := by decide +kernel
theorem dX2_put_49 : decode cX2_put 49 = .ok (.iconst (-1), 1) := by decide +kernel
theorem dX2_put_50 : decode cX2_put 50 = .ok (.ireturn, 1) := by decide +kernel
theorem dX2_put_51 : decode cX2_put 51 = .ok (.aload_n 0, 1) := by decide +kernel
theorem dX2_put_52 : decode cX2_put 52 = .ok (.iload_n 1, 1) := by decide +kernel
theorem dX2_put_53 : decode cX2_put 53 = .ok (.iload_n 2, 1) := by decide +kernel
theorem dX2_put_54 : decode cX2_put 54 = .ok (.invokevirtual 87, 3) := by decide +kernel
theorem dX2_put_57 : decode cX2_put 57 = .ok (.ifCond .eq 19, 3) := by decide +kernel
theorem dX2_put_60 : decode cX2_put 60 = .ok (.iload 4, 2) := by decide +kernel
theorem dX2_put_62 : decode cX2_put 62 = .ok (.iconst 4, 1) := by decide +kernel
theorem dX2_put_63 : decode cX2_put 63 = .ok (.if_icmp .ne 16, 3) := by decide +kernel
theorem dX2_put_66 : decode cX2_put 66 = .ok (.iload_n 3, 1) := by decide +kernel
theorem dX2_put_67 : decode cX2_put 67 = .ok (.sipush 255, 3) := by decide +kernel
theorem dX2_put_70 : decode cX2_put 70 = .ok (.invokestatic 90, 3) := by decide +kernel
theorem dX2_put_73 : decode cX2_put 73 = .ok (.ifCond .ne 6, 3) := by decide +kernel
theorem dX2_put_76 : decode cX2_put 76 = .ok (.bipush (-2), 2) := by decide +kernel
theorem dX2_put_78 : decode cX2_put 78 = .ok (.ireturn, 1) := by decide +kernel
theorem dX2_put_79 : decode cX2_put 79 = .ok (.aload_n 0, 1) := by decide +kernel
theorem dX2_put_80 : decode cX2_put 80 = .ok (.iload_n 1, 1) := by decide +kernel
theorem dX2_put_81 : decode cX2_put 81 = .ok (.invokevirtual 93, 3) := by decide +kernel
theorem dX2_put_84 : decode cX2_put 84 = .ok (.iconst 3, 1) := by decide +kernel
theorem dX2_put_85 : decode cX2_put 85 = .ok (.if_icmp .eq 6, 3) := by decide +kernel
theorem dX2_put_88 : decode cX2_put 88 = .ok (.bipush (-3), 2) := by decide +kernel
theorem dX2_put_90 : decode cX2_put 90 = .ok (.ireturn, 1) := by decide +kernel
theorem dX2_put_91 : decode cX2_put 91 = .ok (.aload_n 0, 1) := by decide +kernel
theorem dX2_put_92 : decode cX2_put 92 = .ok (.iload 4, 2) := by decide +kernel
theorem dX2_put_94 : decode cX2_put 94 = .ok (.invokevirtual 96, 3) := by decide +kernel
theorem dX2_put_97 : decode cX2_put 97 = .ok (.aload_n 0, 1) := by decide +kernel
theorem dX2_put_98 : decode cX2_put 98 = .ok (.getfield 22, 3) := by decide +kernel
theorem dX2_put_101 : decode cX2_put 101 = .ok (.iload_n 1, 1) := by decide +kernel
theorem dX2_put_102 : decode cX2_put 102 = .ok (.invokevirtual 84, 3) := by decide +kernel
theorem dX2_put_105 : decode cX2_put 105 = .ok (.iload_n 2, 1) := by decide +kernel
theorem dX2_put_106 : decode cX2_put 106 = .ok (.iadd, 1) := by decide +kernel
theorem dX2_put_107 : decode cX2_put 107 = .ok (.iload_n 3, 1) := by decide +kernel
theorem dX2_put_108 : decode cX2_put 108 = .ok (.invokevirtual 100, 3) := by decide +kernel
theorem dX2_put_111 : decode cX2_put 111 = .ok (.iconst 1, 1) := by decide +kernel
theorem dX2_put_112 : decode cX2_put 112 = .ok (.ireturn, 1) := by decide +kernel
set_option maxRecDepth 20000 in
theorem ggX2_get_X2_known : GoodIn wsX2_get wsX2_known := goodIn_r _ [9, 10, 50, 51, 52, 53, 54, 55, 56, 57, 58, 59] (by decide +kernel) (by decide +kernel)
set_option maxRecDepth 20000 in
theorem gX2_get_X2_known : GoodIn wsX2_get (wsV RX2 80 RX2 yX2_known wsX2_known) := goodIn_app (goodIn_of _ (by decide +kernel)) ggX2_get_X2_known
set_option maxRecDepth 20000 in
theorem ggX2_get_X1_at : GoodIn wsX2_get wsX1_at := goodIn_r _ [15, 16, 66, 67] (by decide +kernel) (by decide +kernel)
set_option maxRecDepth 20000 in
theorem gX2_get_X1_at : GoodIn wsX2_get (wsV RX2 84 RX1 yX1_at wsX1_at) := goodIn_app (goodIn_of _ (by decide +kernel)) ggX2_get_X1_at
set_option maxRecDepth 20000 in
theorem ggX2_get_X2_isView : GoodIn wsX2_get wsX2_isView := goodIn_r _ [19, 20, 21, 8, 22] (by decide +kernel) (by decide +kernel)
set_option maxRecDepth 20000 in
theorem gX2_get_X2_isView : GoodIn wsX2_get (va_wsS RX2 104 yX2_isView wsX2_isView) := goodIn_app (goodIn_of _ (by decide +kernel)) ggX2_get_X2_isView
set_option maxRecDepth 20000 in
theorem ggX2_get_X2_accessOf : GoodIn wsX2_get wsX2_accessOf := goodIn_r _ [26, 27, 28, 29, 30, 31, 8, 32, 1, 33, 11, 12, 13, 14, 15, 16, 50, 51, 52, 53, 54, 55, 56, 57, 58, 59, 68, 69, 70, 71, 72, 73, 74, 66, 67] (by decide +kernel) (by decide +kernel)
set_option maxRecDepth 20000 in
theorem gX2_get_X2_accessOf : GoodIn wsX2_get (wsV RX2 93 RX2 yX2_accessOf wsX2_accessOf) := goodIn_app (goodIn_of _ (by decide +kernel)) ggX2_get_X2_accessOf
set_option maxRecDepth 20000 in
theorem ggX2_get_X2_hasElement : GoodIn wsX2_get wsX2_hasElement := goodIn_r _ [37, 38, 11, 12, 13, 14, 15, 16, 50, 51, 52, 53, 54, 55, 56, 57, 58, 59, 66, 67] (by decide +kernel) (by decide +kernel)
set_option maxRecDepth 20000 in
theorem gX2_get_X2_hasElement : GoodIn wsX2_get (wsV RX2 87 RX2 yX2_hasElement wsX2_hasElement) := goodIn_app (goodIn_of _ (by decide +kernel)) ggX2_get_X2_hasElement
set_option maxRecDepth 20000 in
theorem ggX2_get_X2_elementOf : GoodIn wsX2_get wsX2_elementOf := goodIn_r _ [42, 1, 43, 11, 12, 13, 14, 15, 16, 44, 45, 46, 8, 47, 48, 27, 49, 50, 51, 52, 53, 54, 55, 56, 57, 58, 59, 66, 67, 68, 69, 70, 71, 72, 73, 74] (by decide +kernel) (by decide +kernel)
set_option maxRecDepth 20000 in
theorem gX2_get_X2_elementOf : GoodIn wsX2_get (wsV RX2 114 RX2 yX2_elementOf wsX2_elementOf) := goodIn_app (goodIn_of _ (by decide +kernel)) ggX2_get_X2_elementOf
theorem dX2_get_0 : decode cX2_get 0 = .ok (.aload_n 0, 1) := by decide +kernel
theorem dX2_get_1 : decode cX2_get 1 = .ok (.iload_n 1, 1) := by decide +kernel
theorem dX2_get_2 : decode cX2_get 2 = .ok (.invokevirtual 80, 3) := by decide +kernel
theorem dX2_get_5 : decode cX2_get 5 = .ok (.ifCond .ne 5, 3) := by decide +kernel
theorem dX2_get_8 : decode cX2_get 8 = .ok (.iconst (-1), 1) := by decide +kernel
theorem dX2_get_9 : decode cX2_get 9 = .ok (.ireturn, 1) := by decide +kernel
theorem dX2_get_10 : decode cX2_get 10 = .ok (.aload_n 0, 1) := by decide +kernel
theorem dX2_get_11 : decode cX2_get 11 = .ok (.getfield 12, 3) := by decide +kernel
theorem dX2_get_14 : decode cX2_get 14 = .ok (.iload_n 1, 1) := by decide +kernel
theorem dX2_get_15 : decode cX2_get 15 = .ok (.invokevirtual 84, 3) := by decide +kernel
theorem dX2_get_18 : decode cX2_get 18 = .ok (.invokestatic 104, 3) := by decide +kernel
theorem dX2_get_21 : decode cX2_get 21 = .ok (.ifCond .eq 12, 3) := by decide +kernel
theorem dX2_get_24 : decode cX2_get 24 = .ok (.aload_n 0, 1) := by decide +kernel
theorem dX2_get_25 : decode cX2_get 25 = .ok (.iload_n 1, 1) := by decide +kernel
theorem dX2_get_26 : decode cX2_get 26 = .ok (.invokevirtual 93, 3) := by decide +kernel
theorem dX2_get_29 : decode cX2_get 29 = .ok (.iconst 2, 1) := by decide +kernel
theorem dX2_get_30 : decode cX2_get 30 = .ok (.if_icmp .ge 6, 3) := by decide +kernel
theorem dX2_get_33 : decode cX2_get 33 = .ok (.bipush (-3), 2) := by decide +kernel
theorem dX2_get_35 : decode cX2_get 35 = .ok (.ireturn, 1) := by decide +kernel
theorem dX2_get_36 : decode cX2_get 36 = .ok (.aload_n 0, 1) := by decide +kernel
theorem dX2_get_37 : decode cX2_get 37 = .ok (.iload_n 1, 1) := by decide +kernel
theorem dX2_get_38 : decode cX2_get 38 = .ok (.iload_n 2, 1) := by decide +kernel
theorem dX2_get_39 : decode cX2_get 39 = .ok (.invokevirtual 87, 3) := by decide +kernel
theorem dX2_get_42 : decode cX2_get 42 = .ok (.ifCond .ne 13, 3) := by decide +kernel
theorem dX2_get_45 : decode cX2_get 45 = .ok (.new 107, 3) := by decide +kernel
theorem dX2_get_48 : decode cX2_get 48 = .ok (.dup, 1) := by decide +kernel
theorem dX2_get_49 : decode cX2_get 49 = .ok (.ldc 109, 2) := by decide +kernel
theorem dX2_get_51 : decode cX2_get 51 = .ok (.invokespecial 111, 3) := by decide +kernel
theorem dX2_get_54 : decode cX2_get 54 = .ok (.athrow, 1) := by decide +kernel
theorem dX2_get_55 : decode cX2_get 55 = .ok (.aload_n 0, 1) := by decide +kernel
theorem dX2_get_56 : decode cX2_get 56 = .ok (.iload_n 1, 1) := by decide +kernel
theorem dX2_get_57 : decode cX2_get 57 = .ok (.iload_n 2, 1) := by decide +kernel
theorem dX2_get_58 : decode cX2_get 58 = .ok (.invokevirtual 114, 3) := by decide +kernel
theorem dX2_get_61 : decode cX2_get 61 = .ok (.ireturn, 1) := by decide +kernel
set_option maxRecDepth 20000 in
theorem ggX2_part_X2_known : GoodIn wsX2_part wsX2_known := goodIn_r _ [7, 2, 101, 102, 103, 104, 105, 106, 107, 108, 109, 110] (by decide +kernel) (by decide +kernel)
set_option maxRecDepth 20000 in
theorem gX2_part_X2_known : GoodIn wsX2_part (wsV RX2 80 RX2 yX2_known wsX2_known) := goodIn_app (goodIn_of _ (by decide +kernel)) ggX2_part_X2_known
set_option maxRecDepth 20000 in
theorem ggX2_part_X1_at : GoodIn wsX2_part wsX1_at := goodIn_r _ [12, 13, 111, 112] (by decide +kernel) (by decide +kernel)
set_option maxRecDepth 20000 in
theorem gX2_part_X1_at : GoodIn wsX2_part (wsV RX2 84 RX1 yX1_at wsX1_at) := goodIn_app (goodIn_of _ (by decide +kernel)) ggX2_part_X1_at
set_option maxRecDepth 20000 in
theorem ggX2_part_X2_isView : GoodIn wsX2_part wsX2_isView := goodIn_r _ [16, 17, 18, 6, 19] (by decide +kernel) (by decide +kernel)
set_option maxRecDepth 20000 in
theorem gX2_part_X2_isView : GoodIn wsX2_part (va_wsS RX2 104 yX2_isView wsX2_isView) := goodIn_app (goodIn_of _ (by decide +kernel)) ggX2_part_X2_isView
set_option maxRecDepth 20000 in
theorem ggX2_part_X2_hasPart : GoodIn wsX2_part wsX2_hasPart := goodIn_r _ [23, 24, 8, 9, 10, 11, 12, 13, 25, 26, 6, 27, 101, 102, 103, 104, 105, 106, 107, 108, 109, 110, 111, 112] (by decide +kernel) (by decide +kernel)
set_option maxRecDepth 20000 in
theorem gX2_part_X2_hasPart : GoodIn wsX2_part (wsV RX2 118 RX2 yX2_hasPart wsX2_hasPart) := goodIn_app (goodIn_of _ (by decide +kernel)) ggX2_part_X2_hasPart
set_option maxRecDepth 20000 in
theorem ggX2_part_X2_accessOf : GoodIn wsX2_part wsX2_accessOf := goodIn_r _ [31, 32, 33, 34, 35, 36, 6, 37, 1, 38, 8, 9, 10, 11, 12, 13, 101, 102, 103, 104, 105, 106, 107, 108, 109, 110, 113, 114, 115, 116, 117, 118, 119, 111, 112] (by decide +kernel) (by decide +kernel)
set_option maxRecDepth 20000 in
theorem gX2_part_X2_accessOf : GoodIn wsX2_part (wsV RX2 93 RX2 yX2_accessOf wsX2_accessOf) := goodIn_app (goodIn_of _ (by decide +kernel)) ggX2_part_X2_accessOf
set_option maxRecDepth 20000 in
theorem ggX2_part_X2_addPart : GoodIn wsX2_part wsX2_addPart := goodIn_r _ [42, 1, 43, 38, 32, 33, 44, 8, 9, 10, 11, 12, 13, 45, 46, 47, 6, 48, 2, 49, 24, 50, 51, 52, 53, 54, 55, 56, 57, 58, 59, 60, 61, 62, 63, 64, 65, 66, 67, 68, 69, 70, 71, 72, 73, 74, 75, 76, 77, 78, 79, 80, 81, 82, 83, 84, 85, 86, 87, 88, 89, 90, 91, 92, 93, 94, 95, 96, 97, 98, 99, 100, 101, 102, 103, 104, 105, 106, 107, 108, 109, 110, 113, 114, 115, 116, 117, 118, 119, 111, 112] (by decide +kernel) (by decide +kernel)
set_option maxRecDepth 20000 in
theorem gX2_part_X2_addPart : GoodIn wsX2_part (wsV RX2 122 RX2 yX2_addPart wsX2_addPart) := goodIn_app (goodIn_of _ (by decide +kernel)) ggX2_part_X2_addPart
theorem dX2_part_0 : decode cX2_part 0 = .ok (.aload_n 0, 1) := by decide +kernel
theorem dX2_part_1 : decode cX2_part 1 = .ok (.iload_n 1, 1) := by decide +kernel
theorem dX2_part_2 : decode cX2_part 2 = .ok (.invokevirtual 80, 3) := by decide +kernel
theorem dX2_part_5 : decode cX2_part 5 = .ok (.ifCond .ne 5, 3) := by decide +kernel
theorem dX2_part_8 : decode cX2_part 8 = .ok (.iconst (-1), 1) := by decide +kernel
theorem dX2_part_9 : decode cX2_part 9 = .ok (.ireturn, 1) := by decide +kernel
theorem dX2_part_10 : decode cX2_part 10 = .ok (.aload_n 0, 1) := by decide +kernel
theorem dX2_part_11 : decode cX2_part 11 = .ok (.getfield 12, 3) := by decide +kernel
theorem dX2_part_14 : decode cX2_part 14 = .ok (.iload_n 1, 1) := by decide +kernel
theorem dX2_part_15 : decode cX2_part 15 = .ok (.invokevirtual 84, 3) := by decide +kernel
theorem dX2_part_18 : decode cX2_part 18 = .ok (.istore 4, 2) := by decide +kernel
theorem dX2_part_20 : decode cX2_part 20 = .ok (.iload 4, 2) := by decide +kernel
theorem dX2_part_22 : decode cX2_part 22 = .ok (.invokestatic 104, 3) := by decide +kernel
theorem dX2_part_25 : decode cX2_part 25 = .ok (.ifCond .ne 13, 3) := by decide +kernel
theorem dX2_part_28 : decode cX2_part 28 = .ok (.iload 4, 2) := by decide +kernel
theorem dX2_part_30 : decode cX2_part 30 = .ok (.bipush 7, 2) := by decide +kernel
theorem dX2_part_32 : decode cX2_part 32 = .ok (.if_icmp .eq 6, 3) := by decide +kernel
theorem dX2_part_35 : decode cX2_part 35 = .ok (.bipush (-3), 2) := by decide +kernel
theorem dX2_part_37 : decode cX2_part 37 = .ok (.ireturn, 1) := by decide +kernel
theorem dX2_part_38 : decode cX2_part 38 = .ok (.iload 4, 2) := by decide +kernel
theorem dX2_part_40 : decode cX2_part 40 = .ok (.invokestatic 104, 3) := by decide +kernel
theorem dX2_part_43 : decode cX2_part 43 = .ok (.ifCond .eq 16, 3) := by decide +kernel
theorem dX2_part_46 : decode cX2_part 46 = .ok (.aload_n 0, 1) := by decide +kernel
theorem dX2_part_47 : decode cX2_part 47 = .ok (.iload_n 1, 1) := by decide +kernel
theorem dX2_part_48 : decode cX2_part 48 = .ok (.iload_n 2, 1) := by decide +kernel
theorem dX2_part_49 : decode cX2_part 49 = .ok (.iload_n 3, 1) := by decide +kernel
theorem dX2_part_50 : decode cX2_part 50 = .ok (.invokevirtual 118, 3) := by decide +kernel
theorem dX2_part_53 : decode cX2_part 53 = .ok (.ifCond .ne 6, 3) := by decide +kernel
theorem dX2_part_56 : decode cX2_part 56 = .ok (.bipush (-2), 2) := by decide +kernel
theorem dX2_part_58 : decode cX2_part 58 = .ok (.ireturn, 1) := by decide +kernel
theorem dX2_part_59 : decode cX2_part 59 = .ok (.aload_n 0, 1) := by decide +kernel
theorem dX2_part_60 : decode cX2_part 60 = .ok (.iload_n 1, 1) := by decide +kernel
theorem dX2_part_61 : decode cX2_part 61 = .ok (.invokevirtual 93, 3) := by decide +kernel
theorem dX2_part_64 : decode cX2_part 64 = .ok (.iconst 2, 1) := by decide +kernel
theorem dX2_part_65 : decode cX2_part 65 = .ok (.if_icmp .ge 6, 3) := by decide +kernel
theorem dX2_part_68 : decode cX2_part 68 = .ok (.bipush (-3), 2) := by decide +kernel
theorem dX2_part_70 : decode cX2_part 70 = .ok (.ireturn, 1) := by decide +kernel
theorem dX2_part_71 : decode cX2_part 71 = .ok (.aload_n 0, 1) := by decide +kernel
theorem dX2_part_72 : decode cX2_part 72 = .ok (.getfield 50, 3) := by decide +kernel
theorem dX2_part_75 : decode cX2_part 75 = .ok (.bipush 100, 2) := by decide +kernel
theorem dX2_part_77 : decode cX2_part 77 = .ok (.if_icmp .lt 6, 3) := by decide +kernel
theorem dX2_part_80 : decode cX2_part 80 = .ok (.bipush (-4), 2) := by decide +kernel
theorem dX2_part_82 : decode cX2_part 82 = .ok (.ireturn, 1) := by decide +kernel
theorem dX2_part_83 : decode cX2_part 83 = .ok (.iload 4, 2) := by decide +kernel
theorem dX2_part_85 : decode cX2_part 85 = .ok (.bipush 7, 2) := by decide +kernel
theorem dX2_part_87 : decode cX2_part 87 = .ok (.if_icmp .ne 13, 3) := by decide +kernel
theorem dX2_part_90 : decode cX2_part 90 = .ok (.aload_n 0, 1) := by decide +kernel
theorem dX2_part_91 : decode cX2_part 91 = .ok (.iload_n 1, 1) := by decide +kernel
theorem dX2_part_92 : decode cX2_part 92 = .ok (.iconst 0, 1) := by decide +kernel
theorem dX2_part_93 : decode cX2_part 93 = .ok (.iconst 0, 1) := by decide +kernel
theorem dX2_part_94 : decode cX2_part 94 = .ok (.invokevirtual 122, 3) := by decide +kernel
theorem dX2_part_97 : decode cX2_part 97 = .ok (.goto 10, 3) := by decide +kernel
theorem dX2_part_100 : decode cX2_part 100 = .ok (.aload_n 0, 1) := by decide +kernel
theorem dX2_part_101 : decode cX2_part 101 = .ok (.iload_n 1, 1) := by decide +kernel
theorem dX2_part_102 : decode cX2_part 102 = .ok (.iload_n 2, 1) := by decide +kernel
theorem dX2_part_103 : decode cX2_part 103 = .ok (.iload_n 3, 1) := by decide +kernel
theorem dX2_part_104 : decode cX2_part 104 = .ok (.invokevirtual 122, 3) := by decide +kernel
theorem dX2_part_107 : decode cX2_part 107 = .ok (.ireturn, 1) := by decide +kernel
set_option maxRecDepth 20000 in
theorem ggX2_attribute_X2_known : GoodIn wsX2_attribute wsX2_known := goodIn_r _ [7, 8, 45, 46, 47, 48, 49, 50, 51, 52, 53, 54] (by decide +kernel) (by decide +kernel)
set_option maxRecDepth 20000 in
theorem gX2_attribute_X2_known : GoodIn wsX2_attribute (wsV RX2 80 RX2 yX2_known wsX2_known) := goodIn_app (goodIn_of _ (by decide +kernel)) ggX2_attribute_X2_known
set_option maxRecDepth 20000 in
theorem ggX2_attribute_X2_within : GoodIn wsX2_attribute wsX2_within := goodIn_r _ [11] (by decide +kernel) (by decide +kernel)
set_option maxRecDepth 20000 in
theorem gX2_attribute_X2_within : GoodIn wsX2_attribute (va_wsS RX2 90 yX2_within wsX2_within) := goodIn_app (goodIn_of _ (by decide +kernel)) ggX2_attribute_X2_within
set_option maxRecDepth 20000 in
theorem ggX2_attribute_X1_set : GoodIn wsX2_attribute wsX1_set := goodIn_r _ [16, 17, 62, 63] (by decide +kernel) (by decide +kernel)
set_option maxRecDepth 20000 in
theorem gX2_attribute_X1_set : GoodIn wsX2_attribute (wsV RX2 100 RX1 yX1_set wsX1_set) := goodIn_app (goodIn_of _ (by decide +kernel)) ggX2_attribute_X1_set
set_option maxRecDepth 20000 in
theorem ggX2_attribute_X2_lowerAccess : GoodIn wsX2_attribute wsX2_lowerAccess := goodIn_r _ [21, 22, 1, 23, 24, 25, 26, 15, 27, 17, 28, 29, 6, 30, 31, 32, 33, 34, 35, 36, 37, 38, 39, 12, 13, 14, 16, 45, 46, 47, 48, 49, 50, 51, 52, 53, 54, 55, 56, 57, 58, 59, 60, 61, 62, 63] (by decide +kernel) (by decide +kernel)
set_option maxRecDepth 20000 in
theorem gX2_attribute_X2_lowerAccess : GoodIn wsX2_attribute (wsV RX2 129 RX2 yX2_lowerAccess wsX2_lowerAccess) := goodIn_app (goodIn_of _ (by decide +kernel)) ggX2_attribute_X2_lowerAccess
set_option maxRecDepth 20000 in
theorem ggX2_attribute_X2_letGrow : GoodIn wsX2_attribute wsX2_letGrow := goodIn_r _ [43, 22, 1, 44, 39, 24, 25, 26, 15, 27, 17, 12, 13, 14, 16, 45, 46, 47, 48, 49, 50, 51, 52, 53, 54, 55, 56, 57, 58, 59, 60, 61, 62, 63] (by decide +kernel) (by decide +kernel)
set_option maxRecDepth 20000 in
theorem gX2_attribute_X2_letGrow : GoodIn wsX2_attribute (wsV RX2 132 RX2 yX2_letGrow wsX2_letGrow) := goodIn_app (goodIn_of _ (by decide +kernel)) ggX2_attribute_X2_letGrow
theorem dX2_attribute_0 : decode cX2_attribute 0 = .ok (.aload_n 0, 1) := by decide +kernel
theorem dX2_attribute_1 : decode cX2_attribute 1 = .ok (.iload_n 1, 1) := by decide +kernel
theorem dX2_attribute_2 : decode cX2_attribute 2 = .ok (.invokevirtual 80, 3) := by decide +kernel
theorem dX2_attribute_5 : decode cX2_attribute 5 = .ok (.ifCond .ne 5, 3) := by decide +kernel
theorem dX2_attribute_8 : decode cX2_attribute 8 = .ok (.iconst (-1), 1) := by decide +kernel
theorem dX2_attribute_9 : decode cX2_attribute 9 = .ok (.ireturn, 1) := by decide +kernel
theorem dX2_attribute_10 : decode cX2_attribute 10 = .ok (.iload_n 2, 1) := by decide +kernel
theorem dX2_attribute_11 : decode cX2_attribute 11 = .ok (.ifCond .lt 25, 3) := by decide +kernel
theorem dX2_attribute_14 : decode cX2_attribute 14 = .ok (.iload_n 2, 1) := by decide +kernel
theorem dX2_attribute_15 : decode cX2_attribute 15 = .ok (.iconst 2, 1) := by decide +kernel
theorem dX2_attribute_16 : decode cX2_attribute 16 = .ok (.if_icmp .gt 20, 3) := by decide +kernel
theorem dX2_attribute_19 : decode cX2_attribute 19 = .ok (.iload_n 3, 1) := by decide +kernel
theorem dX2_attribute_20 : decode cX2_attribute 20 = .ok (.iload_n 2, 1) := by decide +kernel
theorem dX2_attribute_21 : decode cX2_attribute 21 = .ok (.iconst 1, 1) := by decide +kernel
theorem dX2_attribute_22 : decode cX2_attribute 22 = .ok (.if_icmp .ne 7, 3) := by decide +kernel
theorem dX2_attribute_25 : decode cX2_attribute 25 = .ok (.iconst 3, 1) := by decide +kernel
theorem dX2_attribute_26 : decode cX2_attribute 26 = .ok (.goto 4, 3) := by decide +kernel
theorem dX2_attribute_29 : decode cX2_attribute 29 = .ok (.iconst 1, 1) := by decide +kernel
theorem dX2_attribute_30 : decode cX2_attribute 30 = .ok (.invokestatic 90, 3) := by decide +kernel
theorem dX2_attribute_33 : decode cX2_attribute 33 = .ok (.ifCond .ne 6, 3) := by decide +kernel
theorem dX2_attribute_36 : decode cX2_attribute 36 = .ok (.bipush (-2), 2) := by decide +kernel
end
section
theorem dX2_attribute_38 : decode cX2_attribute 38 = .ok (.ireturn, 1) := by decide +kernel
theorem dX2_attribute_39 : decode cX2_attribute 39 = .ok (.iload_n 2, 1) := by decide +kernel
theorem dX2_attribute_40 : decode cX2_attribute 40 = .ok (.lookupswitch 49 #[(0, 28), (1, 42)], 28) := by decide +kernel
theorem dX2_attribute_68 : decode cX2_attribute 68 = .ok (.aload_n 0, 1) := by decide +kernel
theorem dX2_attribute_69 : decode cX2_attribute 69 = .ok (.getfield 34, 3) := by decide +kernel
theorem dX2_attribute_72 : decode cX2_attribute 72 = .ok (.getfield 126, 3) := by decide +kernel
theorem dX2_attribute_75 : decode cX2_attribute 75 = .ok (.iload_n 1, 1) := by decide +kernel
theorem dX2_attribute_76 : decode cX2_attribute 76 = .ok (.iload_n 3, 1) := by decide +kernel
theorem dX2_attribute_77 : decode cX2_attribute 77 = .ok (.invokevirtual 100, 3) := by decide +kernel
theorem dX2_attribute_80 : decode cX2_attribute 80 = .ok (.iconst 1, 1) := by decide +kernel
theorem dX2_attribute_81 : decode cX2_attribute 81 = .ok (.ireturn, 1) := by decide +kernel
theorem dX2_attribute_82 : decode cX2_attribute 82 = .ok (.aload_n 0, 1) := by decide +kernel
theorem dX2_attribute_83 : decode cX2_attribute 83 = .ok (.iload_n 1, 1) := by decide +kernel
theorem dX2_attribute_84 : decode cX2_attribute 84 = .ok (.iload_n 3, 1) := by decide +kernel
theorem dX2_attribute_85 : decode cX2_attribute 85 = .ok (.invokevirtual 129, 3) := by decide +kernel
theorem dX2_attribute_88 : decode cX2_attribute 88 = .ok (.ireturn, 1) := by decide +kernel
theorem dX2_attribute_89 : decode cX2_attribute 89 = .ok (.aload_n 0, 1) := by decide +kernel
theorem dX2_attribute_90 : decode cX2_attribute 90 = .ok (.iload_n 1, 1) := by decide +kernel
theorem dX2_attribute_91 : decode cX2_attribute 91 = .ok (.iload_n 3, 1) := by decide +kernel
theorem dX2_attribute_92 : decode cX2_attribute 92 = .ok (.invokevirtual 132, 3) := by decide +kernel
theorem dX2_attribute_95 : decode cX2_attribute 95 = .ok (.ireturn, 1) := by decide +kernel
set_option maxRecDepth 20000 in
theorem ggX2_told_X2_known : GoodIn wsX2_told wsX2_known := goodIn_r _ [12, 13, 32, 33, 34, 35, 36, 37, 38, 39, 40, 41] (by decide +kernel) (by decide +kernel)
set_option maxRecDepth 20000 in
theorem gX2_told_X2_known : GoodIn wsX2_told (wsV RX2 80 RX2 yX2_known wsX2_known) := goodIn_app (goodIn_of _ (by decide +kernel)) ggX2_told_X2_known
set_option maxRecDepth 20000 in
theorem ggX2_told_X1_at : GoodIn wsX2_told wsX1_at := goodIn_r _ [18, 19, 49, 50] (by decide +kernel) (by decide +kernel)
set_option maxRecDepth 20000 in
theorem gX2_told_X1_at : GoodIn wsX2_told (wsV RX2 84 RX1 yX1_at wsX1_at) := goodIn_app (goodIn_of _ (by decide +kernel)) ggX2_told_X1_at
set_option maxRecDepth 20000 in
theorem ggX2_told_X2_accessOf : GoodIn wsX2_told wsX2_accessOf := goodIn_r _ [23, 1, 24, 25, 26, 27, 11, 28, 5, 4, 14, 15, 16, 17, 18, 19, 32, 33, 34, 35, 36, 37, 38, 39, 40, 41, 42, 43, 44, 45, 46, 47, 48, 49, 50] (by decide +kernel) (by decide +kernel)
set_option maxRecDepth 20000 in
theorem gX2_told_X2_accessOf : GoodIn wsX2_told (wsV RX2 93 RX2 yX2_accessOf wsX2_accessOf) := goodIn_app (goodIn_of _ (by decide +kernel)) ggX2_told_X2_accessOf
set_option maxRecDepth 20000 in
theorem ggX2_told_X2_hasNumber : GoodIn wsX2_told wsX2_hasNumber := goodIn_r _ [31] (by decide +kernel) (by decide +kernel)
set_option maxRecDepth 20000 in
theorem gX2_told_X2_hasNumber : GoodIn wsX2_told (va_wsS RX2 138 yX2_hasNumber wsX2_hasNumber) := goodIn_app (goodIn_of _ (by decide +kernel)) ggX2_told_X2_hasNumber
theorem dX2_told_0 : decode cX2_told 0 = .ok (.aload_n 0, 1) := by decide +kernel
theorem dX2_told_1 : decode cX2_told 1 = .ok (.iload_n 1, 1) := by decide +kernel
theorem dX2_told_2 : decode cX2_told 2 = .ok (.invokevirtual 80, 3) := by decide +kernel
theorem dX2_told_5 : decode cX2_told 5 = .ok (.ifCond .ne 5, 3) := by decide +kernel
theorem dX2_told_8 : decode cX2_told 8 = .ok (.iconst (-1), 1) := by decide +kernel
theorem dX2_told_9 : decode cX2_told 9 = .ok (.ireturn, 1) := by decide +kernel
theorem dX2_told_10 : decode cX2_told 10 = .ok (.iload_n 2, 1) := by decide +kernel
theorem dX2_told_11 : decode cX2_told 11 = .ok (.tableswitch 116 0 4 #[33, 45, 51, 70, 97], 33) := by decide +kernel
theorem dX2_told_44 : decode cX2_told 44 = .ok (.aload_n 0, 1) := by decide +kernel
theorem dX2_told_45 : decode cX2_told 45 = .ok (.getfield 34, 3) := by decide +kernel
theorem dX2_told_48 : decode cX2_told 48 = .ok (.getfield 126, 3) := by decide +kernel
theorem dX2_told_51 : decode cX2_told 51 = .ok (.iload_n 1, 1) := by decide +kernel
theorem dX2_told_52 : decode cX2_told 52 = .ok (.invokevirtual 84, 3) := by decide +kernel
theorem dX2_told_55 : decode cX2_told 55 = .ok (.ireturn, 1) := by decide +kernel
theorem dX2_told_56 : decode cX2_told 56 = .ok (.aload_n 0, 1) := by decide +kernel
theorem dX2_told_57 : decode cX2_told 57 = .ok (.iload_n 1, 1) := by decide +kernel
theorem dX2_told_58 : decode cX2_told 58 = .ok (.invokevirtual 93, 3) := by decide +kernel
theorem dX2_told_61 : decode cX2_told 61 = .ok (.ireturn, 1) := by decide +kernel
theorem dX2_told_62 : decode cX2_told 62 = .ok (.aload_n 0, 1) := by decide +kernel
theorem dX2_told_63 : decode cX2_told 63 = .ok (.getfield 34, 3) := by decide +kernel
theorem dX2_told_66 : decode cX2_told 66 = .ok (.getfield 135, 3) := by decide +kernel
theorem dX2_told_69 : decode cX2_told 69 = .ok (.aload_n 0, 1) := by decide +kernel
theorem dX2_told_70 : decode cX2_told 70 = .ok (.getfield 19, 3) := by decide +kernel
theorem dX2_told_73 : decode cX2_told 73 = .ok (.iload_n 1, 1) := by decide +kernel
theorem dX2_told_74 : decode cX2_told 74 = .ok (.invokevirtual 84, 3) := by decide +kernel
theorem dX2_told_77 : decode cX2_told 77 = .ok (.invokevirtual 84, 3) := by decide +kernel
theorem dX2_told_80 : decode cX2_told 80 = .ok (.ireturn, 1) := by decide +kernel
theorem dX2_told_81 : decode cX2_told 81 = .ok (.aload_n 0, 1) := by decide +kernel
theorem dX2_told_82 : decode cX2_told 82 = .ok (.getfield 12, 3) := by decide +kernel
theorem dX2_told_85 : decode cX2_told 85 = .ok (.iload_n 1, 1) := by decide +kernel
theorem dX2_told_86 : decode cX2_told 86 = .ok (.invokevirtual 84, 3) := by decide +kernel
theorem dX2_told_89 : decode cX2_told 89 = .ok (.invokestatic 138, 3) := by decide +kernel
theorem dX2_told_92 : decode cX2_told 92 = .ok (.ifCond .eq 14, 3) := by decide +kernel
theorem dX2_told_95 : decode cX2_told 95 = .ok (.aload_n 0, 1) := by decide +kernel
theorem dX2_told_96 : decode cX2_told 96 = .ok (.getfield 16, 3) := by decide +kernel
theorem dX2_told_99 : decode cX2_told 99 = .ok (.iload_n 1, 1) := by decide +kernel
theorem dX2_told_100 : decode cX2_told 100 = .ok (.invokevirtual 84, 3) := by decide +kernel
theorem dX2_told_103 : decode cX2_told 103 = .ok (.goto 4, 3) := by decide +kernel
theorem dX2_told_106 : decode cX2_told 106 = .ok (.iconst 0, 1) := by decide +kernel
theorem dX2_told_107 : decode cX2_told 107 = .ok (.ireturn, 1) := by decide +kernel
theorem dX2_told_108 : decode cX2_told 108 = .ok (.aload_n 0, 1) := by decide +kernel
theorem dX2_told_109 : decode cX2_told 109 = .ok (.getfield 34, 3) := by decide +kernel
theorem dX2_told_112 : decode cX2_told 112 = .ok (.getfield 141, 3) := by decide +kernel
theorem dX2_told_115 : decode cX2_told 115 = .ok (.aload_n 0, 1) := by decide +kernel
theorem dX2_told_116 : decode cX2_told 116 = .ok (.getfield 19, 3) := by decide +kernel
theorem dX2_told_119 : decode cX2_told 119 = .ok (.iload_n 1, 1) := by decide +kernel
theorem dX2_told_120 : decode cX2_told 120 = .ok (.invokevirtual 84, 3) := by decide +kernel
theorem dX2_told_123 : decode cX2_told 123 = .ok (.invokevirtual 84, 3) := by decide +kernel
theorem dX2_told_126 : decode cX2_told 126 = .ok (.ireturn, 1) := by decide +kernel
theorem dX2_told_127 : decode cX2_told 127 = .ok (.bipush (-2), 2) := by decide +kernel
theorem dX2_told_129 : decode cX2_told 129 = .ok (.ireturn, 1) := by decide +kernel
set_option maxRecDepth 20000 in
theorem ggX2_same_X2_known : GoodIn wsX2_same wsX2_known := goodIn_r _ [5, 6, 79, 80, 81, 82, 83, 84, 85, 86, 87, 88] (by decide +kernel) (by decide +kernel)
set_option maxRecDepth 20000 in
theorem gX2_same_X2_known : GoodIn wsX2_same (wsV RX2 80 RX2 yX2_known wsX2_known) := goodIn_app (goodIn_of _ (by decide +kernel)) ggX2_same_X2_known
set_option maxRecDepth 20000 in
theorem ggX2_same_X2_alike : GoodIn wsX2_same wsX2_alike := goodIn_r _ [10, 11, 12, 13, 14, 15, 16, 17, 18, 19, 20, 4, 21, 22, 23, 24, 25, 26, 27, 28, 29, 30, 31, 32, 33, 34, 35, 36, 37, 38, 39, 40, 41, 42, 43, 44, 45, 46, 47, 48, 49, 50, 51, 52, 53, 54, 55, 56, 57, 58, 59, 60, 61, 62, 63, 64, 65, 66, 67, 68, 69, 70, 71, 72, 73, 74, 75, 76, 77, 78, 79, 80, 81, 82, 83, 84, 85, 86, 87, 88, 89, 90, 91, 92, 93, 94, 95, 96, 97] (by decide +kernel) (by decide +kernel)
set_option maxRecDepth 20000 in
theorem gX2_same_X2_alike : GoodIn wsX2_same (wsV RX2 144 RX2 yX2_alike wsX2_alike) := goodIn_app (goodIn_of _ (by decide +kernel)) ggX2_same_X2_alike
theorem dX2_same_0 : decode cX2_same 0 = .ok (.aload_n 0, 1) := by decide +kernel
theorem dX2_same_1 : decode cX2_same 1 = .ok (.iload_n 1, 1) := by decide +kernel
theorem dX2_same_2 : decode cX2_same 2 = .ok (.invokevirtual 80, 3) := by decide +kernel
theorem dX2_same_5 : decode cX2_same 5 = .ok (.ifCond .eq 24, 3) := by decide +kernel
theorem dX2_same_8 : decode cX2_same 8 = .ok (.aload_n 0, 1) := by decide +kernel
theorem dX2_same_9 : decode cX2_same 9 = .ok (.iload_n 2, 1) := by decide +kernel
theorem dX2_same_10 : decode cX2_same 10 = .ok (.invokevirtual 80, 3) := by decide +kernel
theorem dX2_same_13 : decode cX2_same 13 = .ok (.ifCond .eq 16, 3) := by decide +kernel
theorem dX2_same_16 : decode cX2_same 16 = .ok (.aload_n 0, 1) := by decide +kernel
theorem dX2_same_17 : decode cX2_same 17 = .ok (.iload_n 1, 1) := by decide +kernel
theorem dX2_same_18 : decode cX2_same 18 = .ok (.iload_n 2, 1) := by decide +kernel
theorem dX2_same_19 : decode cX2_same 19 = .ok (.invokevirtual 144, 3) := by decide +kernel
theorem dX2_same_22 : decode cX2_same 22 = .ok (.ifCond .eq 7, 3) := by decide +kernel
theorem dX2_same_25 : decode cX2_same 25 = .ok (.iconst 1, 1) := by decide +kernel
theorem dX2_same_26 : decode cX2_same 26 = .ok (.goto 4, 3) := by decide +kernel
theorem dX2_same_29 : decode cX2_same 29 = .ok (.iconst 0, 1) := by decide +kernel
theorem dX2_same_30 : decode cX2_same 30 = .ok (.ireturn, 1) := by decide +kernel
set_option maxRecDepth 20000 in
theorem ggX2_compare_X2_known : GoodIn wsX2_compare wsX2_known := goodIn_r _ [7, 8, 53, 54, 55, 56, 57, 58, 59, 60, 61, 62] (by decide +kernel) (by decide +kernel)
set_option maxRecDepth 20000 in
theorem gX2_compare_X2_known : GoodIn wsX2_compare (wsV RX2 80 RX2 yX2_known wsX2_known) := goodIn_app (goodIn_of _ (by decide +kernel)) ggX2_compare_X2_known
set_option maxRecDepth 20000 in
theorem ggX2_compare_X1_at : GoodIn wsX2_compare wsX1_at := goodIn_r _ [13, 14, 63, 64] (by decide +kernel) (by decide +kernel)
set_option maxRecDepth 20000 in
theorem gX2_compare_X1_at : GoodIn wsX2_compare (wsV RX2 84 RX1 yX1_at wsX1_at) := goodIn_app (goodIn_of _ (by decide +kernel)) ggX2_compare_X1_at
set_option maxRecDepth 20000 in
theorem ggX2_compare_X2_order : GoodIn wsX2_compare wsX2_order := goodIn_r _ [17] (by decide +kernel) (by decide +kernel)
set_option maxRecDepth 20000 in
theorem gX2_compare_X2_order : GoodIn wsX2_compare (va_wsS RX2 147 yX2_order wsX2_order) := goodIn_app (goodIn_of _ (by decide +kernel)) ggX2_compare_X2_order
set_option maxRecDepth 20000 in
theorem ggX2_compare_X2_readableString : GoodIn wsX2_compare wsX2_readableString := goodIn_r _ [21, 1, 9, 10, 11, 12, 13, 14, 22, 23, 24, 6, 25, 26, 27, 28, 29, 30, 31, 32, 53, 54, 55, 56, 57, 58, 59, 60, 61, 62, 63, 64, 65, 66, 67, 68, 69, 70, 71] (by decide +kernel) (by decide +kernel)
set_option maxRecDepth 20000 in
theorem gX2_compare_X2_readableString : GoodIn wsX2_compare (wsV RX2 150 RX2 yX2_readableString wsX2_readableString) := goodIn_app (goodIn_of _ (by decide +kernel)) ggX2_compare_X2_readableString
set_option maxRecDepth 20000 in
theorem ggX2_compare_X2_orderOfBytes : GoodIn wsX2_compare wsX2_orderOfBytes := goodIn_r _ [36, 37, 38, 39, 40, 41, 9, 10, 11, 12, 13, 14, 42, 43, 44, 6, 45, 1, 46, 47, 48, 49, 50, 51, 26, 52, 15, 16, 17, 53, 54, 55, 56, 57, 58, 59, 60, 61, 62, 63, 64, 65, 66, 67, 68, 69, 70, 71] (by decide +kernel) (by decide +kernel)
set_option maxRecDepth 20000 in
theorem gX2_compare_X2_orderOfBytes : GoodIn wsX2_compare (wsV RX2 153 RX2 yX2_orderOfBytes wsX2_orderOfBytes) := goodIn_app (goodIn_of _ (by decide +kernel)) ggX2_compare_X2_orderOfBytes
theorem dX2_compare_0 : decode cX2_compare 0 = .ok (.aload_n 0, 1) := by decide +kernel
theorem dX2_compare_1 : decode cX2_compare 1 = .ok (.iload_n 1, 1) := by decide +kernel
theorem dX2_compare_2 : decode cX2_compare 2 = .ok (.invokevirtual 80, 3) := by decide +kernel
theorem dX2_compare_5 : decode cX2_compare 5 = .ok (.ifCond .eq 11, 3) := by decide +kernel
theorem dX2_compare_8 : decode cX2_compare 8 = .ok (.aload_n 0, 1) := by decide +kernel
theorem dX2_compare_9 : decode cX2_compare 9 = .ok (.iload_n 2, 1) := by decide +kernel
theorem dX2_compare_10 : decode cX2_compare 10 = .ok (.invokevirtual 80, 3) := by decide +kernel
theorem dX2_compare_13 : decode cX2_compare 13 = .ok (.ifCond .ne 5, 3) := by decide +kernel
theorem dX2_compare_16 : decode cX2_compare 16 = .ok (.iconst (-1), 1) := by decide +kernel
theorem dX2_compare_17 : decode cX2_compare 17 = .ok (.ireturn, 1) := by decide +kernel
theorem dX2_compare_18 : decode cX2_compare 18 = .ok (.aload_n 0, 1) := by decide +kernel
theorem dX2_compare_19 : decode cX2_compare 19 = .ok (.getfield 12, 3) := by decide +kernel
theorem dX2_compare_22 : decode cX2_compare 22 = .ok (.iload_n 1, 1) := by decide +kernel
theorem dX2_compare_23 : decode cX2_compare 23 = .ok (.invokevirtual 84, 3) := by decide +kernel
theorem dX2_compare_26 : decode cX2_compare 26 = .ok (.iconst 1, 1) := by decide +kernel
theorem dX2_compare_27 : decode cX2_compare 27 = .ok (.if_icmp .ne 35, 3) := by decide +kernel
theorem dX2_compare_30 : decode cX2_compare 30 = .ok (.aload_n 0, 1) := by decide +kernel
theorem dX2_compare_31 : decode cX2_compare 31 = .ok (.getfield 12, 3) := by decide +kernel
theorem dX2_compare_34 : decode cX2_compare 34 = .ok (.iload_n 2, 1) := by decide +kernel
theorem dX2_compare_35 : decode cX2_compare 35 = .ok (.invokevirtual 84, 3) := by decide +kernel
theorem dX2_compare_38 : decode cX2_compare 38 = .ok (.iconst 1, 1) := by decide +kernel
theorem dX2_compare_39 : decode cX2_compare 39 = .ok (.if_icmp .ne 23, 3) := by decide +kernel
theorem dX2_compare_42 : decode cX2_compare 42 = .ok (.aload_n 0, 1) := by decide +kernel
theorem dX2_compare_43 : decode cX2_compare 43 = .ok (.getfield 16, 3) := by decide +kernel
theorem dX2_compare_46 : decode cX2_compare 46 = .ok (.iload_n 1, 1) := by decide +kernel
theorem dX2_compare_47 : decode cX2_compare 47 = .ok (.invokevirtual 84, 3) := by decide +kernel
theorem dX2_compare_50 : decode cX2_compare 50 = .ok (.aload_n 0, 1) := by decide +kernel
theorem dX2_compare_51 : decode cX2_compare 51 = .ok (.getfield 16, 3) := by decide +kernel
theorem dX2_compare_54 : decode cX2_compare 54 = .ok (.iload_n 2, 1) := by decide +kernel
theorem dX2_compare_55 : decode cX2_compare 55 = .ok (.invokevirtual 84, 3) := by decide +kernel
theorem dX2_compare_58 : decode cX2_compare 58 = .ok (.invokestatic 147, 3) := by decide +kernel
theorem dX2_compare_61 : decode cX2_compare 61 = .ok (.ireturn, 1) := by decide +kernel
theorem dX2_compare_62 : decode cX2_compare 62 = .ok (.aload_n 0, 1) := by decide +kernel
theorem dX2_compare_63 : decode cX2_compare 63 = .ok (.iload_n 1, 1) := by decide +kernel
theorem dX2_compare_64 : decode cX2_compare 64 = .ok (.invokevirtual 150, 3) := by decide +kernel
theorem dX2_compare_67 : decode cX2_compare 67 = .ok (.ifCond .eq 18, 3) := by decide +kernel
theorem dX2_compare_70 : decode cX2_compare 70 = .ok (.aload_n 0, 1) := by decide +kernel
theorem dX2_compare_71 : decode cX2_compare 71 = .ok (.iload_n 2, 1) := by decide +kernel
theorem dX2_compare_72 : decode cX2_compare 72 = .ok (.invokevirtual 150, 3) := by decide +kernel
theorem dX2_compare_75 : decode cX2_compare 75 = .ok (.ifCond .eq 10, 3) := by decide +kernel
theorem dX2_compare_78 : decode cX2_compare 78 = .ok (.aload_n 0, 1) := by decide +kernel
theorem dX2_compare_79 : decode cX2_compare 79 = .ok (.iload_n 1, 1) := by decide +kernel
theorem dX2_compare_80 : decode cX2_compare 80 = .ok (.iload_n 2, 1) := by decide +kernel
theorem dX2_compare_81 : decode cX2_compare 81 = .ok (.invokevirtual 153, 3) := by decide +kernel
theorem dX2_compare_84 : decode cX2_compare 84 = .ok (.ireturn, 1) := by decide +kernel
theorem dX2_compare_85 : decode cX2_compare 85 = .ok (.bipush (-3), 2) := by decide +kernel
theorem dX2_compare_87 : decode cX2_compare 87 = .ok (.ireturn, 1) := by decide +kernel
set_option maxRecDepth 20000 in
theorem ggX2_length_X2_known : GoodIn wsX2_length wsX2_known := goodIn_r _ [11, 12, 22, 23, 24, 25, 26, 27, 28, 29, 30, 31] (by decide +kernel) (by decide +kernel)
set_option maxRecDepth 20000 in
theorem gX2_length_X2_known : GoodIn wsX2_length (wsV RX2 80 RX2 yX2_known wsX2_known) := goodIn_app (goodIn_of _ (by decide +kernel)) ggX2_length_X2_known
set_option maxRecDepth 20000 in
theorem ggX2_length_X1_at : GoodIn wsX2_length wsX1_at := goodIn_r _ [17, 18, 39, 40] (by decide +kernel) (by decide +kernel)
set_option maxRecDepth 20000 in
theorem gX2_length_X1_at : GoodIn wsX2_length (wsV RX2 84 RX1 yX1_at wsX1_at) := goodIn_app (goodIn_of _ (by decide +kernel)) ggX2_length_X1_at
set_option maxRecDepth 20000 in
theorem ggX2_length_X2_digits : GoodIn wsX2_length wsX2_digits := goodIn_r _ [21] (by decide +kernel) (by decide +kernel)
set_option maxRecDepth 20000 in
theorem gX2_length_X2_digits : GoodIn wsX2_length (va_wsS RX2 156 yX2_digits wsX2_digits) := goodIn_app (goodIn_of _ (by decide +kernel)) ggX2_length_X2_digits
theorem dX2_length_0 : decode cX2_length 0 = .ok (.aload_n 0, 1) := by decide +kernel
theorem dX2_length_1 : decode cX2_length 1 = .ok (.iload_n 1, 1) := by decide +kernel
theorem dX2_length_2 : decode cX2_length 2 = .ok (.invokevirtual 80, 3) := by decide +kernel
theorem dX2_length_5 : decode cX2_length 5 = .ok (.ifCond .ne 5, 3) := by decide +kernel
theorem dX2_length_8 : decode cX2_length 8 = .ok (.iconst (-1), 1) := by decide +kernel
theorem dX2_length_9 : decode cX2_length 9 = .ok (.ireturn, 1) := by decide +kernel
theorem dX2_length_10 : decode cX2_length 10 = .ok (.aload_n 0, 1) := by decide +kernel
theorem dX2_length_11 : decode cX2_length 11 = .ok (.getfield 12, 3) := by decide +kernel
theorem dX2_length_14 : decode cX2_length 14 = .ok (.iload_n 1, 1) := by decide +kernel
theorem dX2_length_15 : decode cX2_length 15 = .ok (.invokevirtual 84, 3) := by decide +kernel
theorem dX2_length_18 : decode cX2_length 18 = .ok (.tableswitch 74 3 7 #[34, 46, 46, 46, 55], 34) := by decide +kernel
theorem dX2_length_52 : decode cX2_length 52 = .ok (.aload_n 0, 1) := by decide +kernel
theorem dX2_length_53 : decode cX2_length 53 = .ok (.getfield 16, 3) := by decide +kernel
theorem dX2_length_56 : decode cX2_length 56 = .ok (.iload_n 1, 1) := by decide +kernel
theorem dX2_length_57 : decode cX2_length 57 = .ok (.invokevirtual 84, 3) := by decide +kernel
theorem dX2_length_60 : decode cX2_length 60 = .ok (.invokestatic 156, 3) := by decide +kernel
theorem dX2_length_63 : decode cX2_length 63 = .ok (.ireturn, 1) := by decide +kernel
theorem dX2_length_64 : decode cX2_length 64 = .ok (.aload_n 0, 1) := by decide +kernel
theorem dX2_length_65 : decode cX2_length 65 = .ok (.getfield 25, 3) := by decide +kernel
theorem dX2_length_68 : decode cX2_length 68 = .ok (.iload_n 1, 1) := by decide +kernel
theorem dX2_length_69 : decode cX2_length 69 = .ok (.invokevirtual 84, 3) := by decide +kernel
theorem dX2_length_72 : decode cX2_length 72 = .ok (.ireturn, 1) := by decide +kernel
theorem dX2_length_73 : decode cX2_length 73 = .ok (.aload_n 0, 1) := by decide +kernel
theorem dX2_length_74 : decode cX2_length 74 = .ok (.getfield 34, 3) := by decide +kernel
theorem dX2_length_77 : decode cX2_length 77 = .ok (.getfield 159, 3) := by decide +kernel
theorem dX2_length_80 : decode cX2_length 80 = .ok (.aload_n 0, 1) := by decide +kernel
theorem dX2_length_81 : decode cX2_length 81 = .ok (.getfield 19, 3) := by decide +kernel
theorem dX2_length_84 : decode cX2_length 84 = .ok (.iload_n 1, 1) := by decide +kernel
theorem dX2_length_85 : decode cX2_length 85 = .ok (.invokevirtual 84, 3) := by decide +kernel
theorem dX2_length_88 : decode cX2_length 88 = .ok (.invokevirtual 84, 3) := by decide +kernel
theorem dX2_length_91 : decode cX2_length 91 = .ok (.ireturn, 1) := by decide +kernel
theorem dX2_length_92 : decode cX2_length 92 = .ok (.bipush (-3), 2) := by decide +kernel
theorem dX2_length_94 : decode cX2_length 94 = .ok (.ireturn, 1) := by decide +kernel
set_option maxRecDepth 20000 in
theorem ggX2_entry_X2_known : GoodIn wsX2_entry wsX2_known := goodIn_r _ [8, 9, 107, 108, 109, 110, 111, 112, 113, 114, 115, 116] (by decide +kernel) (by decide +kernel)
set_option maxRecDepth 20000 in
theorem gX2_entry_X2_known : GoodIn wsX2_entry (wsV RX2 80 RX2 yX2_known wsX2_known) := goodIn_app (goodIn_of _ (by decide +kernel)) ggX2_entry_X2_known
set_option maxRecDepth 20000 in
theorem ggX2_entry_X2_keyFor : GoodIn wsX2_entry wsX2_keyFor := goodIn_r _ [13, 1, 14, 15, 16, 17, 18, 19, 20, 21, 22, 7, 23, 24, 25, 26, 27, 28, 29, 30, 31, 32, 2, 33, 34, 35, 36, 37, 38, 39, 40, 41, 42, 43, 44, 45, 46, 47, 48, 49, 50, 51, 52, 53, 3, 54, 55, 56, 107, 108, 109, 110, 111, 112, 113, 114, 115, 116, 124, 125, 117, 118, 119, 120, 121, 122, 123] (by decide +kernel) (by decide +kernel)
set_option maxRecDepth 20000 in
theorem gX2_entry_X2_keyFor : GoodIn wsX2_entry (wsV RX2 162 RX2 yX2_keyFor wsX2_keyFor) := goodIn_app (goodIn_of _ (by decide +kernel)) ggX2_entry_X2_keyFor
set_option maxRecDepth 20000 in
theorem ggX2_entry_X1_at : GoodIn wsX2_entry wsX1_at := goodIn_r _ [18, 19, 124, 125] (by decide +kernel) (by decide +kernel)
set_option maxRecDepth 20000 in
theorem gX2_entry_X1_at : GoodIn wsX2_entry (wsV RX2 84 RX1 yX1_at wsX1_at) := goodIn_app (goodIn_of _ (by decide +kernel)) ggX2_entry_X1_at
set_option maxRecDepth 20000 in
theorem ggX2_entry_X2_accessOf : GoodIn wsX2_entry wsX2_accessOf := goodIn_r _ [32, 2, 33, 34, 35, 36, 7, 37, 1, 38, 14, 15, 16, 17, 18, 19, 107, 108, 109, 110, 111, 112, 113, 114, 115, 116, 117, 118, 119, 120, 121, 122, 123, 124, 125] (by decide +kernel) (by decide +kernel)
set_option maxRecDepth 20000 in
theorem gX2_entry_X2_accessOf : GoodIn wsX2_entry (wsV RX2 93 RX2 yX2_accessOf wsX2_accessOf) := goodIn_app (goodIn_of _ (by decide +kernel)) ggX2_entry_X2_accessOf
set_option maxRecDepth 20000 in
theorem ggX2_entry_X2_placeOf : GoodIn wsX2_entry wsX2_placeOf := goodIn_r _ [60, 2, 61, 38, 3, 14, 15, 16, 17, 18, 19, 62, 63, 64, 7, 65, 48, 66, 67, 68, 69, 70, 71, 72, 73, 1, 43, 74, 75, 76, 77, 78, 79, 80, 24, 107, 108, 109, 110, 111, 112, 113, 114, 115, 116, 117, 118, 119, 120, 121, 122, 123, 124, 125] (by decide +kernel) (by decide +kernel)
set_option maxRecDepth 20000 in
theorem gX2_entry_X2_placeOf : GoodIn wsX2_entry (wsV RX2 165 RX2 yX2_placeOf wsX2_placeOf) := goodIn_app (goodIn_of _ (by decide +kernel)) ggX2_entry_X2_placeOf
set_option maxRecDepth 20000 in
theorem ggX2_entry_X2_addKey : GoodIn wsX2_entry wsX2_addKey := goodIn_r _ [84, 38, 2, 61, 85, 3, 14, 15, 16, 17, 18, 19, 86, 87, 88, 7, 89, 90, 91, 92, 93, 94, 95, 96, 97, 98, 99, 100, 101, 102, 62, 63, 64, 65, 48, 107, 108, 109, 110, 111, 112, 113, 114, 115, 116, 117, 118, 119, 120, 121, 122, 123, 124, 125] (by decide +kernel) (by decide +kernel)
set_option maxRecDepth 20000 in
theorem gX2_entry_X2_addKey : GoodIn wsX2_entry (wsV RX2 168 RX2 yX2_addKey wsX2_addKey) := goodIn_app (goodIn_of _ (by decide +kernel)) ggX2_entry_X2_addKey
set_option maxRecDepth 20000 in
theorem ggX2_entry_X2_valueCell : GoodIn wsX2_entry wsX2_valueCell := goodIn_r _ [106, 48, 14, 15, 16, 17, 18, 19, 107, 108, 109, 110, 111, 112, 113, 114, 115, 116, 124, 125] (by decide +kernel) (by decide +kernel)
set_option maxRecDepth 20000 in
theorem gX2_entry_X2_valueCell : GoodIn wsX2_entry (wsV RX2 171 RX2 yX2_valueCell wsX2_valueCell) := goodIn_app (goodIn_of _ (by decide +kernel)) ggX2_entry_X2_valueCell
set_option maxRecDepth 20000 in
theorem ggX2_entry_X1_set : GoodIn wsX2_entry wsX1_set := goodIn_r _ [99, 19, 124, 125] (by decide +kernel) (by decide +kernel)
set_option maxRecDepth 20000 in
theorem gX2_entry_X1_set : GoodIn wsX2_entry (wsV RX2 100 RX1 yX1_set wsX1_set) := goodIn_app (goodIn_of _ (by decide +kernel)) ggX2_entry_X1_set
theorem dX2_entry_0 : decode cX2_entry 0 = .ok (.aload_n 0, 1) := by decide +kernel
theorem dX2_entry_1 : decode cX2_entry 1 = .ok (.iload_n 1, 1) := by decide +kernel
theorem dX2_entry_2 : decode cX2_entry 2 = .ok (.invokevirtual 80, 3) := by decide +kernel
theorem dX2_entry_5 : decode cX2_entry 5 = .ok (.ifCond .eq 19, 3) := by decide +kernel
theorem dX2_entry_8 : decode cX2_entry 8 = .ok (.aload_n 0, 1) := by decide +kernel
theorem dX2_entry_9 : decode cX2_entry 9 = .ok (.iload_n 2, 1) := by decide +kernel
theorem dX2_entry_10 : decode cX2_entry 10 = .ok (.invokevirtual 80, 3) := by decide +kernel
theorem dX2_entry_13 : decode cX2_entry 13 = .ok (.ifCond .eq 11, 3) := by decide +kernel
theorem dX2_entry_16 : decode cX2_entry 16 = .ok (.aload_n 0, 1) := by decide +kernel
theorem dX2_entry_17 : decode cX2_entry 17 = .ok (.iload_n 3, 1) := by decide +kernel
theorem dX2_entry_18 : decode cX2_entry 18 = .ok (.invokevirtual 80, 3) := by decide +kernel
theorem dX2_entry_21 : decode cX2_entry 21 = .ok (.ifCond .ne 5, 3) := by decide +kernel
theorem dX2_entry_24 : decode cX2_entry 24 = .ok (.iconst (-1), 1) := by decide +kernel
theorem dX2_entry_25 : decode cX2_entry 25 = .ok (.ireturn, 1) := by decide +kernel
theorem dX2_entry_26 : decode cX2_entry 26 = .ok (.aload_n 0, 1) := by decide +kernel
theorem dX2_entry_27 : decode cX2_entry 27 = .ok (.iload_n 2, 1) := by decide +kernel
theorem dX2_entry_28 : decode cX2_entry 28 = .ok (.invokevirtual 162, 3) := by decide +kernel
theorem dX2_entry_31 : decode cX2_entry 31 = .ok (.istore 4, 2) := by decide +kernel
theorem dX2_entry_33 : decode cX2_entry 33 = .ok (.aload_n 0, 1) := by decide +kernel
theorem dX2_entry_34 : decode cX2_entry 34 = .ok (.getfield 12, 3) := by decide +kernel
theorem dX2_entry_37 : decode cX2_entry 37 = .ok (.iload_n 1, 1) := by decide +kernel
theorem dX2_entry_38 : decode cX2_entry 38 = .ok (.invokevirtual 84, 3) := by decide +kernel
theorem dX2_entry_41 : decode cX2_entry 41 = .ok (.bipush 7, 2) := by decide +kernel
theorem dX2_entry_43 : decode cX2_entry 43 = .ok (.if_icmp .ne 18, 3) := by decide +kernel
theorem dX2_entry_46 : decode cX2_entry 46 = .ok (.aload_n 0, 1) := by decide +kernel
theorem dX2_entry_47 : decode cX2_entry 47 = .ok (.iload_n 1, 1) := by decide +kernel
theorem dX2_entry_48 : decode cX2_entry 48 = .ok (.invokevirtual 93, 3) := by decide +kernel
theorem dX2_entry_51 : decode cX2_entry 51 = .ok (.iconst 3, 1) := by decide +kernel
theorem dX2_entry_52 : decode cX2_entry 52 = .ok (.if_icmp .ne 9, 3) := by decide +kernel
theorem dX2_entry_55 : decode cX2_entry 55 = .ok (.iload 4, 2) := by decide +kernel
theorem dX2_entry_57 : decode cX2_entry 57 = .ok (.iconst (-1), 1) := by decide +kernel
theorem dX2_entry_58 : decode cX2_entry 58 = .ok (.if_icmp .ne 6, 3) := by decide +kernel
theorem dX2_entry_61 : decode cX2_entry 61 = .ok (.bipush (-3), 2) := by decide +kernel
theorem dX2_entry_63 : decode cX2_entry 63 = .ok (.ireturn, 1) := by decide +kernel
theorem dX2_entry_64 : decode cX2_entry 64 = .ok (.aload_n 0, 1) := by decide +kernel
theorem dX2_entry_65 : decode cX2_entry 65 = .ok (.iload_n 1, 1) := by decide +kernel
theorem dX2_entry_66 : decode cX2_entry 66 = .ok (.iload 4, 2) := by decide +kernel
theorem dX2_entry_68 : decode cX2_entry 68 = .ok (.invokevirtual 165, 3) := by decide +kernel
theorem dX2_entry_71 : decode cX2_entry 71 = .ok (.istore 5, 2) := by decide +kernel
theorem dX2_entry_73 : decode cX2_entry 73 = .ok (.iload 5, 2) := by decide +kernel
theorem dX2_entry_75 : decode cX2_entry 75 = .ok (.iconst (-1), 1) := by decide +kernel
theorem dX2_entry_76 : decode cX2_entry 76 = .ok (.if_icmp .ne 12, 3) := by decide +kernel
theorem dX2_entry_79 : decode cX2_entry 79 = .ok (.aload_n 0, 1) := by decide +kernel
theorem dX2_entry_80 : decode cX2_entry 80 = .ok (.iload_n 1, 1) := by decide +kernel
theorem dX2_entry_81 : decode cX2_entry 81 = .ok (.iload 4, 2) := by decide +kernel
theorem dX2_entry_83 : decode cX2_entry 83 = .ok (.invokevirtual 168, 3) := by decide +kernel
theorem dX2_entry_86 : decode cX2_entry 86 = .ok (.istore 5, 2) := by decide +kernel
theorem dX2_entry_88 : decode cX2_entry 88 = .ok (.iload 5, 2) := by decide +kernel
theorem dX2_entry_90 : decode cX2_entry 90 = .ok (.iconst (-1), 1) := by decide +kernel
theorem dX2_entry_91 : decode cX2_entry 91 = .ok (.if_icmp .ne 6, 3) := by decide +kernel
theorem dX2_entry_94 : decode cX2_entry 94 = .ok (.bipush (-4), 2) := by decide +kernel
theorem dX2_entry_96 : decode cX2_entry 96 = .ok (.ireturn, 1) := by decide +kernel
theorem dX2_entry_97 : decode cX2_entry 97 = .ok (.aload_n 0, 1) := by decide +kernel
theorem dX2_entry_98 : decode cX2_entry 98 = .ok (.getfield 34, 3) := by decide +kernel
theorem dX2_entry_101 : decode cX2_entry 101 = .ok (.getfield 67, 3) := by decide +kernel
theorem dX2_entry_104 : decode cX2_entry 104 = .ok (.aload_n 0, 1) := by decide +kernel
theorem dX2_entry_105 : decode cX2_entry 105 = .ok (.iload_n 1, 1) := by decide +kernel
theorem dX2_entry_106 : decode cX2_entry 106 = .ok (.iload 5, 2) := by decide +kernel
theorem dX2_entry_108 : decode cX2_entry 108 = .ok (.invokevirtual 171, 3) := by decide +kernel
theorem dX2_entry_111 : decode cX2_entry 111 = .ok (.iload_n 3, 1) := by decide +kernel
theorem dX2_entry_112 : decode cX2_entry 112 = .ok (.invokevirtual 100, 3) := by decide +kernel
theorem dX2_entry_115 : decode cX2_entry 115 = .ok (.iconst 1, 1) := by decide +kernel
theorem dX2_entry_116 : decode cX2_entry 116 = .ok (.ireturn, 1) := by decide +kernel
set_option maxRecDepth 20000 in
theorem ggX2_look_X2_known : GoodIn wsX2_look wsX2_known := goodIn_r _ [8, 9, 85, 86, 87, 88, 89, 90, 91, 92, 93, 94] (by decide +kernel) (by decide +kernel)
set_option maxRecDepth 20000 in
theorem gX2_look_X2_known : GoodIn wsX2_look (wsV RX2 80 RX2 yX2_known wsX2_known) := goodIn_app (goodIn_of _ (by decide +kernel)) ggX2_look_X2_known
set_option maxRecDepth 20000 in
theorem ggX2_look_X2_keyFor : GoodIn wsX2_look wsX2_keyFor := goodIn_r _ [13, 1, 14, 15, 16, 17, 18, 19, 20, 21, 22, 7, 23, 24, 25, 26, 27, 28, 29, 30, 31, 32, 2, 33, 34, 35, 36, 37, 38, 39, 40, 41, 42, 43, 44, 45, 46, 47, 48, 49, 50, 51, 52, 53, 3, 54, 55, 56, 85, 86, 87, 88, 89, 90, 91, 92, 93, 94, 102, 103, 95, 96, 97, 98, 99, 100, 101] (by decide +kernel) (by decide +kernel)
set_option maxRecDepth 20000 in
theorem gX2_look_X2_keyFor : GoodIn wsX2_look (wsV RX2 162 RX2 yX2_keyFor wsX2_keyFor) := goodIn_app (goodIn_of _ (by decide +kernel)) ggX2_look_X2_keyFor
set_option maxRecDepth 20000 in
theorem ggX2_look_X1_at : GoodIn wsX2_look wsX1_at := goodIn_r _ [18, 19, 102, 103] (by decide +kernel) (by decide +kernel)
set_option maxRecDepth 20000 in
theorem gX2_look_X1_at : GoodIn wsX2_look (wsV RX2 84 RX1 yX1_at wsX1_at) := goodIn_app (goodIn_of _ (by decide +kernel)) ggX2_look_X1_at
set_option maxRecDepth 20000 in
theorem ggX2_look_X2_accessOf : GoodIn wsX2_look wsX2_accessOf := goodIn_r _ [32, 2, 33, 34, 35, 36, 7, 37, 1, 38, 14, 15, 16, 17, 18, 19, 85, 86, 87, 88, 89, 90, 91, 92, 93, 94, 95, 96, 97, 98, 99, 100, 101, 102, 103] (by decide +kernel) (by decide +kernel)
set_option maxRecDepth 20000 in
theorem gX2_look_X2_accessOf : GoodIn wsX2_look (wsV RX2 93 RX2 yX2_accessOf wsX2_accessOf) := goodIn_app (goodIn_of _ (by decide +kernel)) ggX2_look_X2_accessOf
set_option maxRecDepth 20000 in
theorem ggX2_look_X2_placeOf : GoodIn wsX2_look wsX2_placeOf := goodIn_r _ [60, 2, 61, 38, 3, 14, 15, 16, 17, 18, 19, 62, 63, 64, 7, 65, 48, 66, 67, 68, 69, 70, 71, 72, 73, 1, 43, 74, 75, 76, 77, 78, 79, 80, 24, 85, 86, 87, 88, 89, 90, 91, 92, 93, 94, 95, 96, 97, 98, 99, 100, 101, 102, 103] (by decide +kernel) (by decide +kernel)
set_option maxRecDepth 20000 in
theorem gX2_look_X2_placeOf : GoodIn wsX2_look (wsV RX2 165 RX2 yX2_placeOf wsX2_placeOf) := goodIn_app (goodIn_of _ (by decide +kernel)) ggX2_look_X2_placeOf
set_option maxRecDepth 20000 in
theorem ggX2_look_X2_valueCell : GoodIn wsX2_look wsX2_valueCell := goodIn_r _ [84, 48, 14, 15, 16, 17, 18, 19, 85, 86, 87, 88, 89, 90, 91, 92, 93, 94, 102, 103] (by decide +kernel) (by decide +kernel)
set_option maxRecDepth 20000 in
theorem gX2_look_X2_valueCell : GoodIn wsX2_look (wsV RX2 171 RX2 yX2_valueCell wsX2_valueCell) := goodIn_app (goodIn_of _ (by decide +kernel)) ggX2_look_X2_valueCell
theorem dX2_look_0 : decode cX2_look 0 = .ok (.aload_n 0, 1) := by decide +kernel
theorem dX2_look_1 : decode cX2_look 1 = .ok (.iload_n 1, 1) := by decide +kernel
theorem dX2_look_2 : decode cX2_look 2 = .ok (.invokevirtual 80, 3) := by decide +kernel
theorem dX2_look_5 : decode cX2_look 5 = .ok (.ifCond .eq 11, 3) := by decide +kernel
theorem dX2_look_8 : decode cX2_look 8 = .ok (.aload_n 0, 1) := by decide +kernel
theorem dX2_look_9 : decode cX2_look 9 = .ok (.iload_n 2, 1) := by decide +kernel
theorem dX2_look_10 : decode cX2_look 10 = .ok (.invokevirtual 80, 3) := by decide +kernel
theorem dX2_look_13 : decode cX2_look 13 = .ok (.ifCond .ne 5, 3) := by decide +kernel
theorem dX2_look_16 : decode cX2_look 16 = .ok (.iconst (-1), 1) := by decide +kernel
theorem dX2_look_17 : decode cX2_look 17 = .ok (.ireturn, 1) := by decide +kernel
theorem dX2_look_18 : decode cX2_look 18 = .ok (.aload_n 0, 1) := by decide +kernel
theorem dX2_look_19 : decode cX2_look 19 = .ok (.iload_n 2, 1) := by decide +kernel
theorem dX2_look_20 : decode cX2_look 20 = .ok (.invokevirtual 162, 3) := by decide +kernel
theorem dX2_look_23 : decode cX2_look 23 = .ok (.istore_n 3, 1) := by decide +kernel
theorem dX2_look_24 : decode cX2_look 24 = .ok (.aload_n 0, 1) := by decide +kernel
theorem dX2_look_25 : decode cX2_look 25 = .ok (.getfield 12, 3) := by decide +kernel
theorem dX2_look_28 : decode cX2_look 28 = .ok (.iload_n 1, 1) := by decide +kernel
theorem dX2_look_29 : decode cX2_look 29 = .ok (.invokevirtual 84, 3) := by decide +kernel
theorem dX2_look_32 : decode cX2_look 32 = .ok (.bipush 7, 2) := by decide +kernel
theorem dX2_look_34 : decode cX2_look 34 = .ok (.if_icmp .ne 17, 3) := by decide +kernel
theorem dX2_look_37 : decode cX2_look 37 = .ok (.aload_n 0, 1) := by decide +kernel
theorem dX2_look_38 : decode cX2_look 38 = .ok (.iload_n 1, 1) := by decide +kernel
theorem dX2_look_39 : decode cX2_look 39 = .ok (.invokevirtual 93, 3) := by decide +kernel
theorem dX2_look_42 : decode cX2_look 42 = .ok (.iconst 2, 1) := by decide +kernel
theorem dX2_look_43 : decode cX2_look 43 = .ok (.if_icmp .lt 8, 3) := by decide +kernel
theorem dX2_look_46 : decode cX2_look 46 = .ok (.iload_n 3, 1) := by decide +kernel
theorem dX2_look_47 : decode cX2_look 47 = .ok (.iconst (-1), 1) := by decide +kernel
theorem dX2_look_48 : decode cX2_look 48 = .ok (.if_icmp .ne 6, 3) := by decide +kernel
theorem dX2_look_51 : decode cX2_look 51 = .ok (.bipush (-3), 2) := by decide +kernel
theorem dX2_look_53 : decode cX2_look 53 = .ok (.ireturn, 1) := by decide +kernel
theorem dX2_look_54 : decode cX2_look 54 = .ok (.aload_n 0, 1) := by decide +kernel
theorem dX2_look_55 : decode cX2_look 55 = .ok (.iload_n 1, 1) := by decide +kernel
theorem dX2_look_56 : decode cX2_look 56 = .ok (.iload_n 3, 1) := by decide +kernel
theorem dX2_look_57 : decode cX2_look 57 = .ok (.invokevirtual 165, 3) := by decide +kernel
theorem dX2_look_60 : decode cX2_look 60 = .ok (.istore 4, 2) := by decide +kernel
theorem dX2_look_62 : decode cX2_look 62 = .ok (.iload 4, 2) := by decide +kernel
theorem dX2_look_64 : decode cX2_look 64 = .ok (.iconst (-1), 1) := by decide +kernel
theorem dX2_look_65 : decode cX2_look 65 = .ok (.if_icmp .ne 8, 3) := by decide +kernel
theorem dX2_look_68 : decode cX2_look 68 = .ok (.bipush (-5), 2) := by decide +kernel
theorem dX2_look_70 : decode cX2_look 70 = .ok (.goto 20, 3) := by decide +kernel
theorem dX2_look_73 : decode cX2_look 73 = .ok (.aload_n 0, 1) := by decide +kernel
theorem dX2_look_74 : decode cX2_look 74 = .ok (.getfield 34, 3) := by decide +kernel
theorem dX2_look_77 : decode cX2_look 77 = .ok (.getfield 67, 3) := by decide +kernel
theorem dX2_look_80 : decode cX2_look 80 = .ok (.aload_n 0, 1) := by decide +kernel
theorem dX2_look_81 : decode cX2_look 81 = .ok (.iload_n 1, 1) := by decide +kernel
theorem dX2_look_82 : decode cX2_look 82 = .ok (.iload 4, 2) := by decide +kernel
theorem dX2_look_84 : decode cX2_look 84 = .ok (.invokevirtual 171, 3) := by decide +kernel
theorem dX2_look_87 : decode cX2_look 87 = .ok (.invokevirtual 84, 3) := by decide +kernel
theorem dX2_look_90 : decode cX2_look 90 = .ok (.ireturn, 1) := by decide +kernel
set_option maxRecDepth 20000 in
theorem ggX2_kind_X2_known : GoodIn wsX2_kind wsX2_known := goodIn_r _ [6, 7, 14, 15, 16, 17, 18, 19, 20, 21, 22, 23] (by decide +kernel) (by decide +kernel)
set_option maxRecDepth 20000 in
theorem gX2_kind_X2_known : GoodIn wsX2_kind (wsV RX2 80 RX2 yX2_known wsX2_known) := goodIn_app (goodIn_of _ (by decide +kernel)) ggX2_kind_X2_known
set_option maxRecDepth 20000 in
theorem ggX2_kind_X1_at : GoodIn wsX2_kind wsX1_at := goodIn_r _ [12, 13, 24, 25] (by decide +kernel) (by decide +kernel)
set_option maxRecDepth 20000 in
theorem gX2_kind_X1_at : GoodIn wsX2_kind (wsV RX2 84 RX1 yX1_at wsX1_at) := goodIn_app (goodIn_of _ (by decide +kernel)) ggX2_kind_X1_at
theorem dX2_kind_0 : decode cX2_kind 0 = .ok (.aload_n 0, 1) := by decide +kernel
theorem dX2_kind_1 : decode cX2_kind 1 = .ok (.iload_n 1, 1) := by decide +kernel
theorem dX2_kind_2 : decode cX2_kind 2 = .ok (.invokevirtual 80, 3) := by decide +kernel
theorem dX2_kind_5 : decode cX2_kind 5 = .ok (.ifCond .eq 14, 3) := by decide +kernel
theorem dX2_kind_8 : decode cX2_kind 8 = .ok (.aload_n 0, 1) := by decide +kernel
theorem dX2_kind_9 : decode cX2_kind 9 = .ok (.getfield 12, 3) := by decide +kernel
theorem dX2_kind_12 : decode cX2_kind 12 = .ok (.iload_n 1, 1) := by decide +kernel
theorem dX2_kind_13 : decode cX2_kind 13 = .ok (.invokevirtual 84, 3) := by decide +kernel
theorem dX2_kind_16 : decode cX2_kind 16 = .ok (.goto 4, 3) := by decide +kernel
theorem dX2_kind_19 : decode cX2_kind 19 = .ok (.iconst (-1), 1) := by decide +kernel
theorem dX2_kind_20 : decode cX2_kind 20 = .ok (.ireturn, 1) := by decide +kernel
theorem dX2_used_0 : decode cX2_used 0 = .ok (.aload_n 0, 1) := by decide +kernel
theorem dX2_used_1 : decode cX2_used 1 = .ok (.getfield 34, 3) := by decide +kernel
theorem dX2_used_4 : decode cX2_used 4 = .ok (.getfield 57, 3) := by decide +kernel
theorem dX2_used_7 : decode cX2_used 7 = .ok (.ireturn, 1) := by decide +kernel
set_option maxRecDepth 20000 in
theorem ggX2_restore_X2_known : GoodIn wsX2_restore wsX2_known := goodIn_r _ [14, 9, 75, 76, 77, 78, 79, 80, 81, 82, 83, 84] (by decide +kernel) (by decide +kernel)
set_option maxRecDepth 20000 in
theorem gX2_restore_X2_known : GoodIn wsX2_restore (wsV RX2 80 RX2 yX2_known wsX2_known) := goodIn_app (goodIn_of _ (by decide +kernel)) ggX2_restore_X2_known
set_option maxRecDepth 20000 in
theorem ggX2_restore_X2_keptBy : GoodIn wsX2_restore wsX2_keptBy := goodIn_r _ [18, 1, 6, 19, 20, 21, 22, 23, 24, 25, 75, 76, 77, 78, 79, 80, 81, 82, 83, 84, 85, 86] (by decide +kernel) (by decide +kernel)
set_option maxRecDepth 20000 in
theorem gX2_restore_X2_keptBy : GoodIn wsX2_restore (wsV RX2 174 RX2 yX2_keptBy wsX2_keptBy) := goodIn_app (goodIn_of _ (by decide +kernel)) ggX2_restore_X2_keptBy
set_option maxRecDepth 20000 in
theorem ggX2_restore_X1_at : GoodIn wsX2_restore wsX1_at := goodIn_r _ [24, 25, 85, 86] (by decide +kernel) (by decide +kernel)
set_option maxRecDepth 20000 in
theorem gX2_restore_X1_at : GoodIn wsX2_restore (wsV RX2 84 RX1 yX1_at wsX1_at) := goodIn_app (goodIn_of _ (by decide +kernel)) ggX2_restore_X1_at
set_option maxRecDepth 20000 in
theorem ggX2_restore_X1_cut : GoodIn wsX2_restore wsX1_cut := goodIn_r _ [29, 30, 85, 86] (by decide +kernel) (by decide +kernel)
set_option maxRecDepth 20000 in
theorem gX2_restore_X1_cut : GoodIn wsX2_restore (wsV RX2 178 RX1 yX1_cut wsX1_cut) := goodIn_app (goodIn_of _ (by decide +kernel)) ggX2_restore_X1_cut
set_option maxRecDepth 20000 in
theorem ggX2_restore_X0_become : GoodIn wsX2_restore wsX0_become := goodIn_r _ [35, 36, 37, 38, 39, 40, 41, 42, 43, 44, 45, 23, 46, 30, 25, 47, 48, 49, 50, 51, 52, 53, 54, 55, 56, 57, 58, 59, 60, 61, 62, 63, 64, 65, 66, 67, 68, 69, 70, 71, 72, 73, 74, 87, 88, 89, 90, 91, 92, 93, 85, 86] (by decide +kernel) (by decide +kernel)
set_option maxRecDepth 20000 in
theorem gX2_restore_X0_become : GoodIn wsX2_restore (wsV RX2 182 RX0 yX0_become wsX0_become) := goodIn_app (goodIn_of _ (by decide +kernel)) ggX2_restore_X0_become
theorem dX2_restore_0 : decode cX2_restore 0 = .ok (.aload_n 0, 1) := by decide +kernel
theorem dX2_restore_1 : decode cX2_restore 1 = .ok (.iload_n 1, 1) := by decide +kernel
theorem dX2_restore_2 : decode cX2_restore 2 = .ok (.invokevirtual 80, 3) := by decide +kernel
theorem dX2_restore_5 : decode cX2_restore 5 = .ok (.ifCond .ne 5, 3) := by decide +kernel
theorem dX2_restore_8 : decode cX2_restore 8 = .ok (.iconst (-1), 1) := by decide +kernel
theorem dX2_restore_9 : decode cX2_restore 9 = .ok (.ireturn, 1) := by decide +kernel
theorem dX2_restore_10 : decode cX2_restore 10 = .ok (.aload_n 0, 1) := by decide +kernel
theorem dX2_restore_11 : decode cX2_restore 11 = .ok (.iload_n 1, 1) := by decide +kernel
theorem dX2_restore_12 : decode cX2_restore 12 = .ok (.invokevirtual 174, 3) := by decide +kernel
theorem dX2_restore_15 : decode cX2_restore 15 = .ok (.astore_n 2, 1) := by decide +kernel
theorem dX2_restore_16 : decode cX2_restore 16 = .ok (.aload_n 2, 1) := by decide +kernel
theorem dX2_restore_17 : decode cX2_restore 17 = .ok (.ifnonnull 6, 3) := by decide +kernel
theorem dX2_restore_20 : decode cX2_restore 20 = .ok (.bipush (-3), 2) := by decide +kernel
theorem dX2_restore_22 : decode cX2_restore 22 = .ok (.ireturn, 1) := by decide +kernel
theorem dX2_restore_23 : decode cX2_restore 23 = .ok (.aload_n 0, 1) := by decide +kernel
theorem dX2_restore_24 : decode cX2_restore 24 = .ok (.aload_n 0, 1) := by decide +kernel
theorem dX2_restore_25 : decode cX2_restore 25 = .ok (.getfield 16, 3) := by decide +kernel
theorem dX2_restore_28 : decode cX2_restore 28 = .ok (.iload_n 1, 1) := by decide +kernel
theorem dX2_restore_29 : decode cX2_restore 29 = .ok (.invokevirtual 84, 3) := by decide +kernel
theorem dX2_restore_32 : decode cX2_restore 32 = .ok (.putfield 54, 3) := by decide +kernel
theorem dX2_restore_35 : decode cX2_restore 35 = .ok (.aload_n 0, 1) := by decide +kernel
theorem dX2_restore_36 : decode cX2_restore 36 = .ok (.getfield 28, 3) := by decide +kernel
theorem dX2_restore_39 : decode cX2_restore 39 = .ok (.aload_n 0, 1) := by decide +kernel
theorem dX2_restore_40 : decode cX2_restore 40 = .ok (.getfield 22, 3) := by decide +kernel
theorem dX2_restore_43 : decode cX2_restore 43 = .ok (.iload_n 1, 1) := by decide +kernel
theorem dX2_restore_44 : decode cX2_restore 44 = .ok (.invokevirtual 84, 3) := by decide +kernel
theorem dX2_restore_47 : decode cX2_restore 47 = .ok (.invokevirtual 178, 3) := by decide +kernel
theorem dX2_restore_50 : decode cX2_restore 50 = .ok (.aload_n 0, 1) := by decide +kernel
theorem dX2_restore_51 : decode cX2_restore 51 = .ok (.getfield 34, 3) := by decide +kernel
theorem dX2_restore_54 : decode cX2_restore 54 = .ok (.aload_n 2, 1) := by decide +kernel
theorem dX2_restore_55 : decode cX2_restore 55 = .ok (.invokevirtual 182, 3) := by decide +kernel
theorem dX2_restore_58 : decode cX2_restore 58 = .ok (.aload_n 0, 1) := by decide +kernel
theorem dX2_restore_59 : decode cX2_restore 59 = .ok (.getfield 12, 3) := by decide +kernel
theorem dX2_restore_62 : decode cX2_restore 62 = .ok (.iload_n 1, 1) := by decide +kernel
theorem dX2_restore_63 : decode cX2_restore 63 = .ok (.invokevirtual 178, 3) := by decide +kernel
theorem dX2_restore_66 : decode cX2_restore 66 = .ok (.aload_n 0, 1) := by decide +kernel
theorem dX2_restore_67 : decode cX2_restore 67 = .ok (.getfield 16, 3) := by decide +kernel
theorem dX2_restore_70 : decode cX2_restore 70 = .ok (.iload_n 1, 1) := by decide +kernel
theorem dX2_restore_71 : decode cX2_restore 71 = .ok (.invokevirtual 178, 3) := by decide +kernel
theorem dX2_restore_74 : decode cX2_restore 74 = .ok (.aload_n 0, 1) := by decide +kernel
theorem dX2_restore_75 : decode cX2_restore 75 = .ok (.getfield 19, 3) := by decide +kernel
theorem dX2_restore_78 : decode cX2_restore 78 = .ok (.iload_n 1, 1) := by decide +kernel
theorem dX2_restore_79 : decode cX2_restore 79 = .ok (.invokevirtual 178, 3) := by decide +kernel
theorem dX2_restore_82 : decode cX2_restore 82 = .ok (.aload_n 0, 1) := by decide +kernel
theorem dX2_restore_83 : decode cX2_restore 83 = .ok (.getfield 22, 3) := by decide +kernel
theorem dX2_restore_86 : decode cX2_restore 86 = .ok (.iload_n 1, 1) := by decide +kernel
theorem dX2_restore_87 : decode cX2_restore 87 = .ok (.invokevirtual 178, 3) := by decide +kernel
theorem dX2_restore_90 : decode cX2_restore 90 = .ok (.aload_n 0, 1) := by decide +kernel
theorem dX2_restore_91 : decode cX2_restore 91 = .ok (.getfield 25, 3) := by decide +kernel
theorem dX2_restore_94 : decode cX2_restore 94 = .ok (.iload_n 1, 1) := by decide +kernel
theorem dX2_restore_95 : decode cX2_restore 95 = .ok (.invokevirtual 178, 3) := by decide +kernel
theorem dX2_restore_98 : decode cX2_restore 98 = .ok (.aload_n 0, 1) := by decide +kernel
theorem dX2_restore_99 : decode cX2_restore 99 = .ok (.iload_n 1, 1) := by decide +kernel
theorem dX2_restore_100 : decode cX2_restore 100 = .ok (.putfield 50, 3) := by decide +kernel
theorem dX2_restore_103 : decode cX2_restore 103 = .ok (.aload_n 0, 1) := by decide +kernel
theorem dX2_restore_104 : decode cX2_restore 104 = .ok (.getfield 50, 3) := by decide +kernel
theorem dX2_restore_107 : decode cX2_restore 107 = .ok (.ireturn, 1) := by decide +kernel
theorem dX2_known_0 : decode cX2_known 0 = .ok (.iload_n 1, 1) := by decide +kernel
theorem dX2_known_1 : decode cX2_known 1 = .ok (.ifCond .lt 15, 3) := by decide +kernel
theorem dX2_known_4 : decode cX2_known 4 = .ok (.iload_n 1, 1) := by decide +kernel
theorem dX2_known_5 : decode cX2_known 5 = .ok (.aload_n 0, 1) := by decide +kernel
theorem dX2_known_6 : decode cX2_known 6 = .ok (.getfield 50, 3) := by decide +kernel
theorem dX2_known_9 : decode cX2_known 9 = .ok (.if_icmp .ge 7, 3) := by decide +kernel
theorem dX2_known_12 : decode cX2_known 12 = .ok (.iconst 1, 1) := by decide +kernel
theorem dX2_known_13 : decode cX2_known 13 = .ok (.goto 4, 3) := by decide +kernel
theorem dX2_known_16 : decode cX2_known 16 = .ok (.iconst 0, 1) := by decide +kernel
theorem dX2_known_17 : decode cX2_known 17 = .ok (.ireturn, 1) := by decide +kernel
theorem dX2_within_0 : decode cX2_within 0 = .ok (.iload_n 0, 1) := by decide +kernel
theorem dX2_within_1 : decode cX2_within 1 = .ok (.ifCond .lt 12, 3) := by decide +kernel
theorem dX2_within_4 : decode cX2_within 4 = .ok (.iload_n 0, 1) := by decide +kernel
theorem dX2_within_5 : decode cX2_within 5 = .ok (.iload_n 1, 1) := by decide +kernel
theorem dX2_within_6 : decode cX2_within 6 = .ok (.if_icmp .gt 7, 3) := by decide +kernel
theorem dX2_within_9 : decode cX2_within 9 = .ok (.iconst 1, 1) := by decide +kernel
theorem dX2_within_10 : decode cX2_within 10 = .ok (.goto 4, 3) := by decide +kernel
theorem dX2_within_13 : decode cX2_within 13 = .ok (.iconst 0, 1) := by decide +kernel
theorem dX2_within_14 : decode cX2_within 14 = .ok (.ireturn, 1) := by decide +kernel
set_option maxRecDepth 20000 in
theorem ggX2_sizeFits_X2_within : GoodIn wsX2_sizeFits wsX2_within := goodIn_r _ [9] (by decide +kernel) (by decide +kernel)
set_option maxRecDepth 20000 in
theorem gX2_sizeFits_X2_within : GoodIn wsX2_sizeFits (va_wsS RX2 90 yX2_within wsX2_within) := goodIn_app (goodIn_of _ (by decide +kernel)) ggX2_sizeFits_X2_within
theorem dX2_sizeFits_0 : decode cX2_sizeFits 0 = .ok (.iload_n 1, 1) := by decide +kernel
theorem dX2_sizeFits_1 : decode cX2_sizeFits 1 = .ok (.tableswitch 88 2 7 #[39, 45, 53, 60, 67, 81], 39) := by decide +kernel
theorem dX2_sizeFits_40 : decode cX2_sizeFits 40 = .ok (.iload_n 2, 1) := by decide +kernel
theorem dX2_sizeFits_41 : decode cX2_sizeFits 41 = .ok (.iconst 1, 1) := by decide +kernel
theorem dX2_sizeFits_42 : decode cX2_sizeFits 42 = .ok (.invokestatic 90, 3) := by decide +kernel
theorem dX2_sizeFits_45 : decode cX2_sizeFits 45 = .ok (.ireturn, 1) := by decide +kernel
theorem dX2_sizeFits_46 : decode cX2_sizeFits 46 = .ok (.iload_n 2, 1) := by decide +kernel
theorem dX2_sizeFits_47 : decode cX2_sizeFits 47 = .ok (.sipush 999, 3) := by decide +kernel
theorem dX2_sizeFits_50 : decode cX2_sizeFits 50 = .ok (.invokestatic 90, 3) := by decide +kernel
theorem dX2_sizeFits_53 : decode cX2_sizeFits 53 = .ok (.ireturn, 1) := by decide +kernel
theorem dX2_sizeFits_54 : decode cX2_sizeFits 54 = .ok (.iload_n 2, 1) := by decide +kernel
theorem dX2_sizeFits_55 : decode cX2_sizeFits 55 = .ok (.bipush 64, 2) := by decide +kernel
theorem dX2_sizeFits_57 : decode cX2_sizeFits 57 = .ok (.invokestatic 90, 3) := by decide +kernel
theorem dX2_sizeFits_60 : decode cX2_sizeFits 60 = .ok (.ireturn, 1) := by decide +kernel
theorem dX2_sizeFits_61 : decode cX2_sizeFits 61 = .ok (.iload_n 2, 1) := by decide +kernel
theorem dX2_sizeFits_62 : decode cX2_sizeFits 62 = .ok (.bipush 32, 2) := by decide +kernel
theorem dX2_sizeFits_64 : decode cX2_sizeFits 64 = .ok (.invokestatic 90, 3) := by decide +kernel
theorem dX2_sizeFits_67 : decode cX2_sizeFits 67 = .ok (.ireturn, 1) := by decide +kernel
theorem dX2_sizeFits_68 : decode cX2_sizeFits 68 = .ok (.iload_n 2, 1) := by decide +kernel
theorem dX2_sizeFits_69 : decode cX2_sizeFits 69 = .ok (.bipush 32, 2) := by decide +kernel
theorem dX2_sizeFits_71 : decode cX2_sizeFits 71 = .ok (.aload_n 0, 1) := by decide +kernel
theorem dX2_sizeFits_72 : decode cX2_sizeFits 72 = .ok (.getfield 50, 3) := by decide +kernel
theorem dX2_sizeFits_75 : decode cX2_sizeFits 75 = .ok (.invokestatic 186, 3) := by decide +kernel
theorem dX2_sizeFits_78 : decode cX2_sizeFits 78 = .ok (.invokestatic 90, 3) := by decide +kernel
theorem dX2_sizeFits_81 : decode cX2_sizeFits 81 = .ok (.ireturn, 1) := by decide +kernel
theorem dX2_sizeFits_82 : decode cX2_sizeFits 82 = .ok (.iload_n 2, 1) := by decide +kernel
theorem dX2_sizeFits_83 : decode cX2_sizeFits 83 = .ok (.bipush 32, 2) := by decide +kernel
theorem dX2_sizeFits_85 : decode cX2_sizeFits 85 = .ok (.invokestatic 90, 3) := by decide +kernel
theorem dX2_sizeFits_88 : decode cX2_sizeFits 88 = .ok (.ireturn, 1) := by decide +kernel
theorem dX2_sizeFits_89 : decode cX2_sizeFits 89 = .ok (.iconst 1, 1) := by decide +kernel
theorem dX2_sizeFits_90 : decode cX2_sizeFits 90 = .ok (.ireturn, 1) := by decide +kernel
set_option maxRecDepth 20000 in
theorem ggX2_isView_X2_isList : GoodIn wsX2_isView wsX2_isList := goodIn_r _ [4] (by decide +kernel) (by decide +kernel)
set_option maxRecDepth 20000 in
theorem gX2_isView_X2_isList : GoodIn wsX2_isView (va_wsS RX2 191 yX2_isList wsX2_isList) := goodIn_app (goodIn_of _ (by decide +kernel)) ggX2_isView_X2_isList
theorem dX2_isView_0 : decode cX2_isView 0 = .ok (.iload_n 0, 1) := by decide +kernel
theorem dX2_isView_1 : decode cX2_isView 1 = .ok (.iconst 4, 1) := by decide +kernel
theorem dX2_isView_2 : decode cX2_isView 2 = .ok (.if_icmp .eq 10, 3) := by decide +kernel
theorem dX2_isView_5 : decode cX2_isView 5 = .ok (.iload_n 0, 1) := by decide +kernel
theorem dX2_isView_6 : decode cX2_isView 6 = .ok (.invokestatic 191, 3) := by decide +kernel
theorem dX2_isView_9 : decode cX2_isView 9 = .ok (.ifCond .eq 7, 3) := by decide +kernel
theorem dX2_isView_12 : decode cX2_isView 12 = .ok (.iconst 1, 1) := by decide +kernel
theorem dX2_isView_13 : decode cX2_isView 13 = .ok (.goto 4, 3) := by decide +kernel
theorem dX2_isView_16 : decode cX2_isView 16 = .ok (.iconst 0, 1) := by decide +kernel
theorem dX2_isView_17 : decode cX2_isView 17 = .ok (.ireturn, 1) := by decide +kernel
theorem dX2_isList_0 : decode cX2_isList 0 = .ok (.iload_n 0, 1) := by decide +kernel
theorem dX2_isList_1 : decode cX2_isList 1 = .ok (.iconst 5, 1) := by decide +kernel
theorem dX2_isList_2 : decode cX2_isList 2 = .ok (.if_icmp .eq 9, 3) := by decide +kernel
theorem dX2_isList_5 : decode cX2_isList 5 = .ok (.iload_n 0, 1) := by decide +kernel
theorem dX2_isList_6 : decode cX2_isList 6 = .ok (.bipush 6, 2) := by decide +kernel
theorem dX2_isList_8 : decode cX2_isList 8 = .ok (.if_icmp .ne 7, 3) := by decide +kernel
theorem dX2_isList_11 : decode cX2_isList 11 = .ok (.iconst 1, 1) := by decide +kernel
theorem dX2_isList_12 : decode cX2_isList 12 = .ok (.goto 4, 3) := by decide +kernel
theorem dX2_isList_15 : decode cX2_isList 15 = .ok (.iconst 0, 1) := by decide +kernel
theorem dX2_isList_16 : decode cX2_isList 16 = .ok (.ireturn, 1) := by decide +kernel
theorem dX2_hasNumber_0 : decode cX2_hasNumber 0 = .ok (.iload_n 0, 1) := by decide +kernel
theorem dX2_hasNumber_1 : decode cX2_hasNumber 1 = .ok (.iconst 1, 1) := by decide +kernel
theorem dX2_hasNumber_2 : decode cX2_hasNumber 2 = .ok (.if_icmp .eq 25, 3) := by decide +kernel
theorem dX2_hasNumber_5 : decode cX2_hasNumber 5 = .ok (.iload_n 0, 1) := by decide +kernel
theorem dX2_hasNumber_6 : decode cX2_hasNumber 6 = .ok (.iconst 2, 1) := by decide +kernel
theorem dX2_hasNumber_7 : decode cX2_hasNumber 7 = .ok (.if_icmp .eq 20, 3) := by decide +kernel
theorem dX2_hasNumber_10 : decode cX2_hasNumber 10 = .ok (.iload_n 0, 1) := by decide +kernel
theorem dX2_hasNumber_11 : decode cX2_hasNumber 11 = .ok (.iconst 3, 1) := by decide +kernel
theorem dX2_hasNumber_12 : decode cX2_hasNumber 12 = .ok (.if_icmp .eq 15, 3) := by decide +kernel
theorem dX2_hasNumber_15 : decode cX2_hasNumber 15 = .ok (.iload_n 0, 1) := by decide +kernel
theorem dX2_hasNumber_16 : decode cX2_hasNumber 16 = .ok (.bipush 9, 2) := by decide +kernel
theorem dX2_hasNumber_18 : decode cX2_hasNumber 18 = .ok (.if_icmp .eq 9, 3) := by decide +kernel
theorem dX2_hasNumber_21 : decode cX2_hasNumber 21 = .ok (.iload_n 0, 1) := by decide +kernel
theorem dX2_hasNumber_22 : decode cX2_hasNumber 22 = .ok (.bipush 10, 2) := by decide +kernel
theorem dX2_hasNumber_24 : decode cX2_hasNumber 24 = .ok (.if_icmp .ne 7, 3) := by decide +kernel
theorem dX2_hasNumber_27 : decode cX2_hasNumber 27 = .ok (.iconst 1, 1) := by decide +kernel
theorem dX2_hasNumber_28 : decode cX2_hasNumber 28 = .ok (.goto 4, 3) := by decide +kernel
theorem dX2_hasNumber_31 : decode cX2_hasNumber 31 = .ok (.iconst 0, 1) := by decide +kernel
theorem dX2_hasNumber_32 : decode cX2_hasNumber 32 = .ok (.ireturn, 1) := by decide +kernel
theorem dX2_firstAccess_0 : decode cX2_firstAccess 0 = .ok (.iload_n 0, 1) := by decide +kernel
theorem dX2_firstAccess_1 : decode cX2_firstAccess 1 = .ok (.tableswitch 43 4 9 #[39, 39, 41, 39, 43, 39], 39) := by decide +kernel
theorem dX2_firstAccess_40 : decode cX2_firstAccess 40 = .ok (.iconst 3, 1) := by decide +kernel
theorem dX2_firstAccess_41 : decode cX2_firstAccess 41 = .ok (.ireturn, 1) := by decide +kernel
theorem dX2_firstAccess_42 : decode cX2_firstAccess 42 = .ok (.iconst 2, 1) := by decide +kernel
theorem dX2_firstAccess_43 : decode cX2_firstAccess 43 = .ok (.ireturn, 1) := by decide +kernel
theorem dX2_firstAccess_44 : decode cX2_firstAccess 44 = .ok (.iconst 0, 1) := by decide +kernel
theorem dX2_firstAccess_45 : decode cX2_firstAccess 45 = .ok (.ireturn, 1) := by decide +kernel
theorem dX2_placeStorage_0 : decode cX2_placeStorage 0 = .ok (.iload_n 0, 1) := by decide +kernel
theorem dX2_placeStorage_1 : decode cX2_placeStorage 1 = .ok (.tableswitch 41 4 7 #[31, 33, 36, 38], 31) := by decide +kernel
theorem dX2_placeStorage_32 : decode cX2_placeStorage 32 = .ok (.iconst 1, 1) := by decide +kernel
theorem dX2_placeStorage_33 : decode cX2_placeStorage 33 = .ok (.ireturn, 1) := by decide +kernel
theorem dX2_placeStorage_34 : decode cX2_placeStorage 34 = .ok (.bipush 8, 2) := by decide +kernel
theorem dX2_placeStorage_36 : decode cX2_placeStorage 36 = .ok (.ireturn, 1) := by decide +kernel
theorem dX2_placeStorage_37 : decode cX2_placeStorage 37 = .ok (.iconst 4, 1) := by decide +kernel
theorem dX2_placeStorage_38 : decode cX2_placeStorage 38 = .ok (.ireturn, 1) := by decide +kernel
theorem dX2_placeStorage_39 : decode cX2_placeStorage 39 = .ok (.bipush 16, 2) := by decide +kernel
theorem dX2_placeStorage_41 : decode cX2_placeStorage 41 = .ok (.ireturn, 1) := by decide +kernel
theorem dX2_placeStorage_42 : decode cX2_placeStorage 42 = .ok (.iconst 0, 1) := by decide +kernel
theorem dX2_placeStorage_43 : decode cX2_placeStorage 43 = .ok (.ireturn, 1) := by decide +kernel
set_option maxRecDepth 20000 in
theorem ggX2_addObject_X1_add : GoodIn wsX2_addObject wsX1_add := goodIn_r _ [13, 14, 15, 16, 17, 12, 18, 19, 20, 21, 22, 23, 24, 25, 26, 27, 28, 29, 30, 31, 32, 33, 34, 35, 36, 37, 38, 39, 40, 41, 42, 43, 44, 45, 78, 79] (by decide +kernel) (by decide +kernel)
set_option maxRecDepth 20000 in
theorem gX2_addObject_X1_add : GoodIn wsX2_addObject (wsV RX2 194 RX1 yX1_add wsX1_add) := goodIn_app (goodIn_of _ (by decide +kernel)) ggX2_addObject_X1_add
set_option maxRecDepth 20000 in
theorem ggX2_addObject_X2_firstAccess : GoodIn wsX2_addObject wsX2_firstAccess := goodIn_r _ [49] (by decide +kernel) (by decide +kernel)
set_option maxRecDepth 20000 in
theorem gX2_addObject_X2_firstAccess : GoodIn wsX2_addObject (va_wsS RX2 197 yX2_firstAccess wsX2_firstAccess) := goodIn_app (goodIn_of _ (by decide +kernel)) ggX2_addObject_X2_firstAccess
set_option maxRecDepth 20000 in
theorem ggX2_addObject_X0_addCells : GoodIn wsX2_addObject wsX0_addCells := goodIn_r _ [54, 55, 56, 57, 58, 59, 60, 10, 11, 12, 13, 14, 15, 16, 17, 18, 19, 20, 21, 22, 23, 24, 25, 26, 27, 28, 29, 30, 31, 32, 33, 34, 35, 36, 37, 38, 39, 40, 41, 42, 43, 44, 45, 71, 72, 73, 74, 75, 76, 77, 78, 79] (by decide +kernel) (by decide +kernel)
set_option maxRecDepth 20000 in
theorem gX2_addObject_X0_addCells : GoodIn wsX2_addObject (wsV RX2 200 RX0 yX0_addCells wsX0_addCells) := goodIn_app (goodIn_of _ (by decide +kernel)) ggX2_addObject_X0_addCells
theorem dX2_addObject_0 : decode cX2_addObject 0 = .ok (.aload_n 0, 1) := by decide +kernel
theorem dX2_addObject_1 : decode cX2_addObject 1 = .ok (.getfield 50, 3) := by decide +kernel
theorem dX2_addObject_4 : decode cX2_addObject 4 = .ok (.istore 5, 2) := by decide +kernel
theorem dX2_addObject_6 : decode cX2_addObject 6 = .ok (.aload_n 0, 1) := by decide +kernel
theorem dX2_addObject_7 : decode cX2_addObject 7 = .ok (.getfield 12, 3) := by decide +kernel
theorem dX2_addObject_10 : decode cX2_addObject 10 = .ok (.iload_n 1, 1) := by decide +kernel
theorem dX2_addObject_11 : decode cX2_addObject 11 = .ok (.invokevirtual 194, 3) := by decide +kernel
theorem dX2_addObject_14 : decode cX2_addObject 14 = .ok (.aload_n 0, 1) := by decide +kernel
theorem dX2_addObject_15 : decode cX2_addObject 15 = .ok (.getfield 16, 3) := by decide +kernel
theorem dX2_addObject_18 : decode cX2_addObject 18 = .ok (.iload_n 2, 1) := by decide +kernel
theorem dX2_addObject_19 : decode cX2_addObject 19 = .ok (.invokevirtual 194, 3) := by decide +kernel
theorem dX2_addObject_22 : decode cX2_addObject 22 = .ok (.aload_n 0, 1) := by decide +kernel
theorem dX2_addObject_23 : decode cX2_addObject 23 = .ok (.getfield 19, 3) := by decide +kernel
theorem dX2_addObject_26 : decode cX2_addObject 26 = .ok (.iload 5, 2) := by decide +kernel
theorem dX2_addObject_28 : decode cX2_addObject 28 = .ok (.invokevirtual 194, 3) := by decide +kernel
theorem dX2_addObject_31 : decode cX2_addObject 31 = .ok (.aload_n 0, 1) := by decide +kernel
theorem dX2_addObject_32 : decode cX2_addObject 32 = .ok (.getfield 22, 3) := by decide +kernel
theorem dX2_addObject_35 : decode cX2_addObject 35 = .ok (.iload_n 3, 1) := by decide +kernel
theorem dX2_addObject_36 : decode cX2_addObject 36 = .ok (.invokevirtual 194, 3) := by decide +kernel
theorem dX2_addObject_39 : decode cX2_addObject 39 = .ok (.aload_n 0, 1) := by decide +kernel
theorem dX2_addObject_40 : decode cX2_addObject 40 = .ok (.getfield 25, 3) := by decide +kernel
theorem dX2_addObject_43 : decode cX2_addObject 43 = .ok (.iload 4, 2) := by decide +kernel
theorem dX2_addObject_45 : decode cX2_addObject 45 = .ok (.invokevirtual 194, 3) := by decide +kernel
theorem dX2_addObject_48 : decode cX2_addObject 48 = .ok (.aload_n 0, 1) := by decide +kernel
theorem dX2_addObject_49 : decode cX2_addObject 49 = .ok (.getfield 34, 3) := by decide +kernel
theorem dX2_addObject_52 : decode cX2_addObject 52 = .ok (.iload_n 1, 1) := by decide +kernel
theorem dX2_addObject_53 : decode cX2_addObject 53 = .ok (.invokestatic 197, 3) := by decide +kernel
theorem dX2_addObject_56 : decode cX2_addObject 56 = .ok (.invokevirtual 200, 3) := by decide +kernel
theorem dX2_addObject_59 : decode cX2_addObject 59 = .ok (.aload_n 0, 1) := by decide +kernel
theorem dX2_addObject_60 : decode cX2_addObject 60 = .ok (.getfield 34, 3) := by decide +kernel
theorem dX2_addObject_63 : decode cX2_addObject 63 = .ok (.dup, 1) := by decide +kernel
theorem dX2_addObject_64 : decode cX2_addObject 64 = .ok (.getfield 57, 3) := by decide +kernel
theorem dX2_addObject_67 : decode cX2_addObject 67 = .ok (.bipush 8, 2) := by decide +kernel
theorem dX2_addObject_69 : decode cX2_addObject 69 = .ok (.iadd, 1) := by decide +kernel
theorem dX2_addObject_70 : decode cX2_addObject 70 = .ok (.putfield 57, 3) := by decide +kernel
theorem dX2_addObject_73 : decode cX2_addObject 73 = .ok (.aload_n 0, 1) := by decide +kernel
theorem dX2_addObject_74 : decode cX2_addObject 74 = .ok (.iload 5, 2) := by decide +kernel
theorem dX2_addObject_76 : decode cX2_addObject 76 = .ok (.iconst 1, 1) := by decide +kernel
theorem dX2_addObject_77 : decode cX2_addObject 77 = .ok (.iadd, 1) := by decide +kernel
theorem dX2_addObject_78 : decode cX2_addObject 78 = .ok (.putfield 50, 3) := by decide +kernel
theorem dX2_addObject_81 : decode cX2_addObject 81 = .ok (.iload 5, 2) := by decide +kernel
theorem dX2_addObject_83 : decode cX2_addObject 83 = .ok (.ireturn, 1) := by decide +kernel
set_option maxRecDepth 20000 in
theorem ggX2_makePacked_X1_addZeros : GoodIn wsX2_makePacked wsX1_addZeros := goodIn_r _ [8, 9, 10, 11, 12, 7, 13, 14, 15, 16, 17, 18, 19, 20, 21, 22, 23, 24, 25, 26, 27, 28, 29, 30, 31, 32, 33, 34, 35, 36, 37, 38, 39, 40, 88, 89] (by decide +kernel) (by decide +kernel)
set_option maxRecDepth 20000 in
theorem gX2_makePacked_X1_addZeros : GoodIn wsX2_makePacked (wsV RX2 64 RX1 yX1_addZeros wsX1_addZeros) := goodIn_app (goodIn_of _ (by decide +kernel)) ggX2_makePacked_X1_addZeros
set_option maxRecDepth 20000 in
theorem ggX2_makePacked_X1_set : GoodIn wsX2_makePacked wsX1_set := goodIn_r _ [40, 14, 88, 89] (by decide +kernel) (by decide +kernel)
set_option maxRecDepth 20000 in
theorem gX2_makePacked_X1_set : GoodIn wsX2_makePacked (wsV RX2 100 RX1 yX1_set wsX1_set) := goodIn_app (goodIn_of _ (by decide +kernel)) ggX2_makePacked_X1_set
set_option maxRecDepth 20000 in
theorem ggX2_makePacked_X2_addObject : GoodIn wsX2_makePacked wsX2_addObject := goodIn_r _ [46, 1, 47, 48, 49, 50, 51, 2, 52, 53, 54, 55, 7, 56, 9, 10, 11, 12, 13, 14, 15, 16, 17, 18, 19, 20, 21, 22, 23, 24, 25, 26, 27, 28, 29, 30, 31, 32, 33, 34, 35, 36, 37, 38, 39, 40, 57, 58, 45, 59, 60, 61, 62, 63, 64, 65, 66, 67, 68, 69, 70, 71, 72, 73, 74, 75, 76, 77, 78, 79, 80, 81, 82, 83, 84, 85, 86, 87, 88, 89] (by decide +kernel) (by decide +kernel)
set_option maxRecDepth 20000 in
theorem gX2_makePacked_X2_addObject : GoodIn wsX2_makePacked (wsV RX2 42 RX2 yX2_addObject wsX2_addObject) := goodIn_app (goodIn_of _ (by decide +kernel)) ggX2_makePacked_X2_addObject
theorem dX2_makePacked_0 : decode cX2_makePacked 0 = .ok (.aload_n 0, 1) := by decide +kernel
theorem dX2_makePacked_1 : decode cX2_makePacked 1 = .ok (.getfield 50, 3) := by decide +kernel
theorem dX2_makePacked_4 : decode cX2_makePacked 4 = .ok (.iload_n 1, 1) := by decide +kernel
theorem dX2_makePacked_5 : decode cX2_makePacked 5 = .ok (.isub, 1) := by decide +kernel
theorem dX2_makePacked_6 : decode cX2_makePacked 6 = .ok (.istore_n 2, 1) := by decide +kernel
theorem dX2_makePacked_7 : decode cX2_makePacked 7 = .ok (.aload_n 0, 1) := by decide +kernel
theorem dX2_makePacked_8 : decode cX2_makePacked 8 = .ok (.getfield 34, 3) := by decide +kernel
theorem dX2_makePacked_11 : decode cX2_makePacked 11 = .ok (.getfield 67, 3) := by decide +kernel
theorem dX2_makePacked_14 : decode cX2_makePacked 14 = .ok (.iload_n 1, 1) := by decide +kernel
theorem dX2_makePacked_15 : decode cX2_makePacked 15 = .ok (.invokevirtual 64, 3) := by decide +kernel
theorem dX2_makePacked_18 : decode cX2_makePacked 18 = .ok (.istore_n 3, 1) := by decide +kernel
theorem dX2_makePacked_19 : decode cX2_makePacked 19 = .ok (.iconst 0, 1) := by decide +kernel
theorem dX2_makePacked_20 : decode cX2_makePacked 20 = .ok (.istore 4, 2) := by decide +kernel
theorem dX2_makePacked_22 : decode cX2_makePacked 22 = .ok (.iload 4, 2) := by decide +kernel
theorem dX2_makePacked_24 : decode cX2_makePacked 24 = .ok (.iload_n 1, 1) := by decide +kernel
theorem dX2_makePacked_25 : decode cX2_makePacked 25 = .ok (.if_icmp .ge 27, 3) := by decide +kernel
theorem dX2_makePacked_28 : decode cX2_makePacked 28 = .ok (.aload_n 0, 1) := by decide +kernel
theorem dX2_makePacked_29 : decode cX2_makePacked 29 = .ok (.getfield 34, 3) := by decide +kernel
theorem dX2_makePacked_32 : decode cX2_makePacked 32 = .ok (.getfield 67, 3) := by decide +kernel
theorem dX2_makePacked_35 : decode cX2_makePacked 35 = .ok (.iload_n 3, 1) := by decide +kernel
theorem dX2_makePacked_36 : decode cX2_makePacked 36 = .ok (.iload 4, 2) := by decide +kernel
theorem dX2_makePacked_38 : decode cX2_makePacked 38 = .ok (.iadd, 1) := by decide +kernel
theorem dX2_makePacked_39 : decode cX2_makePacked 39 = .ok (.iload_n 2, 1) := by decide +kernel
theorem dX2_makePacked_40 : decode cX2_makePacked 40 = .ok (.iload 4, 2) := by decide +kernel
end
section
theorem dX2_makePacked_42 : decode cX2_makePacked 42 = .ok (.iadd, 1) := by decide +kernel
theorem dX2_makePacked_43 : decode cX2_makePacked 43 = .ok (.invokevirtual 100, 3) := by decide +kernel
theorem dX2_makePacked_46 : decode cX2_makePacked 46 = .ok (.iinc 4 1, 3) := by decide +kernel
theorem dX2_makePacked_49 : decode cX2_makePacked 49 = .ok (.goto (-27), 3) := by decide +kernel
theorem dX2_makePacked_52 : decode cX2_makePacked 52 = .ok (.aload_n 0, 1) := by decide +kernel
theorem dX2_makePacked_53 : decode cX2_makePacked 53 = .ok (.bipush 6, 2) := by decide +kernel
theorem dX2_makePacked_55 : decode cX2_makePacked 55 = .ok (.iconst 0, 1) := by decide +kernel
theorem dX2_makePacked_56 : decode cX2_makePacked 56 = .ok (.iload_n 3, 1) := by decide +kernel
theorem dX2_makePacked_57 : decode cX2_makePacked 57 = .ok (.iload_n 1, 1) := by decide +kernel
theorem dX2_makePacked_58 : decode cX2_makePacked 58 = .ok (.invokevirtual 42, 3) := by decide +kernel
theorem dX2_makePacked_61 : decode cX2_makePacked 61 = .ok (.ireturn, 1) := by decide +kernel
set_option maxRecDepth 20000 in
theorem ggX2_makeDictionary_X1_addZeros : GoodIn wsX2_makeDictionary wsX1_addZeros := goodIn_r _ [8, 9, 10, 11, 12, 7, 13, 14, 15, 16, 17, 18, 19, 20, 21, 22, 23, 24, 25, 26, 27, 28, 29, 30, 31, 32, 33, 34, 35, 36, 37, 38, 39, 40, 89, 90] (by decide +kernel) (by decide +kernel)
set_option maxRecDepth 20000 in
theorem gX2_makeDictionary_X1_addZeros : GoodIn wsX2_makeDictionary (wsV RX2 64 RX1 yX1_addZeros wsX1_addZeros) := goodIn_app (goodIn_of _ (by decide +kernel)) ggX2_makeDictionary_X1_addZeros
set_option maxRecDepth 20000 in
theorem ggX2_makeDictionary_X2_addObject : GoodIn wsX2_makeDictionary wsX2_addObject := goodIn_r _ [45, 46, 47, 48, 49, 50, 51, 1, 52, 53, 54, 55, 7, 56, 9, 10, 11, 12, 13, 14, 15, 16, 17, 18, 19, 20, 21, 22, 23, 24, 25, 26, 27, 28, 29, 30, 31, 32, 33, 34, 35, 36, 37, 38, 39, 40, 57, 58, 44, 59, 60, 61, 62, 63, 64, 65, 66, 67, 68, 69, 70, 72, 73, 74, 75, 76, 77, 78, 79, 80, 81, 82, 83, 84, 85, 86, 87, 88, 89, 90] (by decide +kernel) (by decide +kernel)
set_option maxRecDepth 20000 in
theorem gX2_makeDictionary_X2_addObject : GoodIn wsX2_makeDictionary (wsV RX2 42 RX2 yX2_addObject wsX2_addObject) := goodIn_app (goodIn_of _ (by decide +kernel)) ggX2_makeDictionary_X2_addObject
set_option maxRecDepth 20000 in
theorem ggX2_makeDictionary_X1_set : GoodIn wsX2_makeDictionary wsX1_set := goodIn_r _ [40, 14, 89, 90] (by decide +kernel) (by decide +kernel)
set_option maxRecDepth 20000 in
theorem gX2_makeDictionary_X1_set : GoodIn wsX2_makeDictionary (wsV RX2 100 RX1 yX1_set wsX1_set) := goodIn_app (goodIn_of _ (by decide +kernel)) ggX2_makeDictionary_X1_set
theorem dX2_makeDictionary_0 : decode cX2_makeDictionary 0 = .ok (.aload_n 0, 1) := by decide +kernel
theorem dX2_makeDictionary_1 : decode cX2_makeDictionary 1 = .ok (.bipush 7, 2) := by decide +kernel
theorem dX2_makeDictionary_3 : decode cX2_makeDictionary 3 = .ok (.iconst 0, 1) := by decide +kernel
theorem dX2_makeDictionary_4 : decode cX2_makeDictionary 4 = .ok (.aload_n 0, 1) := by decide +kernel
theorem dX2_makeDictionary_5 : decode cX2_makeDictionary 5 = .ok (.getfield 34, 3) := by decide +kernel
theorem dX2_makeDictionary_8 : decode cX2_makeDictionary 8 = .ok (.getfield 67, 3) := by decide +kernel
theorem dX2_makeDictionary_11 : decode cX2_makeDictionary 11 = .ok (.bipush 64, 2) := by decide +kernel
theorem dX2_makeDictionary_13 : decode cX2_makeDictionary 13 = .ok (.invokevirtual 64, 3) := by decide +kernel
theorem dX2_makeDictionary_16 : decode cX2_makeDictionary 16 = .ok (.iconst 0, 1) := by decide +kernel
theorem dX2_makeDictionary_17 : decode cX2_makeDictionary 17 = .ok (.invokevirtual 42, 3) := by decide +kernel
theorem dX2_makeDictionary_20 : decode cX2_makeDictionary 20 = .ok (.istore_n 2, 1) := by decide +kernel
theorem dX2_makeDictionary_21 : decode cX2_makeDictionary 21 = .ok (.aload_n 0, 1) := by decide +kernel
theorem dX2_makeDictionary_22 : decode cX2_makeDictionary 22 = .ok (.getfield 34, 3) := by decide +kernel
theorem dX2_makeDictionary_25 : decode cX2_makeDictionary 25 = .ok (.getfield 141, 3) := by decide +kernel
theorem dX2_makeDictionary_28 : decode cX2_makeDictionary 28 = .ok (.iload_n 2, 1) := by decide +kernel
theorem dX2_makeDictionary_29 : decode cX2_makeDictionary 29 = .ok (.iload_n 1, 1) := by decide +kernel
theorem dX2_makeDictionary_30 : decode cX2_makeDictionary 30 = .ok (.invokevirtual 100, 3) := by decide +kernel
theorem dX2_makeDictionary_33 : decode cX2_makeDictionary 33 = .ok (.iload_n 2, 1) := by decide +kernel
theorem dX2_makeDictionary_34 : decode cX2_makeDictionary 34 = .ok (.ireturn, 1) := by decide +kernel
set_option maxRecDepth 20000 in
theorem ggX2_makeSave_X0_init : GoodIn wsX2_makeSave wsX0_init := goodIn_r _ [9, 10, 11, 12, 13, 14, 15, 16, 17, 18, 19, 20, 21, 22, 23, 24, 25, 26, 113, 114, 106, 107, 108, 109, 110, 111, 112] (by decide +kernel) (by decide +kernel)
set_option maxRecDepth 20000 in
theorem gX2_makeSave_X0_init_n33 : GoodIn wsX2_makeSave (wsX0_init) := ggX2_makeSave_X0_init
set_option maxRecDepth 20000 in
theorem ggX2_makeSave_X0_become : GoodIn wsX2_makeSave wsX0_become := goodIn_r _ [30, 16, 17, 18, 19, 20, 21, 31, 32, 33, 34, 15, 35, 36, 26, 37, 38, 39, 40, 41, 42, 43, 44, 45, 46, 47, 48, 49, 50, 51, 52, 53, 54, 55, 56, 57, 58, 59, 60, 61, 25, 62, 63, 106, 107, 108, 109, 110, 111, 112, 113, 114] (by decide +kernel) (by decide +kernel)
set_option maxRecDepth 20000 in
theorem gX2_makeSave_X0_become : GoodIn wsX2_makeSave (wsV RX2 182 RX0 yX0_become wsX0_become) := goodIn_app (goodIn_of _ (by decide +kernel)) ggX2_makeSave_X0_become
set_option maxRecDepth 20000 in
theorem ggX2_makeSave_X1_size : GoodIn wsX2_makeSave wsX1_size := goodIn_r _ [67, 36, 113, 114] (by decide +kernel) (by decide +kernel)
set_option maxRecDepth 20000 in
theorem gX2_makeSave_X1_size : GoodIn wsX2_makeSave (wsV RX2 203 RX1 yX1_size wsX1_size) := goodIn_app (goodIn_of _ (by decide +kernel)) ggX2_makeSave_X1_size
set_option maxRecDepth 20000 in
theorem ggX2_makeSave_X2_addObject : GoodIn wsX2_makeSave wsX2_addObject := goodIn_r _ [72, 73, 74, 75, 76, 77, 78, 6, 79, 80, 81, 82, 15, 83, 36, 45, 46, 47, 48, 26, 49, 50, 39, 51, 52, 53, 54, 55, 56, 57, 58, 59, 60, 61, 25, 62, 38, 40, 63, 42, 43, 44, 84, 85, 86, 87, 88, 89, 71, 90, 91, 92, 93, 5, 94, 16, 17, 18, 19, 20, 95, 96, 97, 98, 99, 100, 101, 102, 103, 104, 105, 106, 107, 108, 109, 110, 111, 112, 113, 114] (by decide +kernel) (by decide +kernel)
set_option maxRecDepth 20000 in
theorem gX2_makeSave_X2_addObject : GoodIn wsX2_makeSave (wsV RX2 42 RX2 yX2_addObject wsX2_addObject) := goodIn_app (goodIn_of _ (by decide +kernel)) ggX2_makeSave_X2_addObject
theorem dX2_makeSave_0 : decode cX2_makeSave 0 = .ok (.aload_n 0, 1) := by decide +kernel
theorem dX2_makeSave_1 : decode cX2_makeSave 1 = .ok (.getfield 54, 3) := by decide +kernel
theorem dX2_makeSave_4 : decode cX2_makeSave 4 = .ok (.istore_n 1, 1) := by decide +kernel
theorem dX2_makeSave_5 : decode cX2_makeSave 5 = .ok (.iload_n 1, 1) := by decide +kernel
theorem dX2_makeSave_6 : decode cX2_makeSave 6 = .ok (.ifCond .lt 47, 3) := by decide +kernel
theorem dX2_makeSave_9 : decode cX2_makeSave 9 = .ok (.iload_n 1, 1) := by decide +kernel
theorem dX2_makeSave_10 : decode cX2_makeSave 10 = .ok (.aload_n 0, 1) := by decide +kernel
theorem dX2_makeSave_11 : decode cX2_makeSave 11 = .ok (.getfield 38, 3) := by decide +kernel
theorem dX2_makeSave_14 : decode cX2_makeSave 14 = .ok (.arraylength, 1) := by decide +kernel
theorem dX2_makeSave_15 : decode cX2_makeSave 15 = .ok (.if_icmp .ge 38, 3) := by decide +kernel
theorem dX2_makeSave_18 : decode cX2_makeSave 18 = .ok (.aload_n 0, 1) := by decide +kernel
theorem dX2_makeSave_19 : decode cX2_makeSave 19 = .ok (.getfield 38, 3) := by decide +kernel
theorem dX2_makeSave_22 : decode cX2_makeSave 22 = .ok (.iload_n 1, 1) := by decide +kernel
theorem dX2_makeSave_23 : decode cX2_makeSave 23 = .ok (.aaload, 1) := by decide +kernel
theorem dX2_makeSave_24 : decode cX2_makeSave 24 = .ok (.ifnonnull 16, 3) := by decide +kernel
theorem dX2_makeSave_27 : decode cX2_makeSave 27 = .ok (.aload_n 0, 1) := by decide +kernel
theorem dX2_makeSave_28 : decode cX2_makeSave 28 = .ok (.getfield 38, 3) := by decide +kernel
theorem dX2_makeSave_31 : decode cX2_makeSave 31 = .ok (.iload_n 1, 1) := by decide +kernel
theorem dX2_makeSave_32 : decode cX2_makeSave 32 = .ok (.new 31, 3) := by decide +kernel
theorem dX2_makeSave_35 : decode cX2_makeSave 35 = .ok (.dup, 1) := by decide +kernel
theorem dX2_makeSave_36 : decode cX2_makeSave 36 = .ok (.invokespecial 33, 3) := by decide +kernel
theorem dX2_makeSave_39 : decode cX2_makeSave 39 = .ok (.aastore, 1) := by decide +kernel
theorem dX2_makeSave_40 : decode cX2_makeSave 40 = .ok (.aload_n 0, 1) := by decide +kernel
theorem dX2_makeSave_41 : decode cX2_makeSave 41 = .ok (.getfield 38, 3) := by decide +kernel
theorem dX2_makeSave_44 : decode cX2_makeSave 44 = .ok (.iload_n 1, 1) := by decide +kernel
theorem dX2_makeSave_45 : decode cX2_makeSave 45 = .ok (.aaload, 1) := by decide +kernel
theorem dX2_makeSave_46 : decode cX2_makeSave 46 = .ok (.aload_n 0, 1) := by decide +kernel
theorem dX2_makeSave_47 : decode cX2_makeSave 47 = .ok (.getfield 34, 3) := by decide +kernel
theorem dX2_makeSave_50 : decode cX2_makeSave 50 = .ok (.invokevirtual 182, 3) := by decide +kernel
theorem dX2_makeSave_53 : decode cX2_makeSave 53 = .ok (.aload_n 0, 1) := by decide +kernel
theorem dX2_makeSave_54 : decode cX2_makeSave 54 = .ok (.iload_n 1, 1) := by decide +kernel
theorem dX2_makeSave_55 : decode cX2_makeSave 55 = .ok (.iconst 1, 1) := by decide +kernel
theorem dX2_makeSave_56 : decode cX2_makeSave 56 = .ok (.iadd, 1) := by decide +kernel
theorem dX2_makeSave_57 : decode cX2_makeSave 57 = .ok (.putfield 54, 3) := by decide +kernel
theorem dX2_makeSave_60 : decode cX2_makeSave 60 = .ok (.aload_n 0, 1) := by decide +kernel
theorem dX2_makeSave_61 : decode cX2_makeSave 61 = .ok (.bipush 11, 2) := by decide +kernel
theorem dX2_makeSave_63 : decode cX2_makeSave 63 = .ok (.iload_n 1, 1) := by decide +kernel
theorem dX2_makeSave_64 : decode cX2_makeSave 64 = .ok (.aload_n 0, 1) := by decide +kernel
theorem dX2_makeSave_65 : decode cX2_makeSave 65 = .ok (.getfield 28, 3) := by decide +kernel
theorem dX2_makeSave_68 : decode cX2_makeSave 68 = .ok (.invokevirtual 203, 3) := by decide +kernel
theorem dX2_makeSave_71 : decode cX2_makeSave 71 = .ok (.iconst 0, 1) := by decide +kernel
theorem dX2_makeSave_72 : decode cX2_makeSave 72 = .ok (.invokevirtual 42, 3) := by decide +kernel
theorem dX2_makeSave_75 : decode cX2_makeSave 75 = .ok (.ireturn, 1) := by decide +kernel
set_option maxRecDepth 20000 in
theorem ggX2_keptBy_X1_at : GoodIn wsX2_keptBy wsX1_at := goodIn_r _ [8, 9, 20, 21] (by decide +kernel) (by decide +kernel)
set_option maxRecDepth 20000 in
theorem gX2_keptBy_X1_at : GoodIn wsX2_keptBy (wsV RX2 84 RX1 yX1_at wsX1_at) := goodIn_app (goodIn_of _ (by decide +kernel)) ggX2_keptBy_X1_at
theorem dX2_keptBy_0 : decode cX2_keptBy 0 = .ok (.aload_n 0, 1) := by decide +kernel
theorem dX2_keptBy_1 : decode cX2_keptBy 1 = .ok (.getfield 16, 3) := by decide +kernel
theorem dX2_keptBy_4 : decode cX2_keptBy 4 = .ok (.iload_n 1, 1) := by decide +kernel
theorem dX2_keptBy_5 : decode cX2_keptBy 5 = .ok (.invokevirtual 84, 3) := by decide +kernel
theorem dX2_keptBy_8 : decode cX2_keptBy 8 = .ok (.istore_n 2, 1) := by decide +kernel
theorem dX2_keptBy_9 : decode cX2_keptBy 9 = .ok (.aload_n 0, 1) := by decide +kernel
theorem dX2_keptBy_10 : decode cX2_keptBy 10 = .ok (.getfield 12, 3) := by decide +kernel
theorem dX2_keptBy_13 : decode cX2_keptBy 13 = .ok (.iload_n 1, 1) := by decide +kernel
theorem dX2_keptBy_14 : decode cX2_keptBy 14 = .ok (.invokevirtual 84, 3) := by decide +kernel
theorem dX2_keptBy_17 : decode cX2_keptBy 17 = .ok (.bipush 11, 2) := by decide +kernel
theorem dX2_keptBy_19 : decode cX2_keptBy 19 = .ok (.if_icmp .ne 20, 3) := by decide +kernel
theorem dX2_keptBy_22 : decode cX2_keptBy 22 = .ok (.iload_n 2, 1) := by decide +kernel
theorem dX2_keptBy_23 : decode cX2_keptBy 23 = .ok (.ifCond .lt 16, 3) := by decide +kernel
theorem dX2_keptBy_26 : decode cX2_keptBy 26 = .ok (.iload_n 2, 1) := by decide +kernel
theorem dX2_keptBy_27 : decode cX2_keptBy 27 = .ok (.aload_n 0, 1) := by decide +kernel
theorem dX2_keptBy_28 : decode cX2_keptBy 28 = .ok (.getfield 38, 3) := by decide +kernel
theorem dX2_keptBy_31 : decode cX2_keptBy 31 = .ok (.arraylength, 1) := by decide +kernel
theorem dX2_keptBy_32 : decode cX2_keptBy 32 = .ok (.if_icmp .ge 7, 3) := by decide +kernel
theorem dX2_keptBy_35 : decode cX2_keptBy 35 = .ok (.iconst 1, 1) := by decide +kernel
theorem dX2_keptBy_36 : decode cX2_keptBy 36 = .ok (.goto 4, 3) := by decide +kernel
theorem dX2_keptBy_39 : decode cX2_keptBy 39 = .ok (.iconst 0, 1) := by decide +kernel
theorem dX2_keptBy_40 : decode cX2_keptBy 40 = .ok (.istore_n 3, 1) := by decide +kernel
theorem dX2_keptBy_41 : decode cX2_keptBy 41 = .ok (.iload_n 3, 1) := by decide +kernel
theorem dX2_keptBy_42 : decode cX2_keptBy 42 = .ok (.ifCond .eq 12, 3) := by decide +kernel
theorem dX2_keptBy_45 : decode cX2_keptBy 45 = .ok (.aload_n 0, 1) := by decide +kernel
theorem dX2_keptBy_46 : decode cX2_keptBy 46 = .ok (.getfield 38, 3) := by decide +kernel
theorem dX2_keptBy_49 : decode cX2_keptBy 49 = .ok (.iload_n 2, 1) := by decide +kernel
theorem dX2_keptBy_50 : decode cX2_keptBy 50 = .ok (.aaload, 1) := by decide +kernel
theorem dX2_keptBy_51 : decode cX2_keptBy 51 = .ok (.goto 4, 3) := by decide +kernel
theorem dX2_keptBy_54 : decode cX2_keptBy 54 = .ok (.aconst_null, 1) := by decide +kernel
theorem dX2_keptBy_55 : decode cX2_keptBy 55 = .ok (.areturn, 1) := by decide +kernel
set_option maxRecDepth 20000 in
theorem ggX2_addPart_X1_at : GoodIn wsX2_addPart wsX1_at := goodIn_r _ [11, 12, 89, 90] (by decide +kernel) (by decide +kernel)
set_option maxRecDepth 20000 in
theorem gX2_addPart_X1_at : GoodIn wsX2_addPart (wsV RX2 84 RX1 yX1_at wsX1_at) := goodIn_app (goodIn_of _ (by decide +kernel)) ggX2_addPart_X1_at
set_option maxRecDepth 20000 in
theorem ggX2_addPart_X2_addObject : GoodIn wsX2_addPart wsX2_addObject := goodIn_r _ [17, 18, 1, 19, 3, 2, 20, 4, 21, 22, 23, 24, 10, 25, 26, 27, 28, 29, 30, 12, 31, 32, 33, 34, 35, 36, 37, 38, 39, 40, 41, 42, 43, 44, 45, 46, 47, 48, 49, 50, 51, 52, 53, 54, 55, 56, 57, 58, 16, 59, 60, 61, 62, 63, 64, 65, 66, 67, 68, 69, 70, 72, 73, 74, 75, 76, 77, 78, 79, 80, 81, 82, 83, 84, 85, 86, 87, 88, 89, 90] (by decide +kernel) (by decide +kernel)
set_option maxRecDepth 20000 in
theorem gX2_addPart_X2_addObject : GoodIn wsX2_addPart (wsV RX2 42 RX2 yX2_addObject wsX2_addObject) := goodIn_app (goodIn_of _ (by decide +kernel)) ggX2_addPart_X2_addObject
set_option maxRecDepth 20000 in
theorem ggX2_addPart_X1_set : GoodIn wsX2_addPart wsX1_set := goodIn_r _ [56, 12, 89, 90] (by decide +kernel) (by decide +kernel)
set_option maxRecDepth 20000 in
theorem gX2_addPart_X1_set : GoodIn wsX2_addPart (wsV RX2 100 RX1 yX1_set wsX1_set) := goodIn_app (goodIn_of _ (by decide +kernel)) ggX2_addPart_X1_set
theorem dX2_addPart_0 : decode cX2_addPart 0 = .ok (.aload_n 0, 1) := by decide +kernel
theorem dX2_addPart_1 : decode cX2_addPart 1 = .ok (.aload_n 0, 1) := by decide +kernel
theorem dX2_addPart_2 : decode cX2_addPart 2 = .ok (.getfield 12, 3) := by decide +kernel
theorem dX2_addPart_5 : decode cX2_addPart 5 = .ok (.iload_n 1, 1) := by decide +kernel
theorem dX2_addPart_6 : decode cX2_addPart 6 = .ok (.invokevirtual 84, 3) := by decide +kernel
theorem dX2_addPart_9 : decode cX2_addPart 9 = .ok (.iconst 0, 1) := by decide +kernel
theorem dX2_addPart_10 : decode cX2_addPart 10 = .ok (.aload_n 0, 1) := by decide +kernel
theorem dX2_addPart_11 : decode cX2_addPart 11 = .ok (.getfield 22, 3) := by decide +kernel
theorem dX2_addPart_14 : decode cX2_addPart 14 = .ok (.iload_n 1, 1) := by decide +kernel
theorem dX2_addPart_15 : decode cX2_addPart 15 = .ok (.invokevirtual 84, 3) := by decide +kernel
theorem dX2_addPart_18 : decode cX2_addPart 18 = .ok (.iload_n 2, 1) := by decide +kernel
theorem dX2_addPart_19 : decode cX2_addPart 19 = .ok (.iadd, 1) := by decide +kernel
theorem dX2_addPart_20 : decode cX2_addPart 20 = .ok (.iload_n 3, 1) := by decide +kernel
theorem dX2_addPart_21 : decode cX2_addPart 21 = .ok (.invokevirtual 42, 3) := by decide +kernel
theorem dX2_addPart_24 : decode cX2_addPart 24 = .ok (.istore 4, 2) := by decide +kernel
theorem dX2_addPart_26 : decode cX2_addPart 26 = .ok (.aload_n 0, 1) := by decide +kernel
theorem dX2_addPart_27 : decode cX2_addPart 27 = .ok (.getfield 19, 3) := by decide +kernel
theorem dX2_addPart_30 : decode cX2_addPart 30 = .ok (.iload 4, 2) := by decide +kernel
theorem dX2_addPart_32 : decode cX2_addPart 32 = .ok (.aload_n 0, 1) := by decide +kernel
theorem dX2_addPart_33 : decode cX2_addPart 33 = .ok (.getfield 19, 3) := by decide +kernel
theorem dX2_addPart_36 : decode cX2_addPart 36 = .ok (.iload_n 1, 1) := by decide +kernel
theorem dX2_addPart_37 : decode cX2_addPart 37 = .ok (.invokevirtual 84, 3) := by decide +kernel
theorem dX2_addPart_40 : decode cX2_addPart 40 = .ok (.invokevirtual 100, 3) := by decide +kernel
theorem dX2_addPart_43 : decode cX2_addPart 43 = .ok (.aload_n 0, 1) := by decide +kernel
theorem dX2_addPart_44 : decode cX2_addPart 44 = .ok (.getfield 34, 3) := by decide +kernel
theorem dX2_addPart_47 : decode cX2_addPart 47 = .ok (.getfield 206, 3) := by decide +kernel
theorem dX2_addPart_50 : decode cX2_addPart 50 = .ok (.iload 4, 2) := by decide +kernel
theorem dX2_addPart_52 : decode cX2_addPart 52 = .ok (.aload_n 0, 1) := by decide +kernel
theorem dX2_addPart_53 : decode cX2_addPart 53 = .ok (.getfield 34, 3) := by decide +kernel
theorem dX2_addPart_56 : decode cX2_addPart 56 = .ok (.getfield 206, 3) := by decide +kernel
theorem dX2_addPart_59 : decode cX2_addPart 59 = .ok (.iload_n 1, 1) := by decide +kernel
theorem dX2_addPart_60 : decode cX2_addPart 60 = .ok (.invokevirtual 84, 3) := by decide +kernel
theorem dX2_addPart_63 : decode cX2_addPart 63 = .ok (.invokevirtual 100, 3) := by decide +kernel
theorem dX2_addPart_66 : decode cX2_addPart 66 = .ok (.aload_n 0, 1) := by decide +kernel
theorem dX2_addPart_67 : decode cX2_addPart 67 = .ok (.getfield 34, 3) := by decide +kernel
theorem dX2_addPart_70 : decode cX2_addPart 70 = .ok (.getfield 126, 3) := by decide +kernel
theorem dX2_addPart_73 : decode cX2_addPart 73 = .ok (.iload 4, 2) := by decide +kernel
theorem dX2_addPart_75 : decode cX2_addPart 75 = .ok (.aload_n 0, 1) := by decide +kernel
theorem dX2_addPart_76 : decode cX2_addPart 76 = .ok (.getfield 34, 3) := by decide +kernel
theorem dX2_addPart_79 : decode cX2_addPart 79 = .ok (.getfield 126, 3) := by decide +kernel
theorem dX2_addPart_82 : decode cX2_addPart 82 = .ok (.iload_n 1, 1) := by decide +kernel
theorem dX2_addPart_83 : decode cX2_addPart 83 = .ok (.invokevirtual 84, 3) := by decide +kernel
theorem dX2_addPart_86 : decode cX2_addPart 86 = .ok (.invokevirtual 100, 3) := by decide +kernel
theorem dX2_addPart_89 : decode cX2_addPart 89 = .ok (.iload 4, 2) := by decide +kernel
theorem dX2_addPart_91 : decode cX2_addPart 91 = .ok (.ireturn, 1) := by decide +kernel
set_option maxRecDepth 20000 in
theorem ggX2_hasElement_X1_at : GoodIn wsX2_hasElement wsX1_at := goodIn_r _ [6, 7, 18, 19] (by decide +kernel) (by decide +kernel)
set_option maxRecDepth 20000 in
theorem gX2_hasElement_X1_at : GoodIn wsX2_hasElement (wsV RX2 84 RX1 yX1_at wsX1_at) := goodIn_app (goodIn_of _ (by decide +kernel)) ggX2_hasElement_X1_at
theorem dX2_hasElement_0 : decode cX2_hasElement 0 = .ok (.iload_n 2, 1) := by decide +kernel
theorem dX2_hasElement_1 : decode cX2_hasElement 1 = .ok (.ifCond .lt 19, 3) := by decide +kernel
theorem dX2_hasElement_4 : decode cX2_hasElement 4 = .ok (.iload_n 2, 1) := by decide +kernel
theorem dX2_hasElement_5 : decode cX2_hasElement 5 = .ok (.aload_n 0, 1) := by decide +kernel
theorem dX2_hasElement_6 : decode cX2_hasElement 6 = .ok (.getfield 25, 3) := by decide +kernel
theorem dX2_hasElement_9 : decode cX2_hasElement 9 = .ok (.iload_n 1, 1) := by decide +kernel
theorem dX2_hasElement_10 : decode cX2_hasElement 10 = .ok (.invokevirtual 84, 3) := by decide +kernel
theorem dX2_hasElement_13 : decode cX2_hasElement 13 = .ok (.if_icmp .ge 7, 3) := by decide +kernel
theorem dX2_hasElement_16 : decode cX2_hasElement 16 = .ok (.iconst 1, 1) := by decide +kernel
theorem dX2_hasElement_17 : decode cX2_hasElement 17 = .ok (.goto 4, 3) := by decide +kernel
theorem dX2_hasElement_20 : decode cX2_hasElement 20 = .ok (.iconst 0, 1) := by decide +kernel
theorem dX2_hasElement_21 : decode cX2_hasElement 21 = .ok (.ireturn, 1) := by decide +kernel
set_option maxRecDepth 20000 in
theorem ggX2_hasPart_X1_at : GoodIn wsX2_hasPart wsX1_at := goodIn_r _ [6, 7, 22, 23] (by decide +kernel) (by decide +kernel)
set_option maxRecDepth 20000 in
theorem gX2_hasPart_X1_at : GoodIn wsX2_hasPart (wsV RX2 84 RX1 yX1_at wsX1_at) := goodIn_app (goodIn_of _ (by decide +kernel)) ggX2_hasPart_X1_at
set_option maxRecDepth 20000 in
theorem ggX2_hasPart_X2_within : GoodIn wsX2_hasPart wsX2_within := goodIn_r _ [11] (by decide +kernel) (by decide +kernel)
set_option maxRecDepth 20000 in
theorem gX2_hasPart_X2_within : GoodIn wsX2_hasPart (va_wsS RX2 90 yX2_within wsX2_within) := goodIn_app (goodIn_of _ (by decide +kernel)) ggX2_hasPart_X2_within
theorem dX2_hasPart_0 : decode cX2_hasPart 0 = .ok (.aload_n 0, 1) := by decide +kernel
theorem dX2_hasPart_1 : decode cX2_hasPart 1 = .ok (.getfield 25, 3) := by decide +kernel
theorem dX2_hasPart_4 : decode cX2_hasPart 4 = .ok (.iload_n 1, 1) := by decide +kernel
theorem dX2_hasPart_5 : decode cX2_hasPart 5 = .ok (.invokevirtual 84, 3) := by decide +kernel
theorem dX2_hasPart_8 : decode cX2_hasPart 8 = .ok (.istore 4, 2) := by decide +kernel
theorem dX2_hasPart_10 : decode cX2_hasPart 10 = .ok (.iload_n 2, 1) := by decide +kernel
theorem dX2_hasPart_11 : decode cX2_hasPart 11 = .ok (.iload 4, 2) := by decide +kernel
theorem dX2_hasPart_13 : decode cX2_hasPart 13 = .ok (.invokestatic 90, 3) := by decide +kernel
theorem dX2_hasPart_16 : decode cX2_hasPart 16 = .ok (.ifCond .eq 18, 3) := by decide +kernel
theorem dX2_hasPart_19 : decode cX2_hasPart 19 = .ok (.iload_n 3, 1) := by decide +kernel
theorem dX2_hasPart_20 : decode cX2_hasPart 20 = .ok (.iload 4, 2) := by decide +kernel
theorem dX2_hasPart_22 : decode cX2_hasPart 22 = .ok (.iload_n 2, 1) := by decide +kernel
theorem dX2_hasPart_23 : decode cX2_hasPart 23 = .ok (.isub, 1) := by decide +kernel
theorem dX2_hasPart_24 : decode cX2_hasPart 24 = .ok (.invokestatic 90, 3) := by decide +kernel
theorem dX2_hasPart_27 : decode cX2_hasPart 27 = .ok (.ifCond .eq 7, 3) := by decide +kernel
theorem dX2_hasPart_30 : decode cX2_hasPart 30 = .ok (.iconst 1, 1) := by decide +kernel
theorem dX2_hasPart_31 : decode cX2_hasPart 31 = .ok (.goto 4, 3) := by decide +kernel
theorem dX2_hasPart_34 : decode cX2_hasPart 34 = .ok (.iconst 0, 1) := by decide +kernel
theorem dX2_hasPart_35 : decode cX2_hasPart 35 = .ok (.ireturn, 1) := by decide +kernel
theorem dX2_storeRow_0 : decode cX2_storeRow 0 = .ok (.iload_n 1, 1) := by decide +kernel
theorem dX2_storeRow_1 : decode cX2_storeRow 1 = .ok (.iconst 4, 1) := by decide +kernel
theorem dX2_storeRow_2 : decode cX2_storeRow 2 = .ok (.if_icmp .ne 10, 3) := by decide +kernel
theorem dX2_storeRow_5 : decode cX2_storeRow 5 = .ok (.aload_n 0, 1) := by decide +kernel
theorem dX2_storeRow_6 : decode cX2_storeRow 6 = .ok (.getfield 28, 3) := by decide +kernel
theorem dX2_storeRow_9 : decode cX2_storeRow 9 = .ok (.goto 10, 3) := by decide +kernel
theorem dX2_storeRow_12 : decode cX2_storeRow 12 = .ok (.aload_n 0, 1) := by decide +kernel
theorem dX2_storeRow_13 : decode cX2_storeRow 13 = .ok (.getfield 34, 3) := by decide +kernel
theorem dX2_storeRow_16 : decode cX2_storeRow 16 = .ok (.getfield 67, 3) := by decide +kernel
theorem dX2_storeRow_19 : decode cX2_storeRow 19 = .ok (.areturn, 1) := by decide +kernel
set_option maxRecDepth 20000 in
theorem ggX2_elementOf_X1_at : GoodIn wsX2_elementOf wsX1_at := goodIn_r _ [7, 8, 27, 28] (by decide +kernel) (by decide +kernel)
set_option maxRecDepth 20000 in
theorem gX2_elementOf_X1_at : GoodIn wsX2_elementOf (wsV RX2 84 RX1 yX1_at wsX1_at) := goodIn_app (goodIn_of _ (by decide +kernel)) ggX2_elementOf_X1_at
set_option maxRecDepth 20000 in
theorem ggX2_elementOf_X2_storeRow : GoodIn wsX2_elementOf wsX2_storeRow := goodIn_r _ [13, 14, 15, 16, 17, 18, 19, 20, 21, 22, 23, 24, 25, 26, 29, 30, 31, 32, 33, 34, 35] (by decide +kernel) (by decide +kernel)
set_option maxRecDepth 20000 in
theorem gX2_elementOf_X2_storeRow : GoodIn wsX2_elementOf (wsV RX2 96 RX2 yX2_storeRow wsX2_storeRow) := goodIn_app (goodIn_of _ (by decide +kernel)) ggX2_elementOf_X2_storeRow
theorem dX2_elementOf_0 : decode cX2_elementOf 0 = .ok (.aload_n 0, 1) := by decide +kernel
theorem dX2_elementOf_1 : decode cX2_elementOf 1 = .ok (.aload_n 0, 1) := by decide +kernel
theorem dX2_elementOf_2 : decode cX2_elementOf 2 = .ok (.getfield 12, 3) := by decide +kernel
theorem dX2_elementOf_5 : decode cX2_elementOf 5 = .ok (.iload_n 1, 1) := by decide +kernel
theorem dX2_elementOf_6 : decode cX2_elementOf 6 = .ok (.invokevirtual 84, 3) := by decide +kernel
theorem dX2_elementOf_9 : decode cX2_elementOf 9 = .ok (.invokevirtual 96, 3) := by decide +kernel
theorem dX2_elementOf_12 : decode cX2_elementOf 12 = .ok (.aload_n 0, 1) := by decide +kernel
theorem dX2_elementOf_13 : decode cX2_elementOf 13 = .ok (.getfield 22, 3) := by decide +kernel
theorem dX2_elementOf_16 : decode cX2_elementOf 16 = .ok (.iload_n 1, 1) := by decide +kernel
theorem dX2_elementOf_17 : decode cX2_elementOf 17 = .ok (.invokevirtual 84, 3) := by decide +kernel
theorem dX2_elementOf_20 : decode cX2_elementOf 20 = .ok (.iload_n 2, 1) := by decide +kernel
theorem dX2_elementOf_21 : decode cX2_elementOf 21 = .ok (.iadd, 1) := by decide +kernel
theorem dX2_elementOf_22 : decode cX2_elementOf 22 = .ok (.invokevirtual 84, 3) := by decide +kernel
theorem dX2_elementOf_25 : decode cX2_elementOf 25 = .ok (.ireturn, 1) := by decide +kernel
set_option maxRecDepth 20000 in
theorem ggX2_accessHolder_X1_at : GoodIn wsX2_accessHolder wsX1_at := goodIn_r _ [7, 8, 19, 20] (by decide +kernel) (by decide +kernel)
set_option maxRecDepth 20000 in
theorem gX2_accessHolder_X1_at : GoodIn wsX2_accessHolder (wsV RX2 84 RX1 yX1_at wsX1_at) := goodIn_app (goodIn_of _ (by decide +kernel)) ggX2_accessHolder_X1_at
theorem dX2_accessHolder_0 : decode cX2_accessHolder 0 = .ok (.aload_n 0, 1) := by decide +kernel
theorem dX2_accessHolder_1 : decode cX2_accessHolder 1 = .ok (.getfield 12, 3) := by decide +kernel
theorem dX2_accessHolder_4 : decode cX2_accessHolder 4 = .ok (.iload_n 1, 1) := by decide +kernel
theorem dX2_accessHolder_5 : decode cX2_accessHolder 5 = .ok (.invokevirtual 84, 3) := by decide +kernel
theorem dX2_accessHolder_8 : decode cX2_accessHolder 8 = .ok (.bipush 7, 2) := by decide +kernel
theorem dX2_accessHolder_10 : decode cX2_accessHolder 10 = .ok (.if_icmp .ne 14, 3) := by decide +kernel
theorem dX2_accessHolder_13 : decode cX2_accessHolder 13 = .ok (.aload_n 0, 1) := by decide +kernel
theorem dX2_accessHolder_14 : decode cX2_accessHolder 14 = .ok (.getfield 19, 3) := by decide +kernel
theorem dX2_accessHolder_17 : decode cX2_accessHolder 17 = .ok (.iload_n 1, 1) := by decide +kernel
theorem dX2_accessHolder_18 : decode cX2_accessHolder 18 = .ok (.invokevirtual 84, 3) := by decide +kernel
theorem dX2_accessHolder_21 : decode cX2_accessHolder 21 = .ok (.goto 4, 3) := by decide +kernel
theorem dX2_accessHolder_24 : decode cX2_accessHolder 24 = .ok (.iload_n 1, 1) := by decide +kernel
theorem dX2_accessHolder_25 : decode cX2_accessHolder 25 = .ok (.ireturn, 1) := by decide +kernel
set_option maxRecDepth 20000 in
theorem ggX2_accessOf_X2_accessHolder : GoodIn wsX2_accessOf wsX2_accessHolder := goodIn_r _ [7, 8, 9, 10, 11, 12, 13, 14, 15, 16, 17, 18, 19, 20, 21, 22, 23, 24, 25, 33, 34] (by decide +kernel) (by decide +kernel)
set_option maxRecDepth 20000 in
theorem gX2_accessOf_X2_accessHolder : GoodIn wsX2_accessOf (wsV RX2 209 RX2 yX2_accessHolder wsX2_accessHolder) := goodIn_app (goodIn_of _ (by decide +kernel)) ggX2_accessOf_X2_accessHolder
set_option maxRecDepth 20000 in
theorem ggX2_accessOf_X1_at : GoodIn wsX2_accessOf wsX1_at := goodIn_r _ [14, 15, 33, 34] (by decide +kernel) (by decide +kernel)
set_option maxRecDepth 20000 in
theorem gX2_accessOf_X1_at : GoodIn wsX2_accessOf (wsV RX2 84 RX1 yX1_at wsX1_at) := goodIn_app (goodIn_of _ (by decide +kernel)) ggX2_accessOf_X1_at
theorem dX2_accessOf_0 : decode cX2_accessOf 0 = .ok (.aload_n 0, 1) := by decide +kernel
theorem dX2_accessOf_1 : decode cX2_accessOf 1 = .ok (.getfield 34, 3) := by decide +kernel
theorem dX2_accessOf_4 : decode cX2_accessOf 4 = .ok (.getfield 206, 3) := by decide +kernel
theorem dX2_accessOf_7 : decode cX2_accessOf 7 = .ok (.aload_n 0, 1) := by decide +kernel
theorem dX2_accessOf_8 : decode cX2_accessOf 8 = .ok (.iload_n 1, 1) := by decide +kernel
theorem dX2_accessOf_9 : decode cX2_accessOf 9 = .ok (.invokevirtual 209, 3) := by decide +kernel
theorem dX2_accessOf_12 : decode cX2_accessOf 12 = .ok (.invokevirtual 84, 3) := by decide +kernel
theorem dX2_accessOf_15 : decode cX2_accessOf 15 = .ok (.ireturn, 1) := by decide +kernel
set_option maxRecDepth 20000 in
theorem ggX2_lowerAccess_X1_at : GoodIn wsX2_lowerAccess wsX1_at := goodIn_r _ [8, 9, 44, 45] (by decide +kernel) (by decide +kernel)
set_option maxRecDepth 20000 in
theorem gX2_lowerAccess_X1_at : GoodIn wsX2_lowerAccess (wsV RX2 84 RX1 yX1_at wsX1_at) := goodIn_app (goodIn_of _ (by decide +kernel)) ggX2_lowerAccess_X1_at
set_option maxRecDepth 20000 in
theorem ggX2_lowerAccess_X2_firstAccess : GoodIn wsX2_lowerAccess wsX2_firstAccess := goodIn_r _ [13] (by decide +kernel) (by decide +kernel)
set_option maxRecDepth 20000 in
theorem gX2_lowerAccess_X2_firstAccess : GoodIn wsX2_lowerAccess (va_wsS RX2 197 yX2_firstAccess wsX2_firstAccess) := goodIn_app (goodIn_of _ (by decide +kernel)) ggX2_lowerAccess_X2_firstAccess
set_option maxRecDepth 20000 in
theorem ggX2_lowerAccess_X2_accessOf : GoodIn wsX2_lowerAccess wsX2_accessOf := goodIn_r _ [17, 2, 3, 18, 19, 20, 12, 21, 1, 22, 4, 5, 6, 7, 8, 9, 27, 28, 29, 30, 31, 32, 33, 34, 35, 36, 37, 38, 39, 40, 41, 42, 43, 44, 45] (by decide +kernel) (by decide +kernel)
set_option maxRecDepth 20000 in
theorem gX2_lowerAccess_X2_accessOf : GoodIn wsX2_lowerAccess (wsV RX2 93 RX2 yX2_accessOf wsX2_accessOf) := goodIn_app (goodIn_of _ (by decide +kernel)) ggX2_lowerAccess_X2_accessOf
set_option maxRecDepth 20000 in
theorem ggX2_lowerAccess_X2_accessHolder : GoodIn wsX2_lowerAccess wsX2_accessHolder := goodIn_r _ [21, 1, 22, 4, 5, 6, 7, 8, 9, 27, 28, 29, 30, 31, 32, 33, 34, 35, 36, 44, 45] (by decide +kernel) (by decide +kernel)
set_option maxRecDepth 20000 in
theorem gX2_lowerAccess_X2_accessHolder : GoodIn wsX2_lowerAccess (wsV RX2 209 RX2 yX2_accessHolder wsX2_accessHolder) := goodIn_app (goodIn_of _ (by decide +kernel)) ggX2_lowerAccess_X2_accessHolder
set_option maxRecDepth 20000 in
theorem ggX2_lowerAccess_X1_set : GoodIn wsX2_lowerAccess wsX1_set := goodIn_r _ [26, 9, 44, 45] (by decide +kernel) (by decide +kernel)
set_option maxRecDepth 20000 in
theorem gX2_lowerAccess_X1_set : GoodIn wsX2_lowerAccess (wsV RX2 100 RX1 yX1_set wsX1_set) := goodIn_app (goodIn_of _ (by decide +kernel)) ggX2_lowerAccess_X1_set
theorem dX2_lowerAccess_0 : decode cX2_lowerAccess 0 = .ok (.aload_n 0, 1) := by decide +kernel
theorem dX2_lowerAccess_1 : decode cX2_lowerAccess 1 = .ok (.getfield 12, 3) := by decide +kernel
theorem dX2_lowerAccess_4 : decode cX2_lowerAccess 4 = .ok (.iload_n 1, 1) := by decide +kernel
theorem dX2_lowerAccess_5 : decode cX2_lowerAccess 5 = .ok (.invokevirtual 84, 3) := by decide +kernel
theorem dX2_lowerAccess_8 : decode cX2_lowerAccess 8 = .ok (.invokestatic 197, 3) := by decide +kernel
theorem dX2_lowerAccess_11 : decode cX2_lowerAccess 11 = .ok (.ifCond .eq 12, 3) := by decide +kernel
theorem dX2_lowerAccess_14 : decode cX2_lowerAccess 14 = .ok (.iload_n 2, 1) := by decide +kernel
theorem dX2_lowerAccess_15 : decode cX2_lowerAccess 15 = .ok (.aload_n 0, 1) := by decide +kernel
theorem dX2_lowerAccess_16 : decode cX2_lowerAccess 16 = .ok (.iload_n 1, 1) := by decide +kernel
theorem dX2_lowerAccess_17 : decode cX2_lowerAccess 17 = .ok (.invokevirtual 93, 3) := by decide +kernel
theorem dX2_lowerAccess_20 : decode cX2_lowerAccess 20 = .ok (.if_icmp .le 6, 3) := by decide +kernel
theorem dX2_lowerAccess_23 : decode cX2_lowerAccess 23 = .ok (.bipush (-3), 2) := by decide +kernel
theorem dX2_lowerAccess_25 : decode cX2_lowerAccess 25 = .ok (.ireturn, 1) := by decide +kernel
theorem dX2_lowerAccess_26 : decode cX2_lowerAccess 26 = .ok (.aload_n 0, 1) := by decide +kernel
theorem dX2_lowerAccess_27 : decode cX2_lowerAccess 27 = .ok (.getfield 34, 3) := by decide +kernel
theorem dX2_lowerAccess_30 : decode cX2_lowerAccess 30 = .ok (.getfield 206, 3) := by decide +kernel
theorem dX2_lowerAccess_33 : decode cX2_lowerAccess 33 = .ok (.aload_n 0, 1) := by decide +kernel
theorem dX2_lowerAccess_34 : decode cX2_lowerAccess 34 = .ok (.iload_n 1, 1) := by decide +kernel
theorem dX2_lowerAccess_35 : decode cX2_lowerAccess 35 = .ok (.invokevirtual 209, 3) := by decide +kernel
theorem dX2_lowerAccess_38 : decode cX2_lowerAccess 38 = .ok (.iload_n 2, 1) := by decide +kernel
theorem dX2_lowerAccess_39 : decode cX2_lowerAccess 39 = .ok (.invokevirtual 100, 3) := by decide +kernel
theorem dX2_lowerAccess_42 : decode cX2_lowerAccess 42 = .ok (.iconst 1, 1) := by decide +kernel
theorem dX2_lowerAccess_43 : decode cX2_lowerAccess 43 = .ok (.ireturn, 1) := by decide +kernel
set_option maxRecDepth 20000 in
theorem ggX2_letGrow_X1_at : GoodIn wsX2_letGrow wsX1_at := goodIn_r _ [9, 10, 32, 33] (by decide +kernel) (by decide +kernel)
set_option maxRecDepth 20000 in
theorem gX2_letGrow_X1_at : GoodIn wsX2_letGrow (wsV RX2 84 RX1 yX1_at wsX1_at) := goodIn_app (goodIn_of _ (by decide +kernel)) ggX2_letGrow_X1_at
set_option maxRecDepth 20000 in
theorem ggX2_letGrow_X1_set : GoodIn wsX2_letGrow wsX1_set := goodIn_r _ [14, 10, 32, 33] (by decide +kernel) (by decide +kernel)
set_option maxRecDepth 20000 in
theorem gX2_letGrow_X1_set : GoodIn wsX2_letGrow (wsV RX2 100 RX1 yX1_set wsX1_set) := goodIn_app (goodIn_of _ (by decide +kernel)) ggX2_letGrow_X1_set
theorem dX2_letGrow_0 : decode cX2_letGrow 0 = .ok (.aload_n 0, 1) := by decide +kernel
theorem dX2_letGrow_1 : decode cX2_letGrow 1 = .ok (.getfield 12, 3) := by decide +kernel
theorem dX2_letGrow_4 : decode cX2_letGrow 4 = .ok (.iload_n 1, 1) := by decide +kernel
theorem dX2_letGrow_5 : decode cX2_letGrow 5 = .ok (.invokevirtual 84, 3) := by decide +kernel
theorem dX2_letGrow_8 : decode cX2_letGrow 8 = .ok (.bipush 7, 2) := by decide +kernel
theorem dX2_letGrow_10 : decode cX2_letGrow 10 = .ok (.if_icmp .eq 6, 3) := by decide +kernel
theorem dX2_letGrow_13 : decode cX2_letGrow 13 = .ok (.bipush (-3), 2) := by decide +kernel
theorem dX2_letGrow_15 : decode cX2_letGrow 15 = .ok (.ireturn, 1) := by decide +kernel
theorem dX2_letGrow_16 : decode cX2_letGrow 16 = .ok (.aload_n 0, 1) := by decide +kernel
theorem dX2_letGrow_17 : decode cX2_letGrow 17 = .ok (.getfield 34, 3) := by decide +kernel
theorem dX2_letGrow_20 : decode cX2_letGrow 20 = .ok (.getfield 135, 3) := by decide +kernel
theorem dX2_letGrow_23 : decode cX2_letGrow 23 = .ok (.aload_n 0, 1) := by decide +kernel
theorem dX2_letGrow_24 : decode cX2_letGrow 24 = .ok (.getfield 19, 3) := by decide +kernel
theorem dX2_letGrow_27 : decode cX2_letGrow 27 = .ok (.iload_n 1, 1) := by decide +kernel
theorem dX2_letGrow_28 : decode cX2_letGrow 28 = .ok (.invokevirtual 84, 3) := by decide +kernel
theorem dX2_letGrow_31 : decode cX2_letGrow 31 = .ok (.iload_n 2, 1) := by decide +kernel
theorem dX2_letGrow_32 : decode cX2_letGrow 32 = .ok (.invokevirtual 100, 3) := by decide +kernel
theorem dX2_letGrow_35 : decode cX2_letGrow 35 = .ok (.iconst 1, 1) := by decide +kernel
theorem dX2_letGrow_36 : decode cX2_letGrow 36 = .ok (.ireturn, 1) := by decide +kernel
set_option maxRecDepth 20000 in
theorem ggX2_alike_X1_at : GoodIn wsX2_alike wsX1_at := goodIn_r _ [6, 7, 80, 81] (by decide +kernel) (by decide +kernel)
set_option maxRecDepth 20000 in
theorem gX2_alike_X1_at : GoodIn wsX2_alike (wsV RX2 84 RX1 yX1_at wsX1_at) := goodIn_app (goodIn_of _ (by decide +kernel)) ggX2_alike_X1_at
set_option maxRecDepth 20000 in
theorem ggX2_alike_X2_readableString : GoodIn wsX2_alike wsX2_readableString := goodIn_r _ [12, 1, 2, 3, 4, 5, 6, 7, 13, 14, 15, 11, 16, 17, 18, 19, 20, 21, 22, 23, 70, 71, 72, 73, 74, 75, 76, 77, 78, 79, 80, 81, 82, 83, 84, 85, 86, 87, 88] (by decide +kernel) (by decide +kernel)
set_option maxRecDepth 20000 in
theorem gX2_alike_X2_readableString : GoodIn wsX2_alike (wsV RX2 150 RX2 yX2_readableString wsX2_readableString) := goodIn_app (goodIn_of _ (by decide +kernel)) ggX2_alike_X2_readableString
set_option maxRecDepth 20000 in
theorem ggX2_alike_X2_orderOfBytes : GoodIn wsX2_alike wsX2_orderOfBytes := goodIn_r _ [27, 28, 29, 30, 31, 32, 2, 3, 4, 5, 6, 7, 33, 34, 35, 11, 36, 1, 37, 38, 39, 40, 41, 42, 17, 43, 44, 45, 46, 70, 71, 72, 73, 74, 75, 76, 77, 78, 79, 80, 81, 82, 83, 84, 85, 86, 87, 88] (by decide +kernel) (by decide +kernel)
set_option maxRecDepth 20000 in
theorem gX2_alike_X2_orderOfBytes : GoodIn wsX2_alike (wsV RX2 153 RX2 yX2_orderOfBytes wsX2_orderOfBytes) := goodIn_app (goodIn_of _ (by decide +kernel)) ggX2_alike_X2_orderOfBytes
set_option maxRecDepth 20000 in
theorem ggX2_alike_X2_nameOf : GoodIn wsX2_alike wsX2_nameOf := goodIn_r _ [50, 1, 51, 2, 3, 4, 5, 6, 7, 8, 9, 10, 11, 12, 13, 14, 15, 16, 17, 18, 19, 20, 21, 22, 23, 52, 53, 54, 55, 28, 33, 34, 35, 36, 37, 38, 39, 40, 41, 42, 43, 56, 57, 58, 70, 71, 72, 73, 74, 75, 76, 77, 78, 79, 80, 81, 82, 83, 84, 85, 86, 87, 88] (by decide +kernel) (by decide +kernel)
set_option maxRecDepth 20000 in
theorem gX2_alike_X2_nameOf : GoodIn wsX2_alike (wsV RX2 212 RX2 yX2_nameOf wsX2_nameOf) := goodIn_app (goodIn_of _ (by decide +kernel)) ggX2_alike_X2_nameOf
set_option maxRecDepth 20000 in
theorem ggX2_alike_X2_alikeButStrings : GoodIn wsX2_alike wsX2_alikeButStrings := goodIn_r _ [62, 1, 28, 2, 3, 4, 5, 6, 7, 63, 64, 11, 65, 66, 67, 68, 69, 23, 37, 51, 70, 71, 72, 73, 74, 75, 76, 77, 78, 79, 80, 81] (by decide +kernel) (by decide +kernel)
set_option maxRecDepth 20000 in
theorem gX2_alike_X2_alikeButStrings : GoodIn wsX2_alike (wsV RX2 215 RX2 yX2_alikeButStrings wsX2_alikeButStrings) := goodIn_app (goodIn_of _ (by decide +kernel)) ggX2_alike_X2_alikeButStrings
theorem dX2_alike_0 : decode cX2_alike 0 = .ok (.aload_n 0, 1) := by decide +kernel
theorem dX2_alike_1 : decode cX2_alike 1 = .ok (.getfield 12, 3) := by decide +kernel
theorem dX2_alike_4 : decode cX2_alike 4 = .ok (.iload_n 1, 1) := by decide +kernel
theorem dX2_alike_5 : decode cX2_alike 5 = .ok (.invokevirtual 84, 3) := by decide +kernel
theorem dX2_alike_8 : decode cX2_alike 8 = .ok (.istore_n 3, 1) := by decide +kernel
theorem dX2_alike_9 : decode cX2_alike 9 = .ok (.aload_n 0, 1) := by decide +kernel
theorem dX2_alike_10 : decode cX2_alike 10 = .ok (.getfield 12, 3) := by decide +kernel
theorem dX2_alike_13 : decode cX2_alike 13 = .ok (.iload_n 2, 1) := by decide +kernel
theorem dX2_alike_14 : decode cX2_alike 14 = .ok (.invokevirtual 84, 3) := by decide +kernel
theorem dX2_alike_17 : decode cX2_alike 17 = .ok (.istore 4, 2) := by decide +kernel
theorem dX2_alike_19 : decode cX2_alike 19 = .ok (.iload_n 3, 1) := by decide +kernel
theorem dX2_alike_20 : decode cX2_alike 20 = .ok (.iconst 4, 1) := by decide +kernel
theorem dX2_alike_21 : decode cX2_alike 21 = .ok (.if_icmp .ne 41, 3) := by decide +kernel
theorem dX2_alike_24 : decode cX2_alike 24 = .ok (.iload 4, 2) := by decide +kernel
theorem dX2_alike_26 : decode cX2_alike 26 = .ok (.iconst 4, 1) := by decide +kernel
theorem dX2_alike_27 : decode cX2_alike 27 = .ok (.if_icmp .ne 35, 3) := by decide +kernel
theorem dX2_alike_30 : decode cX2_alike 30 = .ok (.aload_n 0, 1) := by decide +kernel
theorem dX2_alike_31 : decode cX2_alike 31 = .ok (.iload_n 1, 1) := by decide +kernel
theorem dX2_alike_32 : decode cX2_alike 32 = .ok (.invokevirtual 150, 3) := by decide +kernel
theorem dX2_alike_35 : decode cX2_alike 35 = .ok (.ifCond .eq 25, 3) := by decide +kernel
theorem dX2_alike_38 : decode cX2_alike 38 = .ok (.aload_n 0, 1) := by decide +kernel
theorem dX2_alike_39 : decode cX2_alike 39 = .ok (.iload_n 2, 1) := by decide +kernel
theorem dX2_alike_40 : decode cX2_alike 40 = .ok (.invokevirtual 150, 3) := by decide +kernel
theorem dX2_alike_43 : decode cX2_alike 43 = .ok (.ifCond .eq 17, 3) := by decide +kernel
theorem dX2_alike_46 : decode cX2_alike 46 = .ok (.aload_n 0, 1) := by decide +kernel
theorem dX2_alike_47 : decode cX2_alike 47 = .ok (.iload_n 1, 1) := by decide +kernel
theorem dX2_alike_48 : decode cX2_alike 48 = .ok (.iload_n 2, 1) := by decide +kernel
theorem dX2_alike_49 : decode cX2_alike 49 = .ok (.invokevirtual 153, 3) := by decide +kernel
theorem dX2_alike_52 : decode cX2_alike 52 = .ok (.iconst 1, 1) := by decide +kernel
theorem dX2_alike_53 : decode cX2_alike 53 = .ok (.if_icmp .ne 7, 3) := by decide +kernel
theorem dX2_alike_56 : decode cX2_alike 56 = .ok (.iconst 1, 1) := by decide +kernel
theorem dX2_alike_57 : decode cX2_alike 57 = .ok (.goto 4, 3) := by decide +kernel
theorem dX2_alike_60 : decode cX2_alike 60 = .ok (.iconst 0, 1) := by decide +kernel
theorem dX2_alike_61 : decode cX2_alike 61 = .ok (.ireturn, 1) := by decide +kernel
theorem dX2_alike_62 : decode cX2_alike 62 = .ok (.iload_n 3, 1) := by decide +kernel
theorem dX2_alike_63 : decode cX2_alike 63 = .ok (.iconst 4, 1) := by decide +kernel
theorem dX2_alike_64 : decode cX2_alike 64 = .ok (.if_icmp .eq 9, 3) := by decide +kernel
theorem dX2_alike_67 : decode cX2_alike 67 = .ok (.iload 4, 2) := by decide +kernel
theorem dX2_alike_69 : decode cX2_alike 69 = .ok (.iconst 4, 1) := by decide +kernel
theorem dX2_alike_70 : decode cX2_alike 70 = .ok (.if_icmp .ne 31, 3) := by decide +kernel
theorem dX2_alike_73 : decode cX2_alike 73 = .ok (.aload_n 0, 1) := by decide +kernel
theorem dX2_alike_74 : decode cX2_alike 74 = .ok (.iload_n 1, 1) := by decide +kernel
theorem dX2_alike_75 : decode cX2_alike 75 = .ok (.invokevirtual 212, 3) := by decide +kernel
theorem dX2_alike_78 : decode cX2_alike 78 = .ok (.iconst (-1), 1) := by decide +kernel
theorem dX2_alike_79 : decode cX2_alike 79 = .ok (.if_icmp .eq 20, 3) := by decide +kernel
theorem dX2_alike_82 : decode cX2_alike 82 = .ok (.aload_n 0, 1) := by decide +kernel
theorem dX2_alike_83 : decode cX2_alike 83 = .ok (.iload_n 1, 1) := by decide +kernel
theorem dX2_alike_84 : decode cX2_alike 84 = .ok (.invokevirtual 212, 3) := by decide +kernel
theorem dX2_alike_87 : decode cX2_alike 87 = .ok (.aload_n 0, 1) := by decide +kernel
theorem dX2_alike_88 : decode cX2_alike 88 = .ok (.iload_n 2, 1) := by decide +kernel
theorem dX2_alike_89 : decode cX2_alike 89 = .ok (.invokevirtual 212, 3) := by decide +kernel
theorem dX2_alike_92 : decode cX2_alike 92 = .ok (.if_icmp .ne 7, 3) := by decide +kernel
theorem dX2_alike_95 : decode cX2_alike 95 = .ok (.iconst 1, 1) := by decide +kernel
theorem dX2_alike_96 : decode cX2_alike 96 = .ok (.goto 4, 3) := by decide +kernel
theorem dX2_alike_99 : decode cX2_alike 99 = .ok (.iconst 0, 1) := by decide +kernel
theorem dX2_alike_100 : decode cX2_alike 100 = .ok (.ireturn, 1) := by decide +kernel
theorem dX2_alike_101 : decode cX2_alike 101 = .ok (.aload_n 0, 1) := by decide +kernel
theorem dX2_alike_102 : decode cX2_alike 102 = .ok (.iload_n 1, 1) := by decide +kernel
theorem dX2_alike_103 : decode cX2_alike 103 = .ok (.iload_n 2, 1) := by decide +kernel
theorem dX2_alike_104 : decode cX2_alike 104 = .ok (.invokevirtual 215, 3) := by decide +kernel
theorem dX2_alike_107 : decode cX2_alike 107 = .ok (.ireturn, 1) := by decide +kernel
set_option maxRecDepth 20000 in
theorem ggX2_alikeButStrings_X1_at : GoodIn wsX2_alikeButStrings wsX1_at := goodIn_r _ [7, 8, 30, 31] (by decide +kernel) (by decide +kernel)
set_option maxRecDepth 20000 in
theorem gX2_alikeButStrings_X1_at : GoodIn wsX2_alikeButStrings (wsV RX2 84 RX1 yX1_at wsX1_at) := goodIn_app (goodIn_of _ (by decide +kernel)) ggX2_alikeButStrings_X1_at
set_option maxRecDepth 20000 in
theorem ggX2_alikeButStrings_X2_isList : GoodIn wsX2_alikeButStrings wsX2_isList := goodIn_r _ [12] (by decide +kernel) (by decide +kernel)
set_option maxRecDepth 20000 in
theorem gX2_alikeButStrings_X2_isList : GoodIn wsX2_alikeButStrings (va_wsS RX2 191 yX2_isList wsX2_isList) := goodIn_app (goodIn_of _ (by decide +kernel)) ggX2_alikeButStrings_X2_isList
set_option maxRecDepth 20000 in
theorem ggX2_alikeButStrings_X2_alikeOfKind : GoodIn wsX2_alikeButStrings wsX2_alikeOfKind := goodIn_r _ [16, 17, 18, 2, 19, 3, 4, 5, 6, 7, 8, 20, 21, 22, 23, 24, 25, 26, 27, 28, 29, 30, 31] (by decide +kernel) (by decide +kernel)
set_option maxRecDepth 20000 in
theorem gX2_alikeButStrings_X2_alikeOfKind : GoodIn wsX2_alikeButStrings (wsV RX2 218 RX2 yX2_alikeOfKind wsX2_alikeOfKind) := goodIn_app (goodIn_of _ (by decide +kernel)) ggX2_alikeButStrings_X2_alikeOfKind
theorem dX2_alikeButStrings_0 : decode cX2_alikeButStrings 0 = .ok (.aload_n 0, 1) := by decide +kernel
theorem dX2_alikeButStrings_1 : decode cX2_alikeButStrings 1 = .ok (.getfield 12, 3) := by decide +kernel
theorem dX2_alikeButStrings_4 : decode cX2_alikeButStrings 4 = .ok (.iload_n 1, 1) := by decide +kernel
theorem dX2_alikeButStrings_5 : decode cX2_alikeButStrings 5 = .ok (.invokevirtual 84, 3) := by decide +kernel
theorem dX2_alikeButStrings_8 : decode cX2_alikeButStrings 8 = .ok (.istore_n 3, 1) := by decide +kernel
theorem dX2_alikeButStrings_9 : decode cX2_alikeButStrings 9 = .ok (.aload_n 0, 1) := by decide +kernel
theorem dX2_alikeButStrings_10 : decode cX2_alikeButStrings 10 = .ok (.getfield 12, 3) := by decide +kernel
theorem dX2_alikeButStrings_13 : decode cX2_alikeButStrings 13 = .ok (.iload_n 2, 1) := by decide +kernel
theorem dX2_alikeButStrings_14 : decode cX2_alikeButStrings 14 = .ok (.invokevirtual 84, 3) := by decide +kernel
theorem dX2_alikeButStrings_17 : decode cX2_alikeButStrings 17 = .ok (.istore 4, 2) := by decide +kernel
theorem dX2_alikeButStrings_19 : decode cX2_alikeButStrings 19 = .ok (.iload_n 3, 1) := by decide +kernel
theorem dX2_alikeButStrings_20 : decode cX2_alikeButStrings 20 = .ok (.invokestatic 191, 3) := by decide +kernel
theorem dX2_alikeButStrings_23 : decode cX2_alikeButStrings 23 = .ok (.ifCond .eq 35, 3) := by decide +kernel
theorem dX2_alikeButStrings_26 : decode cX2_alikeButStrings 26 = .ok (.iload 4, 2) := by decide +kernel
theorem dX2_alikeButStrings_28 : decode cX2_alikeButStrings 28 = .ok (.invokestatic 191, 3) := by decide +kernel
theorem dX2_alikeButStrings_31 : decode cX2_alikeButStrings 31 = .ok (.ifCond .eq 27, 3) := by decide +kernel
theorem dX2_alikeButStrings_34 : decode cX2_alikeButStrings 34 = .ok (.aload_n 0, 1) := by decide +kernel
theorem dX2_alikeButStrings_35 : decode cX2_alikeButStrings 35 = .ok (.getfield 25, 3) := by decide +kernel
theorem dX2_alikeButStrings_38 : decode cX2_alikeButStrings 38 = .ok (.iload_n 1, 1) := by decide +kernel
theorem dX2_alikeButStrings_39 : decode cX2_alikeButStrings 39 = .ok (.invokevirtual 84, 3) := by decide +kernel
theorem dX2_alikeButStrings_42 : decode cX2_alikeButStrings 42 = .ok (.ifCond .ne 16, 3) := by decide +kernel
theorem dX2_alikeButStrings_45 : decode cX2_alikeButStrings 45 = .ok (.aload_n 0, 1) := by decide +kernel
theorem dX2_alikeButStrings_46 : decode cX2_alikeButStrings 46 = .ok (.getfield 25, 3) := by decide +kernel
theorem dX2_alikeButStrings_49 : decode cX2_alikeButStrings 49 = .ok (.iload_n 2, 1) := by decide +kernel
theorem dX2_alikeButStrings_50 : decode cX2_alikeButStrings 50 = .ok (.invokevirtual 84, 3) := by decide +kernel
theorem dX2_alikeButStrings_53 : decode cX2_alikeButStrings 53 = .ok (.ifCond .ne 5, 3) := by decide +kernel
theorem dX2_alikeButStrings_56 : decode cX2_alikeButStrings 56 = .ok (.iconst 1, 1) := by decide +kernel
theorem dX2_alikeButStrings_57 : decode cX2_alikeButStrings 57 = .ok (.ireturn, 1) := by decide +kernel
theorem dX2_alikeButStrings_58 : decode cX2_alikeButStrings 58 = .ok (.iload_n 3, 1) := by decide +kernel
theorem dX2_alikeButStrings_59 : decode cX2_alikeButStrings 59 = .ok (.iload 4, 2) := by decide +kernel
theorem dX2_alikeButStrings_61 : decode cX2_alikeButStrings 61 = .ok (.if_icmp .ne 17, 3) := by decide +kernel
theorem dX2_alikeButStrings_64 : decode cX2_alikeButStrings 64 = .ok (.aload_n 0, 1) := by decide +kernel
theorem dX2_alikeButStrings_65 : decode cX2_alikeButStrings 65 = .ok (.iload_n 3, 1) := by decide +kernel
theorem dX2_alikeButStrings_66 : decode cX2_alikeButStrings 66 = .ok (.iload_n 1, 1) := by decide +kernel
theorem dX2_alikeButStrings_67 : decode cX2_alikeButStrings 67 = .ok (.iload_n 2, 1) := by decide +kernel
theorem dX2_alikeButStrings_68 : decode cX2_alikeButStrings 68 = .ok (.invokevirtual 218, 3) := by decide +kernel
theorem dX2_alikeButStrings_71 : decode cX2_alikeButStrings 71 = .ok (.ifCond .eq 7, 3) := by decide +kernel
theorem dX2_alikeButStrings_74 : decode cX2_alikeButStrings 74 = .ok (.iconst 1, 1) := by decide +kernel
theorem dX2_alikeButStrings_75 : decode cX2_alikeButStrings 75 = .ok (.goto 4, 3) := by decide +kernel
theorem dX2_alikeButStrings_78 : decode cX2_alikeButStrings 78 = .ok (.iconst 0, 1) := by decide +kernel
theorem dX2_alikeButStrings_79 : decode cX2_alikeButStrings 79 = .ok (.ireturn, 1) := by decide +kernel
set_option maxRecDepth 20000 in
theorem ggX2_alikeOfKind_X1_at : GoodIn wsX2_alikeOfKind wsX1_at := goodIn_r _ [9, 10, 21, 22] (by decide +kernel) (by decide +kernel)
set_option maxRecDepth 20000 in
theorem gX2_alikeOfKind_X1_at : GoodIn wsX2_alikeOfKind (wsV RX2 84 RX1 yX1_at wsX1_at) := goodIn_app (goodIn_of _ (by decide +kernel)) ggX2_alikeOfKind_X1_at
theorem dX2_alikeOfKind_0 : decode cX2_alikeOfKind 0 = .ok (.iload_n 1, 1) := by decide +kernel
theorem dX2_alikeOfKind_1 : decode cX2_alikeOfKind 1 = .ok (.tableswitch 164 0 11 #[63, 164, 164, 164, 164, 65, 65, 128, 63, 164, 164, 153], 63) := by decide +kernel
theorem dX2_alikeOfKind_64 : decode cX2_alikeOfKind 64 = .ok (.iconst 1, 1) := by decide +kernel
theorem dX2_alikeOfKind_65 : decode cX2_alikeOfKind 65 = .ok (.ireturn, 1) := by decide +kernel
theorem dX2_alikeOfKind_66 : decode cX2_alikeOfKind 66 = .ok (.aload_n 0, 1) := by decide +kernel
theorem dX2_alikeOfKind_67 : decode cX2_alikeOfKind 67 = .ok (.getfield 19, 3) := by decide +kernel
theorem dX2_alikeOfKind_70 : decode cX2_alikeOfKind 70 = .ok (.iload_n 2, 1) := by decide +kernel
theorem dX2_alikeOfKind_71 : decode cX2_alikeOfKind 71 = .ok (.invokevirtual 84, 3) := by decide +kernel
theorem dX2_alikeOfKind_74 : decode cX2_alikeOfKind 74 = .ok (.aload_n 0, 1) := by decide +kernel
theorem dX2_alikeOfKind_75 : decode cX2_alikeOfKind 75 = .ok (.getfield 19, 3) := by decide +kernel
theorem dX2_alikeOfKind_78 : decode cX2_alikeOfKind 78 = .ok (.iload_n 3, 1) := by decide +kernel
theorem dX2_alikeOfKind_79 : decode cX2_alikeOfKind 79 = .ok (.invokevirtual 84, 3) := by decide +kernel
theorem dX2_alikeOfKind_82 : decode cX2_alikeOfKind 82 = .ok (.if_icmp .ne 45, 3) := by decide +kernel
theorem dX2_alikeOfKind_85 : decode cX2_alikeOfKind 85 = .ok (.aload_n 0, 1) := by decide +kernel
theorem dX2_alikeOfKind_86 : decode cX2_alikeOfKind 86 = .ok (.getfield 22, 3) := by decide +kernel
theorem dX2_alikeOfKind_89 : decode cX2_alikeOfKind 89 = .ok (.iload_n 2, 1) := by decide +kernel
theorem dX2_alikeOfKind_90 : decode cX2_alikeOfKind 90 = .ok (.invokevirtual 84, 3) := by decide +kernel
theorem dX2_alikeOfKind_93 : decode cX2_alikeOfKind 93 = .ok (.aload_n 0, 1) := by decide +kernel
theorem dX2_alikeOfKind_94 : decode cX2_alikeOfKind 94 = .ok (.getfield 22, 3) := by decide +kernel
theorem dX2_alikeOfKind_97 : decode cX2_alikeOfKind 97 = .ok (.iload_n 3, 1) := by decide +kernel
theorem dX2_alikeOfKind_98 : decode cX2_alikeOfKind 98 = .ok (.invokevirtual 84, 3) := by decide +kernel
theorem dX2_alikeOfKind_101 : decode cX2_alikeOfKind 101 = .ok (.if_icmp .ne 26, 3) := by decide +kernel
theorem dX2_alikeOfKind_104 : decode cX2_alikeOfKind 104 = .ok (.aload_n 0, 1) := by decide +kernel
theorem dX2_alikeOfKind_105 : decode cX2_alikeOfKind 105 = .ok (.getfield 25, 3) := by decide +kernel
theorem dX2_alikeOfKind_108 : decode cX2_alikeOfKind 108 = .ok (.iload_n 2, 1) := by decide +kernel
theorem dX2_alikeOfKind_109 : decode cX2_alikeOfKind 109 = .ok (.invokevirtual 84, 3) := by decide +kernel
theorem dX2_alikeOfKind_112 : decode cX2_alikeOfKind 112 = .ok (.aload_n 0, 1) := by decide +kernel
theorem dX2_alikeOfKind_113 : decode cX2_alikeOfKind 113 = .ok (.getfield 25, 3) := by decide +kernel
theorem dX2_alikeOfKind_116 : decode cX2_alikeOfKind 116 = .ok (.iload_n 3, 1) := by decide +kernel
theorem dX2_alikeOfKind_117 : decode cX2_alikeOfKind 117 = .ok (.invokevirtual 84, 3) := by decide +kernel
theorem dX2_alikeOfKind_120 : decode cX2_alikeOfKind 120 = .ok (.if_icmp .ne 7, 3) := by decide +kernel
theorem dX2_alikeOfKind_123 : decode cX2_alikeOfKind 123 = .ok (.iconst 1, 1) := by decide +kernel
theorem dX2_alikeOfKind_124 : decode cX2_alikeOfKind 124 = .ok (.goto 4, 3) := by decide +kernel
theorem dX2_alikeOfKind_127 : decode cX2_alikeOfKind 127 = .ok (.iconst 0, 1) := by decide +kernel
theorem dX2_alikeOfKind_128 : decode cX2_alikeOfKind 128 = .ok (.ireturn, 1) := by decide +kernel
theorem dX2_alikeOfKind_129 : decode cX2_alikeOfKind 129 = .ok (.aload_n 0, 1) := by decide +kernel
theorem dX2_alikeOfKind_130 : decode cX2_alikeOfKind 130 = .ok (.getfield 19, 3) := by decide +kernel
theorem dX2_alikeOfKind_133 : decode cX2_alikeOfKind 133 = .ok (.iload_n 2, 1) := by decide +kernel
theorem dX2_alikeOfKind_134 : decode cX2_alikeOfKind 134 = .ok (.invokevirtual 84, 3) := by decide +kernel
theorem dX2_alikeOfKind_137 : decode cX2_alikeOfKind 137 = .ok (.aload_n 0, 1) := by decide +kernel
theorem dX2_alikeOfKind_138 : decode cX2_alikeOfKind 138 = .ok (.getfield 19, 3) := by decide +kernel
theorem dX2_alikeOfKind_141 : decode cX2_alikeOfKind 141 = .ok (.iload_n 3, 1) := by decide +kernel
theorem dX2_alikeOfKind_142 : decode cX2_alikeOfKind 142 = .ok (.invokevirtual 84, 3) := by decide +kernel
theorem dX2_alikeOfKind_145 : decode cX2_alikeOfKind 145 = .ok (.if_icmp .ne 7, 3) := by decide +kernel
theorem dX2_alikeOfKind_148 : decode cX2_alikeOfKind 148 = .ok (.iconst 1, 1) := by decide +kernel
theorem dX2_alikeOfKind_149 : decode cX2_alikeOfKind 149 = .ok (.goto 4, 3) := by decide +kernel
theorem dX2_alikeOfKind_152 : decode cX2_alikeOfKind 152 = .ok (.iconst 0, 1) := by decide +kernel
theorem dX2_alikeOfKind_153 : decode cX2_alikeOfKind 153 = .ok (.ireturn, 1) := by decide +kernel
theorem dX2_alikeOfKind_154 : decode cX2_alikeOfKind 154 = .ok (.iload_n 2, 1) := by decide +kernel
theorem dX2_alikeOfKind_155 : decode cX2_alikeOfKind 155 = .ok (.iload_n 3, 1) := by decide +kernel
theorem dX2_alikeOfKind_156 : decode cX2_alikeOfKind 156 = .ok (.if_icmp .ne 7, 3) := by decide +kernel
theorem dX2_alikeOfKind_159 : decode cX2_alikeOfKind 159 = .ok (.iconst 1, 1) := by decide +kernel
theorem dX2_alikeOfKind_160 : decode cX2_alikeOfKind 160 = .ok (.goto 4, 3) := by decide +kernel
theorem dX2_alikeOfKind_163 : decode cX2_alikeOfKind 163 = .ok (.iconst 0, 1) := by decide +kernel
theorem dX2_alikeOfKind_164 : decode cX2_alikeOfKind 164 = .ok (.ireturn, 1) := by decide +kernel
theorem dX2_alikeOfKind_165 : decode cX2_alikeOfKind 165 = .ok (.aload_n 0, 1) := by decide +kernel
theorem dX2_alikeOfKind_166 : decode cX2_alikeOfKind 166 = .ok (.getfield 16, 3) := by decide +kernel
theorem dX2_alikeOfKind_169 : decode cX2_alikeOfKind 169 = .ok (.iload_n 2, 1) := by decide +kernel
theorem dX2_alikeOfKind_170 : decode cX2_alikeOfKind 170 = .ok (.invokevirtual 84, 3) := by decide +kernel
theorem dX2_alikeOfKind_173 : decode cX2_alikeOfKind 173 = .ok (.aload_n 0, 1) := by decide +kernel
theorem dX2_alikeOfKind_174 : decode cX2_alikeOfKind 174 = .ok (.getfield 16, 3) := by decide +kernel
theorem dX2_alikeOfKind_177 : decode cX2_alikeOfKind 177 = .ok (.iload_n 3, 1) := by decide +kernel
theorem dX2_alikeOfKind_178 : decode cX2_alikeOfKind 178 = .ok (.invokevirtual 84, 3) := by decide +kernel
theorem dX2_alikeOfKind_181 : decode cX2_alikeOfKind 181 = .ok (.if_icmp .ne 7, 3) := by decide +kernel
theorem dX2_alikeOfKind_184 : decode cX2_alikeOfKind 184 = .ok (.iconst 1, 1) := by decide +kernel
theorem dX2_alikeOfKind_185 : decode cX2_alikeOfKind 185 = .ok (.goto 4, 3) := by decide +kernel
theorem dX2_alikeOfKind_188 : decode cX2_alikeOfKind 188 = .ok (.iconst 0, 1) := by decide +kernel
theorem dX2_alikeOfKind_189 : decode cX2_alikeOfKind 189 = .ok (.ireturn, 1) := by decide +kernel
set_option maxRecDepth 20000 in
theorem ggX2_readableString_X1_at : GoodIn wsX2_readableString wsX1_at := goodIn_r _ [6, 7, 30, 31] (by decide +kernel) (by decide +kernel)
set_option maxRecDepth 20000 in
theorem gX2_readableString_X1_at : GoodIn wsX2_readableString (wsV RX2 84 RX1 yX1_at wsX1_at) := goodIn_app (goodIn_of _ (by decide +kernel)) ggX2_readableString_X1_at
set_option maxRecDepth 20000 in
theorem ggX2_readableString_X2_accessOf : GoodIn wsX2_readableString wsX2_accessOf := goodIn_r _ [12, 13, 14, 15, 16, 17, 11, 18, 1, 19, 2, 3, 4, 5, 6, 7, 20, 21, 22, 23, 24, 25, 26, 27, 28, 29, 32, 33, 34, 35, 36, 37, 38, 30, 31] (by decide +kernel) (by decide +kernel)
set_option maxRecDepth 20000 in
theorem gX2_readableString_X2_accessOf : GoodIn wsX2_readableString (wsV RX2 93 RX2 yX2_accessOf wsX2_accessOf) := goodIn_app (goodIn_of _ (by decide +kernel)) ggX2_readableString_X2_accessOf
theorem dX2_readableString_0 : decode cX2_readableString 0 = .ok (.aload_n 0, 1) := by decide +kernel
theorem dX2_readableString_1 : decode cX2_readableString 1 = .ok (.getfield 12, 3) := by decide +kernel
theorem dX2_readableString_4 : decode cX2_readableString 4 = .ok (.iload_n 1, 1) := by decide +kernel
theorem dX2_readableString_5 : decode cX2_readableString 5 = .ok (.invokevirtual 84, 3) := by decide +kernel
theorem dX2_readableString_8 : decode cX2_readableString 8 = .ok (.iconst 4, 1) := by decide +kernel
theorem dX2_readableString_9 : decode cX2_readableString 9 = .ok (.if_icmp .ne 16, 3) := by decide +kernel
theorem dX2_readableString_12 : decode cX2_readableString 12 = .ok (.aload_n 0, 1) := by decide +kernel
theorem dX2_readableString_13 : decode cX2_readableString 13 = .ok (.iload_n 1, 1) := by decide +kernel
theorem dX2_readableString_14 : decode cX2_readableString 14 = .ok (.invokevirtual 93, 3) := by decide +kernel
theorem dX2_readableString_17 : decode cX2_readableString 17 = .ok (.iconst 2, 1) := by decide +kernel
theorem dX2_readableString_18 : decode cX2_readableString 18 = .ok (.if_icmp .lt 7, 3) := by decide +kernel
theorem dX2_readableString_21 : decode cX2_readableString 21 = .ok (.iconst 1, 1) := by decide +kernel
theorem dX2_readableString_22 : decode cX2_readableString 22 = .ok (.goto 4, 3) := by decide +kernel
theorem dX2_readableString_25 : decode cX2_readableString 25 = .ok (.iconst 0, 1) := by decide +kernel
theorem dX2_readableString_26 : decode cX2_readableString 26 = .ok (.ireturn, 1) := by decide +kernel
theorem dX2_order_0 : decode cX2_order 0 = .ok (.iload_n 0, 1) := by decide +kernel
theorem dX2_order_1 : decode cX2_order 1 = .ok (.iload_n 1, 1) := by decide +kernel
theorem dX2_order_2 : decode cX2_order 2 = .ok (.if_icmp .ne 5, 3) := by decide +kernel
theorem dX2_order_5 : decode cX2_order 5 = .ok (.iconst 1, 1) := by decide +kernel
theorem dX2_order_6 : decode cX2_order 6 = .ok (.ireturn, 1) := by decide +kernel
theorem dX2_order_7 : decode cX2_order 7 = .ok (.iload_n 0, 1) := by decide +kernel
theorem dX2_order_8 : decode cX2_order 8 = .ok (.iload_n 1, 1) := by decide +kernel
theorem dX2_order_9 : decode cX2_order 9 = .ok (.if_icmp .ge 7, 3) := by decide +kernel
theorem dX2_order_12 : decode cX2_order 12 = .ok (.iconst 0, 1) := by decide +kernel
theorem dX2_order_13 : decode cX2_order 13 = .ok (.goto 4, 3) := by decide +kernel
theorem dX2_order_16 : decode cX2_order 16 = .ok (.iconst 2, 1) := by decide +kernel
theorem dX2_order_17 : decode cX2_order 17 = .ok (.ireturn, 1) := by decide +kernel
set_option maxRecDepth 20000 in
theorem ggX2_orderOfBytes_X1_at : GoodIn wsX2_orderOfBytes wsX1_at := goodIn_r _ [10, 11, 39, 40] (by decide +kernel) (by decide +kernel)
set_option maxRecDepth 20000 in
theorem gX2_orderOfBytes_X1_at : GoodIn wsX2_orderOfBytes (wsV RX2 84 RX1 yX1_at wsX1_at) := goodIn_app (goodIn_of _ (by decide +kernel)) ggX2_orderOfBytes_X1_at
set_option maxRecDepth 20000 in
theorem ggX2_orderOfBytes_X2_elementOf : GoodIn wsX2_orderOfBytes wsX2_elementOf := goodIn_r _ [16, 17, 18, 6, 7, 8, 9, 10, 11, 19, 20, 21, 15, 22, 23, 24, 25, 29, 30, 31, 32, 33, 34, 35, 36, 37, 38, 39, 40, 41, 42, 43, 44, 45, 46, 47] (by decide +kernel) (by decide +kernel)
set_option maxRecDepth 20000 in
theorem gX2_orderOfBytes_X2_elementOf : GoodIn wsX2_orderOfBytes (wsV RX2 114 RX2 yX2_elementOf wsX2_elementOf) := goodIn_app (goodIn_of _ (by decide +kernel)) ggX2_orderOfBytes_X2_elementOf
set_option maxRecDepth 20000 in
theorem ggX2_orderOfBytes_X2_order : GoodIn wsX2_orderOfBytes wsX2_order := goodIn_r _ [28] (by decide +kernel) (by decide +kernel)
set_option maxRecDepth 20000 in
theorem gX2_orderOfBytes_X2_order : GoodIn wsX2_orderOfBytes (va_wsS RX2 147 yX2_order wsX2_order) := goodIn_app (goodIn_of _ (by decide +kernel)) ggX2_orderOfBytes_X2_order
theorem dX2_orderOfBytes_0 : decode cX2_orderOfBytes 0 = .ok (.aload_n 0, 1) := by decide +kernel
theorem dX2_orderOfBytes_1 : decode cX2_orderOfBytes 1 = .ok (.getfield 25, 3) := by decide +kernel
theorem dX2_orderOfBytes_4 : decode cX2_orderOfBytes 4 = .ok (.iload_n 1, 1) := by decide +kernel
theorem dX2_orderOfBytes_5 : decode cX2_orderOfBytes 5 = .ok (.invokevirtual 84, 3) := by decide +kernel
theorem dX2_orderOfBytes_8 : decode cX2_orderOfBytes 8 = .ok (.aload_n 0, 1) := by decide +kernel
theorem dX2_orderOfBytes_9 : decode cX2_orderOfBytes 9 = .ok (.getfield 25, 3) := by decide +kernel
theorem dX2_orderOfBytes_12 : decode cX2_orderOfBytes 12 = .ok (.iload_n 2, 1) := by decide +kernel
theorem dX2_orderOfBytes_13 : decode cX2_orderOfBytes 13 = .ok (.invokevirtual 84, 3) := by decide +kernel
theorem dX2_orderOfBytes_16 : decode cX2_orderOfBytes 16 = .ok (.invokestatic 186, 3) := by decide +kernel
theorem dX2_orderOfBytes_19 : decode cX2_orderOfBytes 19 = .ok (.istore_n 3, 1) := by decide +kernel
theorem dX2_orderOfBytes_20 : decode cX2_orderOfBytes 20 = .ok (.iconst 0, 1) := by decide +kernel
theorem dX2_orderOfBytes_21 : decode cX2_orderOfBytes 21 = .ok (.istore 4, 2) := by decide +kernel
theorem dX2_orderOfBytes_23 : decode cX2_orderOfBytes 23 = .ok (.iload 4, 2) := by decide +kernel
theorem dX2_orderOfBytes_25 : decode cX2_orderOfBytes 25 = .ok (.iload_n 3, 1) := by decide +kernel
theorem dX2_orderOfBytes_26 : decode cX2_orderOfBytes 26 = .ok (.if_icmp .ge 37, 3) := by decide +kernel
theorem dX2_orderOfBytes_29 : decode cX2_orderOfBytes 29 = .ok (.aload_n 0, 1) := by decide +kernel
theorem dX2_orderOfBytes_30 : decode cX2_orderOfBytes 30 = .ok (.iload_n 1, 1) := by decide +kernel
theorem dX2_orderOfBytes_31 : decode cX2_orderOfBytes 31 = .ok (.iload 4, 2) := by decide +kernel
theorem dX2_orderOfBytes_33 : decode cX2_orderOfBytes 33 = .ok (.invokevirtual 114, 3) := by decide +kernel
theorem dX2_orderOfBytes_36 : decode cX2_orderOfBytes 36 = .ok (.aload_n 0, 1) := by decide +kernel
theorem dX2_orderOfBytes_37 : decode cX2_orderOfBytes 37 = .ok (.iload_n 2, 1) := by decide +kernel
theorem dX2_orderOfBytes_38 : decode cX2_orderOfBytes 38 = .ok (.iload 4, 2) := by decide +kernel
theorem dX2_orderOfBytes_40 : decode cX2_orderOfBytes 40 = .ok (.invokevirtual 114, 3) := by decide +kernel
theorem dX2_orderOfBytes_43 : decode cX2_orderOfBytes 43 = .ok (.invokestatic 147, 3) := by decide +kernel
theorem dX2_orderOfBytes_46 : decode cX2_orderOfBytes 46 = .ok (.istore 5, 2) := by decide +kernel
theorem dX2_orderOfBytes_48 : decode cX2_orderOfBytes 48 = .ok (.iload 5, 2) := by decide +kernel
theorem dX2_orderOfBytes_50 : decode cX2_orderOfBytes 50 = .ok (.iconst 1, 1) := by decide +kernel
theorem dX2_orderOfBytes_51 : decode cX2_orderOfBytes 51 = .ok (.if_icmp .eq 6, 3) := by decide +kernel
theorem dX2_orderOfBytes_54 : decode cX2_orderOfBytes 54 = .ok (.iload 5, 2) := by decide +kernel
theorem dX2_orderOfBytes_56 : decode cX2_orderOfBytes 56 = .ok (.ireturn, 1) := by decide +kernel
theorem dX2_orderOfBytes_57 : decode cX2_orderOfBytes 57 = .ok (.iinc 4 1, 3) := by decide +kernel
theorem dX2_orderOfBytes_60 : decode cX2_orderOfBytes 60 = .ok (.goto (-37), 3) := by decide +kernel
theorem dX2_orderOfBytes_63 : decode cX2_orderOfBytes 63 = .ok (.aload_n 0, 1) := by decide +kernel
theorem dX2_orderOfBytes_64 : decode cX2_orderOfBytes 64 = .ok (.getfield 25, 3) := by decide +kernel
theorem dX2_orderOfBytes_67 : decode cX2_orderOfBytes 67 = .ok (.iload_n 1, 1) := by decide +kernel
theorem dX2_orderOfBytes_68 : decode cX2_orderOfBytes 68 = .ok (.invokevirtual 84, 3) := by decide +kernel
theorem dX2_orderOfBytes_71 : decode cX2_orderOfBytes 71 = .ok (.aload_n 0, 1) := by decide +kernel
theorem dX2_orderOfBytes_72 : decode cX2_orderOfBytes 72 = .ok (.getfield 25, 3) := by decide +kernel
theorem dX2_orderOfBytes_75 : decode cX2_orderOfBytes 75 = .ok (.iload_n 2, 1) := by decide +kernel
theorem dX2_orderOfBytes_76 : decode cX2_orderOfBytes 76 = .ok (.invokevirtual 84, 3) := by decide +kernel
theorem dX2_orderOfBytes_79 : decode cX2_orderOfBytes 79 = .ok (.invokestatic 147, 3) := by decide +kernel
theorem dX2_orderOfBytes_82 : decode cX2_orderOfBytes 82 = .ok (.ireturn, 1) := by decide +kernel
theorem dX2_digits_0 : decode cX2_digits 0 = .ok (.iload_n 0, 1) := by decide +kernel
theorem dX2_digits_1 : decode cX2_digits 1 = .ok (.bipush 10, 2) := by decide +kernel
theorem dX2_digits_3 : decode cX2_digits 3 = .ok (.if_icmp .ge 5, 3) := by decide +kernel
theorem dX2_digits_6 : decode cX2_digits 6 = .ok (.iconst 1, 1) := by decide +kernel
theorem dX2_digits_7 : decode cX2_digits 7 = .ok (.ireturn, 1) := by decide +kernel
theorem dX2_digits_8 : decode cX2_digits 8 = .ok (.iload_n 0, 1) := by decide +kernel
theorem dX2_digits_9 : decode cX2_digits 9 = .ok (.bipush 100, 2) := by decide +kernel
theorem dX2_digits_11 : decode cX2_digits 11 = .ok (.if_icmp .ge 7, 3) := by decide +kernel
theorem dX2_digits_14 : decode cX2_digits 14 = .ok (.iconst 2, 1) := by decide +kernel
theorem dX2_digits_15 : decode cX2_digits 15 = .ok (.goto 4, 3) := by decide +kernel
theorem dX2_digits_18 : decode cX2_digits 18 = .ok (.iconst 3, 1) := by decide +kernel
theorem dX2_digits_19 : decode cX2_digits 19 = .ok (.ireturn, 1) := by decide +kernel
set_option maxRecDepth 20000 in
theorem ggX2_nameOf_X1_at : GoodIn wsX2_nameOf wsX1_at := goodIn_r _ [7, 8, 54, 55] (by decide +kernel) (by decide +kernel)
set_option maxRecDepth 20000 in
theorem gX2_nameOf_X1_at : GoodIn wsX2_nameOf (wsV RX2 84 RX1 yX1_at wsX1_at) := goodIn_app (goodIn_of _ (by decide +kernel)) ggX2_nameOf_X1_at
set_option maxRecDepth 20000 in
theorem ggX2_nameOf_X2_readableString : GoodIn wsX2_nameOf wsX2_readableString := goodIn_r _ [13, 1, 3, 4, 5, 6, 7, 8, 14, 15, 16, 12, 17, 18, 19, 20, 21, 22, 23, 24, 44, 45, 46, 47, 48, 49, 50, 51, 52, 53, 54, 55, 56, 57, 58, 59, 60, 61, 62] (by decide +kernel) (by decide +kernel)
set_option maxRecDepth 20000 in
theorem gX2_nameOf_X2_readableString : GoodIn wsX2_nameOf (wsV RX2 150 RX2 yX2_readableString wsX2_readableString) := goodIn_app (goodIn_of _ (by decide +kernel)) ggX2_nameOf_X2_readableString
set_option maxRecDepth 20000 in
theorem ggX2_nameOf_X2_numberInTens : GoodIn wsX2_nameOf wsX2_numberInTens := goodIn_r _ [28, 29, 3, 4, 5, 6, 7, 8, 30, 31, 32, 12, 33, 1, 34, 35, 36, 37, 38, 39, 18, 40, 41, 42, 43, 44, 45, 46, 47, 48, 49, 50, 51, 52, 53, 54, 55, 56, 57, 58, 59, 60, 61, 62] (by decide +kernel) (by decide +kernel)
set_option maxRecDepth 20000 in
theorem gX2_nameOf_X2_numberInTens : GoodIn wsX2_nameOf (wsV RX2 221 RX2 yX2_numberInTens wsX2_numberInTens) := goodIn_app (goodIn_of _ (by decide +kernel)) ggX2_nameOf_X2_numberInTens
theorem dX2_nameOf_0 : decode cX2_nameOf 0 = .ok (.aload_n 0, 1) := by decide +kernel
theorem dX2_nameOf_1 : decode cX2_nameOf 1 = .ok (.getfield 12, 3) := by decide +kernel
theorem dX2_nameOf_4 : decode cX2_nameOf 4 = .ok (.iload_n 1, 1) := by decide +kernel
theorem dX2_nameOf_5 : decode cX2_nameOf 5 = .ok (.invokevirtual 84, 3) := by decide +kernel
theorem dX2_nameOf_8 : decode cX2_nameOf 8 = .ok (.iconst 3, 1) := by decide +kernel
theorem dX2_nameOf_9 : decode cX2_nameOf 9 = .ok (.if_icmp .ne 12, 3) := by decide +kernel
theorem dX2_nameOf_12 : decode cX2_nameOf 12 = .ok (.aload_n 0, 1) := by decide +kernel
theorem dX2_nameOf_13 : decode cX2_nameOf 13 = .ok (.getfield 16, 3) := by decide +kernel
theorem dX2_nameOf_16 : decode cX2_nameOf 16 = .ok (.iload_n 1, 1) := by decide +kernel
theorem dX2_nameOf_17 : decode cX2_nameOf 17 = .ok (.invokevirtual 84, 3) := by decide +kernel
end
section
theorem dX2_nameOf_20 : decode cX2_nameOf 20 = .ok (.ireturn, 1) := by decide +kernel
theorem dX2_nameOf_21 : decode cX2_nameOf 21 = .ok (.aload_n 0, 1) := by decide +kernel
theorem dX2_nameOf_22 : decode cX2_nameOf 22 = .ok (.iload_n 1, 1) := by decide +kernel
theorem dX2_nameOf_23 : decode cX2_nameOf 23 = .ok (.invokevirtual 150, 3) := by decide +kernel
theorem dX2_nameOf_26 : decode cX2_nameOf 26 = .ok (.ifCond .eq 11, 3) := by decide +kernel
theorem dX2_nameOf_29 : decode cX2_nameOf 29 = .ok (.aload_n 0, 1) := by decide +kernel
theorem dX2_nameOf_30 : decode cX2_nameOf 30 = .ok (.iload_n 1, 1) := by decide +kernel
theorem dX2_nameOf_31 : decode cX2_nameOf 31 = .ok (.invokevirtual 221, 3) := by decide +kernel
theorem dX2_nameOf_34 : decode cX2_nameOf 34 = .ok (.goto 4, 3) := by decide +kernel
theorem dX2_nameOf_37 : decode cX2_nameOf 37 = .ok (.iconst (-1), 1) := by decide +kernel
theorem dX2_nameOf_38 : decode cX2_nameOf 38 = .ok (.ireturn, 1) := by decide +kernel
set_option maxRecDepth 20000 in
theorem ggX2_numberInTens_X1_at : GoodIn wsX2_numberInTens wsX1_at := goodIn_r _ [6, 7, 35, 36] (by decide +kernel) (by decide +kernel)
set_option maxRecDepth 20000 in
theorem gX2_numberInTens_X1_at : GoodIn wsX2_numberInTens (wsV RX2 84 RX1 yX1_at wsX1_at) := goodIn_app (goodIn_of _ (by decide +kernel)) ggX2_numberInTens_X1_at
set_option maxRecDepth 20000 in
theorem ggX2_numberInTens_X2_elementOf : GoodIn wsX2_numberInTens wsX2_elementOf := goodIn_r _ [12, 13, 14, 2, 3, 4, 5, 6, 7, 15, 16, 17, 11, 18, 19, 20, 21, 25, 26, 27, 28, 29, 30, 31, 32, 33, 34, 35, 36, 37, 38, 39, 40, 41, 42, 43] (by decide +kernel) (by decide +kernel)
set_option maxRecDepth 20000 in
theorem gX2_numberInTens_X2_elementOf : GoodIn wsX2_numberInTens (wsV RX2 114 RX2 yX2_elementOf wsX2_elementOf) := goodIn_app (goodIn_of _ (by decide +kernel)) ggX2_numberInTens_X2_elementOf
set_option maxRecDepth 20000 in
theorem ggX2_numberInTens_X2_within : GoodIn wsX2_numberInTens wsX2_within := goodIn_r _ [24] (by decide +kernel) (by decide +kernel)
set_option maxRecDepth 20000 in
theorem gX2_numberInTens_X2_within : GoodIn wsX2_numberInTens (va_wsS RX2 90 yX2_within wsX2_within) := goodIn_app (goodIn_of _ (by decide +kernel)) ggX2_numberInTens_X2_within
theorem dX2_numberInTens_0 : decode cX2_numberInTens 0 = .ok (.aload_n 0, 1) := by decide +kernel
theorem dX2_numberInTens_1 : decode cX2_numberInTens 1 = .ok (.getfield 25, 3) := by decide +kernel
theorem dX2_numberInTens_4 : decode cX2_numberInTens 4 = .ok (.iload_n 1, 1) := by decide +kernel
theorem dX2_numberInTens_5 : decode cX2_numberInTens 5 = .ok (.invokevirtual 84, 3) := by decide +kernel
theorem dX2_numberInTens_8 : decode cX2_numberInTens 8 = .ok (.istore_n 2, 1) := by decide +kernel
theorem dX2_numberInTens_9 : decode cX2_numberInTens 9 = .ok (.iload_n 2, 1) := by decide +kernel
theorem dX2_numberInTens_10 : decode cX2_numberInTens 10 = .ok (.iconst 1, 1) := by decide +kernel
theorem dX2_numberInTens_11 : decode cX2_numberInTens 11 = .ok (.if_icmp .lt 8, 3) := by decide +kernel
theorem dX2_numberInTens_14 : decode cX2_numberInTens 14 = .ok (.iload_n 2, 1) := by decide +kernel
theorem dX2_numberInTens_15 : decode cX2_numberInTens 15 = .ok (.iconst 3, 1) := by decide +kernel
theorem dX2_numberInTens_16 : decode cX2_numberInTens 16 = .ok (.if_icmp .le 5, 3) := by decide +kernel
theorem dX2_numberInTens_19 : decode cX2_numberInTens 19 = .ok (.iconst (-1), 1) := by decide +kernel
theorem dX2_numberInTens_20 : decode cX2_numberInTens 20 = .ok (.ireturn, 1) := by decide +kernel
theorem dX2_numberInTens_21 : decode cX2_numberInTens 21 = .ok (.iconst 0, 1) := by decide +kernel
theorem dX2_numberInTens_22 : decode cX2_numberInTens 22 = .ok (.istore_n 3, 1) := by decide +kernel
theorem dX2_numberInTens_23 : decode cX2_numberInTens 23 = .ok (.iconst 0, 1) := by decide +kernel
theorem dX2_numberInTens_24 : decode cX2_numberInTens 24 = .ok (.istore 4, 2) := by decide +kernel
theorem dX2_numberInTens_26 : decode cX2_numberInTens 26 = .ok (.iload 4, 2) := by decide +kernel
theorem dX2_numberInTens_28 : decode cX2_numberInTens 28 = .ok (.iload_n 2, 1) := by decide +kernel
theorem dX2_numberInTens_29 : decode cX2_numberInTens 29 = .ok (.if_icmp .ge 62, 3) := by decide +kernel
theorem dX2_numberInTens_32 : decode cX2_numberInTens 32 = .ok (.aload_n 0, 1) := by decide +kernel
theorem dX2_numberInTens_33 : decode cX2_numberInTens 33 = .ok (.iload_n 1, 1) := by decide +kernel
theorem dX2_numberInTens_34 : decode cX2_numberInTens 34 = .ok (.iload 4, 2) := by decide +kernel
theorem dX2_numberInTens_36 : decode cX2_numberInTens 36 = .ok (.invokevirtual 114, 3) := by decide +kernel
theorem dX2_numberInTens_39 : decode cX2_numberInTens 39 = .ok (.bipush 48, 2) := by decide +kernel
theorem dX2_numberInTens_41 : decode cX2_numberInTens 41 = .ok (.isub, 1) := by decide +kernel
theorem dX2_numberInTens_42 : decode cX2_numberInTens 42 = .ok (.istore 5, 2) := by decide +kernel
theorem dX2_numberInTens_44 : decode cX2_numberInTens 44 = .ok (.iload 4, 2) := by decide +kernel
theorem dX2_numberInTens_46 : decode cX2_numberInTens 46 = .ok (.ifCond .le 11, 3) := by decide +kernel
theorem dX2_numberInTens_49 : decode cX2_numberInTens 49 = .ok (.iload_n 3, 1) := by decide +kernel
theorem dX2_numberInTens_50 : decode cX2_numberInTens 50 = .ok (.ifCond .ne 7, 3) := by decide +kernel
theorem dX2_numberInTens_53 : decode cX2_numberInTens 53 = .ok (.iconst 1, 1) := by decide +kernel
theorem dX2_numberInTens_54 : decode cX2_numberInTens 54 = .ok (.goto 4, 3) := by decide +kernel
theorem dX2_numberInTens_57 : decode cX2_numberInTens 57 = .ok (.iconst 0, 1) := by decide +kernel
theorem dX2_numberInTens_58 : decode cX2_numberInTens 58 = .ok (.istore 6, 2) := by decide +kernel
theorem dX2_numberInTens_60 : decode cX2_numberInTens 60 = .ok (.iload 5, 2) := by decide +kernel
theorem dX2_numberInTens_62 : decode cX2_numberInTens 62 = .ok (.bipush 9, 2) := by decide +kernel
theorem dX2_numberInTens_64 : decode cX2_numberInTens 64 = .ok (.invokestatic 90, 3) := by decide +kernel
theorem dX2_numberInTens_67 : decode cX2_numberInTens 67 = .ok (.ifCond .eq 8, 3) := by decide +kernel
theorem dX2_numberInTens_70 : decode cX2_numberInTens 70 = .ok (.iload 6, 2) := by decide +kernel
theorem dX2_numberInTens_72 : decode cX2_numberInTens 72 = .ok (.ifCond .eq 5, 3) := by decide +kernel
theorem dX2_numberInTens_75 : decode cX2_numberInTens 75 = .ok (.iconst (-1), 1) := by decide +kernel
theorem dX2_numberInTens_76 : decode cX2_numberInTens 76 = .ok (.ireturn, 1) := by decide +kernel
theorem dX2_numberInTens_77 : decode cX2_numberInTens 77 = .ok (.iload_n 3, 1) := by decide +kernel
theorem dX2_numberInTens_78 : decode cX2_numberInTens 78 = .ok (.bipush 10, 2) := by decide +kernel
theorem dX2_numberInTens_80 : decode cX2_numberInTens 80 = .ok (.imul, 1) := by decide +kernel
theorem dX2_numberInTens_81 : decode cX2_numberInTens 81 = .ok (.iload 5, 2) := by decide +kernel
theorem dX2_numberInTens_83 : decode cX2_numberInTens 83 = .ok (.iadd, 1) := by decide +kernel
theorem dX2_numberInTens_84 : decode cX2_numberInTens 84 = .ok (.istore_n 3, 1) := by decide +kernel
theorem dX2_numberInTens_85 : decode cX2_numberInTens 85 = .ok (.iinc 4 1, 3) := by decide +kernel
theorem dX2_numberInTens_88 : decode cX2_numberInTens 88 = .ok (.goto (-62), 3) := by decide +kernel
theorem dX2_numberInTens_91 : decode cX2_numberInTens 91 = .ok (.iload_n 3, 1) := by decide +kernel
theorem dX2_numberInTens_92 : decode cX2_numberInTens 92 = .ok (.ireturn, 1) := by decide +kernel
set_option maxRecDepth 20000 in
theorem ggX2_keyFor_X1_at : GoodIn wsX2_keyFor wsX1_at := goodIn_r _ [6, 7, 58, 59] (by decide +kernel) (by decide +kernel)
set_option maxRecDepth 20000 in
theorem gX2_keyFor_X1_at : GoodIn wsX2_keyFor (wsV RX2 84 RX1 yX1_at wsX1_at) := goodIn_app (goodIn_of _ (by decide +kernel)) ggX2_keyFor_X1_at
set_option maxRecDepth 20000 in
theorem ggX2_keyFor_X2_nameOf : GoodIn wsX2_keyFor wsX2_nameOf := goodIn_r _ [12, 1, 13, 2, 3, 4, 5, 6, 7, 14, 15, 16, 11, 17, 18, 19, 20, 21, 22, 23, 24, 25, 26, 27, 28, 29, 30, 31, 32, 33, 34, 35, 36, 37, 38, 39, 40, 41, 42, 43, 44, 45, 46, 47, 48, 49, 50, 51, 52, 53, 54, 55, 56, 57, 58, 59, 60, 61, 62, 63, 64, 65, 66] (by decide +kernel) (by decide +kernel)
set_option maxRecDepth 20000 in
theorem gX2_keyFor_X2_nameOf : GoodIn wsX2_keyFor (wsV RX2 212 RX2 yX2_nameOf wsX2_nameOf) := goodIn_app (goodIn_of _ (by decide +kernel)) ggX2_keyFor_X2_nameOf
theorem dX2_keyFor_0 : decode cX2_keyFor 0 = .ok (.aload_n 0, 1) := by decide +kernel
theorem dX2_keyFor_1 : decode cX2_keyFor 1 = .ok (.getfield 12, 3) := by decide +kernel
theorem dX2_keyFor_4 : decode cX2_keyFor 4 = .ok (.iload_n 1, 1) := by decide +kernel
theorem dX2_keyFor_5 : decode cX2_keyFor 5 = .ok (.invokevirtual 84, 3) := by decide +kernel
theorem dX2_keyFor_8 : decode cX2_keyFor 8 = .ok (.istore_n 2, 1) := by decide +kernel
theorem dX2_keyFor_9 : decode cX2_keyFor 9 = .ok (.iload_n 2, 1) := by decide +kernel
theorem dX2_keyFor_10 : decode cX2_keyFor 10 = .ok (.ifCond .ne 5, 3) := by decide +kernel
theorem dX2_keyFor_13 : decode cX2_keyFor 13 = .ok (.iconst (-1), 1) := by decide +kernel
theorem dX2_keyFor_14 : decode cX2_keyFor 14 = .ok (.ireturn, 1) := by decide +kernel
theorem dX2_keyFor_15 : decode cX2_keyFor 15 = .ok (.iload_n 2, 1) := by decide +kernel
theorem dX2_keyFor_16 : decode cX2_keyFor 16 = .ok (.iconst 4, 1) := by decide +kernel
theorem dX2_keyFor_17 : decode cX2_keyFor 17 = .ok (.if_icmp .eq 10, 3) := by decide +kernel
theorem dX2_keyFor_20 : decode cX2_keyFor 20 = .ok (.iload_n 2, 1) := by decide +kernel
theorem dX2_keyFor_21 : decode cX2_keyFor 21 = .ok (.iconst 3, 1) := by decide +kernel
theorem dX2_keyFor_22 : decode cX2_keyFor 22 = .ok (.if_icmp .eq 5, 3) := by decide +kernel
theorem dX2_keyFor_25 : decode cX2_keyFor 25 = .ok (.iload_n 1, 1) := by decide +kernel
theorem dX2_keyFor_26 : decode cX2_keyFor 26 = .ok (.ireturn, 1) := by decide +kernel
theorem dX2_keyFor_27 : decode cX2_keyFor 27 = .ok (.aload_n 0, 1) := by decide +kernel
theorem dX2_keyFor_28 : decode cX2_keyFor 28 = .ok (.iload_n 1, 1) := by decide +kernel
theorem dX2_keyFor_29 : decode cX2_keyFor 29 = .ok (.invokevirtual 212, 3) := by decide +kernel
theorem dX2_keyFor_32 : decode cX2_keyFor 32 = .ok (.istore_n 3, 1) := by decide +kernel
theorem dX2_keyFor_33 : decode cX2_keyFor 33 = .ok (.iload_n 3, 1) := by decide +kernel
theorem dX2_keyFor_34 : decode cX2_keyFor 34 = .ok (.iconst (-1), 1) := by decide +kernel
theorem dX2_keyFor_35 : decode cX2_keyFor 35 = .ok (.if_icmp .ne 7, 3) := by decide +kernel
theorem dX2_keyFor_38 : decode cX2_keyFor 38 = .ok (.iconst (-1), 1) := by decide +kernel
theorem dX2_keyFor_39 : decode cX2_keyFor 39 = .ok (.goto 7, 3) := by decide +kernel
theorem dX2_keyFor_42 : decode cX2_keyFor 42 = .ok (.bipush 100, 2) := by decide +kernel
theorem dX2_keyFor_44 : decode cX2_keyFor 44 = .ok (.iload_n 3, 1) := by decide +kernel
theorem dX2_keyFor_45 : decode cX2_keyFor 45 = .ok (.iadd, 1) := by decide +kernel
theorem dX2_keyFor_46 : decode cX2_keyFor 46 = .ok (.ireturn, 1) := by decide +kernel
set_option maxRecDepth 20000 in
theorem ggX2_alikeKeys_X2_alikeButStrings : GoodIn wsX2_alikeKeys wsX2_alikeButStrings := goodIn_r _ [5, 6, 7, 8, 9, 10, 11, 12, 13, 14, 15, 4, 16, 17, 18, 19, 20, 21, 22, 23, 24, 25, 26, 27, 28, 29, 30, 31, 32, 33, 34, 35] (by decide +kernel) (by decide +kernel)
set_option maxRecDepth 20000 in
theorem gX2_alikeKeys_X2_alikeButStrings : GoodIn wsX2_alikeKeys (wsV RX2 215 RX2 yX2_alikeButStrings wsX2_alikeButStrings) := goodIn_app (goodIn_of _ (by decide +kernel)) ggX2_alikeKeys_X2_alikeButStrings
theorem dX2_alikeKeys_0 : decode cX2_alikeKeys 0 = .ok (.iload_n 1, 1) := by decide +kernel
theorem dX2_alikeKeys_1 : decode cX2_alikeKeys 1 = .ok (.bipush 100, 2) := by decide +kernel
theorem dX2_alikeKeys_3 : decode cX2_alikeKeys 3 = .ok (.if_icmp .ge 9, 3) := by decide +kernel
theorem dX2_alikeKeys_6 : decode cX2_alikeKeys 6 = .ok (.iload_n 2, 1) := by decide +kernel
theorem dX2_alikeKeys_7 : decode cX2_alikeKeys 7 = .ok (.bipush 100, 2) := by decide +kernel
theorem dX2_alikeKeys_9 : decode cX2_alikeKeys 9 = .ok (.if_icmp .lt 14, 3) := by decide +kernel
theorem dX2_alikeKeys_12 : decode cX2_alikeKeys 12 = .ok (.iload_n 1, 1) := by decide +kernel
theorem dX2_alikeKeys_13 : decode cX2_alikeKeys 13 = .ok (.iload_n 2, 1) := by decide +kernel
theorem dX2_alikeKeys_14 : decode cX2_alikeKeys 14 = .ok (.if_icmp .ne 7, 3) := by decide +kernel
theorem dX2_alikeKeys_17 : decode cX2_alikeKeys 17 = .ok (.iconst 1, 1) := by decide +kernel
theorem dX2_alikeKeys_18 : decode cX2_alikeKeys 18 = .ok (.goto 4, 3) := by decide +kernel
theorem dX2_alikeKeys_21 : decode cX2_alikeKeys 21 = .ok (.iconst 0, 1) := by decide +kernel
theorem dX2_alikeKeys_22 : decode cX2_alikeKeys 22 = .ok (.ireturn, 1) := by decide +kernel
theorem dX2_alikeKeys_23 : decode cX2_alikeKeys 23 = .ok (.aload_n 0, 1) := by decide +kernel
theorem dX2_alikeKeys_24 : decode cX2_alikeKeys 24 = .ok (.iload_n 1, 1) := by decide +kernel
theorem dX2_alikeKeys_25 : decode cX2_alikeKeys 25 = .ok (.iload_n 2, 1) := by decide +kernel
theorem dX2_alikeKeys_26 : decode cX2_alikeKeys 26 = .ok (.invokevirtual 215, 3) := by decide +kernel
theorem dX2_alikeKeys_29 : decode cX2_alikeKeys 29 = .ok (.ireturn, 1) := by decide +kernel
set_option maxRecDepth 20000 in
theorem ggX2_keyCell_X1_at : GoodIn wsX2_keyCell wsX1_at := goodIn_r _ [6, 7, 18, 19] (by decide +kernel) (by decide +kernel)
set_option maxRecDepth 20000 in
theorem gX2_keyCell_X1_at : GoodIn wsX2_keyCell (wsV RX2 84 RX1 yX1_at wsX1_at) := goodIn_app (goodIn_of _ (by decide +kernel)) ggX2_keyCell_X1_at
theorem dX2_keyCell_0 : decode cX2_keyCell 0 = .ok (.aload_n 0, 1) := by decide +kernel
theorem dX2_keyCell_1 : decode cX2_keyCell 1 = .ok (.getfield 22, 3) := by decide +kernel
theorem dX2_keyCell_4 : decode cX2_keyCell 4 = .ok (.iload_n 1, 1) := by decide +kernel
theorem dX2_keyCell_5 : decode cX2_keyCell 5 = .ok (.invokevirtual 84, 3) := by decide +kernel
theorem dX2_keyCell_8 : decode cX2_keyCell 8 = .ok (.iload_n 2, 1) := by decide +kernel
theorem dX2_keyCell_9 : decode cX2_keyCell 9 = .ok (.iadd, 1) := by decide +kernel
theorem dX2_keyCell_10 : decode cX2_keyCell 10 = .ok (.ireturn, 1) := by decide +kernel
set_option maxRecDepth 20000 in
theorem ggX2_valueCell_X1_at : GoodIn wsX2_valueCell wsX1_at := goodIn_r _ [6, 7, 18, 19] (by decide +kernel) (by decide +kernel)
set_option maxRecDepth 20000 in
theorem gX2_valueCell_X1_at : GoodIn wsX2_valueCell (wsV RX2 84 RX1 yX1_at wsX1_at) := goodIn_app (goodIn_of _ (by decide +kernel)) ggX2_valueCell_X1_at
theorem dX2_valueCell_0 : decode cX2_valueCell 0 = .ok (.aload_n 0, 1) := by decide +kernel
theorem dX2_valueCell_1 : decode cX2_valueCell 1 = .ok (.getfield 22, 3) := by decide +kernel
theorem dX2_valueCell_4 : decode cX2_valueCell 4 = .ok (.iload_n 1, 1) := by decide +kernel
theorem dX2_valueCell_5 : decode cX2_valueCell 5 = .ok (.invokevirtual 84, 3) := by decide +kernel
theorem dX2_valueCell_8 : decode cX2_valueCell 8 = .ok (.bipush 32, 2) := by decide +kernel
theorem dX2_valueCell_10 : decode cX2_valueCell 10 = .ok (.iadd, 1) := by decide +kernel
theorem dX2_valueCell_11 : decode cX2_valueCell 11 = .ok (.iload_n 2, 1) := by decide +kernel
theorem dX2_valueCell_12 : decode cX2_valueCell 12 = .ok (.iadd, 1) := by decide +kernel
theorem dX2_valueCell_13 : decode cX2_valueCell 13 = .ok (.ireturn, 1) := by decide +kernel
set_option maxRecDepth 20000 in
theorem ggX2_placeOf_X1_at : GoodIn wsX2_placeOf wsX1_at := goodIn_r _ [9, 10, 52, 53] (by decide +kernel) (by decide +kernel)
set_option maxRecDepth 20000 in
theorem gX2_placeOf_X1_at : GoodIn wsX2_placeOf (wsV RX2 84 RX1 yX1_at wsX1_at) := goodIn_app (goodIn_of _ (by decide +kernel)) ggX2_placeOf_X1_at
set_option maxRecDepth 20000 in
theorem ggX2_placeOf_X2_keyCell : GoodIn wsX2_placeOf wsX2_keyCell := goodIn_r _ [15, 16, 5, 6, 7, 8, 9, 10, 35, 36, 37, 38, 39, 40, 41, 42, 43, 44, 52, 53] (by decide +kernel) (by decide +kernel)
set_option maxRecDepth 20000 in
theorem gX2_placeOf_X2_keyCell : GoodIn wsX2_placeOf (wsV RX2 224 RX2 yX2_keyCell wsX2_keyCell) := goodIn_app (goodIn_of _ (by decide +kernel)) ggX2_placeOf_X2_keyCell
set_option maxRecDepth 20000 in
theorem ggX2_placeOf_X2_alikeKeys : GoodIn wsX2_placeOf wsX2_alikeKeys := goodIn_r _ [20, 21, 22, 23, 14, 24, 25, 26, 5, 6, 7, 8, 9, 10, 27, 28, 29, 30, 31, 32, 33, 3, 16, 34, 35, 36, 37, 38, 39, 40, 41, 42, 43, 44, 52, 53] (by decide +kernel) (by decide +kernel)
set_option maxRecDepth 20000 in
theorem gX2_placeOf_X2_alikeKeys : GoodIn wsX2_placeOf (wsV RX2 227 RX2 yX2_alikeKeys wsX2_alikeKeys) := goodIn_app (goodIn_of _ (by decide +kernel)) ggX2_placeOf_X2_alikeKeys
theorem dX2_placeOf_0 : decode cX2_placeOf 0 = .ok (.aload_n 0, 1) := by decide +kernel
theorem dX2_placeOf_1 : decode cX2_placeOf 1 = .ok (.getfield 34, 3) := by decide +kernel
theorem dX2_placeOf_4 : decode cX2_placeOf 4 = .ok (.getfield 159, 3) := by decide +kernel
theorem dX2_placeOf_7 : decode cX2_placeOf 7 = .ok (.aload_n 0, 1) := by decide +kernel
theorem dX2_placeOf_8 : decode cX2_placeOf 8 = .ok (.getfield 19, 3) := by decide +kernel
theorem dX2_placeOf_11 : decode cX2_placeOf 11 = .ok (.iload_n 1, 1) := by decide +kernel
theorem dX2_placeOf_12 : decode cX2_placeOf 12 = .ok (.invokevirtual 84, 3) := by decide +kernel
theorem dX2_placeOf_15 : decode cX2_placeOf 15 = .ok (.invokevirtual 84, 3) := by decide +kernel
theorem dX2_placeOf_18 : decode cX2_placeOf 18 = .ok (.istore_n 3, 1) := by decide +kernel
theorem dX2_placeOf_19 : decode cX2_placeOf 19 = .ok (.iconst 0, 1) := by decide +kernel
theorem dX2_placeOf_20 : decode cX2_placeOf 20 = .ok (.istore 4, 2) := by decide +kernel
theorem dX2_placeOf_22 : decode cX2_placeOf 22 = .ok (.iload 4, 2) := by decide +kernel
theorem dX2_placeOf_24 : decode cX2_placeOf 24 = .ok (.iload_n 3, 1) := by decide +kernel
theorem dX2_placeOf_25 : decode cX2_placeOf 25 = .ok (.if_icmp .ge 37, 3) := by decide +kernel
theorem dX2_placeOf_28 : decode cX2_placeOf 28 = .ok (.aload_n 0, 1) := by decide +kernel
theorem dX2_placeOf_29 : decode cX2_placeOf 29 = .ok (.aload_n 0, 1) := by decide +kernel
theorem dX2_placeOf_30 : decode cX2_placeOf 30 = .ok (.getfield 34, 3) := by decide +kernel
theorem dX2_placeOf_33 : decode cX2_placeOf 33 = .ok (.getfield 67, 3) := by decide +kernel
theorem dX2_placeOf_36 : decode cX2_placeOf 36 = .ok (.aload_n 0, 1) := by decide +kernel
theorem dX2_placeOf_37 : decode cX2_placeOf 37 = .ok (.iload_n 1, 1) := by decide +kernel
theorem dX2_placeOf_38 : decode cX2_placeOf 38 = .ok (.iload 4, 2) := by decide +kernel
theorem dX2_placeOf_40 : decode cX2_placeOf 40 = .ok (.invokevirtual 224, 3) := by decide +kernel
theorem dX2_placeOf_43 : decode cX2_placeOf 43 = .ok (.invokevirtual 84, 3) := by decide +kernel
theorem dX2_placeOf_46 : decode cX2_placeOf 46 = .ok (.iload_n 2, 1) := by decide +kernel
theorem dX2_placeOf_47 : decode cX2_placeOf 47 = .ok (.invokevirtual 227, 3) := by decide +kernel
theorem dX2_placeOf_50 : decode cX2_placeOf 50 = .ok (.ifCond .eq 6, 3) := by decide +kernel
theorem dX2_placeOf_53 : decode cX2_placeOf 53 = .ok (.iload 4, 2) := by decide +kernel
theorem dX2_placeOf_55 : decode cX2_placeOf 55 = .ok (.ireturn, 1) := by decide +kernel
theorem dX2_placeOf_56 : decode cX2_placeOf 56 = .ok (.iinc 4 1, 3) := by decide +kernel
theorem dX2_placeOf_59 : decode cX2_placeOf 59 = .ok (.goto (-37), 3) := by decide +kernel
theorem dX2_placeOf_62 : decode cX2_placeOf 62 = .ok (.iconst (-1), 1) := by decide +kernel
theorem dX2_placeOf_63 : decode cX2_placeOf 63 = .ok (.ireturn, 1) := by decide +kernel
set_option maxRecDepth 20000 in
theorem ggX2_addKey_X1_at : GoodIn wsX2_addKey wsX1_at := goodIn_r _ [10, 11, 52, 53] (by decide +kernel) (by decide +kernel)
set_option maxRecDepth 20000 in
theorem gX2_addKey_X1_at : GoodIn wsX2_addKey (wsV RX2 84 RX1 yX1_at wsX1_at) := goodIn_app (goodIn_of _ (by decide +kernel)) ggX2_addKey_X1_at
set_option maxRecDepth 20000 in
theorem ggX2_addKey_X2_grow : GoodIn wsX2_addKey wsX2_grow := goodIn_r _ [16, 2, 4, 17, 18, 19, 20, 21, 22, 6, 7, 8, 9, 10, 11, 23, 24, 25, 26, 27, 28, 15, 29, 35, 36, 37, 38, 39, 40, 41, 42, 43, 44, 45, 46, 47, 48, 49, 50, 51, 52, 53] (by decide +kernel) (by decide +kernel)
set_option maxRecDepth 20000 in
theorem gX2_addKey_X2_grow : GoodIn wsX2_addKey (wsV RX2 230 RX2 yX2_grow wsX2_grow) := goodIn_app (goodIn_of _ (by decide +kernel)) ggX2_addKey_X2_grow
set_option maxRecDepth 20000 in
theorem ggX2_addKey_X2_keyCell : GoodIn wsX2_addKey wsX2_keyCell := goodIn_r _ [33, 34, 6, 7, 8, 9, 10, 11, 35, 36, 37, 38, 39, 40, 41, 42, 43, 44, 52, 53] (by decide +kernel) (by decide +kernel)
set_option maxRecDepth 20000 in
theorem gX2_addKey_X2_keyCell : GoodIn wsX2_addKey (wsV RX2 224 RX2 yX2_keyCell wsX2_keyCell) := goodIn_app (goodIn_of _ (by decide +kernel)) ggX2_addKey_X2_keyCell
set_option maxRecDepth 20000 in
theorem ggX2_addKey_X1_set : GoodIn wsX2_addKey wsX1_set := goodIn_r _ [26, 11, 52, 53] (by decide +kernel) (by decide +kernel)
set_option maxRecDepth 20000 in
theorem gX2_addKey_X1_set : GoodIn wsX2_addKey (wsV RX2 100 RX1 yX1_set wsX1_set) := goodIn_app (goodIn_of _ (by decide +kernel)) ggX2_addKey_X1_set
theorem dX2_addKey_0 : decode cX2_addKey 0 = .ok (.aload_n 0, 1) := by decide +kernel
theorem dX2_addKey_1 : decode cX2_addKey 1 = .ok (.getfield 19, 3) := by decide +kernel
theorem dX2_addKey_4 : decode cX2_addKey 4 = .ok (.iload_n 1, 1) := by decide +kernel
theorem dX2_addKey_5 : decode cX2_addKey 5 = .ok (.invokevirtual 84, 3) := by decide +kernel
theorem dX2_addKey_8 : decode cX2_addKey 8 = .ok (.istore_n 3, 1) := by decide +kernel
theorem dX2_addKey_9 : decode cX2_addKey 9 = .ok (.aload_n 0, 1) := by decide +kernel
theorem dX2_addKey_10 : decode cX2_addKey 10 = .ok (.getfield 34, 3) := by decide +kernel
theorem dX2_addKey_13 : decode cX2_addKey 13 = .ok (.getfield 159, 3) := by decide +kernel
theorem dX2_addKey_16 : decode cX2_addKey 16 = .ok (.iload_n 3, 1) := by decide +kernel
theorem dX2_addKey_17 : decode cX2_addKey 17 = .ok (.invokevirtual 84, 3) := by decide +kernel
theorem dX2_addKey_20 : decode cX2_addKey 20 = .ok (.istore 4, 2) := by decide +kernel
theorem dX2_addKey_22 : decode cX2_addKey 22 = .ok (.iload 4, 2) := by decide +kernel
theorem dX2_addKey_24 : decode cX2_addKey 24 = .ok (.aload_n 0, 1) := by decide +kernel
theorem dX2_addKey_25 : decode cX2_addKey 25 = .ok (.getfield 34, 3) := by decide +kernel
theorem dX2_addKey_28 : decode cX2_addKey 28 = .ok (.getfield 141, 3) := by decide +kernel
theorem dX2_addKey_31 : decode cX2_addKey 31 = .ok (.iload_n 3, 1) := by decide +kernel
theorem dX2_addKey_32 : decode cX2_addKey 32 = .ok (.invokevirtual 84, 3) := by decide +kernel
theorem dX2_addKey_35 : decode cX2_addKey 35 = .ok (.if_icmp .lt 13, 3) := by decide +kernel
theorem dX2_addKey_38 : decode cX2_addKey 38 = .ok (.aload_n 0, 1) := by decide +kernel
theorem dX2_addKey_39 : decode cX2_addKey 39 = .ok (.iload_n 3, 1) := by decide +kernel
theorem dX2_addKey_40 : decode cX2_addKey 40 = .ok (.invokevirtual 230, 3) := by decide +kernel
theorem dX2_addKey_43 : decode cX2_addKey 43 = .ok (.ifCond .ne 5, 3) := by decide +kernel
theorem dX2_addKey_46 : decode cX2_addKey 46 = .ok (.iconst (-1), 1) := by decide +kernel
theorem dX2_addKey_47 : decode cX2_addKey 47 = .ok (.ireturn, 1) := by decide +kernel
theorem dX2_addKey_48 : decode cX2_addKey 48 = .ok (.aload_n 0, 1) := by decide +kernel
theorem dX2_addKey_49 : decode cX2_addKey 49 = .ok (.getfield 34, 3) := by decide +kernel
theorem dX2_addKey_52 : decode cX2_addKey 52 = .ok (.getfield 67, 3) := by decide +kernel
theorem dX2_addKey_55 : decode cX2_addKey 55 = .ok (.aload_n 0, 1) := by decide +kernel
theorem dX2_addKey_56 : decode cX2_addKey 56 = .ok (.iload_n 1, 1) := by decide +kernel
theorem dX2_addKey_57 : decode cX2_addKey 57 = .ok (.iload 4, 2) := by decide +kernel
theorem dX2_addKey_59 : decode cX2_addKey 59 = .ok (.invokevirtual 224, 3) := by decide +kernel
theorem dX2_addKey_62 : decode cX2_addKey 62 = .ok (.iload_n 2, 1) := by decide +kernel
theorem dX2_addKey_63 : decode cX2_addKey 63 = .ok (.invokevirtual 100, 3) := by decide +kernel
theorem dX2_addKey_66 : decode cX2_addKey 66 = .ok (.aload_n 0, 1) := by decide +kernel
theorem dX2_addKey_67 : decode cX2_addKey 67 = .ok (.getfield 34, 3) := by decide +kernel
theorem dX2_addKey_70 : decode cX2_addKey 70 = .ok (.getfield 159, 3) := by decide +kernel
theorem dX2_addKey_73 : decode cX2_addKey 73 = .ok (.iload_n 3, 1) := by decide +kernel
theorem dX2_addKey_74 : decode cX2_addKey 74 = .ok (.iload 4, 2) := by decide +kernel
theorem dX2_addKey_76 : decode cX2_addKey 76 = .ok (.iconst 1, 1) := by decide +kernel
theorem dX2_addKey_77 : decode cX2_addKey 77 = .ok (.iadd, 1) := by decide +kernel
theorem dX2_addKey_78 : decode cX2_addKey 78 = .ok (.invokevirtual 100, 3) := by decide +kernel
theorem dX2_addKey_81 : decode cX2_addKey 81 = .ok (.iload 4, 2) := by decide +kernel
theorem dX2_addKey_83 : decode cX2_addKey 83 = .ok (.ireturn, 1) := by decide +kernel
set_option maxRecDepth 20000 in
theorem ggX2_grow_X1_at : GoodIn wsX2_grow wsX1_at := goodIn_r _ [13, 14, 40, 41] (by decide +kernel) (by decide +kernel)
set_option maxRecDepth 20000 in
theorem gX2_grow_X1_at : GoodIn wsX2_grow (wsV RX2 84 RX1 yX1_at wsX1_at) := goodIn_app (goodIn_of _ (by decide +kernel)) ggX2_grow_X1_at
set_option maxRecDepth 20000 in
theorem ggX2_grow_X1_set : GoodIn wsX2_grow wsX1_set := goodIn_r _ [18, 14, 40, 41] (by decide +kernel) (by decide +kernel)
set_option maxRecDepth 20000 in
theorem gX2_grow_X1_set : GoodIn wsX2_grow (wsV RX2 100 RX1 yX1_set wsX1_set) := goodIn_app (goodIn_of _ (by decide +kernel)) ggX2_grow_X1_set
set_option maxRecDepth 20000 in
theorem ggX2_grow_X2_placeStorage : GoodIn wsX2_grow wsX2_placeStorage := goodIn_r _ [22] (by decide +kernel) (by decide +kernel)
set_option maxRecDepth 20000 in
theorem gX2_grow_X2_placeStorage : GoodIn wsX2_grow (va_wsS RX2 60 yX2_placeStorage wsX2_placeStorage) := goodIn_app (goodIn_of _ (by decide +kernel)) ggX2_grow_X2_placeStorage
theorem dX2_grow_0 : decode cX2_grow 0 = .ok (.aload_n 0, 1) := by decide +kernel
theorem dX2_grow_1 : decode cX2_grow 1 = .ok (.getfield 34, 3) := by decide +kernel
theorem dX2_grow_4 : decode cX2_grow 4 = .ok (.getfield 141, 3) := by decide +kernel
theorem dX2_grow_7 : decode cX2_grow 7 = .ok (.iload_n 1, 1) := by decide +kernel
theorem dX2_grow_8 : decode cX2_grow 8 = .ok (.invokevirtual 84, 3) := by decide +kernel
theorem dX2_grow_11 : decode cX2_grow 11 = .ok (.istore_n 2, 1) := by decide +kernel
theorem dX2_grow_12 : decode cX2_grow 12 = .ok (.aload_n 0, 1) := by decide +kernel
theorem dX2_grow_13 : decode cX2_grow 13 = .ok (.getfield 34, 3) := by decide +kernel
theorem dX2_grow_16 : decode cX2_grow 16 = .ok (.getfield 135, 3) := by decide +kernel
theorem dX2_grow_19 : decode cX2_grow 19 = .ok (.iload_n 1, 1) := by decide +kernel
theorem dX2_grow_20 : decode cX2_grow 20 = .ok (.invokevirtual 84, 3) := by decide +kernel
theorem dX2_grow_23 : decode cX2_grow 23 = .ok (.ifCond .eq 9, 3) := by decide +kernel
theorem dX2_grow_26 : decode cX2_grow 26 = .ok (.iload_n 2, 1) := by decide +kernel
theorem dX2_grow_27 : decode cX2_grow 27 = .ok (.bipush 32, 2) := by decide +kernel
theorem dX2_grow_29 : decode cX2_grow 29 = .ok (.if_icmp .lt 5, 3) := by decide +kernel
theorem dX2_grow_32 : decode cX2_grow 32 = .ok (.iconst 0, 1) := by decide +kernel
theorem dX2_grow_33 : decode cX2_grow 33 = .ok (.ireturn, 1) := by decide +kernel
theorem dX2_grow_34 : decode cX2_grow 34 = .ok (.iconst 2, 1) := by decide +kernel
theorem dX2_grow_35 : decode cX2_grow 35 = .ok (.iload_n 2, 1) := by decide +kernel
theorem dX2_grow_36 : decode cX2_grow 36 = .ok (.imul, 1) := by decide +kernel
theorem dX2_grow_37 : decode cX2_grow 37 = .ok (.iconst 1, 1) := by decide +kernel
theorem dX2_grow_38 : decode cX2_grow 38 = .ok (.iadd, 1) := by decide +kernel
theorem dX2_grow_39 : decode cX2_grow 39 = .ok (.bipush 32, 2) := by decide +kernel
theorem dX2_grow_41 : decode cX2_grow 41 = .ok (.invokestatic 186, 3) := by decide +kernel
theorem dX2_grow_44 : decode cX2_grow 44 = .ok (.istore_n 3, 1) := by decide +kernel
theorem dX2_grow_45 : decode cX2_grow 45 = .ok (.aload_n 0, 1) := by decide +kernel
theorem dX2_grow_46 : decode cX2_grow 46 = .ok (.getfield 34, 3) := by decide +kernel
theorem dX2_grow_49 : decode cX2_grow 49 = .ok (.getfield 141, 3) := by decide +kernel
theorem dX2_grow_52 : decode cX2_grow 52 = .ok (.iload_n 1, 1) := by decide +kernel
theorem dX2_grow_53 : decode cX2_grow 53 = .ok (.iload_n 3, 1) := by decide +kernel
theorem dX2_grow_54 : decode cX2_grow 54 = .ok (.invokevirtual 100, 3) := by decide +kernel
theorem dX2_grow_57 : decode cX2_grow 57 = .ok (.aload_n 0, 1) := by decide +kernel
theorem dX2_grow_58 : decode cX2_grow 58 = .ok (.getfield 34, 3) := by decide +kernel
theorem dX2_grow_61 : decode cX2_grow 61 = .ok (.dup, 1) := by decide +kernel
theorem dX2_grow_62 : decode cX2_grow 62 = .ok (.getfield 57, 3) := by decide +kernel
theorem dX2_grow_65 : decode cX2_grow 65 = .ok (.iload_n 3, 1) := by decide +kernel
theorem dX2_grow_66 : decode cX2_grow 66 = .ok (.iload_n 2, 1) := by decide +kernel
theorem dX2_grow_67 : decode cX2_grow 67 = .ok (.isub, 1) := by decide +kernel
theorem dX2_grow_68 : decode cX2_grow 68 = .ok (.bipush 7, 2) := by decide +kernel
theorem dX2_grow_70 : decode cX2_grow 70 = .ok (.invokestatic 60, 3) := by decide +kernel
theorem dX2_grow_73 : decode cX2_grow 73 = .ok (.imul, 1) := by decide +kernel
theorem dX2_grow_74 : decode cX2_grow 74 = .ok (.iadd, 1) := by decide +kernel
theorem dX2_grow_75 : decode cX2_grow 75 = .ok (.putfield 57, 3) := by decide +kernel
theorem dX2_grow_78 : decode cX2_grow 78 = .ok (.iconst 1, 1) := by decide +kernel
theorem dX2_grow_79 : decode cX2_grow 79 = .ok (.ireturn, 1) := by decide +kernel
theorem dX3_init_0 : decode cX3_init 0 = .ok (.aload_n 0, 1) := by decide +kernel
theorem dX3_init_1 : decode cX3_init 1 = .ok (.invokespecial 1, 3) := by decide +kernel
theorem dX3_init_4 : decode cX3_init 4 = .ok (.aload_n 0, 1) := by decide +kernel
theorem dX3_init_5 : decode cX3_init 5 = .ok (.iconst 1, 1) := by decide +kernel
theorem dX3_init_6 : decode cX3_init 6 = .ok (.putfield 7, 3) := by decide +kernel
theorem dX3_init_9 : decode cX3_init 9 = .ok (.aload_n 0, 1) := by decide +kernel
theorem dX3_init_10 : decode cX3_init 10 = .ok (.bipush 8, 2) := by decide +kernel
theorem dX3_init_12 : decode cX3_init 12 = .ok (.putfield 13, 3) := by decide +kernel
theorem dX3_init_15 : decode cX3_init 15 = .ok (.aload_n 0, 1) := by decide +kernel
theorem dX3_init_16 : decode cX3_init 16 = .ok (.bipush 100, 2) := by decide +kernel
theorem dX3_init_18 : decode cX3_init 18 = .ok (.newarray .int, 2) := by decide +kernel
theorem dX3_init_20 : decode cX3_init 20 = .ok (.putfield 16, 3) := by decide +kernel
theorem dX3_init_23 : decode cX3_init 23 = .ok (.aload_n 0, 1) := by decide +kernel
theorem dX3_init_24 : decode cX3_init 24 = .ok (.bipush 100, 2) := by decide +kernel
theorem dX3_init_26 : decode cX3_init 26 = .ok (.newarray .int, 2) := by decide +kernel
theorem dX3_init_28 : decode cX3_init 28 = .ok (.putfield 20, 3) := by decide +kernel
theorem dX3_init_31 : decode cX3_init 31 = .ok (.aload_n 0, 1) := by decide +kernel
theorem dX3_init_32 : decode cX3_init 32 = .ok (.bipush 100, 2) := by decide +kernel
theorem dX3_init_34 : decode cX3_init 34 = .ok (.newarray .int, 2) := by decide +kernel
theorem dX3_init_36 : decode cX3_init 36 = .ok (.putfield 23, 3) := by decide +kernel
theorem dX3_init_39 : decode cX3_init 39 = .ok (.aload_n 0, 1) := by decide +kernel
theorem dX3_init_40 : decode cX3_init 40 = .ok (.bipush 100, 2) := by decide +kernel
theorem dX3_init_42 : decode cX3_init 42 = .ok (.newarray .int, 2) := by decide +kernel
theorem dX3_init_44 : decode cX3_init 44 = .ok (.putfield 26, 3) := by decide +kernel
theorem dX3_init_47 : decode cX3_init 47 = .ok (.aload_n 0, 1) := by decide +kernel
theorem dX3_init_48 : decode cX3_init 48 = .ok (.sipush 6400, 3) := by decide +kernel
theorem dX3_init_51 : decode cX3_init 51 = .ok (.newarray .byte, 2) := by decide +kernel
theorem dX3_init_53 : decode cX3_init 53 = .ok (.putfield 29, 3) := by decide +kernel
theorem dX3_init_56 : decode cX3_init 56 = .ok (.aload_n 0, 1) := by decide +kernel
theorem dX3_init_57 : decode cX3_init 57 = .ok (.sipush 400, 3) := by decide +kernel
theorem dX3_init_60 : decode cX3_init 60 = .ok (.newarray .boolean, 2) := by decide +kernel
theorem dX3_init_62 : decode cX3_init 62 = .ok (.putfield 33, 3) := by decide +kernel
theorem dX3_init_65 : decode cX3_init 65 = .ok (.aload_n 0, 1) := by decide +kernel
theorem dX3_init_66 : decode cX3_init 66 = .ok (.sipush 400, 3) := by decide +kernel
theorem dX3_init_69 : decode cX3_init 69 = .ok (.newarray .int, 2) := by decide +kernel
theorem dX3_init_71 : decode cX3_init 71 = .ok (.putfield 37, 3) := by decide +kernel
theorem dX3_init_74 : decode cX3_init 74 = .ok (.aload_n 0, 1) := by decide +kernel
theorem dX3_init_75 : decode cX3_init 75 = .ok (.sipush 12800, 3) := by decide +kernel
theorem dX3_init_78 : decode cX3_init 78 = .ok (.newarray .int, 2) := by decide +kernel
theorem dX3_init_80 : decode cX3_init 80 = .ok (.putfield 40, 3) := by decide +kernel
theorem dX3_init_83 : decode cX3_init 83 = .ok (.aload_n 0, 1) := by decide +kernel
theorem dX3_init_84 : decode cX3_init 84 = .ok (.sipush 400, 3) := by decide +kernel
theorem dX3_init_87 : decode cX3_init 87 = .ok (.newarray .int, 2) := by decide +kernel
theorem dX3_init_89 : decode cX3_init 89 = .ok (.putfield 43, 3) := by decide +kernel
theorem dX3_init_92 : decode cX3_init 92 = .ok (.aload_n 0, 1) := by decide +kernel
theorem dX3_init_93 : decode cX3_init 93 = .ok (.sipush 400, 3) := by decide +kernel
theorem dX3_init_96 : decode cX3_init 96 = .ok (.newarray .boolean, 2) := by decide +kernel
theorem dX3_init_98 : decode cX3_init 98 = .ok (.putfield 46, 3) := by decide +kernel
theorem dX3_init_101 : decode cX3_init 101 = .ok (.aload_n 0, 1) := by decide +kernel
theorem dX3_init_102 : decode cX3_init 102 = .ok (.sipush 400, 3) := by decide +kernel
theorem dX3_init_105 : decode cX3_init 105 = .ok (.newarray .int, 2) := by decide +kernel
theorem dX3_init_107 : decode cX3_init 107 = .ok (.putfield 49, 3) := by decide +kernel
theorem dX3_init_110 : decode cX3_init 110 = .ok (.aload_n 0, 1) := by decide +kernel
theorem dX3_init_111 : decode cX3_init 111 = .ok (.sipush 12800, 3) := by decide +kernel
theorem dX3_init_114 : decode cX3_init 114 = .ok (.newarray .long, 2) := by decide +kernel
theorem dX3_init_116 : decode cX3_init 116 = .ok (.putfield 52, 3) := by decide +kernel
theorem dX3_init_119 : decode cX3_init 119 = .ok (.aload_n 0, 1) := by decide +kernel
theorem dX3_init_120 : decode cX3_init 120 = .ok (.sipush 12800, 3) := by decide +kernel
theorem dX3_init_123 : decode cX3_init 123 = .ok (.newarray .int, 2) := by decide +kernel
theorem dX3_init_125 : decode cX3_init 125 = .ok (.putfield 56, 3) := by decide +kernel
theorem dX3_init_128 : decode cX3_init 128 = .ok (.aload_n 0, 1) := by decide +kernel
theorem dX3_init_129 : decode cX3_init 129 = .ok (.iconst 4, 1) := by decide +kernel
theorem dX3_init_130 : decode cX3_init 130 = .ok (.newarray .int, 2) := by decide +kernel
theorem dX3_init_132 : decode cX3_init 132 = .ok (.putfield 59, 3) := by decide +kernel
theorem dX3_init_135 : decode cX3_init 135 = .ok (.aload_n 0, 1) := by decide +kernel
theorem dX3_init_136 : decode cX3_init 136 = .ok (.iconst 4, 1) := by decide +kernel
theorem dX3_init_137 : decode cX3_init 137 = .ok (.newarray .int, 2) := by decide +kernel
theorem dX3_init_139 : decode cX3_init 139 = .ok (.putfield 62, 3) := by decide +kernel
theorem dX3_init_142 : decode cX3_init 142 = .ok (.return_, 1) := by decide +kernel
theorem dX3_thrown_0 : decode cX3_thrown 0 = .ok (.aload_n 0, 1) := by decide +kernel
theorem dX3_thrown_1 : decode cX3_thrown 1 = .ok (.getfield 65, 3) := by decide +kernel
theorem dX3_thrown_4 : decode cX3_thrown 4 = .ok (.ireturn, 1) := by decide +kernel
theorem dX3_isObject_0 : decode cX3_isObject 0 = .ok (.iload_n 1, 1) := by decide +kernel
theorem dX3_isObject_1 : decode cX3_isObject 1 = .ok (.ifCond .lt 15, 3) := by decide +kernel
theorem dX3_isObject_4 : decode cX3_isObject 4 = .ok (.iload_n 1, 1) := by decide +kernel
theorem dX3_isObject_5 : decode cX3_isObject 5 = .ok (.aload_n 0, 1) := by decide +kernel
theorem dX3_isObject_6 : decode cX3_isObject 6 = .ok (.getfield 7, 3) := by decide +kernel
theorem dX3_isObject_9 : decode cX3_isObject 9 = .ok (.if_icmp .ge 7, 3) := by decide +kernel
theorem dX3_isObject_12 : decode cX3_isObject 12 = .ok (.iconst 1, 1) := by decide +kernel
theorem dX3_isObject_13 : decode cX3_isObject 13 = .ok (.goto 4, 3) := by decide +kernel
theorem dX3_isObject_16 : decode cX3_isObject 16 = .ok (.iconst 0, 1) := by decide +kernel
theorem dX3_isObject_17 : decode cX3_isObject 17 = .ok (.ireturn, 1) := by decide +kernel
theorem dX3_within_0 : decode cX3_within 0 = .ok (.iload_n 0, 1) := by decide +kernel
theorem dX3_within_1 : decode cX3_within 1 = .ok (.iload_n 1, 1) := by decide +kernel
theorem dX3_within_2 : decode cX3_within 2 = .ok (.if_icmp .lt 12, 3) := by decide +kernel
theorem dX3_within_5 : decode cX3_within 5 = .ok (.iload_n 0, 1) := by decide +kernel
theorem dX3_within_6 : decode cX3_within 6 = .ok (.iload_n 2, 1) := by decide +kernel
theorem dX3_within_7 : decode cX3_within 7 = .ok (.if_icmp .gt 7, 3) := by decide +kernel
theorem dX3_within_10 : decode cX3_within 10 = .ok (.iconst 1, 1) := by decide +kernel
theorem dX3_within_11 : decode cX3_within 11 = .ok (.goto 4, 3) := by decide +kernel
theorem dX3_within_14 : decode cX3_within 14 = .ok (.iconst 0, 1) := by decide +kernel
theorem dX3_within_15 : decode cX3_within 15 = .ok (.ireturn, 1) := by decide +kernel
set_option maxRecDepth 20000 in
theorem ggX3_isView_X3_within : GoodIn wsX3_isView wsX3_within := goodIn_r _ [5] (by decide +kernel) (by decide +kernel)
set_option maxRecDepth 20000 in
theorem gX3_isView_X3_within : GoodIn wsX3_isView (va_wsS RX3 68 yX3_within wsX3_within) := goodIn_app (goodIn_of _ (by decide +kernel)) ggX3_isView_X3_within
theorem dX3_isView_0 : decode cX3_isView 0 = .ok (.aload_n 0, 1) := by decide +kernel
theorem dX3_isView_1 : decode cX3_isView 1 = .ok (.getfield 16, 3) := by decide +kernel
theorem dX3_isView_4 : decode cX3_isView 4 = .ok (.iload_n 1, 1) := by decide +kernel
theorem dX3_isView_5 : decode cX3_isView 5 = .ok (.iaload, 1) := by decide +kernel
theorem dX3_isView_6 : decode cX3_isView 6 = .ok (.iconst 4, 1) := by decide +kernel
theorem dX3_isView_7 : decode cX3_isView 7 = .ok (.bipush 6, 2) := by decide +kernel
theorem dX3_isView_9 : decode cX3_isView 9 = .ok (.invokestatic 68, 3) := by decide +kernel
theorem dX3_isView_12 : decode cX3_isView 12 = .ok (.ireturn, 1) := by decide +kernel
theorem dX3_holder_0 : decode cX3_holder 0 = .ok (.aload_n 0, 1) := by decide +kernel
theorem dX3_holder_1 : decode cX3_holder 1 = .ok (.getfield 16, 3) := by decide +kernel
theorem dX3_holder_4 : decode cX3_holder 4 = .ok (.iload_n 1, 1) := by decide +kernel
theorem dX3_holder_5 : decode cX3_holder 5 = .ok (.iaload, 1) := by decide +kernel
theorem dX3_holder_6 : decode cX3_holder 6 = .ok (.bipush 7, 2) := by decide +kernel
theorem dX3_holder_8 : decode cX3_holder 8 = .ok (.if_icmp .ne 12, 3) := by decide +kernel
theorem dX3_holder_11 : decode cX3_holder 11 = .ok (.aload_n 0, 1) := by decide +kernel
theorem dX3_holder_12 : decode cX3_holder 12 = .ok (.getfield 20, 3) := by decide +kernel
theorem dX3_holder_15 : decode cX3_holder 15 = .ok (.iload_n 1, 1) := by decide +kernel
theorem dX3_holder_16 : decode cX3_holder 16 = .ok (.iaload, 1) := by decide +kernel
theorem dX3_holder_17 : decode cX3_holder 17 = .ok (.goto 4, 3) := by decide +kernel
theorem dX3_holder_20 : decode cX3_holder 20 = .ok (.iload_n 1, 1) := by decide +kernel
theorem dX3_holder_21 : decode cX3_holder 21 = .ok (.ireturn, 1) := by decide +kernel
set_option maxRecDepth 20000 in
theorem ggX3_hasAccess_X3_within : GoodIn wsX3_hasAccess wsX3_within := goodIn_r _ [5] (by decide +kernel) (by decide +kernel)
set_option maxRecDepth 20000 in
theorem gX3_hasAccess_X3_within : GoodIn wsX3_hasAccess (va_wsS RX3 68 yX3_within wsX3_within) := goodIn_app (goodIn_of _ (by decide +kernel)) ggX3_hasAccess_X3_within
theorem dX3_hasAccess_0 : decode cX3_hasAccess 0 = .ok (.aload_n 0, 1) := by decide +kernel
theorem dX3_hasAccess_1 : decode cX3_hasAccess 1 = .ok (.getfield 16, 3) := by decide +kernel
theorem dX3_hasAccess_4 : decode cX3_hasAccess 4 = .ok (.iload_n 1, 1) := by decide +kernel
theorem dX3_hasAccess_5 : decode cX3_hasAccess 5 = .ok (.iaload, 1) := by decide +kernel
theorem dX3_hasAccess_6 : decode cX3_hasAccess 6 = .ok (.iconst 4, 1) := by decide +kernel
theorem dX3_hasAccess_7 : decode cX3_hasAccess 7 = .ok (.bipush 7, 2) := by decide +kernel
theorem dX3_hasAccess_9 : decode cX3_hasAccess 9 = .ok (.invokestatic 68, 3) := by decide +kernel
theorem dX3_hasAccess_12 : decode cX3_hasAccess 12 = .ok (.ifCond .ne 14, 3) := by decide +kernel
theorem dX3_hasAccess_15 : decode cX3_hasAccess 15 = .ok (.aload_n 0, 1) := by decide +kernel
theorem dX3_hasAccess_16 : decode cX3_hasAccess 16 = .ok (.getfield 16, 3) := by decide +kernel
theorem dX3_hasAccess_19 : decode cX3_hasAccess 19 = .ok (.iload_n 1, 1) := by decide +kernel
theorem dX3_hasAccess_20 : decode cX3_hasAccess 20 = .ok (.iaload, 1) := by decide +kernel
theorem dX3_hasAccess_21 : decode cX3_hasAccess 21 = .ok (.bipush 9, 2) := by decide +kernel
theorem dX3_hasAccess_23 : decode cX3_hasAccess 23 = .ok (.if_icmp .ne 7, 3) := by decide +kernel
theorem dX3_hasAccess_26 : decode cX3_hasAccess 26 = .ok (.iconst 1, 1) := by decide +kernel
theorem dX3_hasAccess_27 : decode cX3_hasAccess 27 = .ok (.goto 4, 3) := by decide +kernel
theorem dX3_hasAccess_30 : decode cX3_hasAccess 30 = .ok (.iconst 0, 1) := by decide +kernel
theorem dX3_hasAccess_31 : decode cX3_hasAccess 31 = .ok (.ireturn, 1) := by decide +kernel
set_option maxRecDepth 20000 in
theorem ggX3_accessOf_X3_holder : GoodIn wsX3_accessOf wsX3_holder := goodIn_r _ [6, 7, 8, 9, 10, 11, 12, 13, 14, 15, 16, 17, 18, 19, 20, 21, 22, 23, 24, 25, 26, 27] (by decide +kernel) (by decide +kernel)
set_option maxRecDepth 20000 in
theorem gX3_accessOf_X3_holder : GoodIn wsX3_accessOf (wsV RX3 72 RX3 yX3_holder wsX3_holder) := goodIn_app (goodIn_of _ (by decide +kernel)) ggX3_accessOf_X3_holder
theorem dX3_accessOf_0 : decode cX3_accessOf 0 = .ok (.aload_n 0, 1) := by decide +kernel
theorem dX3_accessOf_1 : decode cX3_accessOf 1 = .ok (.getfield 37, 3) := by decide +kernel
theorem dX3_accessOf_4 : decode cX3_accessOf 4 = .ok (.aload_n 0, 1) := by decide +kernel
theorem dX3_accessOf_5 : decode cX3_accessOf 5 = .ok (.iload_n 1, 1) := by decide +kernel
theorem dX3_accessOf_6 : decode cX3_accessOf 6 = .ok (.invokevirtual 72, 3) := by decide +kernel
theorem dX3_accessOf_9 : decode cX3_accessOf 9 = .ok (.iaload, 1) := by decide +kernel
theorem dX3_accessOf_10 : decode cX3_accessOf 10 = .ok (.ireturn, 1) := by decide +kernel
set_option maxRecDepth 20000 in
theorem ggX3_isSize_X3_within : GoodIn wsX3_isSize wsX3_within := goodIn_r _ [5] (by decide +kernel) (by decide +kernel)
set_option maxRecDepth 20000 in
theorem gX3_isSize_X3_within : GoodIn wsX3_isSize (va_wsS RX3 68 yX3_within wsX3_within) := goodIn_app (goodIn_of _ (by decide +kernel)) ggX3_isSize_X3_within
theorem dX3_isSize_0 : decode cX3_isSize 0 = .ok (.iload_n 1, 1) := by decide +kernel
theorem dX3_isSize_1 : decode cX3_isSize 1 = .ok (.tableswitch 95 2 7 #[39, 46, 55, 63, 71, 63], 39) := by decide +kernel
theorem dX3_isSize_40 : decode cX3_isSize 40 = .ok (.iload_n 2, 1) := by decide +kernel
theorem dX3_isSize_41 : decode cX3_isSize 41 = .ok (.iconst 0, 1) := by decide +kernel
theorem dX3_isSize_42 : decode cX3_isSize 42 = .ok (.iconst 1, 1) := by decide +kernel
theorem dX3_isSize_43 : decode cX3_isSize 43 = .ok (.invokestatic 68, 3) := by decide +kernel
theorem dX3_isSize_46 : decode cX3_isSize 46 = .ok (.ireturn, 1) := by decide +kernel
theorem dX3_isSize_47 : decode cX3_isSize 47 = .ok (.iload_n 2, 1) := by decide +kernel
theorem dX3_isSize_48 : decode cX3_isSize 48 = .ok (.iconst 0, 1) := by decide +kernel
theorem dX3_isSize_49 : decode cX3_isSize 49 = .ok (.sipush 999, 3) := by decide +kernel
theorem dX3_isSize_52 : decode cX3_isSize 52 = .ok (.invokestatic 68, 3) := by decide +kernel
theorem dX3_isSize_55 : decode cX3_isSize 55 = .ok (.ireturn, 1) := by decide +kernel
theorem dX3_isSize_56 : decode cX3_isSize 56 = .ok (.iload_n 2, 1) := by decide +kernel
theorem dX3_isSize_57 : decode cX3_isSize 57 = .ok (.iconst 0, 1) := by decide +kernel
theorem dX3_isSize_58 : decode cX3_isSize 58 = .ok (.bipush 64, 2) := by decide +kernel
theorem dX3_isSize_60 : decode cX3_isSize 60 = .ok (.invokestatic 68, 3) := by decide +kernel
theorem dX3_isSize_63 : decode cX3_isSize 63 = .ok (.ireturn, 1) := by decide +kernel
theorem dX3_isSize_64 : decode cX3_isSize 64 = .ok (.iload_n 2, 1) := by decide +kernel
theorem dX3_isSize_65 : decode cX3_isSize 65 = .ok (.iconst 0, 1) := by decide +kernel
theorem dX3_isSize_66 : decode cX3_isSize 66 = .ok (.bipush 32, 2) := by decide +kernel
theorem dX3_isSize_68 : decode cX3_isSize 68 = .ok (.invokestatic 68, 3) := by decide +kernel
theorem dX3_isSize_71 : decode cX3_isSize 71 = .ok (.ireturn, 1) := by decide +kernel
theorem dX3_isSize_72 : decode cX3_isSize 72 = .ok (.iload_n 2, 1) := by decide +kernel
theorem dX3_isSize_73 : decode cX3_isSize 73 = .ok (.iconst 0, 1) := by decide +kernel
theorem dX3_isSize_74 : decode cX3_isSize 74 = .ok (.bipush 32, 2) := by decide +kernel
theorem dX3_isSize_76 : decode cX3_isSize 76 = .ok (.invokestatic 68, 3) := by decide +kernel
theorem dX3_isSize_79 : decode cX3_isSize 79 = .ok (.ifCond .eq 15, 3) := by decide +kernel
theorem dX3_isSize_82 : decode cX3_isSize 82 = .ok (.iload_n 2, 1) := by decide +kernel
theorem dX3_isSize_83 : decode cX3_isSize 83 = .ok (.aload_n 0, 1) := by decide +kernel
theorem dX3_isSize_84 : decode cX3_isSize 84 = .ok (.getfield 7, 3) := by decide +kernel
theorem dX3_isSize_87 : decode cX3_isSize 87 = .ok (.if_icmp .gt 7, 3) := by decide +kernel
theorem dX3_isSize_90 : decode cX3_isSize 90 = .ok (.iconst 1, 1) := by decide +kernel
theorem dX3_isSize_91 : decode cX3_isSize 91 = .ok (.goto 4, 3) := by decide +kernel
theorem dX3_isSize_94 : decode cX3_isSize 94 = .ok (.iconst 0, 1) := by decide +kernel
theorem dX3_isSize_95 : decode cX3_isSize 95 = .ok (.ireturn, 1) := by decide +kernel
theorem dX3_isSize_96 : decode cX3_isSize 96 = .ok (.iconst 1, 1) := by decide +kernel
theorem dX3_isSize_97 : decode cX3_isSize 97 = .ok (.ireturn, 1) := by decide +kernel
theorem dX3_blank_0 : decode cX3_blank 0 = .ok (.aload_n 0, 1) := by decide +kernel
theorem dX3_blank_1 : decode cX3_blank 1 = .ok (.getfield 16, 3) := by decide +kernel
theorem dX3_blank_4 : decode cX3_blank 4 = .ok (.iload_n 1, 1) := by decide +kernel
theorem dX3_blank_5 : decode cX3_blank 5 = .ok (.iload_n 2, 1) := by decide +kernel
theorem dX3_blank_6 : decode cX3_blank 6 = .ok (.iastore, 1) := by decide +kernel
theorem dX3_blank_7 : decode cX3_blank 7 = .ok (.aload_n 0, 1) := by decide +kernel
theorem dX3_blank_8 : decode cX3_blank 8 = .ok (.getfield 20, 3) := by decide +kernel
theorem dX3_blank_11 : decode cX3_blank 11 = .ok (.iload_n 1, 1) := by decide +kernel
theorem dX3_blank_12 : decode cX3_blank 12 = .ok (.iconst 0, 1) := by decide +kernel
theorem dX3_blank_13 : decode cX3_blank 13 = .ok (.iastore, 1) := by decide +kernel
theorem dX3_blank_14 : decode cX3_blank 14 = .ok (.aload_n 0, 1) := by decide +kernel
theorem dX3_blank_15 : decode cX3_blank 15 = .ok (.getfield 23, 3) := by decide +kernel
theorem dX3_blank_18 : decode cX3_blank 18 = .ok (.iload_n 1, 1) := by decide +kernel
theorem dX3_blank_19 : decode cX3_blank 19 = .ok (.iconst 0, 1) := by decide +kernel
theorem dX3_blank_20 : decode cX3_blank 20 = .ok (.iastore, 1) := by decide +kernel
theorem dX3_blank_21 : decode cX3_blank 21 = .ok (.aload_n 0, 1) := by decide +kernel
theorem dX3_blank_22 : decode cX3_blank 22 = .ok (.getfield 26, 3) := by decide +kernel
theorem dX3_blank_25 : decode cX3_blank 25 = .ok (.iload_n 1, 1) := by decide +kernel
theorem dX3_blank_26 : decode cX3_blank 26 = .ok (.iconst 0, 1) := by decide +kernel
theorem dX3_blank_27 : decode cX3_blank 27 = .ok (.iastore, 1) := by decide +kernel
theorem dX3_blank_28 : decode cX3_blank 28 = .ok (.aload_n 0, 1) := by decide +kernel
theorem dX3_blank_29 : decode cX3_blank 29 = .ok (.getfield 33, 3) := by decide +kernel
theorem dX3_blank_32 : decode cX3_blank 32 = .ok (.iload_n 1, 1) := by decide +kernel
theorem dX3_blank_33 : decode cX3_blank 33 = .ok (.iconst 0, 1) := by decide +kernel
theorem dX3_blank_34 : decode cX3_blank 34 = .ok (.bastore, 1) := by decide +kernel
theorem dX3_blank_35 : decode cX3_blank 35 = .ok (.aload_n 0, 1) := by decide +kernel
theorem dX3_blank_36 : decode cX3_blank 36 = .ok (.getfield 37, 3) := by decide +kernel
theorem dX3_blank_39 : decode cX3_blank 39 = .ok (.iload_n 1, 1) := by decide +kernel
theorem dX3_blank_40 : decode cX3_blank 40 = .ok (.iload_n 2, 1) := by decide +kernel
theorem dX3_blank_41 : decode cX3_blank 41 = .ok (.bipush 6, 2) := by decide +kernel
theorem dX3_blank_43 : decode cX3_blank 43 = .ok (.if_icmp .ne 7, 3) := by decide +kernel
theorem dX3_blank_46 : decode cX3_blank 46 = .ok (.iconst 2, 1) := by decide +kernel
theorem dX3_blank_47 : decode cX3_blank 47 = .ok (.goto 4, 3) := by decide +kernel
theorem dX3_blank_50 : decode cX3_blank 50 = .ok (.iconst 3, 1) := by decide +kernel
theorem dX3_blank_51 : decode cX3_blank 51 = .ok (.iastore, 1) := by decide +kernel
theorem dX3_blank_52 : decode cX3_blank 52 = .ok (.return_, 1) := by decide +kernel
set_option maxRecDepth 20000 in
theorem ggX3_make_X3_within : GoodIn wsX3_make wsX3_within := goodIn_r _ [17] (by decide +kernel) (by decide +kernel)
set_option maxRecDepth 20000 in
theorem gX3_make_X3_within : GoodIn wsX3_make (va_wsS RX3 68 yX3_within wsX3_within) := goodIn_app (goodIn_of _ (by decide +kernel)) ggX3_make_X3_within
set_option maxRecDepth 20000 in
theorem ggX3_make_X3_isSize : GoodIn wsX3_make wsX3_isSize := goodIn_r _ [21, 2, 14, 15, 16, 17, 36, 37, 38, 39, 40, 41, 42, 43, 44, 45, 46, 47, 48, 49, 50, 51, 52, 53, 54] (by decide +kernel) (by decide +kernel)
set_option maxRecDepth 20000 in
theorem gX3_make_X3_isSize : GoodIn wsX3_make (wsV RX3 76 RX3 yX3_isSize wsX3_isSize) := goodIn_app (goodIn_of _ (by decide +kernel)) ggX3_make_X3_isSize
set_option maxRecDepth 20000 in
theorem ggX3_make_X3_copy : GoodIn wsX3_make wsX3_copy := goodIn_r _ [25, 26, 27, 11, 12, 13, 10, 28, 29, 36, 37, 38, 39, 40, 41, 42, 43, 44, 45, 46, 47, 48, 49, 50, 51, 52, 53, 54] (by decide +kernel) (by decide +kernel)
set_option maxRecDepth 20000 in
theorem gX3_make_X3_copy : GoodIn wsX3_make (wsV RX3 83 RX3 yX3_copy wsX3_copy) := goodIn_app (goodIn_of _ (by decide +kernel)) ggX3_make_X3_copy
set_option maxRecDepth 20000 in
theorem ggX3_make_X3_blank : GoodIn wsX3_make wsX3_blank := goodIn_r _ [33, 34, 7, 35, 8, 26, 27, 36, 37, 38, 39, 40, 41, 42, 43, 44, 45, 46, 47, 48, 49, 50, 51, 52, 53, 54] (by decide +kernel) (by decide +kernel)
set_option maxRecDepth 20000 in
theorem gX3_make_X3_blank : GoodIn wsX3_make (wsV RX3 87 RX3 yX3_blank wsX3_blank) := goodIn_app (goodIn_of _ (by decide +kernel)) ggX3_make_X3_blank
theorem dX3_make_0 : decode cX3_make 0 = .ok (.aload_n 0, 1) := by decide +kernel
theorem dX3_make_1 : decode cX3_make 1 = .ok (.iconst 0, 1) := by decide +kernel
theorem dX3_make_2 : decode cX3_make 2 = .ok (.putfield 65, 3) := by decide +kernel
theorem dX3_make_5 : decode cX3_make 5 = .ok (.iload_n 1, 1) := by decide +kernel
theorem dX3_make_6 : decode cX3_make 6 = .ok (.iconst 0, 1) := by decide +kernel
theorem dX3_make_7 : decode cX3_make 7 = .ok (.bipush 11, 2) := by decide +kernel
theorem dX3_make_9 : decode cX3_make 9 = .ok (.invokestatic 68, 3) := by decide +kernel
theorem dX3_make_12 : decode cX3_make 12 = .ok (.ifCond .ne 5, 3) := by decide +kernel
theorem dX3_make_15 : decode cX3_make 15 = .ok (.iconst (-1), 1) := by decide +kernel
theorem dX3_make_16 : decode cX3_make 16 = .ok (.ireturn, 1) := by decide +kernel
theorem dX3_make_17 : decode cX3_make 17 = .ok (.aload_n 0, 1) := by decide +kernel
theorem dX3_make_18 : decode cX3_make 18 = .ok (.iload_n 1, 1) := by decide +kernel
theorem dX3_make_19 : decode cX3_make 19 = .ok (.iload_n 2, 1) := by decide +kernel
theorem dX3_make_20 : decode cX3_make 20 = .ok (.invokevirtual 76, 3) := by decide +kernel
theorem dX3_make_23 : decode cX3_make 23 = .ok (.ifCond .ne 6, 3) := by decide +kernel
theorem dX3_make_26 : decode cX3_make 26 = .ok (.bipush (-2), 2) := by decide +kernel
theorem dX3_make_28 : decode cX3_make 28 = .ok (.ireturn, 1) := by decide +kernel
theorem dX3_make_29 : decode cX3_make 29 = .ok (.aload_n 0, 1) := by decide +kernel
theorem dX3_make_30 : decode cX3_make 30 = .ok (.getfield 7, 3) := by decide +kernel
theorem dX3_make_33 : decode cX3_make 33 = .ok (.bipush 100, 2) := by decide +kernel
theorem dX3_make_35 : decode cX3_make 35 = .ok (.if_icmp .eq 17, 3) := by decide +kernel
theorem dX3_make_38 : decode cX3_make 38 = .ok (.iload_n 1, 1) := by decide +kernel
theorem dX3_make_39 : decode cX3_make 39 = .ok (.bipush 11, 2) := by decide +kernel
theorem dX3_make_41 : decode cX3_make 41 = .ok (.if_icmp .ne 14, 3) := by decide +kernel
theorem dX3_make_44 : decode cX3_make 44 = .ok (.aload_n 0, 1) := by decide +kernel
theorem dX3_make_45 : decode cX3_make 45 = .ok (.getfield 80, 3) := by decide +kernel
theorem dX3_make_48 : decode cX3_make 48 = .ok (.iconst 3, 1) := by decide +kernel
theorem dX3_make_49 : decode cX3_make 49 = .ok (.if_icmp .ne 6, 3) := by decide +kernel
theorem dX3_make_52 : decode cX3_make 52 = .ok (.bipush (-4), 2) := by decide +kernel
theorem dX3_make_54 : decode cX3_make 54 = .ok (.ireturn, 1) := by decide +kernel
theorem dX3_make_55 : decode cX3_make 55 = .ok (.iload_n 1, 1) := by decide +kernel
theorem dX3_make_56 : decode cX3_make 56 = .ok (.bipush 11, 2) := by decide +kernel
theorem dX3_make_58 : decode cX3_make 58 = .ok (.if_icmp .ne 48, 3) := by decide +kernel
theorem dX3_make_61 : decode cX3_make 61 = .ok (.aload_n 0, 1) := by decide +kernel
theorem dX3_make_62 : decode cX3_make 62 = .ok (.dup, 1) := by decide +kernel
theorem dX3_make_63 : decode cX3_make 63 = .ok (.getfield 80, 3) := by decide +kernel
theorem dX3_make_66 : decode cX3_make 66 = .ok (.iconst 1, 1) := by decide +kernel
theorem dX3_make_67 : decode cX3_make 67 = .ok (.iadd, 1) := by decide +kernel
theorem dX3_make_68 : decode cX3_make 68 = .ok (.putfield 80, 3) := by decide +kernel
theorem dX3_make_71 : decode cX3_make 71 = .ok (.aload_n 0, 1) := by decide +kernel
theorem dX3_make_72 : decode cX3_make 72 = .ok (.getfield 59, 3) := by decide +kernel
theorem dX3_make_75 : decode cX3_make 75 = .ok (.aload_n 0, 1) := by decide +kernel
theorem dX3_make_76 : decode cX3_make 76 = .ok (.getfield 80, 3) := by decide +kernel
theorem dX3_make_79 : decode cX3_make 79 = .ok (.aload_n 0, 1) := by decide +kernel
theorem dX3_make_80 : decode cX3_make 80 = .ok (.getfield 7, 3) := by decide +kernel
theorem dX3_make_83 : decode cX3_make 83 = .ok (.iastore, 1) := by decide +kernel
theorem dX3_make_84 : decode cX3_make 84 = .ok (.aload_n 0, 1) := by decide +kernel
theorem dX3_make_85 : decode cX3_make 85 = .ok (.getfield 62, 3) := by decide +kernel
theorem dX3_make_88 : decode cX3_make 88 = .ok (.aload_n 0, 1) := by decide +kernel
theorem dX3_make_89 : decode cX3_make 89 = .ok (.getfield 80, 3) := by decide +kernel
theorem dX3_make_92 : decode cX3_make 92 = .ok (.aload_n 0, 1) := by decide +kernel
theorem dX3_make_93 : decode cX3_make 93 = .ok (.getfield 13, 3) := by decide +kernel
theorem dX3_make_96 : decode cX3_make 96 = .ok (.iastore, 1) := by decide +kernel
theorem dX3_make_97 : decode cX3_make 97 = .ok (.aload_n 0, 1) := by decide +kernel
theorem dX3_make_98 : decode cX3_make 98 = .ok (.iconst 0, 1) := by decide +kernel
theorem dX3_make_99 : decode cX3_make 99 = .ok (.aload_n 0, 1) := by decide +kernel
theorem dX3_make_100 : decode cX3_make 100 = .ok (.getfield 80, 3) := by decide +kernel
theorem dX3_make_103 : decode cX3_make 103 = .ok (.invokevirtual 83, 3) := by decide +kernel
theorem dX3_make_106 : decode cX3_make 106 = .ok (.aload_n 0, 1) := by decide +kernel
theorem dX3_make_107 : decode cX3_make 107 = .ok (.getfield 7, 3) := by decide +kernel
theorem dX3_make_110 : decode cX3_make 110 = .ok (.istore_n 3, 1) := by decide +kernel
theorem dX3_make_111 : decode cX3_make 111 = .ok (.aload_n 0, 1) := by decide +kernel
theorem dX3_make_112 : decode cX3_make 112 = .ok (.iload_n 3, 1) := by decide +kernel
theorem dX3_make_113 : decode cX3_make 113 = .ok (.iload_n 1, 1) := by decide +kernel
theorem dX3_make_114 : decode cX3_make 114 = .ok (.invokevirtual 87, 3) := by decide +kernel
theorem dX3_make_117 : decode cX3_make 117 = .ok (.iload_n 1, 1) := by decide +kernel
theorem dX3_make_118 : decode cX3_make 118 = .ok (.iconst 1, 1) := by decide +kernel
theorem dX3_make_119 : decode cX3_make 119 = .ok (.iconst 3, 1) := by decide +kernel
theorem dX3_make_120 : decode cX3_make 120 = .ok (.invokestatic 68, 3) := by decide +kernel
theorem dX3_make_123 : decode cX3_make 123 = .ok (.ifCond .ne 15, 3) := by decide +kernel
theorem dX3_make_126 : decode cX3_make 126 = .ok (.iload_n 1, 1) := by decide +kernel
theorem dX3_make_127 : decode cX3_make 127 = .ok (.bipush 9, 2) := by decide +kernel
theorem dX3_make_129 : decode cX3_make 129 = .ok (.if_icmp .eq 9, 3) := by decide +kernel
theorem dX3_make_132 : decode cX3_make 132 = .ok (.iload_n 1, 1) := by decide +kernel
theorem dX3_make_133 : decode cX3_make 133 = .ok (.bipush 10, 2) := by decide +kernel
theorem dX3_make_135 : decode cX3_make 135 = .ok (.if_icmp .ne 7, 3) := by decide +kernel
theorem dX3_make_138 : decode cX3_make 138 = .ok (.iconst 1, 1) := by decide +kernel
theorem dX3_make_139 : decode cX3_make 139 = .ok (.goto 4, 3) := by decide +kernel
theorem dX3_make_142 : decode cX3_make 142 = .ok (.iconst 0, 1) := by decide +kernel
theorem dX3_make_143 : decode cX3_make 143 = .ok (.istore 4, 2) := by decide +kernel
theorem dX3_make_145 : decode cX3_make 145 = .ok (.aload_n 0, 1) := by decide +kernel
theorem dX3_make_146 : decode cX3_make 146 = .ok (.getfield 20, 3) := by decide +kernel
theorem dX3_make_149 : decode cX3_make 149 = .ok (.iload_n 3, 1) := by decide +kernel
theorem dX3_make_150 : decode cX3_make 150 = .ok (.iload 4, 2) := by decide +kernel
theorem dX3_make_152 : decode cX3_make 152 = .ok (.ifCond .eq 7, 3) := by decide +kernel
theorem dX3_make_155 : decode cX3_make 155 = .ok (.iload_n 2, 1) := by decide +kernel
theorem dX3_make_156 : decode cX3_make 156 = .ok (.goto 4, 3) := by decide +kernel
theorem dX3_make_159 : decode cX3_make 159 = .ok (.iload_n 3, 1) := by decide +kernel
theorem dX3_make_160 : decode cX3_make 160 = .ok (.iastore, 1) := by decide +kernel
theorem dX3_make_161 : decode cX3_make 161 = .ok (.aload_n 0, 1) := by decide +kernel
theorem dX3_make_162 : decode cX3_make 162 = .ok (.getfield 26, 3) := by decide +kernel
theorem dX3_make_165 : decode cX3_make 165 = .ok (.iload_n 3, 1) := by decide +kernel
theorem dX3_make_166 : decode cX3_make 166 = .ok (.iload_n 1, 1) := by decide +kernel
theorem dX3_make_167 : decode cX3_make 167 = .ok (.iconst 4, 1) := by decide +kernel
theorem dX3_make_168 : decode cX3_make 168 = .ok (.bipush 6, 2) := by decide +kernel
theorem dX3_make_170 : decode cX3_make 170 = .ok (.invokestatic 68, 3) := by decide +kernel
theorem dX3_make_173 : decode cX3_make 173 = .ok (.ifCond .eq 7, 3) := by decide +kernel
theorem dX3_make_176 : decode cX3_make 176 = .ok (.iload_n 2, 1) := by decide +kernel
theorem dX3_make_177 : decode cX3_make 177 = .ok (.goto 4, 3) := by decide +kernel
theorem dX3_make_180 : decode cX3_make 180 = .ok (.iconst 0, 1) := by decide +kernel
theorem dX3_make_181 : decode cX3_make 181 = .ok (.iastore, 1) := by decide +kernel
theorem dX3_make_182 : decode cX3_make 182 = .ok (.iconst 0, 1) := by decide +kernel
theorem dX3_make_183 : decode cX3_make 183 = .ok (.istore 5, 2) := by decide +kernel
theorem dX3_make_185 : decode cX3_make 185 = .ok (.iload 5, 2) := by decide +kernel
theorem dX3_make_187 : decode cX3_make 187 = .ok (.bipush 64, 2) := by decide +kernel
theorem dX3_make_189 : decode cX3_make 189 = .ok (.if_icmp .ge 22, 3) := by decide +kernel
theorem dX3_make_192 : decode cX3_make 192 = .ok (.aload_n 0, 1) := by decide +kernel
theorem dX3_make_193 : decode cX3_make 193 = .ok (.getfield 29, 3) := by decide +kernel
theorem dX3_make_196 : decode cX3_make 196 = .ok (.bipush 64, 2) := by decide +kernel
theorem dX3_make_198 : decode cX3_make 198 = .ok (.iload_n 3, 1) := by decide +kernel
theorem dX3_make_199 : decode cX3_make 199 = .ok (.imul, 1) := by decide +kernel
theorem dX3_make_200 : decode cX3_make 200 = .ok (.iload 5, 2) := by decide +kernel
theorem dX3_make_202 : decode cX3_make 202 = .ok (.iadd, 1) := by decide +kernel
theorem dX3_make_203 : decode cX3_make 203 = .ok (.iconst 0, 1) := by decide +kernel
theorem dX3_make_204 : decode cX3_make 204 = .ok (.bastore, 1) := by decide +kernel
theorem dX3_make_205 : decode cX3_make 205 = .ok (.iinc 5 1, 3) := by decide +kernel
theorem dX3_make_208 : decode cX3_make 208 = .ok (.goto (-23), 3) := by decide +kernel
theorem dX3_make_211 : decode cX3_make 211 = .ok (.iconst 0, 1) := by decide +kernel
theorem dX3_make_212 : decode cX3_make 212 = .ok (.istore 5, 2) := by decide +kernel
theorem dX3_make_214 : decode cX3_make 214 = .ok (.iload 5, 2) := by decide +kernel
theorem dX3_make_216 : decode cX3_make 216 = .ok (.bipush 32, 2) := by decide +kernel
theorem dX3_make_218 : decode cX3_make 218 = .ok (.if_icmp .ge 43, 3) := by decide +kernel
theorem dX3_make_221 : decode cX3_make 221 = .ok (.aload_n 0, 1) := by decide +kernel
theorem dX3_make_222 : decode cX3_make 222 = .ok (.getfield 40, 3) := by decide +kernel
theorem dX3_make_225 : decode cX3_make 225 = .ok (.bipush 32, 2) := by decide +kernel
theorem dX3_make_227 : decode cX3_make 227 = .ok (.iload_n 3, 1) := by decide +kernel
theorem dX3_make_228 : decode cX3_make 228 = .ok (.imul, 1) := by decide +kernel
theorem dX3_make_229 : decode cX3_make 229 = .ok (.iload 5, 2) := by decide +kernel
theorem dX3_make_231 : decode cX3_make 231 = .ok (.iadd, 1) := by decide +kernel
theorem dX3_make_232 : decode cX3_make 232 = .ok (.iload_n 1, 1) := by decide +kernel
theorem dX3_make_233 : decode cX3_make 233 = .ok (.bipush 6, 2) := by decide +kernel
theorem dX3_make_235 : decode cX3_make 235 = .ok (.if_icmp .ne 18, 3) := by decide +kernel
theorem dX3_make_238 : decode cX3_make 238 = .ok (.iload 5, 2) := by decide +kernel
theorem dX3_make_240 : decode cX3_make 240 = .ok (.iload_n 2, 1) := by decide +kernel
theorem dX3_make_241 : decode cX3_make 241 = .ok (.if_icmp .ge 12, 3) := by decide +kernel
theorem dX3_make_244 : decode cX3_make 244 = .ok (.iload_n 3, 1) := by decide +kernel
theorem dX3_make_245 : decode cX3_make 245 = .ok (.iload_n 2, 1) := by decide +kernel
end
section
theorem dX3_make_246 : decode cX3_make 246 = .ok (.isub, 1) := by decide +kernel
theorem dX3_make_247 : decode cX3_make 247 = .ok (.iload 5, 2) := by decide +kernel
theorem dX3_make_249 : decode cX3_make 249 = .ok (.iadd, 1) := by decide +kernel
theorem dX3_make_250 : decode cX3_make 250 = .ok (.goto 4, 3) := by decide +kernel
theorem dX3_make_253 : decode cX3_make 253 = .ok (.iconst 0, 1) := by decide +kernel
theorem dX3_make_254 : decode cX3_make 254 = .ok (.iastore, 1) := by decide +kernel
theorem dX3_make_255 : decode cX3_make 255 = .ok (.iinc 5 1, 3) := by decide +kernel
theorem dX3_make_258 : decode cX3_make 258 = .ok (.goto (-44), 3) := by decide +kernel
theorem dX3_make_261 : decode cX3_make 261 = .ok (.aload_n 0, 1) := by decide +kernel
theorem dX3_make_262 : decode cX3_make 262 = .ok (.getfield 43, 3) := by decide +kernel
theorem dX3_make_265 : decode cX3_make 265 = .ok (.iload_n 3, 1) := by decide +kernel
theorem dX3_make_266 : decode cX3_make 266 = .ok (.iload_n 1, 1) := by decide +kernel
theorem dX3_make_267 : decode cX3_make 267 = .ok (.bipush 7, 2) := by decide +kernel
theorem dX3_make_269 : decode cX3_make 269 = .ok (.if_icmp .ne 7, 3) := by decide +kernel
theorem dX3_make_272 : decode cX3_make 272 = .ok (.iload_n 2, 1) := by decide +kernel
theorem dX3_make_273 : decode cX3_make 273 = .ok (.goto 4, 3) := by decide +kernel
theorem dX3_make_276 : decode cX3_make 276 = .ok (.iconst 0, 1) := by decide +kernel
theorem dX3_make_277 : decode cX3_make 277 = .ok (.iastore, 1) := by decide +kernel
theorem dX3_make_278 : decode cX3_make 278 = .ok (.aload_n 0, 1) := by decide +kernel
theorem dX3_make_279 : decode cX3_make 279 = .ok (.getfield 46, 3) := by decide +kernel
theorem dX3_make_282 : decode cX3_make 282 = .ok (.iload_n 3, 1) := by decide +kernel
theorem dX3_make_283 : decode cX3_make 283 = .ok (.iconst 0, 1) := by decide +kernel
theorem dX3_make_284 : decode cX3_make 284 = .ok (.bastore, 1) := by decide +kernel
theorem dX3_make_285 : decode cX3_make 285 = .ok (.aload_n 0, 1) := by decide +kernel
theorem dX3_make_286 : decode cX3_make 286 = .ok (.getfield 49, 3) := by decide +kernel
theorem dX3_make_289 : decode cX3_make 289 = .ok (.iload_n 3, 1) := by decide +kernel
theorem dX3_make_290 : decode cX3_make 290 = .ok (.iconst 0, 1) := by decide +kernel
theorem dX3_make_291 : decode cX3_make 291 = .ok (.iastore, 1) := by decide +kernel
theorem dX3_make_292 : decode cX3_make 292 = .ok (.aload_n 0, 1) := by decide +kernel
theorem dX3_make_293 : decode cX3_make 293 = .ok (.dup, 1) := by decide +kernel
theorem dX3_make_294 : decode cX3_make 294 = .ok (.getfield 13, 3) := by decide +kernel
theorem dX3_make_297 : decode cX3_make 297 = .ok (.bipush 8, 2) := by decide +kernel
theorem dX3_make_299 : decode cX3_make 299 = .ok (.iload_n 1, 1) := by decide +kernel
theorem dX3_make_300 : decode cX3_make 300 = .ok (.iconst 4, 1) := by decide +kernel
theorem dX3_make_301 : decode cX3_make 301 = .ok (.if_icmp .ne 7, 3) := by decide +kernel
theorem dX3_make_304 : decode cX3_make 304 = .ok (.iload_n 2, 1) := by decide +kernel
theorem dX3_make_305 : decode cX3_make 305 = .ok (.goto 41, 3) := by decide +kernel
theorem dX3_make_308 : decode cX3_make 308 = .ok (.iload_n 1, 1) := by decide +kernel
theorem dX3_make_309 : decode cX3_make 309 = .ok (.iconst 5, 1) := by decide +kernel
theorem dX3_make_310 : decode cX3_make 310 = .ok (.if_icmp .ne 10, 3) := by decide +kernel
theorem dX3_make_313 : decode cX3_make 313 = .ok (.bipush 8, 2) := by decide +kernel
theorem dX3_make_315 : decode cX3_make 315 = .ok (.iload_n 2, 1) := by decide +kernel
theorem dX3_make_316 : decode cX3_make 316 = .ok (.imul, 1) := by decide +kernel
theorem dX3_make_317 : decode cX3_make 317 = .ok (.goto 29, 3) := by decide +kernel
theorem dX3_make_320 : decode cX3_make 320 = .ok (.iload_n 1, 1) := by decide +kernel
theorem dX3_make_321 : decode cX3_make 321 = .ok (.bipush 6, 2) := by decide +kernel
theorem dX3_make_323 : decode cX3_make 323 = .ok (.if_icmp .ne 9, 3) := by decide +kernel
theorem dX3_make_326 : decode cX3_make 326 = .ok (.iconst 4, 1) := by decide +kernel
theorem dX3_make_327 : decode cX3_make 327 = .ok (.iload_n 2, 1) := by decide +kernel
theorem dX3_make_328 : decode cX3_make 328 = .ok (.imul, 1) := by decide +kernel
theorem dX3_make_329 : decode cX3_make 329 = .ok (.goto 17, 3) := by decide +kernel
theorem dX3_make_332 : decode cX3_make 332 = .ok (.iload_n 1, 1) := by decide +kernel
theorem dX3_make_333 : decode cX3_make 333 = .ok (.bipush 7, 2) := by decide +kernel
theorem dX3_make_335 : decode cX3_make 335 = .ok (.if_icmp .ne 10, 3) := by decide +kernel
theorem dX3_make_338 : decode cX3_make 338 = .ok (.bipush 16, 2) := by decide +kernel
theorem dX3_make_340 : decode cX3_make 340 = .ok (.iload_n 2, 1) := by decide +kernel
theorem dX3_make_341 : decode cX3_make 341 = .ok (.imul, 1) := by decide +kernel
theorem dX3_make_342 : decode cX3_make 342 = .ok (.goto 4, 3) := by decide +kernel
theorem dX3_make_345 : decode cX3_make 345 = .ok (.iconst 0, 1) := by decide +kernel
theorem dX3_make_346 : decode cX3_make 346 = .ok (.iadd, 1) := by decide +kernel
theorem dX3_make_347 : decode cX3_make 347 = .ok (.iadd, 1) := by decide +kernel
theorem dX3_make_348 : decode cX3_make 348 = .ok (.putfield 13, 3) := by decide +kernel
theorem dX3_make_351 : decode cX3_make 351 = .ok (.aload_n 0, 1) := by decide +kernel
theorem dX3_make_352 : decode cX3_make 352 = .ok (.dup, 1) := by decide +kernel
theorem dX3_make_353 : decode cX3_make 353 = .ok (.getfield 7, 3) := by decide +kernel
theorem dX3_make_356 : decode cX3_make 356 = .ok (.iconst 1, 1) := by decide +kernel
theorem dX3_make_357 : decode cX3_make 357 = .ok (.iadd, 1) := by decide +kernel
theorem dX3_make_358 : decode cX3_make 358 = .ok (.putfield 7, 3) := by decide +kernel
theorem dX3_make_361 : decode cX3_make 361 = .ok (.iload_n 3, 1) := by decide +kernel
theorem dX3_make_362 : decode cX3_make 362 = .ok (.ireturn, 1) := by decide +kernel
set_option maxRecDepth 20000 in
theorem ggX3_put_X3_isObject : GoodIn wsX3_put wsX3_isObject := goodIn_r _ [12, 13, 26, 27, 28, 29, 30, 31, 32, 33, 34, 35, 36, 37, 38, 39, 40, 41, 42, 43, 44] (by decide +kernel) (by decide +kernel)
set_option maxRecDepth 20000 in
theorem gX3_put_X3_isObject : GoodIn wsX3_put (wsV RX3 90 RX3 yX3_isObject wsX3_isObject) := goodIn_app (goodIn_of _ (by decide +kernel)) ggX3_put_X3_isObject
set_option maxRecDepth 20000 in
theorem ggX3_put_X3_within : GoodIn wsX3_put wsX3_within := goodIn_r _ [16] (by decide +kernel) (by decide +kernel)
set_option maxRecDepth 20000 in
theorem gX3_put_X3_within : GoodIn wsX3_put (va_wsS RX3 68 yX3_within wsX3_within) := goodIn_app (goodIn_of _ (by decide +kernel)) ggX3_put_X3_within
set_option maxRecDepth 20000 in
theorem ggX3_put_X3_accessOf : GoodIn wsX3_put wsX3_accessOf := goodIn_r _ [20, 21, 22, 23, 24, 11, 25, 2, 5, 26, 27, 28, 29, 30, 31, 32, 33, 34, 35, 36, 37, 38, 39, 40, 41, 42, 43, 44] (by decide +kernel) (by decide +kernel)
set_option maxRecDepth 20000 in
theorem gX3_put_X3_accessOf : GoodIn wsX3_put (wsV RX3 94 RX3 yX3_accessOf wsX3_accessOf) := goodIn_app (goodIn_of _ (by decide +kernel)) ggX3_put_X3_accessOf
theorem dX3_put_0 : decode cX3_put 0 = .ok (.aload_n 0, 1) := by decide +kernel
theorem dX3_put_1 : decode cX3_put 1 = .ok (.iconst 0, 1) := by decide +kernel
theorem dX3_put_2 : decode cX3_put 2 = .ok (.putfield 65, 3) := by decide +kernel
theorem dX3_put_5 : decode cX3_put 5 = .ok (.aload_n 0, 1) := by decide +kernel
theorem dX3_put_6 : decode cX3_put 6 = .ok (.iload_n 1, 1) := by decide +kernel
theorem dX3_put_7 : decode cX3_put 7 = .ok (.invokevirtual 90, 3) := by decide +kernel
theorem dX3_put_10 : decode cX3_put 10 = .ok (.ifCond .eq 21, 3) := by decide +kernel
theorem dX3_put_13 : decode cX3_put 13 = .ok (.aload_n 0, 1) := by decide +kernel
theorem dX3_put_14 : decode cX3_put 14 = .ok (.getfield 16, 3) := by decide +kernel
theorem dX3_put_17 : decode cX3_put 17 = .ok (.iload_n 1, 1) := by decide +kernel
theorem dX3_put_18 : decode cX3_put 18 = .ok (.iaload, 1) := by decide +kernel
theorem dX3_put_19 : decode cX3_put 19 = .ok (.iconst 5, 1) := by decide +kernel
theorem dX3_put_20 : decode cX3_put 20 = .ok (.if_icmp .ne 13, 3) := by decide +kernel
theorem dX3_put_23 : decode cX3_put 23 = .ok (.aload_n 0, 1) := by decide +kernel
theorem dX3_put_24 : decode cX3_put 24 = .ok (.iload_n 3, 1) := by decide +kernel
theorem dX3_put_25 : decode cX3_put 25 = .ok (.invokevirtual 90, 3) := by decide +kernel
theorem dX3_put_28 : decode cX3_put 28 = .ok (.ifCond .ne 5, 3) := by decide +kernel
theorem dX3_put_31 : decode cX3_put 31 = .ok (.iconst (-1), 1) := by decide +kernel
theorem dX3_put_32 : decode cX3_put 32 = .ok (.ireturn, 1) := by decide +kernel
theorem dX3_put_33 : decode cX3_put 33 = .ok (.aload_n 0, 1) := by decide +kernel
theorem dX3_put_34 : decode cX3_put 34 = .ok (.getfield 16, 3) := by decide +kernel
theorem dX3_put_37 : decode cX3_put 37 = .ok (.iload_n 1, 1) := by decide +kernel
theorem dX3_put_38 : decode cX3_put 38 = .ok (.iaload, 1) := by decide +kernel
theorem dX3_put_39 : decode cX3_put 39 = .ok (.iconst 4, 1) := by decide +kernel
theorem dX3_put_40 : decode cX3_put 40 = .ok (.if_icmp .eq 13, 3) := by decide +kernel
theorem dX3_put_43 : decode cX3_put 43 = .ok (.aload_n 0, 1) := by decide +kernel
theorem dX3_put_44 : decode cX3_put 44 = .ok (.getfield 16, 3) := by decide +kernel
theorem dX3_put_47 : decode cX3_put 47 = .ok (.iload_n 1, 1) := by decide +kernel
theorem dX3_put_48 : decode cX3_put 48 = .ok (.iaload, 1) := by decide +kernel
theorem dX3_put_49 : decode cX3_put 49 = .ok (.iconst 5, 1) := by decide +kernel
theorem dX3_put_50 : decode cX3_put 50 = .ok (.if_icmp .ne 7, 3) := by decide +kernel
theorem dX3_put_53 : decode cX3_put 53 = .ok (.iconst 1, 1) := by decide +kernel
theorem dX3_put_54 : decode cX3_put 54 = .ok (.goto 4, 3) := by decide +kernel
theorem dX3_put_57 : decode cX3_put 57 = .ok (.iconst 0, 1) := by decide +kernel
theorem dX3_put_58 : decode cX3_put 58 = .ok (.istore 4, 2) := by decide +kernel
theorem dX3_put_60 : decode cX3_put 60 = .ok (.iload 4, 2) := by decide +kernel
theorem dX3_put_62 : decode cX3_put 62 = .ok (.ifCond .eq 43, 3) := by decide +kernel
theorem dX3_put_65 : decode cX3_put 65 = .ok (.iload_n 2, 1) := by decide +kernel
theorem dX3_put_66 : decode cX3_put 66 = .ok (.iconst 0, 1) := by decide +kernel
theorem dX3_put_67 : decode cX3_put 67 = .ok (.aload_n 0, 1) := by decide +kernel
theorem dX3_put_68 : decode cX3_put 68 = .ok (.getfield 26, 3) := by decide +kernel
theorem dX3_put_71 : decode cX3_put 71 = .ok (.iload_n 1, 1) := by decide +kernel
theorem dX3_put_72 : decode cX3_put 72 = .ok (.iaload, 1) := by decide +kernel
theorem dX3_put_73 : decode cX3_put 73 = .ok (.iconst 1, 1) := by decide +kernel
theorem dX3_put_74 : decode cX3_put 74 = .ok (.isub, 1) := by decide +kernel
theorem dX3_put_75 : decode cX3_put 75 = .ok (.invokestatic 68, 3) := by decide +kernel
theorem dX3_put_78 : decode cX3_put 78 = .ok (.ifCond .eq 24, 3) := by decide +kernel
theorem dX3_put_81 : decode cX3_put 81 = .ok (.aload_n 0, 1) := by decide +kernel
theorem dX3_put_82 : decode cX3_put 82 = .ok (.getfield 16, 3) := by decide +kernel
theorem dX3_put_85 : decode cX3_put 85 = .ok (.iload_n 1, 1) := by decide +kernel
theorem dX3_put_86 : decode cX3_put 86 = .ok (.iaload, 1) := by decide +kernel
theorem dX3_put_87 : decode cX3_put 87 = .ok (.iconst 4, 1) := by decide +kernel
theorem dX3_put_88 : decode cX3_put 88 = .ok (.if_icmp .ne 17, 3) := by decide +kernel
theorem dX3_put_91 : decode cX3_put 91 = .ok (.iload_n 3, 1) := by decide +kernel
theorem dX3_put_92 : decode cX3_put 92 = .ok (.iconst 0, 1) := by decide +kernel
theorem dX3_put_93 : decode cX3_put 93 = .ok (.sipush 255, 3) := by decide +kernel
theorem dX3_put_96 : decode cX3_put 96 = .ok (.invokestatic 68, 3) := by decide +kernel
theorem dX3_put_99 : decode cX3_put 99 = .ok (.ifCond .ne 6, 3) := by decide +kernel
theorem dX3_put_102 : decode cX3_put 102 = .ok (.bipush (-2), 2) := by decide +kernel
theorem dX3_put_104 : decode cX3_put 104 = .ok (.ireturn, 1) := by decide +kernel
theorem dX3_put_105 : decode cX3_put 105 = .ok (.iload 4, 2) := by decide +kernel
theorem dX3_put_107 : decode cX3_put 107 = .ok (.ifCond .eq 12, 3) := by decide +kernel
theorem dX3_put_110 : decode cX3_put 110 = .ok (.aload_n 0, 1) := by decide +kernel
theorem dX3_put_111 : decode cX3_put 111 = .ok (.iload_n 1, 1) := by decide +kernel
theorem dX3_put_112 : decode cX3_put 112 = .ok (.invokevirtual 94, 3) := by decide +kernel
theorem dX3_put_115 : decode cX3_put 115 = .ok (.iconst 3, 1) := by decide +kernel
theorem dX3_put_116 : decode cX3_put 116 = .ok (.if_icmp .eq 6, 3) := by decide +kernel
theorem dX3_put_119 : decode cX3_put 119 = .ok (.bipush (-3), 2) := by decide +kernel
theorem dX3_put_121 : decode cX3_put 121 = .ok (.ireturn, 1) := by decide +kernel
theorem dX3_put_122 : decode cX3_put 122 = .ok (.aload_n 0, 1) := by decide +kernel
theorem dX3_put_123 : decode cX3_put 123 = .ok (.getfield 16, 3) := by decide +kernel
theorem dX3_put_126 : decode cX3_put 126 = .ok (.iload_n 1, 1) := by decide +kernel
theorem dX3_put_127 : decode cX3_put 127 = .ok (.iaload, 1) := by decide +kernel
theorem dX3_put_128 : decode cX3_put 128 = .ok (.iconst 4, 1) := by decide +kernel
theorem dX3_put_129 : decode cX3_put 129 = .ok (.if_icmp .ne 31, 3) := by decide +kernel
theorem dX3_put_132 : decode cX3_put 132 = .ok (.aload_n 0, 1) := by decide +kernel
theorem dX3_put_133 : decode cX3_put 133 = .ok (.getfield 29, 3) := by decide +kernel
theorem dX3_put_136 : decode cX3_put 136 = .ok (.bipush 64, 2) := by decide +kernel
theorem dX3_put_138 : decode cX3_put 138 = .ok (.aload_n 0, 1) := by decide +kernel
theorem dX3_put_139 : decode cX3_put 139 = .ok (.getfield 20, 3) := by decide +kernel
theorem dX3_put_142 : decode cX3_put 142 = .ok (.iload_n 1, 1) := by decide +kernel
theorem dX3_put_143 : decode cX3_put 143 = .ok (.iaload, 1) := by decide +kernel
theorem dX3_put_144 : decode cX3_put 144 = .ok (.imul, 1) := by decide +kernel
theorem dX3_put_145 : decode cX3_put 145 = .ok (.aload_n 0, 1) := by decide +kernel
theorem dX3_put_146 : decode cX3_put 146 = .ok (.getfield 23, 3) := by decide +kernel
theorem dX3_put_149 : decode cX3_put 149 = .ok (.iload_n 1, 1) := by decide +kernel
theorem dX3_put_150 : decode cX3_put 150 = .ok (.iaload, 1) := by decide +kernel
theorem dX3_put_151 : decode cX3_put 151 = .ok (.iadd, 1) := by decide +kernel
theorem dX3_put_152 : decode cX3_put 152 = .ok (.iload_n 2, 1) := by decide +kernel
theorem dX3_put_153 : decode cX3_put 153 = .ok (.iadd, 1) := by decide +kernel
theorem dX3_put_154 : decode cX3_put 154 = .ok (.iload_n 3, 1) := by decide +kernel
theorem dX3_put_155 : decode cX3_put 155 = .ok (.i2b, 1) := by decide +kernel
theorem dX3_put_156 : decode cX3_put 156 = .ok (.bastore, 1) := by decide +kernel
theorem dX3_put_157 : decode cX3_put 157 = .ok (.goto 27, 3) := by decide +kernel
theorem dX3_put_160 : decode cX3_put 160 = .ok (.aload_n 0, 1) := by decide +kernel
theorem dX3_put_161 : decode cX3_put 161 = .ok (.getfield 40, 3) := by decide +kernel
theorem dX3_put_164 : decode cX3_put 164 = .ok (.bipush 32, 2) := by decide +kernel
theorem dX3_put_166 : decode cX3_put 166 = .ok (.aload_n 0, 1) := by decide +kernel
theorem dX3_put_167 : decode cX3_put 167 = .ok (.getfield 20, 3) := by decide +kernel
theorem dX3_put_170 : decode cX3_put 170 = .ok (.iload_n 1, 1) := by decide +kernel
theorem dX3_put_171 : decode cX3_put 171 = .ok (.iaload, 1) := by decide +kernel
theorem dX3_put_172 : decode cX3_put 172 = .ok (.imul, 1) := by decide +kernel
theorem dX3_put_173 : decode cX3_put 173 = .ok (.aload_n 0, 1) := by decide +kernel
theorem dX3_put_174 : decode cX3_put 174 = .ok (.getfield 23, 3) := by decide +kernel
theorem dX3_put_177 : decode cX3_put 177 = .ok (.iload_n 1, 1) := by decide +kernel
theorem dX3_put_178 : decode cX3_put 178 = .ok (.iaload, 1) := by decide +kernel
theorem dX3_put_179 : decode cX3_put 179 = .ok (.iadd, 1) := by decide +kernel
theorem dX3_put_180 : decode cX3_put 180 = .ok (.iload_n 2, 1) := by decide +kernel
theorem dX3_put_181 : decode cX3_put 181 = .ok (.iadd, 1) := by decide +kernel
theorem dX3_put_182 : decode cX3_put 182 = .ok (.iload_n 3, 1) := by decide +kernel
theorem dX3_put_183 : decode cX3_put 183 = .ok (.iastore, 1) := by decide +kernel
theorem dX3_put_184 : decode cX3_put 184 = .ok (.iconst 1, 1) := by decide +kernel
theorem dX3_put_185 : decode cX3_put 185 = .ok (.ireturn, 1) := by decide +kernel
theorem dX3_byteOf_0 : decode cX3_byteOf 0 = .ok (.aload_n 0, 1) := by decide +kernel
theorem dX3_byteOf_1 : decode cX3_byteOf 1 = .ok (.getfield 29, 3) := by decide +kernel
theorem dX3_byteOf_4 : decode cX3_byteOf 4 = .ok (.bipush 64, 2) := by decide +kernel
theorem dX3_byteOf_6 : decode cX3_byteOf 6 = .ok (.aload_n 0, 1) := by decide +kernel
theorem dX3_byteOf_7 : decode cX3_byteOf 7 = .ok (.getfield 20, 3) := by decide +kernel
theorem dX3_byteOf_10 : decode cX3_byteOf 10 = .ok (.iload_n 1, 1) := by decide +kernel
theorem dX3_byteOf_11 : decode cX3_byteOf 11 = .ok (.iaload, 1) := by decide +kernel
theorem dX3_byteOf_12 : decode cX3_byteOf 12 = .ok (.imul, 1) := by decide +kernel
theorem dX3_byteOf_13 : decode cX3_byteOf 13 = .ok (.aload_n 0, 1) := by decide +kernel
theorem dX3_byteOf_14 : decode cX3_byteOf 14 = .ok (.getfield 23, 3) := by decide +kernel
theorem dX3_byteOf_17 : decode cX3_byteOf 17 = .ok (.iload_n 1, 1) := by decide +kernel
theorem dX3_byteOf_18 : decode cX3_byteOf 18 = .ok (.iaload, 1) := by decide +kernel
theorem dX3_byteOf_19 : decode cX3_byteOf 19 = .ok (.iadd, 1) := by decide +kernel
theorem dX3_byteOf_20 : decode cX3_byteOf 20 = .ok (.iload_n 2, 1) := by decide +kernel
theorem dX3_byteOf_21 : decode cX3_byteOf 21 = .ok (.iadd, 1) := by decide +kernel
theorem dX3_byteOf_22 : decode cX3_byteOf 22 = .ok (.baload, 1) := by decide +kernel
theorem dX3_byteOf_23 : decode cX3_byteOf 23 = .ok (.sipush 255, 3) := by decide +kernel
theorem dX3_byteOf_26 : decode cX3_byteOf 26 = .ok (.iand, 1) := by decide +kernel
theorem dX3_byteOf_27 : decode cX3_byteOf 27 = .ok (.ireturn, 1) := by decide +kernel
set_option maxRecDepth 20000 in
theorem ggX3_get_X3_isObject : GoodIn wsX3_get wsX3_isObject := goodIn_r _ [11, 12, 34, 35, 36, 37, 38, 39, 40, 41, 42, 43, 44, 45, 46, 47, 48, 49, 50, 51, 52] (by decide +kernel) (by decide +kernel)
set_option maxRecDepth 20000 in
theorem gX3_get_X3_isObject : GoodIn wsX3_get (wsV RX3 90 RX3 yX3_isObject wsX3_isObject) := goodIn_app (goodIn_of _ (by decide +kernel)) ggX3_get_X3_isObject
set_option maxRecDepth 20000 in
theorem ggX3_get_X3_isView : GoodIn wsX3_get wsX3_isView := goodIn_r _ [16, 3, 17, 18, 10, 19, 34, 35, 36, 37, 38, 39, 40, 41, 42, 43, 44, 45, 46, 47, 48, 49, 50, 51, 52] (by decide +kernel) (by decide +kernel)
set_option maxRecDepth 20000 in
theorem gX3_get_X3_isView : GoodIn wsX3_get (wsV RX3 97 RX3 yX3_isView wsX3_isView) := goodIn_app (goodIn_of _ (by decide +kernel)) ggX3_get_X3_isView
set_option maxRecDepth 20000 in
theorem ggX3_get_X3_accessOf : GoodIn wsX3_get wsX3_accessOf := goodIn_r _ [23, 24, 25, 26, 27, 10, 28, 3, 5, 34, 35, 36, 37, 38, 39, 40, 41, 42, 43, 44, 45, 46, 47, 48, 49, 50, 51, 52] (by decide +kernel) (by decide +kernel)
set_option maxRecDepth 20000 in
theorem gX3_get_X3_accessOf : GoodIn wsX3_get (wsV RX3 94 RX3 yX3_accessOf wsX3_accessOf) := goodIn_app (goodIn_of _ (by decide +kernel)) ggX3_get_X3_accessOf
set_option maxRecDepth 20000 in
theorem ggX3_get_X3_within : GoodIn wsX3_get wsX3_within := goodIn_r _ [19] (by decide +kernel) (by decide +kernel)
set_option maxRecDepth 20000 in
theorem gX3_get_X3_within : GoodIn wsX3_get (va_wsS RX3 68 yX3_within wsX3_within) := goodIn_app (goodIn_of _ (by decide +kernel)) ggX3_get_X3_within
set_option maxRecDepth 20000 in
theorem ggX3_get_X3_byteOf : GoodIn wsX3_get wsX3_byteOf := goodIn_r _ [32, 33, 5, 6, 34, 35, 36, 37, 38, 39, 40, 41, 42, 43, 44, 45, 46, 47, 48, 49, 50, 51, 52] (by decide +kernel) (by decide +kernel)
set_option maxRecDepth 20000 in
theorem gX3_get_X3_byteOf : GoodIn wsX3_get (wsV RX3 100 RX3 yX3_byteOf wsX3_byteOf) := goodIn_app (goodIn_of _ (by decide +kernel)) ggX3_get_X3_byteOf
theorem dX3_get_0 : decode cX3_get 0 = .ok (.aload_n 0, 1) := by decide +kernel
theorem dX3_get_1 : decode cX3_get 1 = .ok (.iconst 0, 1) := by decide +kernel
theorem dX3_get_2 : decode cX3_get 2 = .ok (.putfield 65, 3) := by decide +kernel
theorem dX3_get_5 : decode cX3_get 5 = .ok (.aload_n 0, 1) := by decide +kernel
theorem dX3_get_6 : decode cX3_get 6 = .ok (.iload_n 1, 1) := by decide +kernel
theorem dX3_get_7 : decode cX3_get 7 = .ok (.invokevirtual 90, 3) := by decide +kernel
theorem dX3_get_10 : decode cX3_get 10 = .ok (.ifCond .ne 5, 3) := by decide +kernel
theorem dX3_get_13 : decode cX3_get 13 = .ok (.iconst (-1), 1) := by decide +kernel
theorem dX3_get_14 : decode cX3_get 14 = .ok (.ireturn, 1) := by decide +kernel
theorem dX3_get_15 : decode cX3_get 15 = .ok (.aload_n 0, 1) := by decide +kernel
theorem dX3_get_16 : decode cX3_get 16 = .ok (.iload_n 1, 1) := by decide +kernel
theorem dX3_get_17 : decode cX3_get 17 = .ok (.invokevirtual 97, 3) := by decide +kernel
theorem dX3_get_20 : decode cX3_get 20 = .ok (.ifCond .eq 12, 3) := by decide +kernel
theorem dX3_get_23 : decode cX3_get 23 = .ok (.aload_n 0, 1) := by decide +kernel
theorem dX3_get_24 : decode cX3_get 24 = .ok (.iload_n 1, 1) := by decide +kernel
theorem dX3_get_25 : decode cX3_get 25 = .ok (.invokevirtual 94, 3) := by decide +kernel
theorem dX3_get_28 : decode cX3_get 28 = .ok (.iconst 2, 1) := by decide +kernel
theorem dX3_get_29 : decode cX3_get 29 = .ok (.if_icmp .ge 6, 3) := by decide +kernel
theorem dX3_get_32 : decode cX3_get 32 = .ok (.bipush (-3), 2) := by decide +kernel
theorem dX3_get_34 : decode cX3_get 34 = .ok (.ireturn, 1) := by decide +kernel
theorem dX3_get_35 : decode cX3_get 35 = .ok (.iload_n 2, 1) := by decide +kernel
theorem dX3_get_36 : decode cX3_get 36 = .ok (.iconst 0, 1) := by decide +kernel
theorem dX3_get_37 : decode cX3_get 37 = .ok (.aload_n 0, 1) := by decide +kernel
theorem dX3_get_38 : decode cX3_get 38 = .ok (.getfield 26, 3) := by decide +kernel
theorem dX3_get_41 : decode cX3_get 41 = .ok (.iload_n 1, 1) := by decide +kernel
theorem dX3_get_42 : decode cX3_get 42 = .ok (.iaload, 1) := by decide +kernel
theorem dX3_get_43 : decode cX3_get 43 = .ok (.iconst 1, 1) := by decide +kernel
theorem dX3_get_44 : decode cX3_get 44 = .ok (.isub, 1) := by decide +kernel
theorem dX3_get_45 : decode cX3_get 45 = .ok (.invokestatic 68, 3) := by decide +kernel
theorem dX3_get_48 : decode cX3_get 48 = .ok (.ifCond .ne 10, 3) := by decide +kernel
theorem dX3_get_51 : decode cX3_get 51 = .ok (.aload_n 0, 1) := by decide +kernel
theorem dX3_get_52 : decode cX3_get 52 = .ok (.iconst 1, 1) := by decide +kernel
theorem dX3_get_53 : decode cX3_get 53 = .ok (.putfield 65, 3) := by decide +kernel
theorem dX3_get_56 : decode cX3_get 56 = .ok (.iconst 0, 1) := by decide +kernel
theorem dX3_get_57 : decode cX3_get 57 = .ok (.ireturn, 1) := by decide +kernel
theorem dX3_get_58 : decode cX3_get 58 = .ok (.aload_n 0, 1) := by decide +kernel
theorem dX3_get_59 : decode cX3_get 59 = .ok (.getfield 16, 3) := by decide +kernel
theorem dX3_get_62 : decode cX3_get 62 = .ok (.iload_n 1, 1) := by decide +kernel
theorem dX3_get_63 : decode cX3_get 63 = .ok (.iaload, 1) := by decide +kernel
theorem dX3_get_64 : decode cX3_get 64 = .ok (.iconst 4, 1) := by decide +kernel
theorem dX3_get_65 : decode cX3_get 65 = .ok (.if_icmp .ne 12, 3) := by decide +kernel
theorem dX3_get_68 : decode cX3_get 68 = .ok (.aload_n 0, 1) := by decide +kernel
theorem dX3_get_69 : decode cX3_get 69 = .ok (.iload_n 1, 1) := by decide +kernel
theorem dX3_get_70 : decode cX3_get 70 = .ok (.iload_n 2, 1) := by decide +kernel
theorem dX3_get_71 : decode cX3_get 71 = .ok (.invokevirtual 100, 3) := by decide +kernel
theorem dX3_get_74 : decode cX3_get 74 = .ok (.goto 26, 3) := by decide +kernel
theorem dX3_get_77 : decode cX3_get 77 = .ok (.aload_n 0, 1) := by decide +kernel
theorem dX3_get_78 : decode cX3_get 78 = .ok (.getfield 40, 3) := by decide +kernel
theorem dX3_get_81 : decode cX3_get 81 = .ok (.bipush 32, 2) := by decide +kernel
theorem dX3_get_83 : decode cX3_get 83 = .ok (.aload_n 0, 1) := by decide +kernel
theorem dX3_get_84 : decode cX3_get 84 = .ok (.getfield 20, 3) := by decide +kernel
theorem dX3_get_87 : decode cX3_get 87 = .ok (.iload_n 1, 1) := by decide +kernel
theorem dX3_get_88 : decode cX3_get 88 = .ok (.iaload, 1) := by decide +kernel
theorem dX3_get_89 : decode cX3_get 89 = .ok (.imul, 1) := by decide +kernel
theorem dX3_get_90 : decode cX3_get 90 = .ok (.aload_n 0, 1) := by decide +kernel
theorem dX3_get_91 : decode cX3_get 91 = .ok (.getfield 23, 3) := by decide +kernel
theorem dX3_get_94 : decode cX3_get 94 = .ok (.iload_n 1, 1) := by decide +kernel
theorem dX3_get_95 : decode cX3_get 95 = .ok (.iaload, 1) := by decide +kernel
theorem dX3_get_96 : decode cX3_get 96 = .ok (.iadd, 1) := by decide +kernel
theorem dX3_get_97 : decode cX3_get 97 = .ok (.iload_n 2, 1) := by decide +kernel
theorem dX3_get_98 : decode cX3_get 98 = .ok (.iadd, 1) := by decide +kernel
theorem dX3_get_99 : decode cX3_get 99 = .ok (.iaload, 1) := by decide +kernel
theorem dX3_get_100 : decode cX3_get 100 = .ok (.ireturn, 1) := by decide +kernel
set_option maxRecDepth 20000 in
theorem ggX3_part_X3_isObject : GoodIn wsX3_part wsX3_isObject := goodIn_r _ [14, 4, 34, 35, 36, 37, 38, 39, 40, 41, 42, 43, 44, 45, 46, 47, 48, 49, 50, 51, 52] (by decide +kernel) (by decide +kernel)
set_option maxRecDepth 20000 in
theorem gX3_part_X3_isObject : GoodIn wsX3_part (wsV RX3 90 RX3 yX3_isObject wsX3_isObject) := goodIn_app (goodIn_of _ (by decide +kernel)) ggX3_part_X3_isObject
set_option maxRecDepth 20000 in
theorem ggX3_part_X3_isView : GoodIn wsX3_part wsX3_isView := goodIn_r _ [18, 3, 19, 20, 13, 21, 34, 35, 36, 37, 38, 39, 40, 41, 42, 43, 44, 45, 46, 47, 48, 49, 50, 51, 52] (by decide +kernel) (by decide +kernel)
set_option maxRecDepth 20000 in
theorem gX3_part_X3_isView : GoodIn wsX3_part (wsV RX3 97 RX3 yX3_isView wsX3_isView) := goodIn_app (goodIn_of _ (by decide +kernel)) ggX3_part_X3_isView
set_option maxRecDepth 20000 in
theorem ggX3_part_X3_accessOf : GoodIn wsX3_part wsX3_accessOf := goodIn_r _ [25, 8, 26, 27, 28, 13, 29, 3, 5, 34, 35, 36, 37, 38, 39, 40, 41, 42, 43, 44, 45, 46, 47, 48, 49, 50, 51, 52] (by decide +kernel) (by decide +kernel)
set_option maxRecDepth 20000 in
theorem gX3_part_X3_accessOf : GoodIn wsX3_part (wsV RX3 94 RX3 yX3_accessOf wsX3_accessOf) := goodIn_app (goodIn_of _ (by decide +kernel)) ggX3_part_X3_accessOf
set_option maxRecDepth 20000 in
theorem ggX3_part_X3_blank : GoodIn wsX3_part wsX3_blank := goodIn_r _ [33, 3, 5, 6, 2, 7, 8, 34, 35, 36, 37, 38, 39, 40, 41, 42, 43, 44, 45, 46, 47, 48, 49, 50, 51, 52] (by decide +kernel) (by decide +kernel)
set_option maxRecDepth 20000 in
theorem gX3_part_X3_blank : GoodIn wsX3_part (wsV RX3 87 RX3 yX3_blank wsX3_blank) := goodIn_app (goodIn_of _ (by decide +kernel)) ggX3_part_X3_blank
theorem dX3_part_0 : decode cX3_part 0 = .ok (.aload_n 0, 1) := by decide +kernel
theorem dX3_part_1 : decode cX3_part 1 = .ok (.iconst 0, 1) := by decide +kernel
theorem dX3_part_2 : decode cX3_part 2 = .ok (.putfield 65, 3) := by decide +kernel
theorem dX3_part_5 : decode cX3_part 5 = .ok (.aload_n 0, 1) := by decide +kernel
theorem dX3_part_6 : decode cX3_part 6 = .ok (.iload_n 1, 1) := by decide +kernel
theorem dX3_part_7 : decode cX3_part 7 = .ok (.invokevirtual 90, 3) := by decide +kernel
theorem dX3_part_10 : decode cX3_part 10 = .ok (.ifCond .ne 5, 3) := by decide +kernel
theorem dX3_part_13 : decode cX3_part 13 = .ok (.iconst (-1), 1) := by decide +kernel
theorem dX3_part_14 : decode cX3_part 14 = .ok (.ireturn, 1) := by decide +kernel
theorem dX3_part_15 : decode cX3_part 15 = .ok (.aload_n 0, 1) := by decide +kernel
theorem dX3_part_16 : decode cX3_part 16 = .ok (.iload_n 1, 1) := by decide +kernel
theorem dX3_part_17 : decode cX3_part 17 = .ok (.invokevirtual 97, 3) := by decide +kernel
theorem dX3_part_20 : decode cX3_part 20 = .ok (.ifCond .eq 36, 3) := by decide +kernel
theorem dX3_part_23 : decode cX3_part 23 = .ok (.iload_n 2, 1) := by decide +kernel
theorem dX3_part_24 : decode cX3_part 24 = .ok (.ifCond .lt 29, 3) := by decide +kernel
theorem dX3_part_27 : decode cX3_part 27 = .ok (.iload_n 3, 1) := by decide +kernel
theorem dX3_part_28 : decode cX3_part 28 = .ok (.ifCond .lt 25, 3) := by decide +kernel
theorem dX3_part_31 : decode cX3_part 31 = .ok (.iload_n 2, 1) := by decide +kernel
theorem dX3_part_32 : decode cX3_part 32 = .ok (.aload_n 0, 1) := by decide +kernel
theorem dX3_part_33 : decode cX3_part 33 = .ok (.getfield 26, 3) := by decide +kernel
theorem dX3_part_36 : decode cX3_part 36 = .ok (.iload_n 1, 1) := by decide +kernel
theorem dX3_part_37 : decode cX3_part 37 = .ok (.iaload, 1) := by decide +kernel
theorem dX3_part_38 : decode cX3_part 38 = .ok (.if_icmp .gt 15, 3) := by decide +kernel
theorem dX3_part_41 : decode cX3_part 41 = .ok (.iload_n 3, 1) := by decide +kernel
theorem dX3_part_42 : decode cX3_part 42 = .ok (.aload_n 0, 1) := by decide +kernel
theorem dX3_part_43 : decode cX3_part 43 = .ok (.getfield 26, 3) := by decide +kernel
theorem dX3_part_46 : decode cX3_part 46 = .ok (.iload_n 1, 1) := by decide +kernel
theorem dX3_part_47 : decode cX3_part 47 = .ok (.iaload, 1) := by decide +kernel
theorem dX3_part_48 : decode cX3_part 48 = .ok (.iload_n 2, 1) := by decide +kernel
theorem dX3_part_49 : decode cX3_part 49 = .ok (.isub, 1) := by decide +kernel
theorem dX3_part_50 : decode cX3_part 50 = .ok (.if_icmp .le 6, 3) := by decide +kernel
theorem dX3_part_53 : decode cX3_part 53 = .ok (.bipush (-2), 2) := by decide +kernel
theorem dX3_part_55 : decode cX3_part 55 = .ok (.ireturn, 1) := by decide +kernel
theorem dX3_part_56 : decode cX3_part 56 = .ok (.aload_n 0, 1) := by decide +kernel
theorem dX3_part_57 : decode cX3_part 57 = .ok (.iload_n 1, 1) := by decide +kernel
theorem dX3_part_58 : decode cX3_part 58 = .ok (.invokevirtual 97, 3) := by decide +kernel
theorem dX3_part_61 : decode cX3_part 61 = .ok (.ifCond .ne 14, 3) := by decide +kernel
theorem dX3_part_64 : decode cX3_part 64 = .ok (.aload_n 0, 1) := by decide +kernel
theorem dX3_part_65 : decode cX3_part 65 = .ok (.getfield 16, 3) := by decide +kernel
theorem dX3_part_68 : decode cX3_part 68 = .ok (.iload_n 1, 1) := by decide +kernel
theorem dX3_part_69 : decode cX3_part 69 = .ok (.iaload, 1) := by decide +kernel
theorem dX3_part_70 : decode cX3_part 70 = .ok (.bipush 7, 2) := by decide +kernel
theorem dX3_part_72 : decode cX3_part 72 = .ok (.if_icmp .ne 12, 3) := by decide +kernel
theorem dX3_part_75 : decode cX3_part 75 = .ok (.aload_n 0, 1) := by decide +kernel
theorem dX3_part_76 : decode cX3_part 76 = .ok (.iload_n 1, 1) := by decide +kernel
theorem dX3_part_77 : decode cX3_part 77 = .ok (.invokevirtual 94, 3) := by decide +kernel
theorem dX3_part_80 : decode cX3_part 80 = .ok (.iconst 2, 1) := by decide +kernel
theorem dX3_part_81 : decode cX3_part 81 = .ok (.if_icmp .ge 6, 3) := by decide +kernel
theorem dX3_part_84 : decode cX3_part 84 = .ok (.bipush (-3), 2) := by decide +kernel
theorem dX3_part_86 : decode cX3_part 86 = .ok (.ireturn, 1) := by decide +kernel
theorem dX3_part_87 : decode cX3_part 87 = .ok (.aload_n 0, 1) := by decide +kernel
theorem dX3_part_88 : decode cX3_part 88 = .ok (.getfield 7, 3) := by decide +kernel
theorem dX3_part_91 : decode cX3_part 91 = .ok (.bipush 100, 2) := by decide +kernel
theorem dX3_part_93 : decode cX3_part 93 = .ok (.if_icmp .ne 6, 3) := by decide +kernel
theorem dX3_part_96 : decode cX3_part 96 = .ok (.bipush (-4), 2) := by decide +kernel
theorem dX3_part_98 : decode cX3_part 98 = .ok (.ireturn, 1) := by decide +kernel
theorem dX3_part_99 : decode cX3_part 99 = .ok (.aload_n 0, 1) := by decide +kernel
theorem dX3_part_100 : decode cX3_part 100 = .ok (.getfield 7, 3) := by decide +kernel
theorem dX3_part_103 : decode cX3_part 103 = .ok (.istore 4, 2) := by decide +kernel
theorem dX3_part_105 : decode cX3_part 105 = .ok (.aload_n 0, 1) := by decide +kernel
theorem dX3_part_106 : decode cX3_part 106 = .ok (.iload 4, 2) := by decide +kernel
theorem dX3_part_108 : decode cX3_part 108 = .ok (.aload_n 0, 1) := by decide +kernel
theorem dX3_part_109 : decode cX3_part 109 = .ok (.getfield 16, 3) := by decide +kernel
theorem dX3_part_112 : decode cX3_part 112 = .ok (.iload_n 1, 1) := by decide +kernel
theorem dX3_part_113 : decode cX3_part 113 = .ok (.iaload, 1) := by decide +kernel
theorem dX3_part_114 : decode cX3_part 114 = .ok (.invokevirtual 87, 3) := by decide +kernel
theorem dX3_part_117 : decode cX3_part 117 = .ok (.aload_n 0, 1) := by decide +kernel
theorem dX3_part_118 : decode cX3_part 118 = .ok (.getfield 20, 3) := by decide +kernel
theorem dX3_part_121 : decode cX3_part 121 = .ok (.iload 4, 2) := by decide +kernel
theorem dX3_part_123 : decode cX3_part 123 = .ok (.aload_n 0, 1) := by decide +kernel
theorem dX3_part_124 : decode cX3_part 124 = .ok (.getfield 20, 3) := by decide +kernel
theorem dX3_part_127 : decode cX3_part 127 = .ok (.iload_n 1, 1) := by decide +kernel
theorem dX3_part_128 : decode cX3_part 128 = .ok (.iaload, 1) := by decide +kernel
theorem dX3_part_129 : decode cX3_part 129 = .ok (.iastore, 1) := by decide +kernel
theorem dX3_part_130 : decode cX3_part 130 = .ok (.aload_n 0, 1) := by decide +kernel
theorem dX3_part_131 : decode cX3_part 131 = .ok (.getfield 23, 3) := by decide +kernel
theorem dX3_part_134 : decode cX3_part 134 = .ok (.iload 4, 2) := by decide +kernel
theorem dX3_part_136 : decode cX3_part 136 = .ok (.aload_n 0, 1) := by decide +kernel
theorem dX3_part_137 : decode cX3_part 137 = .ok (.iload_n 1, 1) := by decide +kernel
theorem dX3_part_138 : decode cX3_part 138 = .ok (.invokevirtual 97, 3) := by decide +kernel
theorem dX3_part_141 : decode cX3_part 141 = .ok (.ifCond .eq 14, 3) := by decide +kernel
theorem dX3_part_144 : decode cX3_part 144 = .ok (.aload_n 0, 1) := by decide +kernel
theorem dX3_part_145 : decode cX3_part 145 = .ok (.getfield 23, 3) := by decide +kernel
theorem dX3_part_148 : decode cX3_part 148 = .ok (.iload_n 1, 1) := by decide +kernel
theorem dX3_part_149 : decode cX3_part 149 = .ok (.iaload, 1) := by decide +kernel
theorem dX3_part_150 : decode cX3_part 150 = .ok (.iload_n 2, 1) := by decide +kernel
theorem dX3_part_151 : decode cX3_part 151 = .ok (.iadd, 1) := by decide +kernel
theorem dX3_part_152 : decode cX3_part 152 = .ok (.goto 4, 3) := by decide +kernel
theorem dX3_part_155 : decode cX3_part 155 = .ok (.iconst 0, 1) := by decide +kernel
theorem dX3_part_156 : decode cX3_part 156 = .ok (.iastore, 1) := by decide +kernel
theorem dX3_part_157 : decode cX3_part 157 = .ok (.aload_n 0, 1) := by decide +kernel
theorem dX3_part_158 : decode cX3_part 158 = .ok (.getfield 26, 3) := by decide +kernel
theorem dX3_part_161 : decode cX3_part 161 = .ok (.iload 4, 2) := by decide +kernel
theorem dX3_part_163 : decode cX3_part 163 = .ok (.aload_n 0, 1) := by decide +kernel
theorem dX3_part_164 : decode cX3_part 164 = .ok (.iload_n 1, 1) := by decide +kernel
theorem dX3_part_165 : decode cX3_part 165 = .ok (.invokevirtual 97, 3) := by decide +kernel
theorem dX3_part_168 : decode cX3_part 168 = .ok (.ifCond .eq 7, 3) := by decide +kernel
theorem dX3_part_171 : decode cX3_part 171 = .ok (.iload_n 3, 1) := by decide +kernel
theorem dX3_part_172 : decode cX3_part 172 = .ok (.goto 4, 3) := by decide +kernel
theorem dX3_part_175 : decode cX3_part 175 = .ok (.iconst 0, 1) := by decide +kernel
theorem dX3_part_176 : decode cX3_part 176 = .ok (.iastore, 1) := by decide +kernel
theorem dX3_part_177 : decode cX3_part 177 = .ok (.aload_n 0, 1) := by decide +kernel
theorem dX3_part_178 : decode cX3_part 178 = .ok (.getfield 33, 3) := by decide +kernel
theorem dX3_part_181 : decode cX3_part 181 = .ok (.iload 4, 2) := by decide +kernel
theorem dX3_part_183 : decode cX3_part 183 = .ok (.aload_n 0, 1) := by decide +kernel
theorem dX3_part_184 : decode cX3_part 184 = .ok (.getfield 33, 3) := by decide +kernel
theorem dX3_part_187 : decode cX3_part 187 = .ok (.iload_n 1, 1) := by decide +kernel
theorem dX3_part_188 : decode cX3_part 188 = .ok (.baload, 1) := by decide +kernel
theorem dX3_part_189 : decode cX3_part 189 = .ok (.bastore, 1) := by decide +kernel
theorem dX3_part_190 : decode cX3_part 190 = .ok (.aload_n 0, 1) := by decide +kernel
theorem dX3_part_191 : decode cX3_part 191 = .ok (.getfield 37, 3) := by decide +kernel
theorem dX3_part_194 : decode cX3_part 194 = .ok (.iload 4, 2) := by decide +kernel
theorem dX3_part_196 : decode cX3_part 196 = .ok (.aload_n 0, 1) := by decide +kernel
theorem dX3_part_197 : decode cX3_part 197 = .ok (.iload_n 1, 1) := by decide +kernel
theorem dX3_part_198 : decode cX3_part 198 = .ok (.invokevirtual 94, 3) := by decide +kernel
theorem dX3_part_201 : decode cX3_part 201 = .ok (.iastore, 1) := by decide +kernel
theorem dX3_part_202 : decode cX3_part 202 = .ok (.aload_n 0, 1) := by decide +kernel
theorem dX3_part_203 : decode cX3_part 203 = .ok (.dup, 1) := by decide +kernel
theorem dX3_part_204 : decode cX3_part 204 = .ok (.getfield 13, 3) := by decide +kernel
theorem dX3_part_207 : decode cX3_part 207 = .ok (.bipush 8, 2) := by decide +kernel
theorem dX3_part_209 : decode cX3_part 209 = .ok (.iadd, 1) := by decide +kernel
theorem dX3_part_210 : decode cX3_part 210 = .ok (.putfield 13, 3) := by decide +kernel
theorem dX3_part_213 : decode cX3_part 213 = .ok (.aload_n 0, 1) := by decide +kernel
theorem dX3_part_214 : decode cX3_part 214 = .ok (.dup, 1) := by decide +kernel
theorem dX3_part_215 : decode cX3_part 215 = .ok (.getfield 7, 3) := by decide +kernel
theorem dX3_part_218 : decode cX3_part 218 = .ok (.iconst 1, 1) := by decide +kernel
theorem dX3_part_219 : decode cX3_part 219 = .ok (.iadd, 1) := by decide +kernel
theorem dX3_part_220 : decode cX3_part 220 = .ok (.putfield 7, 3) := by decide +kernel
theorem dX3_part_223 : decode cX3_part 223 = .ok (.iload 4, 2) := by decide +kernel
theorem dX3_part_225 : decode cX3_part 225 = .ok (.ireturn, 1) := by decide +kernel
set_option maxRecDepth 20000 in
theorem ggX3_attribute_X3_isObject : GoodIn wsX3_attribute wsX3_isObject := goodIn_r _ [11, 12, 28, 29, 30, 31, 32, 33, 34, 35, 36, 37, 38, 39, 40, 41, 42, 43, 44, 45, 46] (by decide +kernel) (by decide +kernel)
set_option maxRecDepth 20000 in
theorem gX3_attribute_X3_isObject : GoodIn wsX3_attribute (wsV RX3 90 RX3 yX3_isObject wsX3_isObject) := goodIn_app (goodIn_of _ (by decide +kernel)) ggX3_attribute_X3_isObject
set_option maxRecDepth 20000 in
theorem ggX3_attribute_X3_within : GoodIn wsX3_attribute wsX3_within := goodIn_r _ [15] (by decide +kernel) (by decide +kernel)
set_option maxRecDepth 20000 in
theorem gX3_attribute_X3_within : GoodIn wsX3_attribute (va_wsS RX3 68 yX3_within wsX3_within) := goodIn_app (goodIn_of _ (by decide +kernel)) ggX3_attribute_X3_within
set_option maxRecDepth 20000 in
theorem ggX3_attribute_X3_hasAccess : GoodIn wsX3_attribute wsX3_hasAccess := goodIn_r _ [19, 2, 13, 14, 10, 15, 28, 29, 30, 31, 32, 33, 34, 35, 36, 37, 38, 39, 40, 41, 42, 43, 44, 45, 46] (by decide +kernel) (by decide +kernel)
set_option maxRecDepth 20000 in
theorem gX3_attribute_X3_hasAccess : GoodIn wsX3_attribute (wsV RX3 104 RX3 yX3_hasAccess wsX3_hasAccess) := goodIn_app (goodIn_of _ (by decide +kernel)) ggX3_attribute_X3_hasAccess
set_option maxRecDepth 20000 in
theorem ggX3_attribute_X3_accessOf : GoodIn wsX3_attribute wsX3_accessOf := goodIn_r _ [23, 4, 24, 25, 26, 10, 27, 2, 6, 28, 29, 30, 31, 32, 33, 34, 35, 36, 37, 38, 39, 40, 41, 42, 43, 44, 45, 46] (by decide +kernel) (by decide +kernel)
set_option maxRecDepth 20000 in
theorem gX3_attribute_X3_accessOf : GoodIn wsX3_attribute (wsV RX3 94 RX3 yX3_accessOf wsX3_accessOf) := goodIn_app (goodIn_of _ (by decide +kernel)) ggX3_attribute_X3_accessOf
set_option maxRecDepth 20000 in
theorem ggX3_attribute_X3_holder : GoodIn wsX3_attribute wsX3_holder := goodIn_r _ [27, 2, 6, 28, 29, 30, 31, 32, 33, 34, 35, 36, 37, 38, 39, 40, 41, 42, 43, 44, 45, 46] (by decide +kernel) (by decide +kernel)
set_option maxRecDepth 20000 in
theorem gX3_attribute_X3_holder : GoodIn wsX3_attribute (wsV RX3 72 RX3 yX3_holder wsX3_holder) := goodIn_app (goodIn_of _ (by decide +kernel)) ggX3_attribute_X3_holder
theorem dX3_attribute_0 : decode cX3_attribute 0 = .ok (.aload_n 0, 1) := by decide +kernel
theorem dX3_attribute_1 : decode cX3_attribute 1 = .ok (.iconst 0, 1) := by decide +kernel
theorem dX3_attribute_2 : decode cX3_attribute 2 = .ok (.putfield 65, 3) := by decide +kernel
theorem dX3_attribute_5 : decode cX3_attribute 5 = .ok (.aload_n 0, 1) := by decide +kernel
theorem dX3_attribute_6 : decode cX3_attribute 6 = .ok (.iload_n 1, 1) := by decide +kernel
theorem dX3_attribute_7 : decode cX3_attribute 7 = .ok (.invokevirtual 90, 3) := by decide +kernel
theorem dX3_attribute_10 : decode cX3_attribute 10 = .ok (.ifCond .ne 5, 3) := by decide +kernel
theorem dX3_attribute_13 : decode cX3_attribute 13 = .ok (.iconst (-1), 1) := by decide +kernel
theorem dX3_attribute_14 : decode cX3_attribute 14 = .ok (.ireturn, 1) := by decide +kernel
theorem dX3_attribute_15 : decode cX3_attribute 15 = .ok (.iload_n 2, 1) := by decide +kernel
theorem dX3_attribute_16 : decode cX3_attribute 16 = .ok (.iconst 0, 1) := by decide +kernel
theorem dX3_attribute_17 : decode cX3_attribute 17 = .ok (.iconst 2, 1) := by decide +kernel
theorem dX3_attribute_18 : decode cX3_attribute 18 = .ok (.invokestatic 68, 3) := by decide +kernel
theorem dX3_attribute_21 : decode cX3_attribute 21 = .ok (.ifCond .eq 21, 3) := by decide +kernel
theorem dX3_attribute_24 : decode cX3_attribute 24 = .ok (.iload_n 3, 1) := by decide +kernel
theorem dX3_attribute_25 : decode cX3_attribute 25 = .ok (.iconst 0, 1) := by decide +kernel
theorem dX3_attribute_26 : decode cX3_attribute 26 = .ok (.iload_n 2, 1) := by decide +kernel
theorem dX3_attribute_27 : decode cX3_attribute 27 = .ok (.iconst 1, 1) := by decide +kernel
theorem dX3_attribute_28 : decode cX3_attribute 28 = .ok (.if_icmp .ne 7, 3) := by decide +kernel
theorem dX3_attribute_31 : decode cX3_attribute 31 = .ok (.iconst 3, 1) := by decide +kernel
theorem dX3_attribute_32 : decode cX3_attribute 32 = .ok (.goto 4, 3) := by decide +kernel
theorem dX3_attribute_35 : decode cX3_attribute 35 = .ok (.iconst 1, 1) := by decide +kernel
theorem dX3_attribute_36 : decode cX3_attribute 36 = .ok (.invokestatic 68, 3) := by decide +kernel
theorem dX3_attribute_39 : decode cX3_attribute 39 = .ok (.ifCond .ne 6, 3) := by decide +kernel
theorem dX3_attribute_42 : decode cX3_attribute 42 = .ok (.bipush (-2), 2) := by decide +kernel
theorem dX3_attribute_44 : decode cX3_attribute 44 = .ok (.ireturn, 1) := by decide +kernel
theorem dX3_attribute_45 : decode cX3_attribute 45 = .ok (.iload_n 2, 1) := by decide +kernel
theorem dX3_attribute_46 : decode cX3_attribute 46 = .ok (.iconst 1, 1) := by decide +kernel
theorem dX3_attribute_47 : decode cX3_attribute 47 = .ok (.if_icmp .ne 20, 3) := by decide +kernel
theorem dX3_attribute_50 : decode cX3_attribute 50 = .ok (.aload_n 0, 1) := by decide +kernel
theorem dX3_attribute_51 : decode cX3_attribute 51 = .ok (.iload_n 1, 1) := by decide +kernel
theorem dX3_attribute_52 : decode cX3_attribute 52 = .ok (.invokevirtual 104, 3) := by decide +kernel
theorem dX3_attribute_55 : decode cX3_attribute 55 = .ok (.ifCond .eq 28, 3) := by decide +kernel
theorem dX3_attribute_58 : decode cX3_attribute 58 = .ok (.iload_n 3, 1) := by decide +kernel
theorem dX3_attribute_59 : decode cX3_attribute 59 = .ok (.aload_n 0, 1) := by decide +kernel
theorem dX3_attribute_60 : decode cX3_attribute 60 = .ok (.iload_n 1, 1) := by decide +kernel
theorem dX3_attribute_61 : decode cX3_attribute 61 = .ok (.invokevirtual 94, 3) := by decide +kernel
theorem dX3_attribute_64 : decode cX3_attribute 64 = .ok (.if_icmp .gt 19, 3) := by decide +kernel
theorem dX3_attribute_67 : decode cX3_attribute 67 = .ok (.iload_n 2, 1) := by decide +kernel
theorem dX3_attribute_68 : decode cX3_attribute 68 = .ok (.iconst 2, 1) := by decide +kernel
theorem dX3_attribute_69 : decode cX3_attribute 69 = .ok (.if_icmp .ne 17, 3) := by decide +kernel
theorem dX3_attribute_72 : decode cX3_attribute 72 = .ok (.aload_n 0, 1) := by decide +kernel
theorem dX3_attribute_73 : decode cX3_attribute 73 = .ok (.getfield 16, 3) := by decide +kernel
theorem dX3_attribute_76 : decode cX3_attribute 76 = .ok (.iload_n 1, 1) := by decide +kernel
theorem dX3_attribute_77 : decode cX3_attribute 77 = .ok (.iaload, 1) := by decide +kernel
theorem dX3_attribute_78 : decode cX3_attribute 78 = .ok (.bipush 7, 2) := by decide +kernel
theorem dX3_attribute_80 : decode cX3_attribute 80 = .ok (.if_icmp .eq 6, 3) := by decide +kernel
theorem dX3_attribute_83 : decode cX3_attribute 83 = .ok (.bipush (-3), 2) := by decide +kernel
theorem dX3_attribute_85 : decode cX3_attribute 85 = .ok (.ireturn, 1) := by decide +kernel
theorem dX3_attribute_86 : decode cX3_attribute 86 = .ok (.iload_n 2, 1) := by decide +kernel
theorem dX3_attribute_87 : decode cX3_attribute 87 = .ok (.ifCond .ne 22, 3) := by decide +kernel
theorem dX3_attribute_90 : decode cX3_attribute 90 = .ok (.aload_n 0, 1) := by decide +kernel
theorem dX3_attribute_91 : decode cX3_attribute 91 = .ok (.getfield 33, 3) := by decide +kernel
theorem dX3_attribute_94 : decode cX3_attribute 94 = .ok (.iload_n 1, 1) := by decide +kernel
theorem dX3_attribute_95 : decode cX3_attribute 95 = .ok (.iload_n 3, 1) := by decide +kernel
theorem dX3_attribute_96 : decode cX3_attribute 96 = .ok (.iconst 1, 1) := by decide +kernel
theorem dX3_attribute_97 : decode cX3_attribute 97 = .ok (.if_icmp .ne 7, 3) := by decide +kernel
theorem dX3_attribute_100 : decode cX3_attribute 100 = .ok (.iconst 1, 1) := by decide +kernel
theorem dX3_attribute_101 : decode cX3_attribute 101 = .ok (.goto 4, 3) := by decide +kernel
theorem dX3_attribute_104 : decode cX3_attribute 104 = .ok (.iconst 0, 1) := by decide +kernel
theorem dX3_attribute_105 : decode cX3_attribute 105 = .ok (.bastore, 1) := by decide +kernel
theorem dX3_attribute_106 : decode cX3_attribute 106 = .ok (.goto 43, 3) := by decide +kernel
theorem dX3_attribute_109 : decode cX3_attribute 109 = .ok (.iload_n 2, 1) := by decide +kernel
theorem dX3_attribute_110 : decode cX3_attribute 110 = .ok (.iconst 1, 1) := by decide +kernel
theorem dX3_attribute_111 : decode cX3_attribute 111 = .ok (.if_icmp .ne 17, 3) := by decide +kernel
theorem dX3_attribute_114 : decode cX3_attribute 114 = .ok (.aload_n 0, 1) := by decide +kernel
theorem dX3_attribute_115 : decode cX3_attribute 115 = .ok (.getfield 37, 3) := by decide +kernel
theorem dX3_attribute_118 : decode cX3_attribute 118 = .ok (.aload_n 0, 1) := by decide +kernel
theorem dX3_attribute_119 : decode cX3_attribute 119 = .ok (.iload_n 1, 1) := by decide +kernel
theorem dX3_attribute_120 : decode cX3_attribute 120 = .ok (.invokevirtual 72, 3) := by decide +kernel
theorem dX3_attribute_123 : decode cX3_attribute 123 = .ok (.iload_n 3, 1) := by decide +kernel
theorem dX3_attribute_124 : decode cX3_attribute 124 = .ok (.iastore, 1) := by decide +kernel
theorem dX3_attribute_125 : decode cX3_attribute 125 = .ok (.goto 24, 3) := by decide +kernel
theorem dX3_attribute_128 : decode cX3_attribute 128 = .ok (.aload_n 0, 1) := by decide +kernel
theorem dX3_attribute_129 : decode cX3_attribute 129 = .ok (.getfield 46, 3) := by decide +kernel
theorem dX3_attribute_132 : decode cX3_attribute 132 = .ok (.aload_n 0, 1) := by decide +kernel
theorem dX3_attribute_133 : decode cX3_attribute 133 = .ok (.getfield 20, 3) := by decide +kernel
theorem dX3_attribute_136 : decode cX3_attribute 136 = .ok (.iload_n 1, 1) := by decide +kernel
theorem dX3_attribute_137 : decode cX3_attribute 137 = .ok (.iaload, 1) := by decide +kernel
theorem dX3_attribute_138 : decode cX3_attribute 138 = .ok (.iload_n 3, 1) := by decide +kernel
theorem dX3_attribute_139 : decode cX3_attribute 139 = .ok (.iconst 1, 1) := by decide +kernel
theorem dX3_attribute_140 : decode cX3_attribute 140 = .ok (.if_icmp .ne 7, 3) := by decide +kernel
theorem dX3_attribute_143 : decode cX3_attribute 143 = .ok (.iconst 1, 1) := by decide +kernel
theorem dX3_attribute_144 : decode cX3_attribute 144 = .ok (.goto 4, 3) := by decide +kernel
theorem dX3_attribute_147 : decode cX3_attribute 147 = .ok (.iconst 0, 1) := by decide +kernel
theorem dX3_attribute_148 : decode cX3_attribute 148 = .ok (.bastore, 1) := by decide +kernel
theorem dX3_attribute_149 : decode cX3_attribute 149 = .ok (.iconst 1, 1) := by decide +kernel
theorem dX3_attribute_150 : decode cX3_attribute 150 = .ok (.ireturn, 1) := by decide +kernel
set_option maxRecDepth 20000 in
theorem ggX3_told_X3_isObject : GoodIn wsX3_told wsX3_isObject := goodIn_r _ [11, 12, 29, 30, 31, 32, 33, 34, 35, 36, 37, 38, 39, 40, 41, 42, 43, 44, 45, 46, 47] (by decide +kernel) (by decide +kernel)
set_option maxRecDepth 20000 in
theorem gX3_told_X3_isObject : GoodIn wsX3_told (wsV RX3 90 RX3 yX3_isObject wsX3_isObject) := goodIn_app (goodIn_of _ (by decide +kernel)) ggX3_told_X3_isObject
set_option maxRecDepth 20000 in
theorem ggX3_told_X3_hasAccess : GoodIn wsX3_told wsX3_hasAccess := goodIn_r _ [16, 2, 17, 18, 10, 19, 29, 30, 31, 32, 33, 34, 35, 36, 37, 38, 39, 40, 41, 42, 43, 44, 45, 46, 47] (by decide +kernel) (by decide +kernel)
set_option maxRecDepth 20000 in
theorem gX3_told_X3_hasAccess : GoodIn wsX3_told (wsV RX3 104 RX3 yX3_hasAccess wsX3_hasAccess) := goodIn_app (goodIn_of _ (by decide +kernel)) ggX3_told_X3_hasAccess
set_option maxRecDepth 20000 in
theorem ggX3_told_X3_accessOf : GoodIn wsX3_told wsX3_accessOf := goodIn_r _ [23, 24, 25, 26, 27, 10, 28, 2, 5, 29, 30, 31, 32, 33, 34, 35, 36, 37, 38, 39, 40, 41, 42, 43, 44, 45, 46, 47] (by decide +kernel) (by decide +kernel)
set_option maxRecDepth 20000 in
theorem gX3_told_X3_accessOf : GoodIn wsX3_told (wsV RX3 94 RX3 yX3_accessOf wsX3_accessOf) := goodIn_app (goodIn_of _ (by decide +kernel)) ggX3_told_X3_accessOf
set_option maxRecDepth 20000 in
theorem ggX3_told_X3_within : GoodIn wsX3_told wsX3_within := goodIn_r _ [19] (by decide +kernel) (by decide +kernel)
set_option maxRecDepth 20000 in
theorem gX3_told_X3_within : GoodIn wsX3_told (va_wsS RX3 68 yX3_within wsX3_within) := goodIn_app (goodIn_of _ (by decide +kernel)) ggX3_told_X3_within
theorem dX3_told_0 : decode cX3_told 0 = .ok (.aload_n 0, 1) := by decide +kernel
theorem dX3_told_1 : decode cX3_told 1 = .ok (.iconst 0, 1) := by decide +kernel
theorem dX3_told_2 : decode cX3_told 2 = .ok (.putfield 65, 3) := by decide +kernel
theorem dX3_told_5 : decode cX3_told 5 = .ok (.aload_n 0, 1) := by decide +kernel
theorem dX3_told_6 : decode cX3_told 6 = .ok (.iload_n 1, 1) := by decide +kernel
theorem dX3_told_7 : decode cX3_told 7 = .ok (.invokevirtual 90, 3) := by decide +kernel
theorem dX3_told_10 : decode cX3_told 10 = .ok (.ifCond .ne 5, 3) := by decide +kernel
theorem dX3_told_13 : decode cX3_told 13 = .ok (.iconst (-1), 1) := by decide +kernel
theorem dX3_told_14 : decode cX3_told 14 = .ok (.ireturn, 1) := by decide +kernel
theorem dX3_told_15 : decode cX3_told 15 = .ok (.aload_n 0, 1) := by decide +kernel
theorem dX3_told_16 : decode cX3_told 16 = .ok (.getfield 16, 3) := by decide +kernel
theorem dX3_told_19 : decode cX3_told 19 = .ok (.iload_n 1, 1) := by decide +kernel
theorem dX3_told_20 : decode cX3_told 20 = .ok (.iaload, 1) := by decide +kernel
theorem dX3_told_21 : decode cX3_told 21 = .ok (.bipush 7, 2) := by decide +kernel
theorem dX3_told_23 : decode cX3_told 23 = .ok (.if_icmp .ne 7, 3) := by decide +kernel
theorem dX3_told_26 : decode cX3_told 26 = .ok (.iconst 1, 1) := by decide +kernel
theorem dX3_told_27 : decode cX3_told 27 = .ok (.goto 4, 3) := by decide +kernel
theorem dX3_told_30 : decode cX3_told 30 = .ok (.iconst 0, 1) := by decide +kernel
theorem dX3_told_31 : decode cX3_told 31 = .ok (.istore_n 3, 1) := by decide +kernel
theorem dX3_told_32 : decode cX3_told 32 = .ok (.iload_n 2, 1) := by decide +kernel
theorem dX3_told_33 : decode cX3_told 33 = .ok (.tableswitch 159 0 4 #[35, 50, 68, 92, 139], 35) := by decide +kernel
theorem dX3_told_68 : decode cX3_told 68 = .ok (.aload_n 0, 1) := by decide +kernel
theorem dX3_told_69 : decode cX3_told 69 = .ok (.getfield 33, 3) := by decide +kernel
theorem dX3_told_72 : decode cX3_told 72 = .ok (.iload_n 1, 1) := by decide +kernel
theorem dX3_told_73 : decode cX3_told 73 = .ok (.baload, 1) := by decide +kernel
theorem dX3_told_74 : decode cX3_told 74 = .ok (.ifCond .eq 7, 3) := by decide +kernel
theorem dX3_told_77 : decode cX3_told 77 = .ok (.iconst 1, 1) := by decide +kernel
theorem dX3_told_78 : decode cX3_told 78 = .ok (.goto 4, 3) := by decide +kernel
theorem dX3_told_81 : decode cX3_told 81 = .ok (.iconst 0, 1) := by decide +kernel
theorem dX3_told_82 : decode cX3_told 82 = .ok (.ireturn, 1) := by decide +kernel
theorem dX3_told_83 : decode cX3_told 83 = .ok (.aload_n 0, 1) := by decide +kernel
theorem dX3_told_84 : decode cX3_told 84 = .ok (.iload_n 1, 1) := by decide +kernel
theorem dX3_told_85 : decode cX3_told 85 = .ok (.invokevirtual 104, 3) := by decide +kernel
theorem dX3_told_88 : decode cX3_told 88 = .ok (.ifCond .eq 11, 3) := by decide +kernel
theorem dX3_told_91 : decode cX3_told 91 = .ok (.aload_n 0, 1) := by decide +kernel
theorem dX3_told_92 : decode cX3_told 92 = .ok (.iload_n 1, 1) := by decide +kernel
theorem dX3_told_93 : decode cX3_told 93 = .ok (.invokevirtual 94, 3) := by decide +kernel
theorem dX3_told_96 : decode cX3_told 96 = .ok (.goto 4, 3) := by decide +kernel
theorem dX3_told_99 : decode cX3_told 99 = .ok (.iconst 0, 1) := by decide +kernel
theorem dX3_told_100 : decode cX3_told 100 = .ok (.ireturn, 1) := by decide +kernel
theorem dX3_told_101 : decode cX3_told 101 = .ok (.iload_n 3, 1) := by decide +kernel
theorem dX3_told_102 : decode cX3_told 102 = .ok (.ifCond .eq 21, 3) := by decide +kernel
theorem dX3_told_105 : decode cX3_told 105 = .ok (.aload_n 0, 1) := by decide +kernel
theorem dX3_told_106 : decode cX3_told 106 = .ok (.getfield 46, 3) := by decide +kernel
theorem dX3_told_109 : decode cX3_told 109 = .ok (.aload_n 0, 1) := by decide +kernel
theorem dX3_told_110 : decode cX3_told 110 = .ok (.getfield 20, 3) := by decide +kernel
theorem dX3_told_113 : decode cX3_told 113 = .ok (.iload_n 1, 1) := by decide +kernel
theorem dX3_told_114 : decode cX3_told 114 = .ok (.iaload, 1) := by decide +kernel
theorem dX3_told_115 : decode cX3_told 115 = .ok (.baload, 1) := by decide +kernel
theorem dX3_told_116 : decode cX3_told 116 = .ok (.ifCond .eq 7, 3) := by decide +kernel
theorem dX3_told_119 : decode cX3_told 119 = .ok (.iconst 1, 1) := by decide +kernel
theorem dX3_told_120 : decode cX3_told 120 = .ok (.goto 4, 3) := by decide +kernel
theorem dX3_told_123 : decode cX3_told 123 = .ok (.iconst 0, 1) := by decide +kernel
theorem dX3_told_124 : decode cX3_told 124 = .ok (.ireturn, 1) := by decide +kernel
theorem dX3_told_125 : decode cX3_told 125 = .ok (.aload_n 0, 1) := by decide +kernel
theorem dX3_told_126 : decode cX3_told 126 = .ok (.getfield 16, 3) := by decide +kernel
theorem dX3_told_129 : decode cX3_told 129 = .ok (.iload_n 1, 1) := by decide +kernel
theorem dX3_told_130 : decode cX3_told 130 = .ok (.iaload, 1) := by decide +kernel
theorem dX3_told_131 : decode cX3_told 131 = .ok (.iconst 1, 1) := by decide +kernel
theorem dX3_told_132 : decode cX3_told 132 = .ok (.iconst 3, 1) := by decide +kernel
theorem dX3_told_133 : decode cX3_told 133 = .ok (.invokestatic 68, 3) := by decide +kernel
theorem dX3_told_136 : decode cX3_told 136 = .ok (.ifCond .ne 25, 3) := by decide +kernel
theorem dX3_told_139 : decode cX3_told 139 = .ok (.aload_n 0, 1) := by decide +kernel
theorem dX3_told_140 : decode cX3_told 140 = .ok (.getfield 16, 3) := by decide +kernel
theorem dX3_told_143 : decode cX3_told 143 = .ok (.iload_n 1, 1) := by decide +kernel
theorem dX3_told_144 : decode cX3_told 144 = .ok (.iaload, 1) := by decide +kernel
theorem dX3_told_145 : decode cX3_told 145 = .ok (.bipush 9, 2) := by decide +kernel
theorem dX3_told_147 : decode cX3_told 147 = .ok (.if_icmp .eq 14, 3) := by decide +kernel
theorem dX3_told_150 : decode cX3_told 150 = .ok (.aload_n 0, 1) := by decide +kernel
theorem dX3_told_151 : decode cX3_told 151 = .ok (.getfield 16, 3) := by decide +kernel
theorem dX3_told_154 : decode cX3_told 154 = .ok (.iload_n 1, 1) := by decide +kernel
theorem dX3_told_155 : decode cX3_told 155 = .ok (.iaload, 1) := by decide +kernel
theorem dX3_told_156 : decode cX3_told 156 = .ok (.bipush 10, 2) := by decide +kernel
theorem dX3_told_158 : decode cX3_told 158 = .ok (.if_icmp .ne 12, 3) := by decide +kernel
theorem dX3_told_161 : decode cX3_told 161 = .ok (.aload_n 0, 1) := by decide +kernel
theorem dX3_told_162 : decode cX3_told 162 = .ok (.getfield 20, 3) := by decide +kernel
theorem dX3_told_165 : decode cX3_told 165 = .ok (.iload_n 1, 1) := by decide +kernel
theorem dX3_told_166 : decode cX3_told 166 = .ok (.iaload, 1) := by decide +kernel
theorem dX3_told_167 : decode cX3_told 167 = .ok (.goto 4, 3) := by decide +kernel
theorem dX3_told_170 : decode cX3_told 170 = .ok (.iconst 0, 1) := by decide +kernel
theorem dX3_told_171 : decode cX3_told 171 = .ok (.ireturn, 1) := by decide +kernel
theorem dX3_told_172 : decode cX3_told 172 = .ok (.iload_n 3, 1) := by decide +kernel
theorem dX3_told_173 : decode cX3_told 173 = .ok (.ifCond .eq 17, 3) := by decide +kernel
theorem dX3_told_176 : decode cX3_told 176 = .ok (.aload_n 0, 1) := by decide +kernel
theorem dX3_told_177 : decode cX3_told 177 = .ok (.getfield 43, 3) := by decide +kernel
theorem dX3_told_180 : decode cX3_told 180 = .ok (.aload_n 0, 1) := by decide +kernel
theorem dX3_told_181 : decode cX3_told 181 = .ok (.getfield 20, 3) := by decide +kernel
theorem dX3_told_184 : decode cX3_told 184 = .ok (.iload_n 1, 1) := by decide +kernel
theorem dX3_told_185 : decode cX3_told 185 = .ok (.iaload, 1) := by decide +kernel
theorem dX3_told_186 : decode cX3_told 186 = .ok (.iaload, 1) := by decide +kernel
theorem dX3_told_187 : decode cX3_told 187 = .ok (.goto 4, 3) := by decide +kernel
theorem dX3_told_190 : decode cX3_told 190 = .ok (.iconst 0, 1) := by decide +kernel
theorem dX3_told_191 : decode cX3_told 191 = .ok (.ireturn, 1) := by decide +kernel
theorem dX3_told_192 : decode cX3_told 192 = .ok (.bipush (-2), 2) := by decide +kernel
theorem dX3_told_194 : decode cX3_told 194 = .ok (.ireturn, 1) := by decide +kernel
set_option maxRecDepth 20000 in
theorem ggX3_nameOf_X3_byteOf : GoodIn wsX3_nameOf wsX3_byteOf := goodIn_r _ [6, 7, 8, 9, 20, 21, 22, 23, 24, 25, 26, 27, 28, 29, 30, 31, 32, 33, 34, 35, 36, 37, 38] (by decide +kernel) (by decide +kernel)
set_option maxRecDepth 20000 in
theorem gX3_nameOf_X3_byteOf : GoodIn wsX3_nameOf (wsV RX3 100 RX3 yX3_byteOf wsX3_byteOf) := goodIn_app (goodIn_of _ (by decide +kernel)) ggX3_nameOf_X3_byteOf
set_option maxRecDepth 20000 in
theorem ggX3_nameOf_X3_accessOf : GoodIn wsX3_nameOf wsX3_accessOf := goodIn_r _ [13, 14, 15, 16, 17, 5, 18, 19, 8, 20, 21, 22, 23, 24, 25, 26, 27, 28, 29, 30, 31, 32, 33, 34, 35, 36, 37, 38] (by decide +kernel) (by decide +kernel)
set_option maxRecDepth 20000 in
theorem gX3_nameOf_X3_accessOf : GoodIn wsX3_nameOf (wsV RX3 94 RX3 yX3_accessOf wsX3_accessOf) := goodIn_app (goodIn_of _ (by decide +kernel)) ggX3_nameOf_X3_accessOf
theorem dX3_nameOf_0 : decode cX3_nameOf 0 = .ok (.aload_n 0, 1) := by decide +kernel
theorem dX3_nameOf_1 : decode cX3_nameOf 1 = .ok (.getfield 26, 3) := by decide +kernel
theorem dX3_nameOf_4 : decode cX3_nameOf 4 = .ok (.iload_n 1, 1) := by decide +kernel
theorem dX3_nameOf_5 : decode cX3_nameOf 5 = .ok (.iaload, 1) := by decide +kernel
theorem dX3_nameOf_6 : decode cX3_nameOf 6 = .ok (.istore_n 2, 1) := by decide +kernel
theorem dX3_nameOf_7 : decode cX3_nameOf 7 = .ok (.iload_n 2, 1) := by decide +kernel
theorem dX3_nameOf_8 : decode cX3_nameOf 8 = .ok (.iconst 1, 1) := by decide +kernel
theorem dX3_nameOf_9 : decode cX3_nameOf 9 = .ok (.if_icmp .lt 33, 3) := by decide +kernel
theorem dX3_nameOf_12 : decode cX3_nameOf 12 = .ok (.iload_n 2, 1) := by decide +kernel
theorem dX3_nameOf_13 : decode cX3_nameOf 13 = .ok (.iconst 3, 1) := by decide +kernel
theorem dX3_nameOf_14 : decode cX3_nameOf 14 = .ok (.if_icmp .gt 28, 3) := by decide +kernel
theorem dX3_nameOf_17 : decode cX3_nameOf 17 = .ok (.iload_n 2, 1) := by decide +kernel
theorem dX3_nameOf_18 : decode cX3_nameOf 18 = .ok (.iconst 1, 1) := by decide +kernel
theorem dX3_nameOf_19 : decode cX3_nameOf 19 = .ok (.if_icmp .le 14, 3) := by decide +kernel
theorem dX3_nameOf_22 : decode cX3_nameOf 22 = .ok (.aload_n 0, 1) := by decide +kernel
theorem dX3_nameOf_23 : decode cX3_nameOf 23 = .ok (.iload_n 1, 1) := by decide +kernel
theorem dX3_nameOf_24 : decode cX3_nameOf 24 = .ok (.iconst 0, 1) := by decide +kernel
theorem dX3_nameOf_25 : decode cX3_nameOf 25 = .ok (.invokevirtual 100, 3) := by decide +kernel
theorem dX3_nameOf_28 : decode cX3_nameOf 28 = .ok (.bipush 48, 2) := by decide +kernel
theorem dX3_nameOf_30 : decode cX3_nameOf 30 = .ok (.if_icmp .eq 12, 3) := by decide +kernel
theorem dX3_nameOf_33 : decode cX3_nameOf 33 = .ok (.aload_n 0, 1) := by decide +kernel
theorem dX3_nameOf_34 : decode cX3_nameOf 34 = .ok (.iload_n 1, 1) := by decide +kernel
theorem dX3_nameOf_35 : decode cX3_nameOf 35 = .ok (.invokevirtual 94, 3) := by decide +kernel
theorem dX3_nameOf_38 : decode cX3_nameOf 38 = .ok (.iconst 2, 1) := by decide +kernel
theorem dX3_nameOf_39 : decode cX3_nameOf 39 = .ok (.if_icmp .ge 5, 3) := by decide +kernel
theorem dX3_nameOf_42 : decode cX3_nameOf 42 = .ok (.iconst (-1), 1) := by decide +kernel
theorem dX3_nameOf_43 : decode cX3_nameOf 43 = .ok (.ireturn, 1) := by decide +kernel
theorem dX3_nameOf_44 : decode cX3_nameOf 44 = .ok (.iconst 0, 1) := by decide +kernel
theorem dX3_nameOf_45 : decode cX3_nameOf 45 = .ok (.istore_n 3, 1) := by decide +kernel
theorem dX3_nameOf_46 : decode cX3_nameOf 46 = .ok (.iconst 0, 1) := by decide +kernel
end
section
theorem dX3_nameOf_47 : decode cX3_nameOf 47 = .ok (.istore 4, 2) := by decide +kernel
theorem dX3_nameOf_49 : decode cX3_nameOf 49 = .ok (.iload 4, 2) := by decide +kernel
theorem dX3_nameOf_51 : decode cX3_nameOf 51 = .ok (.iload_n 2, 1) := by decide +kernel
theorem dX3_nameOf_52 : decode cX3_nameOf 52 = .ok (.if_icmp .ge 45, 3) := by decide +kernel
theorem dX3_nameOf_55 : decode cX3_nameOf 55 = .ok (.aload_n 0, 1) := by decide +kernel
theorem dX3_nameOf_56 : decode cX3_nameOf 56 = .ok (.iload_n 1, 1) := by decide +kernel
theorem dX3_nameOf_57 : decode cX3_nameOf 57 = .ok (.iload 4, 2) := by decide +kernel
theorem dX3_nameOf_59 : decode cX3_nameOf 59 = .ok (.invokevirtual 100, 3) := by decide +kernel
theorem dX3_nameOf_62 : decode cX3_nameOf 62 = .ok (.istore 5, 2) := by decide +kernel
theorem dX3_nameOf_64 : decode cX3_nameOf 64 = .ok (.iload 5, 2) := by decide +kernel
theorem dX3_nameOf_66 : decode cX3_nameOf 66 = .ok (.bipush 48, 2) := by decide +kernel
theorem dX3_nameOf_68 : decode cX3_nameOf 68 = .ok (.if_icmp .lt 10, 3) := by decide +kernel
theorem dX3_nameOf_71 : decode cX3_nameOf 71 = .ok (.iload 5, 2) := by decide +kernel
theorem dX3_nameOf_73 : decode cX3_nameOf 73 = .ok (.bipush 57, 2) := by decide +kernel
theorem dX3_nameOf_75 : decode cX3_nameOf 75 = .ok (.if_icmp .le 5, 3) := by decide +kernel
theorem dX3_nameOf_78 : decode cX3_nameOf 78 = .ok (.iconst (-1), 1) := by decide +kernel
theorem dX3_nameOf_79 : decode cX3_nameOf 79 = .ok (.ireturn, 1) := by decide +kernel
theorem dX3_nameOf_80 : decode cX3_nameOf 80 = .ok (.bipush 10, 2) := by decide +kernel
theorem dX3_nameOf_82 : decode cX3_nameOf 82 = .ok (.iload_n 3, 1) := by decide +kernel
theorem dX3_nameOf_83 : decode cX3_nameOf 83 = .ok (.imul, 1) := by decide +kernel
theorem dX3_nameOf_84 : decode cX3_nameOf 84 = .ok (.iload 5, 2) := by decide +kernel
theorem dX3_nameOf_86 : decode cX3_nameOf 86 = .ok (.iadd, 1) := by decide +kernel
theorem dX3_nameOf_87 : decode cX3_nameOf 87 = .ok (.bipush 48, 2) := by decide +kernel
theorem dX3_nameOf_89 : decode cX3_nameOf 89 = .ok (.isub, 1) := by decide +kernel
theorem dX3_nameOf_90 : decode cX3_nameOf 90 = .ok (.istore_n 3, 1) := by decide +kernel
theorem dX3_nameOf_91 : decode cX3_nameOf 91 = .ok (.iinc 4 1, 3) := by decide +kernel
theorem dX3_nameOf_94 : decode cX3_nameOf 94 = .ok (.goto (-45), 3) := by decide +kernel
theorem dX3_nameOf_97 : decode cX3_nameOf 97 = .ok (.iload_n 3, 1) := by decide +kernel
theorem dX3_nameOf_98 : decode cX3_nameOf 98 = .ok (.ireturn, 1) := by decide +kernel
theorem dX3_coded_0 : decode cX3_coded 0 = .ok (.iload_n 0, 1) := by decide +kernel
theorem dX3_coded_1 : decode cX3_coded 1 = .ok (.i2l, 1) := by decide +kernel
theorem dX3_coded_2 : decode cX3_coded 2 = .ok (.bipush 40, 2) := by decide +kernel
theorem dX3_coded_4 : decode cX3_coded 4 = .ok (.lshl, 1) := by decide +kernel
theorem dX3_coded_5 : decode cX3_coded 5 = .ok (.iload_n 1, 1) := by decide +kernel
theorem dX3_coded_6 : decode cX3_coded 6 = .ok (.i2l, 1) := by decide +kernel
theorem dX3_coded_7 : decode cX3_coded 7 = .ok (.ldc2_w 107, 3) := by decide +kernel
theorem dX3_coded_10 : decode cX3_coded 10 = .ok (.land, 1) := by decide +kernel
theorem dX3_coded_11 : decode cX3_coded 11 = .ok (.lor, 1) := by decide +kernel
theorem dX3_coded_12 : decode cX3_coded 12 = .ok (.lreturn, 1) := by decide +kernel
set_option maxRecDepth 20000 in
theorem ggX3_code_X3_coded : GoodIn wsX3_code wsX3_coded := goodIn_r _ [9, 10] (by decide +kernel) (by decide +kernel)
set_option maxRecDepth 20000 in
theorem gX3_code_X3_coded : GoodIn wsX3_code (va_wsS RX3 109 yX3_coded wsX3_coded) := goodIn_app (goodIn_of _ (by decide +kernel)) ggX3_code_X3_coded
set_option maxRecDepth 20000 in
theorem ggX3_code_X3_nameOf : GoodIn wsX3_code wsX3_nameOf := goodIn_r _ [14, 3, 15, 16, 17, 8, 18, 19, 4, 5, 20, 21, 22, 23, 24, 25, 26, 27, 28, 1, 29, 30, 31, 32, 33, 34, 35, 36, 37, 38, 39, 40, 41, 42, 43, 44, 45, 46, 47] (by decide +kernel) (by decide +kernel)
set_option maxRecDepth 20000 in
theorem gX3_code_X3_nameOf : GoodIn wsX3_code (wsV RX3 113 RX3 yX3_nameOf wsX3_nameOf) := goodIn_app (goodIn_of _ (by decide +kernel)) ggX3_code_X3_nameOf
theorem dX3_code_0 : decode cX3_code 0 = .ok (.aload_n 0, 1) := by decide +kernel
theorem dX3_code_1 : decode cX3_code 1 = .ok (.getfield 16, 3) := by decide +kernel
theorem dX3_code_4 : decode cX3_code 4 = .ok (.iload_n 1, 1) := by decide +kernel
theorem dX3_code_5 : decode cX3_code 5 = .ok (.iaload, 1) := by decide +kernel
theorem dX3_code_6 : decode cX3_code 6 = .ok (.istore_n 2, 1) := by decide +kernel
theorem dX3_code_7 : decode cX3_code 7 = .ok (.iload_n 2, 1) := by decide +kernel
theorem dX3_code_8 : decode cX3_code 8 = .ok (.tableswitch 129 0 8 #[52, 129, 129, 129, 58, 80, 80, 129, 52], 52) := by decide +kernel
theorem dX3_code_60 : decode cX3_code 60 = .ok (.iload_n 2, 1) := by decide +kernel
theorem dX3_code_61 : decode cX3_code 61 = .ok (.iconst 0, 1) := by decide +kernel
theorem dX3_code_62 : decode cX3_code 62 = .ok (.invokestatic 109, 3) := by decide +kernel
theorem dX3_code_65 : decode cX3_code 65 = .ok (.lreturn, 1) := by decide +kernel
theorem dX3_code_66 : decode cX3_code 66 = .ok (.aload_n 0, 1) := by decide +kernel
theorem dX3_code_67 : decode cX3_code 67 = .ok (.iload_n 1, 1) := by decide +kernel
theorem dX3_code_68 : decode cX3_code 68 = .ok (.invokevirtual 113, 3) := by decide +kernel
theorem dX3_code_71 : decode cX3_code 71 = .ok (.istore_n 3, 1) := by decide +kernel
theorem dX3_code_72 : decode cX3_code 72 = .ok (.iload_n 3, 1) := by decide +kernel
theorem dX3_code_73 : decode cX3_code 73 = .ok (.ifCond .ge 9, 3) := by decide +kernel
theorem dX3_code_76 : decode cX3_code 76 = .ok (.ldc2_w 116, 3) := by decide +kernel
theorem dX3_code_79 : decode cX3_code 79 = .ok (.goto 8, 3) := by decide +kernel
theorem dX3_code_82 : decode cX3_code 82 = .ok (.iconst 3, 1) := by decide +kernel
theorem dX3_code_83 : decode cX3_code 83 = .ok (.iload_n 3, 1) := by decide +kernel
theorem dX3_code_84 : decode cX3_code 84 = .ok (.invokestatic 109, 3) := by decide +kernel
theorem dX3_code_87 : decode cX3_code 87 = .ok (.lreturn, 1) := by decide +kernel
theorem dX3_code_88 : decode cX3_code 88 = .ok (.aload_n 0, 1) := by decide +kernel
theorem dX3_code_89 : decode cX3_code 89 = .ok (.getfield 26, 3) := by decide +kernel
theorem dX3_code_92 : decode cX3_code 92 = .ok (.iload_n 1, 1) := by decide +kernel
theorem dX3_code_93 : decode cX3_code 93 = .ok (.iaload, 1) := by decide +kernel
theorem dX3_code_94 : decode cX3_code 94 = .ok (.ifCond .ne 11, 3) := by decide +kernel
theorem dX3_code_97 : decode cX3_code 97 = .ok (.iconst 5, 1) := by decide +kernel
theorem dX3_code_98 : decode cX3_code 98 = .ok (.iconst (-1), 1) := by decide +kernel
theorem dX3_code_99 : decode cX3_code 99 = .ok (.invokestatic 109, 3) := by decide +kernel
theorem dX3_code_102 : decode cX3_code 102 = .ok (.goto 34, 3) := by decide +kernel
theorem dX3_code_105 : decode cX3_code 105 = .ok (.iload_n 2, 1) := by decide +kernel
theorem dX3_code_106 : decode cX3_code 106 = .ok (.sipush 4096, 3) := by decide +kernel
theorem dX3_code_109 : decode cX3_code 109 = .ok (.aload_n 0, 1) := by decide +kernel
theorem dX3_code_110 : decode cX3_code 110 = .ok (.getfield 20, 3) := by decide +kernel
theorem dX3_code_113 : decode cX3_code 113 = .ok (.iload_n 1, 1) := by decide +kernel
theorem dX3_code_114 : decode cX3_code 114 = .ok (.iaload, 1) := by decide +kernel
theorem dX3_code_115 : decode cX3_code 115 = .ok (.imul, 1) := by decide +kernel
theorem dX3_code_116 : decode cX3_code 116 = .ok (.bipush 64, 2) := by decide +kernel
theorem dX3_code_118 : decode cX3_code 118 = .ok (.aload_n 0, 1) := by decide +kernel
theorem dX3_code_119 : decode cX3_code 119 = .ok (.getfield 23, 3) := by decide +kernel
theorem dX3_code_122 : decode cX3_code 122 = .ok (.iload_n 1, 1) := by decide +kernel
theorem dX3_code_123 : decode cX3_code 123 = .ok (.iaload, 1) := by decide +kernel
theorem dX3_code_124 : decode cX3_code 124 = .ok (.imul, 1) := by decide +kernel
theorem dX3_code_125 : decode cX3_code 125 = .ok (.iadd, 1) := by decide +kernel
theorem dX3_code_126 : decode cX3_code 126 = .ok (.aload_n 0, 1) := by decide +kernel
theorem dX3_code_127 : decode cX3_code 127 = .ok (.getfield 26, 3) := by decide +kernel
theorem dX3_code_130 : decode cX3_code 130 = .ok (.iload_n 1, 1) := by decide +kernel
theorem dX3_code_131 : decode cX3_code 131 = .ok (.iaload, 1) := by decide +kernel
theorem dX3_code_132 : decode cX3_code 132 = .ok (.iadd, 1) := by decide +kernel
theorem dX3_code_133 : decode cX3_code 133 = .ok (.invokestatic 109, 3) := by decide +kernel
theorem dX3_code_136 : decode cX3_code 136 = .ok (.lreturn, 1) := by decide +kernel
theorem dX3_code_137 : decode cX3_code 137 = .ok (.iload_n 2, 1) := by decide +kernel
theorem dX3_code_138 : decode cX3_code 138 = .ok (.aload_n 0, 1) := by decide +kernel
theorem dX3_code_139 : decode cX3_code 139 = .ok (.getfield 20, 3) := by decide +kernel
theorem dX3_code_142 : decode cX3_code 142 = .ok (.iload_n 1, 1) := by decide +kernel
theorem dX3_code_143 : decode cX3_code 143 = .ok (.iaload, 1) := by decide +kernel
theorem dX3_code_144 : decode cX3_code 144 = .ok (.invokestatic 109, 3) := by decide +kernel
theorem dX3_code_147 : decode cX3_code 147 = .ok (.lreturn, 1) := by decide +kernel
set_option maxRecDepth 20000 in
theorem ggX3_order_X3_byteOf : GoodIn wsX3_order wsX3_byteOf := goodIn_r _ [6, 7, 8, 9, 10, 11, 12, 13, 14, 15, 16, 17, 18, 19, 20, 21, 22, 23, 24, 25, 26, 27, 28] (by decide +kernel) (by decide +kernel)
set_option maxRecDepth 20000 in
theorem gX3_order_X3_byteOf : GoodIn wsX3_order (wsV RX3 100 RX3 yX3_byteOf wsX3_byteOf) := goodIn_app (goodIn_of _ (by decide +kernel)) ggX3_order_X3_byteOf
theorem dX3_order_0 : decode cX3_order 0 = .ok (.iconst 0, 1) := by decide +kernel
theorem dX3_order_1 : decode cX3_order 1 = .ok (.istore_n 3, 1) := by decide +kernel
theorem dX3_order_2 : decode cX3_order 2 = .ok (.iload_n 3, 1) := by decide +kernel
theorem dX3_order_3 : decode cX3_order 3 = .ok (.aload_n 0, 1) := by decide +kernel
theorem dX3_order_4 : decode cX3_order 4 = .ok (.getfield 26, 3) := by decide +kernel
theorem dX3_order_7 : decode cX3_order 7 = .ok (.iload_n 1, 1) := by decide +kernel
theorem dX3_order_8 : decode cX3_order 8 = .ok (.iaload, 1) := by decide +kernel
theorem dX3_order_9 : decode cX3_order 9 = .ok (.if_icmp .ge 34, 3) := by decide +kernel
theorem dX3_order_12 : decode cX3_order 12 = .ok (.iload_n 3, 1) := by decide +kernel
theorem dX3_order_13 : decode cX3_order 13 = .ok (.aload_n 0, 1) := by decide +kernel
theorem dX3_order_14 : decode cX3_order 14 = .ok (.getfield 26, 3) := by decide +kernel
theorem dX3_order_17 : decode cX3_order 17 = .ok (.iload_n 2, 1) := by decide +kernel
theorem dX3_order_18 : decode cX3_order 18 = .ok (.iaload, 1) := by decide +kernel
theorem dX3_order_19 : decode cX3_order 19 = .ok (.if_icmp .ge 24, 3) := by decide +kernel
theorem dX3_order_22 : decode cX3_order 22 = .ok (.aload_n 0, 1) := by decide +kernel
theorem dX3_order_23 : decode cX3_order 23 = .ok (.iload_n 1, 1) := by decide +kernel
theorem dX3_order_24 : decode cX3_order 24 = .ok (.iload_n 3, 1) := by decide +kernel
theorem dX3_order_25 : decode cX3_order 25 = .ok (.invokevirtual 100, 3) := by decide +kernel
theorem dX3_order_28 : decode cX3_order 28 = .ok (.aload_n 0, 1) := by decide +kernel
theorem dX3_order_29 : decode cX3_order 29 = .ok (.iload_n 2, 1) := by decide +kernel
theorem dX3_order_30 : decode cX3_order 30 = .ok (.iload_n 3, 1) := by decide +kernel
theorem dX3_order_31 : decode cX3_order 31 = .ok (.invokevirtual 100, 3) := by decide +kernel
theorem dX3_order_34 : decode cX3_order 34 = .ok (.if_icmp .ne 9, 3) := by decide +kernel
theorem dX3_order_37 : decode cX3_order 37 = .ok (.iinc 3 1, 3) := by decide +kernel
theorem dX3_order_40 : decode cX3_order 40 = .ok (.goto (-38), 3) := by decide +kernel
theorem dX3_order_43 : decode cX3_order 43 = .ok (.iload_n 3, 1) := by decide +kernel
theorem dX3_order_44 : decode cX3_order 44 = .ok (.aload_n 0, 1) := by decide +kernel
theorem dX3_order_45 : decode cX3_order 45 = .ok (.getfield 26, 3) := by decide +kernel
theorem dX3_order_48 : decode cX3_order 48 = .ok (.iload_n 1, 1) := by decide +kernel
theorem dX3_order_49 : decode cX3_order 49 = .ok (.iaload, 1) := by decide +kernel
theorem dX3_order_50 : decode cX3_order 50 = .ok (.if_icmp .ge 12, 3) := by decide +kernel
theorem dX3_order_53 : decode cX3_order 53 = .ok (.aload_n 0, 1) := by decide +kernel
theorem dX3_order_54 : decode cX3_order 54 = .ok (.iload_n 1, 1) := by decide +kernel
theorem dX3_order_55 : decode cX3_order 55 = .ok (.iload_n 3, 1) := by decide +kernel
theorem dX3_order_56 : decode cX3_order 56 = .ok (.invokevirtual 100, 3) := by decide +kernel
theorem dX3_order_59 : decode cX3_order 59 = .ok (.goto 4, 3) := by decide +kernel
theorem dX3_order_62 : decode cX3_order 62 = .ok (.iconst (-1), 1) := by decide +kernel
theorem dX3_order_63 : decode cX3_order 63 = .ok (.istore 4, 2) := by decide +kernel
theorem dX3_order_65 : decode cX3_order 65 = .ok (.iload_n 3, 1) := by decide +kernel
theorem dX3_order_66 : decode cX3_order 66 = .ok (.aload_n 0, 1) := by decide +kernel
theorem dX3_order_67 : decode cX3_order 67 = .ok (.getfield 26, 3) := by decide +kernel
theorem dX3_order_70 : decode cX3_order 70 = .ok (.iload_n 2, 1) := by decide +kernel
theorem dX3_order_71 : decode cX3_order 71 = .ok (.iaload, 1) := by decide +kernel
theorem dX3_order_72 : decode cX3_order 72 = .ok (.if_icmp .ge 12, 3) := by decide +kernel
theorem dX3_order_75 : decode cX3_order 75 = .ok (.aload_n 0, 1) := by decide +kernel
theorem dX3_order_76 : decode cX3_order 76 = .ok (.iload_n 2, 1) := by decide +kernel
theorem dX3_order_77 : decode cX3_order 77 = .ok (.iload_n 3, 1) := by decide +kernel
theorem dX3_order_78 : decode cX3_order 78 = .ok (.invokevirtual 100, 3) := by decide +kernel
theorem dX3_order_81 : decode cX3_order 81 = .ok (.goto 4, 3) := by decide +kernel
theorem dX3_order_84 : decode cX3_order 84 = .ok (.iconst (-1), 1) := by decide +kernel
theorem dX3_order_85 : decode cX3_order 85 = .ok (.istore 5, 2) := by decide +kernel
theorem dX3_order_87 : decode cX3_order 87 = .ok (.iload 4, 2) := by decide +kernel
theorem dX3_order_89 : decode cX3_order 89 = .ok (.iload 5, 2) := by decide +kernel
theorem dX3_order_91 : decode cX3_order 91 = .ok (.if_icmp .ge 7, 3) := by decide +kernel
theorem dX3_order_94 : decode cX3_order 94 = .ok (.iconst (-1), 1) := by decide +kernel
theorem dX3_order_95 : decode cX3_order 95 = .ok (.goto 15, 3) := by decide +kernel
theorem dX3_order_98 : decode cX3_order 98 = .ok (.iload 4, 2) := by decide +kernel
theorem dX3_order_100 : decode cX3_order 100 = .ok (.iload 5, 2) := by decide +kernel
theorem dX3_order_102 : decode cX3_order 102 = .ok (.if_icmp .le 7, 3) := by decide +kernel
theorem dX3_order_105 : decode cX3_order 105 = .ok (.iconst 1, 1) := by decide +kernel
theorem dX3_order_106 : decode cX3_order 106 = .ok (.goto 4, 3) := by decide +kernel
theorem dX3_order_109 : decode cX3_order 109 = .ok (.iconst 0, 1) := by decide +kernel
theorem dX3_order_110 : decode cX3_order 110 = .ok (.ireturn, 1) := by decide +kernel
set_option maxRecDepth 20000 in
theorem ggX3_same_X3_isObject : GoodIn wsX3_same wsX3_isObject := goodIn_r _ [7, 8, 43, 44, 45, 46, 47, 48, 49, 50, 51, 52, 53, 54, 55, 56, 57, 58, 59, 60, 61] (by decide +kernel) (by decide +kernel)
set_option maxRecDepth 20000 in
theorem gX3_same_X3_isObject : GoodIn wsX3_same (wsV RX3 90 RX3 yX3_isObject wsX3_isObject) := goodIn_app (goodIn_of _ (by decide +kernel)) ggX3_same_X3_isObject
set_option maxRecDepth 20000 in
theorem ggX3_same_X3_accessOf : GoodIn wsX3_same wsX3_accessOf := goodIn_r _ [12, 13, 14, 15, 16, 6, 17, 2, 18, 43, 44, 45, 46, 47, 48, 49, 50, 51, 52, 53, 54, 55, 56, 57, 58, 59, 60, 61] (by decide +kernel) (by decide +kernel)
set_option maxRecDepth 20000 in
theorem gX3_same_X3_accessOf : GoodIn wsX3_same (wsV RX3 94 RX3 yX3_accessOf wsX3_accessOf) := goodIn_app (goodIn_of _ (by decide +kernel)) ggX3_same_X3_accessOf
set_option maxRecDepth 20000 in
theorem ggX3_same_X3_order : GoodIn wsX3_same wsX3_order := goodIn_r _ [22, 23, 24, 25, 26, 6, 27, 28, 18, 29, 43, 44, 45, 46, 47, 48, 49, 50, 51, 52, 53, 54, 55, 56, 57, 58, 59, 60, 61] (by decide +kernel) (by decide +kernel)
set_option maxRecDepth 20000 in
theorem gX3_same_X3_order : GoodIn wsX3_same (wsV RX3 118 RX3 yX3_order wsX3_order) := goodIn_app (goodIn_of _ (by decide +kernel)) ggX3_same_X3_order
set_option maxRecDepth 20000 in
theorem ggX3_same_X3_code : GoodIn wsX3_same wsX3_code := goodIn_r _ [33, 2, 34, 23, 18, 29, 35, 36, 6, 37, 38, 39, 40, 41, 42, 24, 25, 26, 27, 28, 9, 10, 11, 12, 13, 14, 15, 16, 17, 43, 44, 45, 46, 47, 48, 49, 50, 51, 52, 53, 54, 55, 56, 57, 58, 59, 60, 61] (by decide +kernel) (by decide +kernel)
set_option maxRecDepth 20000 in
theorem gX3_same_X3_code : GoodIn wsX3_same (wsV RX3 121 RX3 yX3_code wsX3_code) := goodIn_app (goodIn_of _ (by decide +kernel)) ggX3_same_X3_code
theorem dX3_same_0 : decode cX3_same 0 = .ok (.aload_n 0, 1) := by decide +kernel
theorem dX3_same_1 : decode cX3_same 1 = .ok (.iconst 0, 1) := by decide +kernel
theorem dX3_same_2 : decode cX3_same 2 = .ok (.putfield 65, 3) := by decide +kernel
theorem dX3_same_5 : decode cX3_same 5 = .ok (.aload_n 0, 1) := by decide +kernel
theorem dX3_same_6 : decode cX3_same 6 = .ok (.iload_n 1, 1) := by decide +kernel
theorem dX3_same_7 : decode cX3_same 7 = .ok (.invokevirtual 90, 3) := by decide +kernel
theorem dX3_same_10 : decode cX3_same 10 = .ok (.ifCond .eq 49, 3) := by decide +kernel
theorem dX3_same_13 : decode cX3_same 13 = .ok (.aload_n 0, 1) := by decide +kernel
theorem dX3_same_14 : decode cX3_same 14 = .ok (.iload_n 2, 1) := by decide +kernel
theorem dX3_same_15 : decode cX3_same 15 = .ok (.invokevirtual 90, 3) := by decide +kernel
theorem dX3_same_18 : decode cX3_same 18 = .ok (.ifCond .eq 41, 3) := by decide +kernel
theorem dX3_same_21 : decode cX3_same 21 = .ok (.aload_n 0, 1) := by decide +kernel
theorem dX3_same_22 : decode cX3_same 22 = .ok (.getfield 16, 3) := by decide +kernel
theorem dX3_same_25 : decode cX3_same 25 = .ok (.iload_n 1, 1) := by decide +kernel
theorem dX3_same_26 : decode cX3_same 26 = .ok (.iaload, 1) := by decide +kernel
theorem dX3_same_27 : decode cX3_same 27 = .ok (.iconst 4, 1) := by decide +kernel
theorem dX3_same_28 : decode cX3_same 28 = .ok (.if_icmp .ne 12, 3) := by decide +kernel
theorem dX3_same_31 : decode cX3_same 31 = .ok (.aload_n 0, 1) := by decide +kernel
theorem dX3_same_32 : decode cX3_same 32 = .ok (.iload_n 1, 1) := by decide +kernel
theorem dX3_same_33 : decode cX3_same 33 = .ok (.invokevirtual 94, 3) := by decide +kernel
theorem dX3_same_36 : decode cX3_same 36 = .ok (.iconst 2, 1) := by decide +kernel
theorem dX3_same_37 : decode cX3_same 37 = .ok (.if_icmp .lt 22, 3) := by decide +kernel
theorem dX3_same_40 : decode cX3_same 40 = .ok (.aload_n 0, 1) := by decide +kernel
theorem dX3_same_41 : decode cX3_same 41 = .ok (.getfield 16, 3) := by decide +kernel
theorem dX3_same_44 : decode cX3_same 44 = .ok (.iload_n 2, 1) := by decide +kernel
theorem dX3_same_45 : decode cX3_same 45 = .ok (.iaload, 1) := by decide +kernel
theorem dX3_same_46 : decode cX3_same 46 = .ok (.iconst 4, 1) := by decide +kernel
theorem dX3_same_47 : decode cX3_same 47 = .ok (.if_icmp .ne 14, 3) := by decide +kernel
theorem dX3_same_50 : decode cX3_same 50 = .ok (.aload_n 0, 1) := by decide +kernel
theorem dX3_same_51 : decode cX3_same 51 = .ok (.iload_n 2, 1) := by decide +kernel
theorem dX3_same_52 : decode cX3_same 52 = .ok (.invokevirtual 94, 3) := by decide +kernel
theorem dX3_same_55 : decode cX3_same 55 = .ok (.iconst 2, 1) := by decide +kernel
theorem dX3_same_56 : decode cX3_same 56 = .ok (.if_icmp .ge 5, 3) := by decide +kernel
theorem dX3_same_59 : decode cX3_same 59 = .ok (.iconst 0, 1) := by decide +kernel
theorem dX3_same_60 : decode cX3_same 60 = .ok (.ireturn, 1) := by decide +kernel
theorem dX3_same_61 : decode cX3_same 61 = .ok (.aload_n 0, 1) := by decide +kernel
theorem dX3_same_62 : decode cX3_same 62 = .ok (.getfield 16, 3) := by decide +kernel
theorem dX3_same_65 : decode cX3_same 65 = .ok (.iload_n 1, 1) := by decide +kernel
theorem dX3_same_66 : decode cX3_same 66 = .ok (.iaload, 1) := by decide +kernel
theorem dX3_same_67 : decode cX3_same 67 = .ok (.iconst 4, 1) := by decide +kernel
theorem dX3_same_68 : decode cX3_same 68 = .ok (.if_icmp .ne 28, 3) := by decide +kernel
theorem dX3_same_71 : decode cX3_same 71 = .ok (.aload_n 0, 1) := by decide +kernel
theorem dX3_same_72 : decode cX3_same 72 = .ok (.getfield 16, 3) := by decide +kernel
theorem dX3_same_75 : decode cX3_same 75 = .ok (.iload_n 2, 1) := by decide +kernel
theorem dX3_same_76 : decode cX3_same 76 = .ok (.iaload, 1) := by decide +kernel
theorem dX3_same_77 : decode cX3_same 77 = .ok (.iconst 4, 1) := by decide +kernel
theorem dX3_same_78 : decode cX3_same 78 = .ok (.if_icmp .ne 18, 3) := by decide +kernel
theorem dX3_same_81 : decode cX3_same 81 = .ok (.aload_n 0, 1) := by decide +kernel
theorem dX3_same_82 : decode cX3_same 82 = .ok (.iload_n 1, 1) := by decide +kernel
theorem dX3_same_83 : decode cX3_same 83 = .ok (.iload_n 2, 1) := by decide +kernel
theorem dX3_same_84 : decode cX3_same 84 = .ok (.invokevirtual 118, 3) := by decide +kernel
theorem dX3_same_87 : decode cX3_same 87 = .ok (.ifCond .ne 7, 3) := by decide +kernel
theorem dX3_same_90 : decode cX3_same 90 = .ok (.iconst 1, 1) := by decide +kernel
theorem dX3_same_91 : decode cX3_same 91 = .ok (.goto 4, 3) := by decide +kernel
theorem dX3_same_94 : decode cX3_same 94 = .ok (.iconst 0, 1) := by decide +kernel
theorem dX3_same_95 : decode cX3_same 95 = .ok (.ireturn, 1) := by decide +kernel
theorem dX3_same_96 : decode cX3_same 96 = .ok (.aload_n 0, 1) := by decide +kernel
theorem dX3_same_97 : decode cX3_same 97 = .ok (.iload_n 1, 1) := by decide +kernel
theorem dX3_same_98 : decode cX3_same 98 = .ok (.invokevirtual 121, 3) := by decide +kernel
theorem dX3_same_101 : decode cX3_same 101 = .ok (.lconst 0, 1) := by decide +kernel
theorem dX3_same_102 : decode cX3_same 102 = .ok (.lcmp, 1) := by decide +kernel
theorem dX3_same_103 : decode cX3_same 103 = .ok (.ifCond .lt 21, 3) := by decide +kernel
theorem dX3_same_106 : decode cX3_same 106 = .ok (.aload_n 0, 1) := by decide +kernel
theorem dX3_same_107 : decode cX3_same 107 = .ok (.iload_n 1, 1) := by decide +kernel
theorem dX3_same_108 : decode cX3_same 108 = .ok (.invokevirtual 121, 3) := by decide +kernel
theorem dX3_same_111 : decode cX3_same 111 = .ok (.aload_n 0, 1) := by decide +kernel
theorem dX3_same_112 : decode cX3_same 112 = .ok (.iload_n 2, 1) := by decide +kernel
theorem dX3_same_113 : decode cX3_same 113 = .ok (.invokevirtual 121, 3) := by decide +kernel
theorem dX3_same_116 : decode cX3_same 116 = .ok (.lcmp, 1) := by decide +kernel
theorem dX3_same_117 : decode cX3_same 117 = .ok (.ifCond .ne 7, 3) := by decide +kernel
theorem dX3_same_120 : decode cX3_same 120 = .ok (.iconst 1, 1) := by decide +kernel
theorem dX3_same_121 : decode cX3_same 121 = .ok (.goto 4, 3) := by decide +kernel
theorem dX3_same_124 : decode cX3_same 124 = .ok (.iconst 0, 1) := by decide +kernel
theorem dX3_same_125 : decode cX3_same 125 = .ok (.ireturn, 1) := by decide +kernel
set_option maxRecDepth 20000 in
theorem ggX3_compare_X3_isObject : GoodIn wsX3_compare wsX3_isObject := goodIn_r _ [8, 9, 30, 31, 32, 33, 34, 35, 36, 37, 38, 39, 40, 41, 42, 43, 44, 45, 46, 47, 48] (by decide +kernel) (by decide +kernel)
set_option maxRecDepth 20000 in
theorem gX3_compare_X3_isObject : GoodIn wsX3_compare (wsV RX3 90 RX3 yX3_isObject wsX3_isObject) := goodIn_app (goodIn_of _ (by decide +kernel)) ggX3_compare_X3_isObject
set_option maxRecDepth 20000 in
theorem ggX3_compare_X3_accessOf : GoodIn wsX3_compare wsX3_accessOf := goodIn_r _ [13, 14, 15, 16, 17, 7, 18, 2, 3, 30, 31, 32, 33, 34, 35, 36, 37, 38, 39, 40, 41, 42, 43, 44, 45, 46, 47, 48] (by decide +kernel) (by decide +kernel)
set_option maxRecDepth 20000 in
theorem gX3_compare_X3_accessOf : GoodIn wsX3_compare (wsV RX3 94 RX3 yX3_accessOf wsX3_accessOf) := goodIn_app (goodIn_of _ (by decide +kernel)) ggX3_compare_X3_accessOf
set_option maxRecDepth 20000 in
theorem ggX3_compare_X3_order : GoodIn wsX3_compare wsX3_order := goodIn_r _ [22, 23, 24, 25, 26, 7, 27, 28, 3, 29, 30, 31, 32, 33, 34, 35, 36, 37, 38, 39, 40, 41, 42, 43, 44, 45, 46, 47, 48] (by decide +kernel) (by decide +kernel)
set_option maxRecDepth 20000 in
theorem gX3_compare_X3_order : GoodIn wsX3_compare (wsV RX3 118 RX3 yX3_order wsX3_order) := goodIn_app (goodIn_of _ (by decide +kernel)) ggX3_compare_X3_order
theorem dX3_compare_0 : decode cX3_compare 0 = .ok (.aload_n 0, 1) := by decide +kernel
theorem dX3_compare_1 : decode cX3_compare 1 = .ok (.iconst 0, 1) := by decide +kernel
theorem dX3_compare_2 : decode cX3_compare 2 = .ok (.putfield 65, 3) := by decide +kernel
theorem dX3_compare_5 : decode cX3_compare 5 = .ok (.aload_n 0, 1) := by decide +kernel
theorem dX3_compare_6 : decode cX3_compare 6 = .ok (.iload_n 1, 1) := by decide +kernel
theorem dX3_compare_7 : decode cX3_compare 7 = .ok (.invokevirtual 90, 3) := by decide +kernel
theorem dX3_compare_10 : decode cX3_compare 10 = .ok (.ifCond .eq 11, 3) := by decide +kernel
theorem dX3_compare_13 : decode cX3_compare 13 = .ok (.aload_n 0, 1) := by decide +kernel
theorem dX3_compare_14 : decode cX3_compare 14 = .ok (.iload_n 2, 1) := by decide +kernel
theorem dX3_compare_15 : decode cX3_compare 15 = .ok (.invokevirtual 90, 3) := by decide +kernel
theorem dX3_compare_18 : decode cX3_compare 18 = .ok (.ifCond .ne 5, 3) := by decide +kernel
theorem dX3_compare_21 : decode cX3_compare 21 = .ok (.iconst (-1), 1) := by decide +kernel
theorem dX3_compare_22 : decode cX3_compare 22 = .ok (.ireturn, 1) := by decide +kernel
theorem dX3_compare_23 : decode cX3_compare 23 = .ok (.aload_n 0, 1) := by decide +kernel
theorem dX3_compare_24 : decode cX3_compare 24 = .ok (.getfield 16, 3) := by decide +kernel
theorem dX3_compare_27 : decode cX3_compare 27 = .ok (.iload_n 1, 1) := by decide +kernel
theorem dX3_compare_28 : decode cX3_compare 28 = .ok (.iaload, 1) := by decide +kernel
theorem dX3_compare_29 : decode cX3_compare 29 = .ok (.iconst 1, 1) := by decide +kernel
theorem dX3_compare_30 : decode cX3_compare 30 = .ok (.if_icmp .ne 53, 3) := by decide +kernel
theorem dX3_compare_33 : decode cX3_compare 33 = .ok (.aload_n 0, 1) := by decide +kernel
theorem dX3_compare_34 : decode cX3_compare 34 = .ok (.getfield 16, 3) := by decide +kernel
theorem dX3_compare_37 : decode cX3_compare 37 = .ok (.iload_n 2, 1) := by decide +kernel
theorem dX3_compare_38 : decode cX3_compare 38 = .ok (.iaload, 1) := by decide +kernel
theorem dX3_compare_39 : decode cX3_compare 39 = .ok (.iconst 1, 1) := by decide +kernel
theorem dX3_compare_40 : decode cX3_compare 40 = .ok (.if_icmp .ne 43, 3) := by decide +kernel
theorem dX3_compare_43 : decode cX3_compare 43 = .ok (.aload_n 0, 1) := by decide +kernel
theorem dX3_compare_44 : decode cX3_compare 44 = .ok (.getfield 20, 3) := by decide +kernel
theorem dX3_compare_47 : decode cX3_compare 47 = .ok (.iload_n 1, 1) := by decide +kernel
theorem dX3_compare_48 : decode cX3_compare 48 = .ok (.iaload, 1) := by decide +kernel
theorem dX3_compare_49 : decode cX3_compare 49 = .ok (.aload_n 0, 1) := by decide +kernel
theorem dX3_compare_50 : decode cX3_compare 50 = .ok (.getfield 20, 3) := by decide +kernel
theorem dX3_compare_53 : decode cX3_compare 53 = .ok (.iload_n 2, 1) := by decide +kernel
theorem dX3_compare_54 : decode cX3_compare 54 = .ok (.iaload, 1) := by decide +kernel
theorem dX3_compare_55 : decode cX3_compare 55 = .ok (.if_icmp .ge 7, 3) := by decide +kernel
theorem dX3_compare_58 : decode cX3_compare 58 = .ok (.iconst 0, 1) := by decide +kernel
theorem dX3_compare_59 : decode cX3_compare 59 = .ok (.goto 23, 3) := by decide +kernel
theorem dX3_compare_62 : decode cX3_compare 62 = .ok (.aload_n 0, 1) := by decide +kernel
theorem dX3_compare_63 : decode cX3_compare 63 = .ok (.getfield 20, 3) := by decide +kernel
theorem dX3_compare_66 : decode cX3_compare 66 = .ok (.iload_n 1, 1) := by decide +kernel
theorem dX3_compare_67 : decode cX3_compare 67 = .ok (.iaload, 1) := by decide +kernel
theorem dX3_compare_68 : decode cX3_compare 68 = .ok (.aload_n 0, 1) := by decide +kernel
theorem dX3_compare_69 : decode cX3_compare 69 = .ok (.getfield 20, 3) := by decide +kernel
theorem dX3_compare_72 : decode cX3_compare 72 = .ok (.iload_n 2, 1) := by decide +kernel
theorem dX3_compare_73 : decode cX3_compare 73 = .ok (.iaload, 1) := by decide +kernel
theorem dX3_compare_74 : decode cX3_compare 74 = .ok (.if_icmp .le 7, 3) := by decide +kernel
theorem dX3_compare_77 : decode cX3_compare 77 = .ok (.iconst 2, 1) := by decide +kernel
theorem dX3_compare_78 : decode cX3_compare 78 = .ok (.goto 4, 3) := by decide +kernel
theorem dX3_compare_81 : decode cX3_compare 81 = .ok (.iconst 1, 1) := by decide +kernel
theorem dX3_compare_82 : decode cX3_compare 82 = .ok (.ireturn, 1) := by decide +kernel
theorem dX3_compare_83 : decode cX3_compare 83 = .ok (.aload_n 0, 1) := by decide +kernel
theorem dX3_compare_84 : decode cX3_compare 84 = .ok (.getfield 16, 3) := by decide +kernel
theorem dX3_compare_87 : decode cX3_compare 87 = .ok (.iload_n 1, 1) := by decide +kernel
theorem dX3_compare_88 : decode cX3_compare 88 = .ok (.iaload, 1) := by decide +kernel
theorem dX3_compare_89 : decode cX3_compare 89 = .ok (.iconst 4, 1) := by decide +kernel
theorem dX3_compare_90 : decode cX3_compare 90 = .ok (.if_icmp .ne 31, 3) := by decide +kernel
theorem dX3_compare_93 : decode cX3_compare 93 = .ok (.aload_n 0, 1) := by decide +kernel
theorem dX3_compare_94 : decode cX3_compare 94 = .ok (.getfield 16, 3) := by decide +kernel
theorem dX3_compare_97 : decode cX3_compare 97 = .ok (.iload_n 2, 1) := by decide +kernel
theorem dX3_compare_98 : decode cX3_compare 98 = .ok (.iaload, 1) := by decide +kernel
theorem dX3_compare_99 : decode cX3_compare 99 = .ok (.iconst 4, 1) := by decide +kernel
theorem dX3_compare_100 : decode cX3_compare 100 = .ok (.if_icmp .ne 21, 3) := by decide +kernel
theorem dX3_compare_103 : decode cX3_compare 103 = .ok (.aload_n 0, 1) := by decide +kernel
theorem dX3_compare_104 : decode cX3_compare 104 = .ok (.iload_n 1, 1) := by decide +kernel
theorem dX3_compare_105 : decode cX3_compare 105 = .ok (.invokevirtual 94, 3) := by decide +kernel
theorem dX3_compare_108 : decode cX3_compare 108 = .ok (.iconst 2, 1) := by decide +kernel
theorem dX3_compare_109 : decode cX3_compare 109 = .ok (.if_icmp .lt 12, 3) := by decide +kernel
theorem dX3_compare_112 : decode cX3_compare 112 = .ok (.aload_n 0, 1) := by decide +kernel
theorem dX3_compare_113 : decode cX3_compare 113 = .ok (.iload_n 2, 1) := by decide +kernel
theorem dX3_compare_114 : decode cX3_compare 114 = .ok (.invokevirtual 94, 3) := by decide +kernel
theorem dX3_compare_117 : decode cX3_compare 117 = .ok (.iconst 2, 1) := by decide +kernel
theorem dX3_compare_118 : decode cX3_compare 118 = .ok (.if_icmp .ge 6, 3) := by decide +kernel
theorem dX3_compare_121 : decode cX3_compare 121 = .ok (.bipush (-3), 2) := by decide +kernel
theorem dX3_compare_123 : decode cX3_compare 123 = .ok (.ireturn, 1) := by decide +kernel
theorem dX3_compare_124 : decode cX3_compare 124 = .ok (.iconst 1, 1) := by decide +kernel
theorem dX3_compare_125 : decode cX3_compare 125 = .ok (.aload_n 0, 1) := by decide +kernel
theorem dX3_compare_126 : decode cX3_compare 126 = .ok (.iload_n 1, 1) := by decide +kernel
theorem dX3_compare_127 : decode cX3_compare 127 = .ok (.iload_n 2, 1) := by decide +kernel
theorem dX3_compare_128 : decode cX3_compare 128 = .ok (.invokevirtual 118, 3) := by decide +kernel
theorem dX3_compare_131 : decode cX3_compare 131 = .ok (.iadd, 1) := by decide +kernel
theorem dX3_compare_132 : decode cX3_compare 132 = .ok (.ireturn, 1) := by decide +kernel
set_option maxRecDepth 20000 in
theorem ggX3_length_X3_isObject : GoodIn wsX3_length wsX3_isObject := goodIn_r _ [10, 11, 19, 20, 21, 22, 23, 24, 25, 26, 27, 28, 29, 30, 31, 32, 33, 34, 35, 36, 37] (by decide +kernel) (by decide +kernel)
set_option maxRecDepth 20000 in
theorem gX3_length_X3_isObject : GoodIn wsX3_length (wsV RX3 90 RX3 yX3_isObject wsX3_isObject) := goodIn_app (goodIn_of _ (by decide +kernel)) ggX3_length_X3_isObject
set_option maxRecDepth 20000 in
theorem ggX3_length_X3_isView : GoodIn wsX3_length wsX3_isView := goodIn_r _ [15, 2, 16, 17, 9, 18, 19, 20, 21, 22, 23, 24, 25, 26, 27, 28, 29, 30, 31, 32, 33, 34, 35, 36, 37] (by decide +kernel) (by decide +kernel)
set_option maxRecDepth 20000 in
theorem gX3_length_X3_isView : GoodIn wsX3_length (wsV RX3 97 RX3 yX3_isView wsX3_isView) := goodIn_app (goodIn_of _ (by decide +kernel)) ggX3_length_X3_isView
theorem dX3_length_0 : decode cX3_length 0 = .ok (.aload_n 0, 1) := by decide +kernel
theorem dX3_length_1 : decode cX3_length 1 = .ok (.iconst 0, 1) := by decide +kernel
theorem dX3_length_2 : decode cX3_length 2 = .ok (.putfield 65, 3) := by decide +kernel
theorem dX3_length_5 : decode cX3_length 5 = .ok (.aload_n 0, 1) := by decide +kernel
theorem dX3_length_6 : decode cX3_length 6 = .ok (.iload_n 1, 1) := by decide +kernel
theorem dX3_length_7 : decode cX3_length 7 = .ok (.invokevirtual 90, 3) := by decide +kernel
theorem dX3_length_10 : decode cX3_length 10 = .ok (.ifCond .ne 5, 3) := by decide +kernel
theorem dX3_length_13 : decode cX3_length 13 = .ok (.iconst (-1), 1) := by decide +kernel
theorem dX3_length_14 : decode cX3_length 14 = .ok (.ireturn, 1) := by decide +kernel
theorem dX3_length_15 : decode cX3_length 15 = .ok (.aload_n 0, 1) := by decide +kernel
theorem dX3_length_16 : decode cX3_length 16 = .ok (.getfield 16, 3) := by decide +kernel
theorem dX3_length_19 : decode cX3_length 19 = .ok (.iload_n 1, 1) := by decide +kernel
theorem dX3_length_20 : decode cX3_length 20 = .ok (.iaload, 1) := by decide +kernel
theorem dX3_length_21 : decode cX3_length 21 = .ok (.iconst 3, 1) := by decide +kernel
theorem dX3_length_22 : decode cX3_length 22 = .ok (.if_icmp .ne 35, 3) := by decide +kernel
theorem dX3_length_25 : decode cX3_length 25 = .ok (.aload_n 0, 1) := by decide +kernel
theorem dX3_length_26 : decode cX3_length 26 = .ok (.getfield 20, 3) := by decide +kernel
theorem dX3_length_29 : decode cX3_length 29 = .ok (.iload_n 1, 1) := by decide +kernel
theorem dX3_length_30 : decode cX3_length 30 = .ok (.iaload, 1) := by decide +kernel
theorem dX3_length_31 : decode cX3_length 31 = .ok (.bipush 10, 2) := by decide +kernel
theorem dX3_length_33 : decode cX3_length 33 = .ok (.if_icmp .ge 7, 3) := by decide +kernel
theorem dX3_length_36 : decode cX3_length 36 = .ok (.iconst 1, 1) := by decide +kernel
theorem dX3_length_37 : decode cX3_length 37 = .ok (.goto 19, 3) := by decide +kernel
theorem dX3_length_40 : decode cX3_length 40 = .ok (.aload_n 0, 1) := by decide +kernel
theorem dX3_length_41 : decode cX3_length 41 = .ok (.getfield 20, 3) := by decide +kernel
theorem dX3_length_44 : decode cX3_length 44 = .ok (.iload_n 1, 1) := by decide +kernel
theorem dX3_length_45 : decode cX3_length 45 = .ok (.iaload, 1) := by decide +kernel
theorem dX3_length_46 : decode cX3_length 46 = .ok (.bipush 100, 2) := by decide +kernel
theorem dX3_length_48 : decode cX3_length 48 = .ok (.if_icmp .ge 7, 3) := by decide +kernel
theorem dX3_length_51 : decode cX3_length 51 = .ok (.iconst 2, 1) := by decide +kernel
theorem dX3_length_52 : decode cX3_length 52 = .ok (.goto 4, 3) := by decide +kernel
theorem dX3_length_55 : decode cX3_length 55 = .ok (.iconst 3, 1) := by decide +kernel
theorem dX3_length_56 : decode cX3_length 56 = .ok (.ireturn, 1) := by decide +kernel
theorem dX3_length_57 : decode cX3_length 57 = .ok (.aload_n 0, 1) := by decide +kernel
theorem dX3_length_58 : decode cX3_length 58 = .ok (.iload_n 1, 1) := by decide +kernel
theorem dX3_length_59 : decode cX3_length 59 = .ok (.invokevirtual 97, 3) := by decide +kernel
theorem dX3_length_62 : decode cX3_length 62 = .ok (.ifCond .eq 12, 3) := by decide +kernel
theorem dX3_length_65 : decode cX3_length 65 = .ok (.aload_n 0, 1) := by decide +kernel
theorem dX3_length_66 : decode cX3_length 66 = .ok (.getfield 26, 3) := by decide +kernel
theorem dX3_length_69 : decode cX3_length 69 = .ok (.iload_n 1, 1) := by decide +kernel
theorem dX3_length_70 : decode cX3_length 70 = .ok (.iaload, 1) := by decide +kernel
theorem dX3_length_71 : decode cX3_length 71 = .ok (.goto 30, 3) := by decide +kernel
theorem dX3_length_74 : decode cX3_length 74 = .ok (.aload_n 0, 1) := by decide +kernel
theorem dX3_length_75 : decode cX3_length 75 = .ok (.getfield 16, 3) := by decide +kernel
theorem dX3_length_78 : decode cX3_length 78 = .ok (.iload_n 1, 1) := by decide +kernel
theorem dX3_length_79 : decode cX3_length 79 = .ok (.iaload, 1) := by decide +kernel
theorem dX3_length_80 : decode cX3_length 80 = .ok (.bipush 7, 2) := by decide +kernel
theorem dX3_length_82 : decode cX3_length 82 = .ok (.if_icmp .ne 17, 3) := by decide +kernel
theorem dX3_length_85 : decode cX3_length 85 = .ok (.aload_n 0, 1) := by decide +kernel
theorem dX3_length_86 : decode cX3_length 86 = .ok (.getfield 49, 3) := by decide +kernel
theorem dX3_length_89 : decode cX3_length 89 = .ok (.aload_n 0, 1) := by decide +kernel
theorem dX3_length_90 : decode cX3_length 90 = .ok (.getfield 20, 3) := by decide +kernel
theorem dX3_length_93 : decode cX3_length 93 = .ok (.iload_n 1, 1) := by decide +kernel
theorem dX3_length_94 : decode cX3_length 94 = .ok (.iaload, 1) := by decide +kernel
theorem dX3_length_95 : decode cX3_length 95 = .ok (.iaload, 1) := by decide +kernel
theorem dX3_length_96 : decode cX3_length 96 = .ok (.goto 5, 3) := by decide +kernel
theorem dX3_length_99 : decode cX3_length 99 = .ok (.bipush (-3), 2) := by decide +kernel
theorem dX3_length_101 : decode cX3_length 101 = .ok (.ireturn, 1) := by decide +kernel
theorem dX3_placeOf_0 : decode cX3_placeOf 0 = .ok (.iconst 0, 1) := by decide +kernel
theorem dX3_placeOf_1 : decode cX3_placeOf 1 = .ok (.istore 4, 2) := by decide +kernel
theorem dX3_placeOf_3 : decode cX3_placeOf 3 = .ok (.iload 4, 2) := by decide +kernel
theorem dX3_placeOf_5 : decode cX3_placeOf 5 = .ok (.aload_n 0, 1) := by decide +kernel
theorem dX3_placeOf_6 : decode cX3_placeOf 6 = .ok (.getfield 49, 3) := by decide +kernel
theorem dX3_placeOf_9 : decode cX3_placeOf 9 = .ok (.iload_n 1, 1) := by decide +kernel
theorem dX3_placeOf_10 : decode cX3_placeOf 10 = .ok (.iaload, 1) := by decide +kernel
theorem dX3_placeOf_11 : decode cX3_placeOf 11 = .ok (.if_icmp .ge 34, 3) := by decide +kernel
theorem dX3_placeOf_14 : decode cX3_placeOf 14 = .ok (.aload_n 0, 1) := by decide +kernel
theorem dX3_placeOf_15 : decode cX3_placeOf 15 = .ok (.getfield 52, 3) := by decide +kernel
theorem dX3_placeOf_18 : decode cX3_placeOf 18 = .ok (.bipush 32, 2) := by decide +kernel
theorem dX3_placeOf_20 : decode cX3_placeOf 20 = .ok (.iload_n 1, 1) := by decide +kernel
theorem dX3_placeOf_21 : decode cX3_placeOf 21 = .ok (.imul, 1) := by decide +kernel
theorem dX3_placeOf_22 : decode cX3_placeOf 22 = .ok (.iload 4, 2) := by decide +kernel
theorem dX3_placeOf_24 : decode cX3_placeOf 24 = .ok (.iadd, 1) := by decide +kernel
theorem dX3_placeOf_25 : decode cX3_placeOf 25 = .ok (.laload, 1) := by decide +kernel
theorem dX3_placeOf_26 : decode cX3_placeOf 26 = .ok (.lload_n 2, 1) := by decide +kernel
theorem dX3_placeOf_27 : decode cX3_placeOf 27 = .ok (.lcmp, 1) := by decide +kernel
theorem dX3_placeOf_28 : decode cX3_placeOf 28 = .ok (.ifCond .ne 11, 3) := by decide +kernel
theorem dX3_placeOf_31 : decode cX3_placeOf 31 = .ok (.bipush 32, 2) := by decide +kernel
theorem dX3_placeOf_33 : decode cX3_placeOf 33 = .ok (.iload_n 1, 1) := by decide +kernel
theorem dX3_placeOf_34 : decode cX3_placeOf 34 = .ok (.imul, 1) := by decide +kernel
theorem dX3_placeOf_35 : decode cX3_placeOf 35 = .ok (.iload 4, 2) := by decide +kernel
theorem dX3_placeOf_37 : decode cX3_placeOf 37 = .ok (.iadd, 1) := by decide +kernel
theorem dX3_placeOf_38 : decode cX3_placeOf 38 = .ok (.ireturn, 1) := by decide +kernel
theorem dX3_placeOf_39 : decode cX3_placeOf 39 = .ok (.iinc 4 1, 3) := by decide +kernel
theorem dX3_placeOf_42 : decode cX3_placeOf 42 = .ok (.goto (-39), 3) := by decide +kernel
theorem dX3_placeOf_45 : decode cX3_placeOf 45 = .ok (.iconst (-1), 1) := by decide +kernel
theorem dX3_placeOf_46 : decode cX3_placeOf 46 = .ok (.ireturn, 1) := by decide +kernel
set_option maxRecDepth 20000 in
theorem ggX3_isKey_X3_code : GoodIn wsX3_isKey wsX3_code := goodIn_r _ [6, 1, 7, 8, 9, 10, 11, 12, 5, 13, 14, 15, 16, 17, 18, 19, 20, 21, 22, 23, 24, 25, 26, 27, 28, 29, 30, 31, 32, 33, 34, 35, 36, 37, 38, 39, 40, 41, 42, 43, 44, 45, 46, 47, 48, 49, 50, 51] (by decide +kernel) (by decide +kernel)
set_option maxRecDepth 20000 in
theorem gX3_isKey_X3_code : GoodIn wsX3_isKey (wsV RX3 121 RX3 yX3_code wsX3_code) := goodIn_app (goodIn_of _ (by decide +kernel)) ggX3_isKey_X3_code
theorem dX3_isKey_0 : decode cX3_isKey 0 = .ok (.aload_n 0, 1) := by decide +kernel
theorem dX3_isKey_1 : decode cX3_isKey 1 = .ok (.getfield 16, 3) := by decide +kernel
theorem dX3_isKey_4 : decode cX3_isKey 4 = .ok (.iload_n 1, 1) := by decide +kernel
theorem dX3_isKey_5 : decode cX3_isKey 5 = .ok (.iaload, 1) := by decide +kernel
theorem dX3_isKey_6 : decode cX3_isKey 6 = .ok (.ifCond .eq 17, 3) := by decide +kernel
theorem dX3_isKey_9 : decode cX3_isKey 9 = .ok (.aload_n 0, 1) := by decide +kernel
theorem dX3_isKey_10 : decode cX3_isKey 10 = .ok (.iload_n 1, 1) := by decide +kernel
theorem dX3_isKey_11 : decode cX3_isKey 11 = .ok (.invokevirtual 121, 3) := by decide +kernel
theorem dX3_isKey_14 : decode cX3_isKey 14 = .ok (.lconst 0, 1) := by decide +kernel
theorem dX3_isKey_15 : decode cX3_isKey 15 = .ok (.lcmp, 1) := by decide +kernel
theorem dX3_isKey_16 : decode cX3_isKey 16 = .ok (.ifCond .lt 7, 3) := by decide +kernel
theorem dX3_isKey_19 : decode cX3_isKey 19 = .ok (.iconst 1, 1) := by decide +kernel
theorem dX3_isKey_20 : decode cX3_isKey 20 = .ok (.goto 4, 3) := by decide +kernel
theorem dX3_isKey_23 : decode cX3_isKey 23 = .ok (.iconst 0, 1) := by decide +kernel
theorem dX3_isKey_24 : decode cX3_isKey 24 = .ok (.ireturn, 1) := by decide +kernel
set_option maxRecDepth 20000 in
theorem ggX3_entry_X3_isObject : GoodIn wsX3_entry wsX3_isObject := goodIn_r _ [14, 15, 53, 54, 55, 56, 57, 58, 59, 60, 61, 62, 63, 64, 65, 66, 67, 68, 69, 70, 71] (by decide +kernel) (by decide +kernel)
set_option maxRecDepth 20000 in
theorem gX3_entry_X3_isObject : GoodIn wsX3_entry (wsV RX3 90 RX3 yX3_isObject wsX3_isObject) := goodIn_app (goodIn_of _ (by decide +kernel)) ggX3_entry_X3_isObject
set_option maxRecDepth 20000 in
theorem ggX3_entry_X3_accessOf : GoodIn wsX3_entry wsX3_accessOf := goodIn_r _ [19, 20, 21, 22, 23, 13, 24, 2, 3, 53, 54, 55, 56, 57, 58, 59, 60, 61, 62, 63, 64, 65, 66, 67, 68, 69, 70, 71] (by decide +kernel) (by decide +kernel)
set_option maxRecDepth 20000 in
theorem gX3_entry_X3_accessOf : GoodIn wsX3_entry (wsV RX3 94 RX3 yX3_accessOf wsX3_accessOf) := goodIn_app (goodIn_of _ (by decide +kernel)) ggX3_entry_X3_accessOf
set_option maxRecDepth 20000 in
theorem ggX3_entry_X3_isKey : GoodIn wsX3_entry wsX3_isKey := goodIn_r _ [28, 2, 29, 30, 31, 13, 32, 33, 34, 3, 35, 36, 37, 38, 39, 40, 41, 42, 43, 44, 45, 46, 47, 48, 16, 17, 18, 19, 20, 21, 22, 23, 24, 53, 54, 55, 56, 57, 58, 59, 60, 61, 62, 63, 64, 65, 66, 67, 68, 69, 70, 71] (by decide +kernel) (by decide +kernel)
set_option maxRecDepth 20000 in
theorem gX3_entry_X3_isKey : GoodIn wsX3_entry (wsV RX3 125 RX3 yX3_isKey wsX3_isKey) := goodIn_app (goodIn_of _ (by decide +kernel)) ggX3_entry_X3_isKey
set_option maxRecDepth 20000 in
theorem ggX3_entry_X3_code : GoodIn wsX3_entry wsX3_code := goodIn_r _ [32, 2, 33, 34, 3, 35, 36, 37, 13, 38, 39, 40, 41, 42, 43, 44, 45, 46, 47, 48, 16, 17, 18, 19, 20, 21, 22, 23, 24, 53, 54, 55, 56, 57, 58, 59, 60, 61, 62, 63, 64, 65, 66, 67, 68, 69, 70, 71] (by decide +kernel) (by decide +kernel)
set_option maxRecDepth 20000 in
theorem gX3_entry_X3_code : GoodIn wsX3_entry (wsV RX3 121 RX3 yX3_code wsX3_code) := goodIn_app (goodIn_of _ (by decide +kernel)) ggX3_entry_X3_code
set_option maxRecDepth 20000 in
theorem ggX3_entry_X3_placeOf : GoodIn wsX3_entry wsX3_placeOf := goodIn_r _ [52, 4, 8, 53, 54, 55, 56, 57, 58, 59, 60, 61, 62, 63, 64, 65, 66, 67, 68, 69, 70, 71] (by decide +kernel) (by decide +kernel)
set_option maxRecDepth 20000 in
theorem gX3_entry_X3_placeOf : GoodIn wsX3_entry (wsV RX3 128 RX3 yX3_placeOf wsX3_placeOf) := goodIn_app (goodIn_of _ (by decide +kernel)) ggX3_entry_X3_placeOf
theorem dX3_entry_0 : decode cX3_entry 0 = .ok (.aload_n 0, 1) := by decide +kernel
theorem dX3_entry_1 : decode cX3_entry 1 = .ok (.iconst 0, 1) := by decide +kernel
theorem dX3_entry_2 : decode cX3_entry 2 = .ok (.putfield 65, 3) := by decide +kernel
theorem dX3_entry_5 : decode cX3_entry 5 = .ok (.aload_n 0, 1) := by decide +kernel
theorem dX3_entry_6 : decode cX3_entry 6 = .ok (.iload_n 1, 1) := by decide +kernel
theorem dX3_entry_7 : decode cX3_entry 7 = .ok (.invokevirtual 90, 3) := by decide +kernel
theorem dX3_entry_10 : decode cX3_entry 10 = .ok (.ifCond .eq 19, 3) := by decide +kernel
theorem dX3_entry_13 : decode cX3_entry 13 = .ok (.aload_n 0, 1) := by decide +kernel
theorem dX3_entry_14 : decode cX3_entry 14 = .ok (.iload_n 2, 1) := by decide +kernel
theorem dX3_entry_15 : decode cX3_entry 15 = .ok (.invokevirtual 90, 3) := by decide +kernel
theorem dX3_entry_18 : decode cX3_entry 18 = .ok (.ifCond .eq 11, 3) := by decide +kernel
theorem dX3_entry_21 : decode cX3_entry 21 = .ok (.aload_n 0, 1) := by decide +kernel
theorem dX3_entry_22 : decode cX3_entry 22 = .ok (.iload_n 3, 1) := by decide +kernel
theorem dX3_entry_23 : decode cX3_entry 23 = .ok (.invokevirtual 90, 3) := by decide +kernel
theorem dX3_entry_26 : decode cX3_entry 26 = .ok (.ifCond .ne 5, 3) := by decide +kernel
theorem dX3_entry_29 : decode cX3_entry 29 = .ok (.iconst (-1), 1) := by decide +kernel
theorem dX3_entry_30 : decode cX3_entry 30 = .ok (.ireturn, 1) := by decide +kernel
theorem dX3_entry_31 : decode cX3_entry 31 = .ok (.aload_n 0, 1) := by decide +kernel
theorem dX3_entry_32 : decode cX3_entry 32 = .ok (.getfield 16, 3) := by decide +kernel
theorem dX3_entry_35 : decode cX3_entry 35 = .ok (.iload_n 1, 1) := by decide +kernel
theorem dX3_entry_36 : decode cX3_entry 36 = .ok (.iaload, 1) := by decide +kernel
theorem dX3_entry_37 : decode cX3_entry 37 = .ok (.bipush 7, 2) := by decide +kernel
theorem dX3_entry_39 : decode cX3_entry 39 = .ok (.if_icmp .ne 20, 3) := by decide +kernel
theorem dX3_entry_42 : decode cX3_entry 42 = .ok (.aload_n 0, 1) := by decide +kernel
theorem dX3_entry_43 : decode cX3_entry 43 = .ok (.iload_n 1, 1) := by decide +kernel
theorem dX3_entry_44 : decode cX3_entry 44 = .ok (.invokevirtual 94, 3) := by decide +kernel
theorem dX3_entry_47 : decode cX3_entry 47 = .ok (.iconst 3, 1) := by decide +kernel
theorem dX3_entry_48 : decode cX3_entry 48 = .ok (.if_icmp .ne 11, 3) := by decide +kernel
theorem dX3_entry_51 : decode cX3_entry 51 = .ok (.aload_n 0, 1) := by decide +kernel
theorem dX3_entry_52 : decode cX3_entry 52 = .ok (.iload_n 2, 1) := by decide +kernel
theorem dX3_entry_53 : decode cX3_entry 53 = .ok (.invokevirtual 125, 3) := by decide +kernel
theorem dX3_entry_56 : decode cX3_entry 56 = .ok (.ifCond .ne 6, 3) := by decide +kernel
theorem dX3_entry_59 : decode cX3_entry 59 = .ok (.bipush (-3), 2) := by decide +kernel
theorem dX3_entry_61 : decode cX3_entry 61 = .ok (.ireturn, 1) := by decide +kernel
theorem dX3_entry_62 : decode cX3_entry 62 = .ok (.aload_n 0, 1) := by decide +kernel
theorem dX3_entry_63 : decode cX3_entry 63 = .ok (.getfield 20, 3) := by decide +kernel
theorem dX3_entry_66 : decode cX3_entry 66 = .ok (.iload_n 1, 1) := by decide +kernel
theorem dX3_entry_67 : decode cX3_entry 67 = .ok (.iaload, 1) := by decide +kernel
theorem dX3_entry_68 : decode cX3_entry 68 = .ok (.istore 4, 2) := by decide +kernel
theorem dX3_entry_70 : decode cX3_entry 70 = .ok (.aload_n 0, 1) := by decide +kernel
theorem dX3_entry_71 : decode cX3_entry 71 = .ok (.iload 4, 2) := by decide +kernel
theorem dX3_entry_73 : decode cX3_entry 73 = .ok (.aload_n 0, 1) := by decide +kernel
theorem dX3_entry_74 : decode cX3_entry 74 = .ok (.iload_n 2, 1) := by decide +kernel
theorem dX3_entry_75 : decode cX3_entry 75 = .ok (.invokevirtual 121, 3) := by decide +kernel
theorem dX3_entry_78 : decode cX3_entry 78 = .ok (.invokevirtual 128, 3) := by decide +kernel
theorem dX3_entry_81 : decode cX3_entry 81 = .ok (.istore 5, 2) := by decide +kernel
theorem dX3_entry_83 : decode cX3_entry 83 = .ok (.iload 5, 2) := by decide +kernel
theorem dX3_entry_85 : decode cX3_entry 85 = .ok (.ifCond .ge 165, 3) := by decide +kernel
theorem dX3_entry_88 : decode cX3_entry 88 = .ok (.aload_n 0, 1) := by decide +kernel
theorem dX3_entry_89 : decode cX3_entry 89 = .ok (.getfield 49, 3) := by decide +kernel
theorem dX3_entry_92 : decode cX3_entry 92 = .ok (.iload 4, 2) := by decide +kernel
theorem dX3_entry_94 : decode cX3_entry 94 = .ok (.iaload, 1) := by decide +kernel
theorem dX3_entry_95 : decode cX3_entry 95 = .ok (.aload_n 0, 1) := by decide +kernel
theorem dX3_entry_96 : decode cX3_entry 96 = .ok (.getfield 43, 3) := by decide +kernel
theorem dX3_entry_99 : decode cX3_entry 99 = .ok (.iload 4, 2) := by decide +kernel
theorem dX3_entry_101 : decode cX3_entry 101 = .ok (.iaload, 1) := by decide +kernel
theorem dX3_entry_102 : decode cX3_entry 102 = .ok (.if_icmp .ne 7, 3) := by decide +kernel
theorem dX3_entry_105 : decode cX3_entry 105 = .ok (.iconst 1, 1) := by decide +kernel
theorem dX3_entry_106 : decode cX3_entry 106 = .ok (.goto 4, 3) := by decide +kernel
theorem dX3_entry_109 : decode cX3_entry 109 = .ok (.iconst 0, 1) := by decide +kernel
theorem dX3_entry_110 : decode cX3_entry 110 = .ok (.istore 6, 2) := by decide +kernel
theorem dX3_entry_112 : decode cX3_entry 112 = .ok (.iload 6, 2) := by decide +kernel
theorem dX3_entry_114 : decode cX3_entry 114 = .ok (.ifCond .eq 28, 3) := by decide +kernel
theorem dX3_entry_117 : decode cX3_entry 117 = .ok (.aload_n 0, 1) := by decide +kernel
theorem dX3_entry_118 : decode cX3_entry 118 = .ok (.getfield 46, 3) := by decide +kernel
theorem dX3_entry_121 : decode cX3_entry 121 = .ok (.iload 4, 2) := by decide +kernel
theorem dX3_entry_123 : decode cX3_entry 123 = .ok (.baload, 1) := by decide +kernel
theorem dX3_entry_124 : decode cX3_entry 124 = .ok (.ifCond .eq 15, 3) := by decide +kernel
theorem dX3_entry_127 : decode cX3_entry 127 = .ok (.aload_n 0, 1) := by decide +kernel
theorem dX3_entry_128 : decode cX3_entry 128 = .ok (.getfield 49, 3) := by decide +kernel
theorem dX3_entry_131 : decode cX3_entry 131 = .ok (.iload 4, 2) := by decide +kernel
theorem dX3_entry_133 : decode cX3_entry 133 = .ok (.iaload, 1) := by decide +kernel
theorem dX3_entry_134 : decode cX3_entry 134 = .ok (.bipush 32, 2) := by decide +kernel
theorem dX3_entry_136 : decode cX3_entry 136 = .ok (.if_icmp .ne 6, 3) := by decide +kernel
theorem dX3_entry_139 : decode cX3_entry 139 = .ok (.bipush (-4), 2) := by decide +kernel
theorem dX3_entry_141 : decode cX3_entry 141 = .ok (.ireturn, 1) := by decide +kernel
theorem dX3_entry_142 : decode cX3_entry 142 = .ok (.iload 6, 2) := by decide +kernel
theorem dX3_entry_144 : decode cX3_entry 144 = .ok (.ifCond .eq 68, 3) := by decide +kernel
theorem dX3_entry_147 : decode cX3_entry 147 = .ok (.iconst 2, 1) := by decide +kernel
theorem dX3_entry_148 : decode cX3_entry 148 = .ok (.aload_n 0, 1) := by decide +kernel
theorem dX3_entry_149 : decode cX3_entry 149 = .ok (.getfield 43, 3) := by decide +kernel
theorem dX3_entry_152 : decode cX3_entry 152 = .ok (.iload 4, 2) := by decide +kernel
theorem dX3_entry_154 : decode cX3_entry 154 = .ok (.iaload, 1) := by decide +kernel
theorem dX3_entry_155 : decode cX3_entry 155 = .ok (.imul, 1) := by decide +kernel
theorem dX3_entry_156 : decode cX3_entry 156 = .ok (.iconst 1, 1) := by decide +kernel
theorem dX3_entry_157 : decode cX3_entry 157 = .ok (.iadd, 1) := by decide +kernel
theorem dX3_entry_158 : decode cX3_entry 158 = .ok (.bipush 32, 2) := by decide +kernel
theorem dX3_entry_160 : decode cX3_entry 160 = .ok (.if_icmp .le 8, 3) := by decide +kernel
theorem dX3_entry_163 : decode cX3_entry 163 = .ok (.bipush 32, 2) := by decide +kernel
theorem dX3_entry_165 : decode cX3_entry 165 = .ok (.goto 14, 3) := by decide +kernel
theorem dX3_entry_168 : decode cX3_entry 168 = .ok (.iconst 2, 1) := by decide +kernel
theorem dX3_entry_169 : decode cX3_entry 169 = .ok (.aload_n 0, 1) := by decide +kernel
theorem dX3_entry_170 : decode cX3_entry 170 = .ok (.getfield 43, 3) := by decide +kernel
theorem dX3_entry_173 : decode cX3_entry 173 = .ok (.iload 4, 2) := by decide +kernel
theorem dX3_entry_175 : decode cX3_entry 175 = .ok (.iaload, 1) := by decide +kernel
theorem dX3_entry_176 : decode cX3_entry 176 = .ok (.imul, 1) := by decide +kernel
theorem dX3_entry_177 : decode cX3_entry 177 = .ok (.iconst 1, 1) := by decide +kernel
theorem dX3_entry_178 : decode cX3_entry 178 = .ok (.iadd, 1) := by decide +kernel
theorem dX3_entry_179 : decode cX3_entry 179 = .ok (.istore 7, 2) := by decide +kernel
theorem dX3_entry_181 : decode cX3_entry 181 = .ok (.aload_n 0, 1) := by decide +kernel
theorem dX3_entry_182 : decode cX3_entry 182 = .ok (.dup, 1) := by decide +kernel
theorem dX3_entry_183 : decode cX3_entry 183 = .ok (.getfield 13, 3) := by decide +kernel
theorem dX3_entry_186 : decode cX3_entry 186 = .ok (.bipush 16, 2) := by decide +kernel
theorem dX3_entry_188 : decode cX3_entry 188 = .ok (.iload 7, 2) := by decide +kernel
theorem dX3_entry_190 : decode cX3_entry 190 = .ok (.aload_n 0, 1) := by decide +kernel
theorem dX3_entry_191 : decode cX3_entry 191 = .ok (.getfield 43, 3) := by decide +kernel
theorem dX3_entry_194 : decode cX3_entry 194 = .ok (.iload 4, 2) := by decide +kernel
theorem dX3_entry_196 : decode cX3_entry 196 = .ok (.iaload, 1) := by decide +kernel
theorem dX3_entry_197 : decode cX3_entry 197 = .ok (.isub, 1) := by decide +kernel
theorem dX3_entry_198 : decode cX3_entry 198 = .ok (.imul, 1) := by decide +kernel
theorem dX3_entry_199 : decode cX3_entry 199 = .ok (.iadd, 1) := by decide +kernel
theorem dX3_entry_200 : decode cX3_entry 200 = .ok (.putfield 13, 3) := by decide +kernel
theorem dX3_entry_203 : decode cX3_entry 203 = .ok (.aload_n 0, 1) := by decide +kernel
theorem dX3_entry_204 : decode cX3_entry 204 = .ok (.getfield 43, 3) := by decide +kernel
theorem dX3_entry_207 : decode cX3_entry 207 = .ok (.iload 4, 2) := by decide +kernel
theorem dX3_entry_209 : decode cX3_entry 209 = .ok (.iload 7, 2) := by decide +kernel
theorem dX3_entry_211 : decode cX3_entry 211 = .ok (.iastore, 1) := by decide +kernel
theorem dX3_entry_212 : decode cX3_entry 212 = .ok (.bipush 32, 2) := by decide +kernel
theorem dX3_entry_214 : decode cX3_entry 214 = .ok (.iload 4, 2) := by decide +kernel
theorem dX3_entry_216 : decode cX3_entry 216 = .ok (.imul, 1) := by decide +kernel
theorem dX3_entry_217 : decode cX3_entry 217 = .ok (.aload_n 0, 1) := by decide +kernel
theorem dX3_entry_218 : decode cX3_entry 218 = .ok (.getfield 49, 3) := by decide +kernel
theorem dX3_entry_221 : decode cX3_entry 221 = .ok (.iload 4, 2) := by decide +kernel
theorem dX3_entry_223 : decode cX3_entry 223 = .ok (.iaload, 1) := by decide +kernel
theorem dX3_entry_224 : decode cX3_entry 224 = .ok (.iadd, 1) := by decide +kernel
theorem dX3_entry_225 : decode cX3_entry 225 = .ok (.istore 5, 2) := by decide +kernel
theorem dX3_entry_227 : decode cX3_entry 227 = .ok (.aload_n 0, 1) := by decide +kernel
theorem dX3_entry_228 : decode cX3_entry 228 = .ok (.getfield 52, 3) := by decide +kernel
theorem dX3_entry_231 : decode cX3_entry 231 = .ok (.iload 5, 2) := by decide +kernel
theorem dX3_entry_233 : decode cX3_entry 233 = .ok (.aload_n 0, 1) := by decide +kernel
theorem dX3_entry_234 : decode cX3_entry 234 = .ok (.iload_n 2, 1) := by decide +kernel
theorem dX3_entry_235 : decode cX3_entry 235 = .ok (.invokevirtual 121, 3) := by decide +kernel
theorem dX3_entry_238 : decode cX3_entry 238 = .ok (.lastore, 1) := by decide +kernel
theorem dX3_entry_239 : decode cX3_entry 239 = .ok (.aload_n 0, 1) := by decide +kernel
theorem dX3_entry_240 : decode cX3_entry 240 = .ok (.getfield 49, 3) := by decide +kernel
theorem dX3_entry_243 : decode cX3_entry 243 = .ok (.iload 4, 2) := by decide +kernel
theorem dX3_entry_245 : decode cX3_entry 245 = .ok (.dup2, 1) := by decide +kernel
theorem dX3_entry_246 : decode cX3_entry 246 = .ok (.iaload, 1) := by decide +kernel
theorem dX3_entry_247 : decode cX3_entry 247 = .ok (.iconst 1, 1) := by decide +kernel
theorem dX3_entry_248 : decode cX3_entry 248 = .ok (.iadd, 1) := by decide +kernel
theorem dX3_entry_249 : decode cX3_entry 249 = .ok (.iastore, 1) := by decide +kernel
theorem dX3_entry_250 : decode cX3_entry 250 = .ok (.aload_n 0, 1) := by decide +kernel
theorem dX3_entry_251 : decode cX3_entry 251 = .ok (.getfield 56, 3) := by decide +kernel
theorem dX3_entry_254 : decode cX3_entry 254 = .ok (.iload 5, 2) := by decide +kernel
theorem dX3_entry_256 : decode cX3_entry 256 = .ok (.iload_n 3, 1) := by decide +kernel
theorem dX3_entry_257 : decode cX3_entry 257 = .ok (.iastore, 1) := by decide +kernel
theorem dX3_entry_258 : decode cX3_entry 258 = .ok (.iconst 1, 1) := by decide +kernel
theorem dX3_entry_259 : decode cX3_entry 259 = .ok (.ireturn, 1) := by decide +kernel
set_option maxRecDepth 20000 in
theorem ggX3_look_X3_isObject : GoodIn wsX3_look wsX3_isObject := goodIn_r _ [9, 10, 50, 51, 52, 53, 54, 55, 56, 57, 58, 59, 60, 61, 62, 63, 64, 65, 66, 67, 68] (by decide +kernel) (by decide +kernel)
set_option maxRecDepth 20000 in
theorem gX3_look_X3_isObject : GoodIn wsX3_look (wsV RX3 90 RX3 yX3_isObject wsX3_isObject) := goodIn_app (goodIn_of _ (by decide +kernel)) ggX3_look_X3_isObject
set_option maxRecDepth 20000 in
theorem ggX3_look_X3_accessOf : GoodIn wsX3_look wsX3_accessOf := goodIn_r _ [14, 15, 16, 17, 18, 8, 19, 2, 3, 50, 51, 52, 53, 54, 55, 56, 57, 58, 59, 60, 61, 62, 63, 64, 65, 66, 67, 68] (by decide +kernel) (by decide +kernel)
set_option maxRecDepth 20000 in
theorem gX3_look_X3_accessOf : GoodIn wsX3_look (wsV RX3 94 RX3 yX3_accessOf wsX3_accessOf) := goodIn_app (goodIn_of _ (by decide +kernel)) ggX3_look_X3_accessOf
set_option maxRecDepth 20000 in
theorem ggX3_look_X3_isKey : GoodIn wsX3_look wsX3_isKey := goodIn_r _ [23, 2, 24, 25, 26, 8, 27, 28, 29, 3, 30, 31, 32, 33, 34, 35, 36, 37, 38, 39, 40, 41, 42, 43, 11, 12, 13, 14, 15, 16, 17, 18, 19, 50, 51, 52, 53, 54, 55, 56, 57, 58, 59, 60, 61, 62, 63, 64, 65, 66, 67, 68] (by decide +kernel) (by decide +kernel)
set_option maxRecDepth 20000 in
theorem gX3_look_X3_isKey : GoodIn wsX3_look (wsV RX3 125 RX3 yX3_isKey wsX3_isKey) := goodIn_app (goodIn_of _ (by decide +kernel)) ggX3_look_X3_isKey
set_option maxRecDepth 20000 in
theorem ggX3_look_X3_code : GoodIn wsX3_look wsX3_code := goodIn_r _ [27, 2, 28, 29, 3, 30, 31, 32, 8, 33, 34, 35, 36, 37, 38, 39, 40, 41, 42, 43, 11, 12, 13, 14, 15, 16, 17, 18, 19, 50, 51, 52, 53, 54, 55, 56, 57, 58, 59, 60, 61, 62, 63, 64, 65, 66, 67, 68] (by decide +kernel) (by decide +kernel)
set_option maxRecDepth 20000 in
theorem gX3_look_X3_code : GoodIn wsX3_look (wsV RX3 121 RX3 yX3_code wsX3_code) := goodIn_app (goodIn_of _ (by decide +kernel)) ggX3_look_X3_code
set_option maxRecDepth 20000 in
theorem ggX3_look_X3_placeOf : GoodIn wsX3_look wsX3_placeOf := goodIn_r _ [47, 48, 49, 50, 51, 52, 53, 54, 55, 56, 57, 58, 59, 60, 61, 62, 63, 64, 65, 66, 67, 68] (by decide +kernel) (by decide +kernel)
set_option maxRecDepth 20000 in
theorem gX3_look_X3_placeOf : GoodIn wsX3_look (wsV RX3 128 RX3 yX3_placeOf wsX3_placeOf) := goodIn_app (goodIn_of _ (by decide +kernel)) ggX3_look_X3_placeOf
theorem dX3_look_0 : decode cX3_look 0 = .ok (.aload_n 0, 1) := by decide +kernel
theorem dX3_look_1 : decode cX3_look 1 = .ok (.iconst 0, 1) := by decide +kernel
theorem dX3_look_2 : decode cX3_look 2 = .ok (.putfield 65, 3) := by decide +kernel
theorem dX3_look_5 : decode cX3_look 5 = .ok (.aload_n 0, 1) := by decide +kernel
theorem dX3_look_6 : decode cX3_look 6 = .ok (.iload_n 1, 1) := by decide +kernel
theorem dX3_look_7 : decode cX3_look 7 = .ok (.invokevirtual 90, 3) := by decide +kernel
theorem dX3_look_10 : decode cX3_look 10 = .ok (.ifCond .eq 11, 3) := by decide +kernel
theorem dX3_look_13 : decode cX3_look 13 = .ok (.aload_n 0, 1) := by decide +kernel
theorem dX3_look_14 : decode cX3_look 14 = .ok (.iload_n 2, 1) := by decide +kernel
theorem dX3_look_15 : decode cX3_look 15 = .ok (.invokevirtual 90, 3) := by decide +kernel
theorem dX3_look_18 : decode cX3_look 18 = .ok (.ifCond .ne 5, 3) := by decide +kernel
theorem dX3_look_21 : decode cX3_look 21 = .ok (.iconst (-1), 1) := by decide +kernel
theorem dX3_look_22 : decode cX3_look 22 = .ok (.ireturn, 1) := by decide +kernel
theorem dX3_look_23 : decode cX3_look 23 = .ok (.aload_n 0, 1) := by decide +kernel
theorem dX3_look_24 : decode cX3_look 24 = .ok (.getfield 16, 3) := by decide +kernel
theorem dX3_look_27 : decode cX3_look 27 = .ok (.iload_n 1, 1) := by decide +kernel
theorem dX3_look_28 : decode cX3_look 28 = .ok (.iaload, 1) := by decide +kernel
theorem dX3_look_29 : decode cX3_look 29 = .ok (.bipush 7, 2) := by decide +kernel
theorem dX3_look_31 : decode cX3_look 31 = .ok (.if_icmp .ne 20, 3) := by decide +kernel
theorem dX3_look_34 : decode cX3_look 34 = .ok (.aload_n 0, 1) := by decide +kernel
theorem dX3_look_35 : decode cX3_look 35 = .ok (.iload_n 1, 1) := by decide +kernel
theorem dX3_look_36 : decode cX3_look 36 = .ok (.invokevirtual 94, 3) := by decide +kernel
theorem dX3_look_39 : decode cX3_look 39 = .ok (.iconst 2, 1) := by decide +kernel
theorem dX3_look_40 : decode cX3_look 40 = .ok (.if_icmp .lt 11, 3) := by decide +kernel
theorem dX3_look_43 : decode cX3_look 43 = .ok (.aload_n 0, 1) := by decide +kernel
theorem dX3_look_44 : decode cX3_look 44 = .ok (.iload_n 2, 1) := by decide +kernel
theorem dX3_look_45 : decode cX3_look 45 = .ok (.invokevirtual 125, 3) := by decide +kernel
theorem dX3_look_48 : decode cX3_look 48 = .ok (.ifCond .ne 6, 3) := by decide +kernel
theorem dX3_look_51 : decode cX3_look 51 = .ok (.bipush (-3), 2) := by decide +kernel
theorem dX3_look_53 : decode cX3_look 53 = .ok (.ireturn, 1) := by decide +kernel
theorem dX3_look_54 : decode cX3_look 54 = .ok (.aload_n 0, 1) := by decide +kernel
theorem dX3_look_55 : decode cX3_look 55 = .ok (.aload_n 0, 1) := by decide +kernel
theorem dX3_look_56 : decode cX3_look 56 = .ok (.getfield 20, 3) := by decide +kernel
theorem dX3_look_59 : decode cX3_look 59 = .ok (.iload_n 1, 1) := by decide +kernel
theorem dX3_look_60 : decode cX3_look 60 = .ok (.iaload, 1) := by decide +kernel
theorem dX3_look_61 : decode cX3_look 61 = .ok (.aload_n 0, 1) := by decide +kernel
theorem dX3_look_62 : decode cX3_look 62 = .ok (.iload_n 2, 1) := by decide +kernel
theorem dX3_look_63 : decode cX3_look 63 = .ok (.invokevirtual 121, 3) := by decide +kernel
theorem dX3_look_66 : decode cX3_look 66 = .ok (.invokevirtual 128, 3) := by decide +kernel
theorem dX3_look_69 : decode cX3_look 69 = .ok (.istore_n 3, 1) := by decide +kernel
theorem dX3_look_70 : decode cX3_look 70 = .ok (.iload_n 3, 1) := by decide +kernel
theorem dX3_look_71 : decode cX3_look 71 = .ok (.ifCond .ge 8, 3) := by decide +kernel
end
section
theorem dX3_look_74 : decode cX3_look 74 = .ok (.bipush (-5), 2) := by decide +kernel
theorem dX3_look_76 : decode cX3_look 76 = .ok (.goto 9, 3) := by decide +kernel
theorem dX3_look_79 : decode cX3_look 79 = .ok (.aload_n 0, 1) := by decide +kernel
theorem dX3_look_80 : decode cX3_look 80 = .ok (.getfield 56, 3) := by decide +kernel
theorem dX3_look_83 : decode cX3_look 83 = .ok (.iload_n 3, 1) := by decide +kernel
theorem dX3_look_84 : decode cX3_look 84 = .ok (.iaload, 1) := by decide +kernel
theorem dX3_look_85 : decode cX3_look 85 = .ok (.ireturn, 1) := by decide +kernel
set_option maxRecDepth 20000 in
theorem ggX3_kind_X3_isObject : GoodIn wsX3_kind wsX3_isObject := goodIn_r _ [7, 8, 9, 10, 11, 12, 13, 14, 15, 16, 17, 18, 19, 20, 21, 22, 23, 24, 25, 26, 27] (by decide +kernel) (by decide +kernel)
set_option maxRecDepth 20000 in
theorem gX3_kind_X3_isObject : GoodIn wsX3_kind (wsV RX3 90 RX3 yX3_isObject wsX3_isObject) := goodIn_app (goodIn_of _ (by decide +kernel)) ggX3_kind_X3_isObject
theorem dX3_kind_0 : decode cX3_kind 0 = .ok (.aload_n 0, 1) := by decide +kernel
theorem dX3_kind_1 : decode cX3_kind 1 = .ok (.iconst 0, 1) := by decide +kernel
theorem dX3_kind_2 : decode cX3_kind 2 = .ok (.putfield 65, 3) := by decide +kernel
theorem dX3_kind_5 : decode cX3_kind 5 = .ok (.aload_n 0, 1) := by decide +kernel
theorem dX3_kind_6 : decode cX3_kind 6 = .ok (.iload_n 1, 1) := by decide +kernel
theorem dX3_kind_7 : decode cX3_kind 7 = .ok (.invokevirtual 90, 3) := by decide +kernel
theorem dX3_kind_10 : decode cX3_kind 10 = .ok (.ifCond .eq 12, 3) := by decide +kernel
theorem dX3_kind_13 : decode cX3_kind 13 = .ok (.aload_n 0, 1) := by decide +kernel
theorem dX3_kind_14 : decode cX3_kind 14 = .ok (.getfield 16, 3) := by decide +kernel
theorem dX3_kind_17 : decode cX3_kind 17 = .ok (.iload_n 1, 1) := by decide +kernel
theorem dX3_kind_18 : decode cX3_kind 18 = .ok (.iaload, 1) := by decide +kernel
theorem dX3_kind_19 : decode cX3_kind 19 = .ok (.goto 4, 3) := by decide +kernel
theorem dX3_kind_22 : decode cX3_kind 22 = .ok (.iconst (-1), 1) := by decide +kernel
theorem dX3_kind_23 : decode cX3_kind 23 = .ok (.ireturn, 1) := by decide +kernel
theorem dX3_used_0 : decode cX3_used 0 = .ok (.aload_n 0, 1) := by decide +kernel
theorem dX3_used_1 : decode cX3_used 1 = .ok (.iconst 0, 1) := by decide +kernel
theorem dX3_used_2 : decode cX3_used 2 = .ok (.putfield 65, 3) := by decide +kernel
theorem dX3_used_5 : decode cX3_used 5 = .ok (.aload_n 0, 1) := by decide +kernel
theorem dX3_used_6 : decode cX3_used 6 = .ok (.getfield 13, 3) := by decide +kernel
theorem dX3_used_9 : decode cX3_used 9 = .ok (.ireturn, 1) := by decide +kernel
theorem dX3_copy_0 : decode cX3_copy 0 = .ok (.iconst 0, 1) := by decide +kernel
theorem dX3_copy_1 : decode cX3_copy 1 = .ok (.istore_n 3, 1) := by decide +kernel
theorem dX3_copy_2 : decode cX3_copy 2 = .ok (.iload_n 3, 1) := by decide +kernel
theorem dX3_copy_3 : decode cX3_copy 3 = .ok (.bipush 100, 2) := by decide +kernel
theorem dX3_copy_5 : decode cX3_copy 5 = .ok (.if_icmp .ge 119, 3) := by decide +kernel
theorem dX3_copy_8 : decode cX3_copy 8 = .ok (.aload_n 0, 1) := by decide +kernel
theorem dX3_copy_9 : decode cX3_copy 9 = .ok (.getfield 33, 3) := by decide +kernel
theorem dX3_copy_12 : decode cX3_copy 12 = .ok (.bipush 100, 2) := by decide +kernel
theorem dX3_copy_14 : decode cX3_copy 14 = .ok (.iload_n 2, 1) := by decide +kernel
theorem dX3_copy_15 : decode cX3_copy 15 = .ok (.imul, 1) := by decide +kernel
theorem dX3_copy_16 : decode cX3_copy 16 = .ok (.iload_n 3, 1) := by decide +kernel
theorem dX3_copy_17 : decode cX3_copy 17 = .ok (.iadd, 1) := by decide +kernel
theorem dX3_copy_18 : decode cX3_copy 18 = .ok (.aload_n 0, 1) := by decide +kernel
theorem dX3_copy_19 : decode cX3_copy 19 = .ok (.getfield 33, 3) := by decide +kernel
theorem dX3_copy_22 : decode cX3_copy 22 = .ok (.bipush 100, 2) := by decide +kernel
theorem dX3_copy_24 : decode cX3_copy 24 = .ok (.iload_n 1, 1) := by decide +kernel
theorem dX3_copy_25 : decode cX3_copy 25 = .ok (.imul, 1) := by decide +kernel
theorem dX3_copy_26 : decode cX3_copy 26 = .ok (.iload_n 3, 1) := by decide +kernel
theorem dX3_copy_27 : decode cX3_copy 27 = .ok (.iadd, 1) := by decide +kernel
theorem dX3_copy_28 : decode cX3_copy 28 = .ok (.baload, 1) := by decide +kernel
theorem dX3_copy_29 : decode cX3_copy 29 = .ok (.bastore, 1) := by decide +kernel
theorem dX3_copy_30 : decode cX3_copy 30 = .ok (.aload_n 0, 1) := by decide +kernel
theorem dX3_copy_31 : decode cX3_copy 31 = .ok (.getfield 37, 3) := by decide +kernel
theorem dX3_copy_34 : decode cX3_copy 34 = .ok (.bipush 100, 2) := by decide +kernel
theorem dX3_copy_36 : decode cX3_copy 36 = .ok (.iload_n 2, 1) := by decide +kernel
theorem dX3_copy_37 : decode cX3_copy 37 = .ok (.imul, 1) := by decide +kernel
theorem dX3_copy_38 : decode cX3_copy 38 = .ok (.iload_n 3, 1) := by decide +kernel
theorem dX3_copy_39 : decode cX3_copy 39 = .ok (.iadd, 1) := by decide +kernel
theorem dX3_copy_40 : decode cX3_copy 40 = .ok (.aload_n 0, 1) := by decide +kernel
theorem dX3_copy_41 : decode cX3_copy 41 = .ok (.getfield 37, 3) := by decide +kernel
theorem dX3_copy_44 : decode cX3_copy 44 = .ok (.bipush 100, 2) := by decide +kernel
theorem dX3_copy_46 : decode cX3_copy 46 = .ok (.iload_n 1, 1) := by decide +kernel
theorem dX3_copy_47 : decode cX3_copy 47 = .ok (.imul, 1) := by decide +kernel
theorem dX3_copy_48 : decode cX3_copy 48 = .ok (.iload_n 3, 1) := by decide +kernel
theorem dX3_copy_49 : decode cX3_copy 49 = .ok (.iadd, 1) := by decide +kernel
theorem dX3_copy_50 : decode cX3_copy 50 = .ok (.iaload, 1) := by decide +kernel
theorem dX3_copy_51 : decode cX3_copy 51 = .ok (.iastore, 1) := by decide +kernel
theorem dX3_copy_52 : decode cX3_copy 52 = .ok (.aload_n 0, 1) := by decide +kernel
theorem dX3_copy_53 : decode cX3_copy 53 = .ok (.getfield 43, 3) := by decide +kernel
theorem dX3_copy_56 : decode cX3_copy 56 = .ok (.bipush 100, 2) := by decide +kernel
theorem dX3_copy_58 : decode cX3_copy 58 = .ok (.iload_n 2, 1) := by decide +kernel
theorem dX3_copy_59 : decode cX3_copy 59 = .ok (.imul, 1) := by decide +kernel
theorem dX3_copy_60 : decode cX3_copy 60 = .ok (.iload_n 3, 1) := by decide +kernel
theorem dX3_copy_61 : decode cX3_copy 61 = .ok (.iadd, 1) := by decide +kernel
theorem dX3_copy_62 : decode cX3_copy 62 = .ok (.aload_n 0, 1) := by decide +kernel
theorem dX3_copy_63 : decode cX3_copy 63 = .ok (.getfield 43, 3) := by decide +kernel
theorem dX3_copy_66 : decode cX3_copy 66 = .ok (.bipush 100, 2) := by decide +kernel
theorem dX3_copy_68 : decode cX3_copy 68 = .ok (.iload_n 1, 1) := by decide +kernel
theorem dX3_copy_69 : decode cX3_copy 69 = .ok (.imul, 1) := by decide +kernel
theorem dX3_copy_70 : decode cX3_copy 70 = .ok (.iload_n 3, 1) := by decide +kernel
theorem dX3_copy_71 : decode cX3_copy 71 = .ok (.iadd, 1) := by decide +kernel
theorem dX3_copy_72 : decode cX3_copy 72 = .ok (.iaload, 1) := by decide +kernel
theorem dX3_copy_73 : decode cX3_copy 73 = .ok (.iastore, 1) := by decide +kernel
theorem dX3_copy_74 : decode cX3_copy 74 = .ok (.aload_n 0, 1) := by decide +kernel
theorem dX3_copy_75 : decode cX3_copy 75 = .ok (.getfield 46, 3) := by decide +kernel
theorem dX3_copy_78 : decode cX3_copy 78 = .ok (.bipush 100, 2) := by decide +kernel
theorem dX3_copy_80 : decode cX3_copy 80 = .ok (.iload_n 2, 1) := by decide +kernel
theorem dX3_copy_81 : decode cX3_copy 81 = .ok (.imul, 1) := by decide +kernel
theorem dX3_copy_82 : decode cX3_copy 82 = .ok (.iload_n 3, 1) := by decide +kernel
theorem dX3_copy_83 : decode cX3_copy 83 = .ok (.iadd, 1) := by decide +kernel
theorem dX3_copy_84 : decode cX3_copy 84 = .ok (.aload_n 0, 1) := by decide +kernel
theorem dX3_copy_85 : decode cX3_copy 85 = .ok (.getfield 46, 3) := by decide +kernel
theorem dX3_copy_88 : decode cX3_copy 88 = .ok (.bipush 100, 2) := by decide +kernel
theorem dX3_copy_90 : decode cX3_copy 90 = .ok (.iload_n 1, 1) := by decide +kernel
theorem dX3_copy_91 : decode cX3_copy 91 = .ok (.imul, 1) := by decide +kernel
theorem dX3_copy_92 : decode cX3_copy 92 = .ok (.iload_n 3, 1) := by decide +kernel
theorem dX3_copy_93 : decode cX3_copy 93 = .ok (.iadd, 1) := by decide +kernel
theorem dX3_copy_94 : decode cX3_copy 94 = .ok (.baload, 1) := by decide +kernel
theorem dX3_copy_95 : decode cX3_copy 95 = .ok (.bastore, 1) := by decide +kernel
theorem dX3_copy_96 : decode cX3_copy 96 = .ok (.aload_n 0, 1) := by decide +kernel
theorem dX3_copy_97 : decode cX3_copy 97 = .ok (.getfield 49, 3) := by decide +kernel
theorem dX3_copy_100 : decode cX3_copy 100 = .ok (.bipush 100, 2) := by decide +kernel
theorem dX3_copy_102 : decode cX3_copy 102 = .ok (.iload_n 2, 1) := by decide +kernel
theorem dX3_copy_103 : decode cX3_copy 103 = .ok (.imul, 1) := by decide +kernel
theorem dX3_copy_104 : decode cX3_copy 104 = .ok (.iload_n 3, 1) := by decide +kernel
theorem dX3_copy_105 : decode cX3_copy 105 = .ok (.iadd, 1) := by decide +kernel
theorem dX3_copy_106 : decode cX3_copy 106 = .ok (.aload_n 0, 1) := by decide +kernel
theorem dX3_copy_107 : decode cX3_copy 107 = .ok (.getfield 49, 3) := by decide +kernel
theorem dX3_copy_110 : decode cX3_copy 110 = .ok (.bipush 100, 2) := by decide +kernel
theorem dX3_copy_112 : decode cX3_copy 112 = .ok (.iload_n 1, 1) := by decide +kernel
theorem dX3_copy_113 : decode cX3_copy 113 = .ok (.imul, 1) := by decide +kernel
theorem dX3_copy_114 : decode cX3_copy 114 = .ok (.iload_n 3, 1) := by decide +kernel
theorem dX3_copy_115 : decode cX3_copy 115 = .ok (.iadd, 1) := by decide +kernel
theorem dX3_copy_116 : decode cX3_copy 116 = .ok (.iaload, 1) := by decide +kernel
theorem dX3_copy_117 : decode cX3_copy 117 = .ok (.iastore, 1) := by decide +kernel
theorem dX3_copy_118 : decode cX3_copy 118 = .ok (.iinc 3 1, 3) := by decide +kernel
theorem dX3_copy_121 : decode cX3_copy 121 = .ok (.goto (-119), 3) := by decide +kernel
theorem dX3_copy_124 : decode cX3_copy 124 = .ok (.iconst 0, 1) := by decide +kernel
theorem dX3_copy_125 : decode cX3_copy 125 = .ok (.istore_n 3, 1) := by decide +kernel
theorem dX3_copy_126 : decode cX3_copy 126 = .ok (.iload_n 3, 1) := by decide +kernel
theorem dX3_copy_127 : decode cX3_copy 127 = .ok (.sipush 3200, 3) := by decide +kernel
theorem dX3_copy_130 : decode cX3_copy 130 = .ok (.if_icmp .ge 81, 3) := by decide +kernel
theorem dX3_copy_133 : decode cX3_copy 133 = .ok (.aload_n 0, 1) := by decide +kernel
theorem dX3_copy_134 : decode cX3_copy 134 = .ok (.getfield 40, 3) := by decide +kernel
theorem dX3_copy_137 : decode cX3_copy 137 = .ok (.sipush 3200, 3) := by decide +kernel
theorem dX3_copy_140 : decode cX3_copy 140 = .ok (.iload_n 2, 1) := by decide +kernel
theorem dX3_copy_141 : decode cX3_copy 141 = .ok (.imul, 1) := by decide +kernel
theorem dX3_copy_142 : decode cX3_copy 142 = .ok (.iload_n 3, 1) := by decide +kernel
theorem dX3_copy_143 : decode cX3_copy 143 = .ok (.iadd, 1) := by decide +kernel
theorem dX3_copy_144 : decode cX3_copy 144 = .ok (.aload_n 0, 1) := by decide +kernel
theorem dX3_copy_145 : decode cX3_copy 145 = .ok (.getfield 40, 3) := by decide +kernel
theorem dX3_copy_148 : decode cX3_copy 148 = .ok (.sipush 3200, 3) := by decide +kernel
theorem dX3_copy_151 : decode cX3_copy 151 = .ok (.iload_n 1, 1) := by decide +kernel
theorem dX3_copy_152 : decode cX3_copy 152 = .ok (.imul, 1) := by decide +kernel
theorem dX3_copy_153 : decode cX3_copy 153 = .ok (.iload_n 3, 1) := by decide +kernel
theorem dX3_copy_154 : decode cX3_copy 154 = .ok (.iadd, 1) := by decide +kernel
theorem dX3_copy_155 : decode cX3_copy 155 = .ok (.iaload, 1) := by decide +kernel
theorem dX3_copy_156 : decode cX3_copy 156 = .ok (.iastore, 1) := by decide +kernel
theorem dX3_copy_157 : decode cX3_copy 157 = .ok (.aload_n 0, 1) := by decide +kernel
theorem dX3_copy_158 : decode cX3_copy 158 = .ok (.getfield 52, 3) := by decide +kernel
theorem dX3_copy_161 : decode cX3_copy 161 = .ok (.sipush 3200, 3) := by decide +kernel
theorem dX3_copy_164 : decode cX3_copy 164 = .ok (.iload_n 2, 1) := by decide +kernel
theorem dX3_copy_165 : decode cX3_copy 165 = .ok (.imul, 1) := by decide +kernel
theorem dX3_copy_166 : decode cX3_copy 166 = .ok (.iload_n 3, 1) := by decide +kernel
theorem dX3_copy_167 : decode cX3_copy 167 = .ok (.iadd, 1) := by decide +kernel
theorem dX3_copy_168 : decode cX3_copy 168 = .ok (.aload_n 0, 1) := by decide +kernel
theorem dX3_copy_169 : decode cX3_copy 169 = .ok (.getfield 52, 3) := by decide +kernel
theorem dX3_copy_172 : decode cX3_copy 172 = .ok (.sipush 3200, 3) := by decide +kernel
theorem dX3_copy_175 : decode cX3_copy 175 = .ok (.iload_n 1, 1) := by decide +kernel
theorem dX3_copy_176 : decode cX3_copy 176 = .ok (.imul, 1) := by decide +kernel
theorem dX3_copy_177 : decode cX3_copy 177 = .ok (.iload_n 3, 1) := by decide +kernel
theorem dX3_copy_178 : decode cX3_copy 178 = .ok (.iadd, 1) := by decide +kernel
theorem dX3_copy_179 : decode cX3_copy 179 = .ok (.laload, 1) := by decide +kernel
theorem dX3_copy_180 : decode cX3_copy 180 = .ok (.lastore, 1) := by decide +kernel
theorem dX3_copy_181 : decode cX3_copy 181 = .ok (.aload_n 0, 1) := by decide +kernel
theorem dX3_copy_182 : decode cX3_copy 182 = .ok (.getfield 56, 3) := by decide +kernel
theorem dX3_copy_185 : decode cX3_copy 185 = .ok (.sipush 3200, 3) := by decide +kernel
theorem dX3_copy_188 : decode cX3_copy 188 = .ok (.iload_n 2, 1) := by decide +kernel
theorem dX3_copy_189 : decode cX3_copy 189 = .ok (.imul, 1) := by decide +kernel
theorem dX3_copy_190 : decode cX3_copy 190 = .ok (.iload_n 3, 1) := by decide +kernel
theorem dX3_copy_191 : decode cX3_copy 191 = .ok (.iadd, 1) := by decide +kernel
theorem dX3_copy_192 : decode cX3_copy 192 = .ok (.aload_n 0, 1) := by decide +kernel
theorem dX3_copy_193 : decode cX3_copy 193 = .ok (.getfield 56, 3) := by decide +kernel
theorem dX3_copy_196 : decode cX3_copy 196 = .ok (.sipush 3200, 3) := by decide +kernel
theorem dX3_copy_199 : decode cX3_copy 199 = .ok (.iload_n 1, 1) := by decide +kernel
theorem dX3_copy_200 : decode cX3_copy 200 = .ok (.imul, 1) := by decide +kernel
theorem dX3_copy_201 : decode cX3_copy 201 = .ok (.iload_n 3, 1) := by decide +kernel
theorem dX3_copy_202 : decode cX3_copy 202 = .ok (.iadd, 1) := by decide +kernel
theorem dX3_copy_203 : decode cX3_copy 203 = .ok (.iaload, 1) := by decide +kernel
theorem dX3_copy_204 : decode cX3_copy 204 = .ok (.iastore, 1) := by decide +kernel
theorem dX3_copy_205 : decode cX3_copy 205 = .ok (.iinc 3 1, 3) := by decide +kernel
theorem dX3_copy_208 : decode cX3_copy 208 = .ok (.goto (-82), 3) := by decide +kernel
theorem dX3_copy_211 : decode cX3_copy 211 = .ok (.return_, 1) := by decide +kernel
set_option maxRecDepth 20000 in
theorem ggX3_restore_X3_isObject : GoodIn wsX3_restore wsX3_isObject := goodIn_r _ [12, 4, 25, 26, 27, 28, 29, 30, 31, 32, 33, 34, 35, 36, 37, 38, 39, 40, 41, 42, 43] (by decide +kernel) (by decide +kernel)
set_option maxRecDepth 20000 in
theorem gX3_restore_X3_isObject : GoodIn wsX3_restore (wsV RX3 90 RX3 yX3_isObject wsX3_isObject) := goodIn_app (goodIn_of _ (by decide +kernel)) ggX3_restore_X3_isObject
set_option maxRecDepth 20000 in
theorem ggX3_restore_X3_copy : GoodIn wsX3_restore wsX3_copy := goodIn_r _ [16, 17, 18, 19, 20, 21, 22, 23, 24, 25, 26, 27, 28, 29, 30, 31, 32, 33, 34, 35, 36, 37, 38, 39, 40, 41, 42, 43] (by decide +kernel) (by decide +kernel)
set_option maxRecDepth 20000 in
theorem gX3_restore_X3_copy : GoodIn wsX3_restore (wsV RX3 83 RX3 yX3_copy wsX3_copy) := goodIn_app (goodIn_of _ (by decide +kernel)) ggX3_restore_X3_copy
theorem dX3_restore_0 : decode cX3_restore 0 = .ok (.aload_n 0, 1) := by decide +kernel
theorem dX3_restore_1 : decode cX3_restore 1 = .ok (.iconst 0, 1) := by decide +kernel
theorem dX3_restore_2 : decode cX3_restore 2 = .ok (.putfield 65, 3) := by decide +kernel
theorem dX3_restore_5 : decode cX3_restore 5 = .ok (.aload_n 0, 1) := by decide +kernel
theorem dX3_restore_6 : decode cX3_restore 6 = .ok (.iload_n 1, 1) := by decide +kernel
theorem dX3_restore_7 : decode cX3_restore 7 = .ok (.invokevirtual 90, 3) := by decide +kernel
theorem dX3_restore_10 : decode cX3_restore 10 = .ok (.ifCond .ne 5, 3) := by decide +kernel
theorem dX3_restore_13 : decode cX3_restore 13 = .ok (.iconst (-1), 1) := by decide +kernel
theorem dX3_restore_14 : decode cX3_restore 14 = .ok (.ireturn, 1) := by decide +kernel
theorem dX3_restore_15 : decode cX3_restore 15 = .ok (.aload_n 0, 1) := by decide +kernel
theorem dX3_restore_16 : decode cX3_restore 16 = .ok (.getfield 16, 3) := by decide +kernel
theorem dX3_restore_19 : decode cX3_restore 19 = .ok (.iload_n 1, 1) := by decide +kernel
theorem dX3_restore_20 : decode cX3_restore 20 = .ok (.iaload, 1) := by decide +kernel
theorem dX3_restore_21 : decode cX3_restore 21 = .ok (.bipush 11, 2) := by decide +kernel
theorem dX3_restore_23 : decode cX3_restore 23 = .ok (.if_icmp .eq 6, 3) := by decide +kernel
theorem dX3_restore_26 : decode cX3_restore 26 = .ok (.bipush (-3), 2) := by decide +kernel
theorem dX3_restore_28 : decode cX3_restore 28 = .ok (.ireturn, 1) := by decide +kernel
theorem dX3_restore_29 : decode cX3_restore 29 = .ok (.iconst 1, 1) := by decide +kernel
theorem dX3_restore_30 : decode cX3_restore 30 = .ok (.istore_n 2, 1) := by decide +kernel
theorem dX3_restore_31 : decode cX3_restore 31 = .ok (.aload_n 0, 1) := by decide +kernel
theorem dX3_restore_32 : decode cX3_restore 32 = .ok (.getfield 59, 3) := by decide +kernel
theorem dX3_restore_35 : decode cX3_restore 35 = .ok (.iload_n 2, 1) := by decide +kernel
theorem dX3_restore_36 : decode cX3_restore 36 = .ok (.iaload, 1) := by decide +kernel
theorem dX3_restore_37 : decode cX3_restore 37 = .ok (.iload_n 1, 1) := by decide +kernel
theorem dX3_restore_38 : decode cX3_restore 38 = .ok (.if_icmp .eq 9, 3) := by decide +kernel
theorem dX3_restore_41 : decode cX3_restore 41 = .ok (.iinc 2 1, 3) := by decide +kernel
theorem dX3_restore_44 : decode cX3_restore 44 = .ok (.goto (-13), 3) := by decide +kernel
theorem dX3_restore_47 : decode cX3_restore 47 = .ok (.aload_n 0, 1) := by decide +kernel
theorem dX3_restore_48 : decode cX3_restore 48 = .ok (.iload_n 2, 1) := by decide +kernel
theorem dX3_restore_49 : decode cX3_restore 49 = .ok (.iconst 0, 1) := by decide +kernel
theorem dX3_restore_50 : decode cX3_restore 50 = .ok (.invokevirtual 83, 3) := by decide +kernel
theorem dX3_restore_53 : decode cX3_restore 53 = .ok (.aload_n 0, 1) := by decide +kernel
theorem dX3_restore_54 : decode cX3_restore 54 = .ok (.iload_n 1, 1) := by decide +kernel
theorem dX3_restore_55 : decode cX3_restore 55 = .ok (.putfield 7, 3) := by decide +kernel
theorem dX3_restore_58 : decode cX3_restore 58 = .ok (.aload_n 0, 1) := by decide +kernel
theorem dX3_restore_59 : decode cX3_restore 59 = .ok (.aload_n 0, 1) := by decide +kernel
theorem dX3_restore_60 : decode cX3_restore 60 = .ok (.getfield 62, 3) := by decide +kernel
theorem dX3_restore_63 : decode cX3_restore 63 = .ok (.iload_n 2, 1) := by decide +kernel
theorem dX3_restore_64 : decode cX3_restore 64 = .ok (.iaload, 1) := by decide +kernel
theorem dX3_restore_65 : decode cX3_restore 65 = .ok (.putfield 13, 3) := by decide +kernel
theorem dX3_restore_68 : decode cX3_restore 68 = .ok (.aload_n 0, 1) := by decide +kernel
theorem dX3_restore_69 : decode cX3_restore 69 = .ok (.iload_n 2, 1) := by decide +kernel
theorem dX3_restore_70 : decode cX3_restore 70 = .ok (.iconst 1, 1) := by decide +kernel
theorem dX3_restore_71 : decode cX3_restore 71 = .ok (.isub, 1) := by decide +kernel
theorem dX3_restore_72 : decode cX3_restore 72 = .ok (.putfield 80, 3) := by decide +kernel
theorem dX3_restore_75 : decode cX3_restore 75 = .ok (.aload_n 0, 1) := by decide +kernel
theorem dX3_restore_76 : decode cX3_restore 76 = .ok (.getfield 7, 3) := by decide +kernel
theorem dX3_restore_79 : decode cX3_restore 79 = .ok (.ireturn, 1) := by decide +kernel
theorem dJx00060_init_a7421_0 : decode cJx00060_init_a7421 0 = .ok (.aload_n 0, 1) := by decide +kernel
theorem dJx00060_init_a7421_1 : decode cJx00060_init_a7421 1 = .ok (.aload_n 1, 1) := by decide +kernel
theorem dJx00060_init_a7421_2 : decode cJx00060_init_a7421 2 = .ok (.invokespecial 7, 3) := by decide +kernel
theorem dJx00060_init_a7421_5 : decode cJx00060_init_a7421 5 = .ok (.return_, 1) := by decide +kernel
theorem dJ9_max_7cf53_0 : decode cJ9_max_7cf53 0 = .ok (.iload_n 0, 1) := by decide +kernel
theorem dJ9_max_7cf53_1 : decode cJ9_max_7cf53 1 = .ok (.iload_n 1, 1) := by decide +kernel
theorem dJ9_max_7cf53_2 : decode cJ9_max_7cf53 2 = .ok (.if_icmp .lt 7, 3) := by decide +kernel
theorem dJ9_max_7cf53_5 : decode cJ9_max_7cf53 5 = .ok (.iload_n 0, 1) := by decide +kernel
theorem dJ9_max_7cf53_6 : decode cJ9_max_7cf53 6 = .ok (.goto 4, 3) := by decide +kernel
theorem dJ9_max_7cf53_9 : decode cJ9_max_7cf53 9 = .ok (.iload_n 1, 1) := by decide +kernel
theorem dJ9_max_7cf53_10 : decode cJ9_max_7cf53 10 = .ok (.ireturn, 1) := by decide +kernel
theorem dJ9_min_7cf53_0 : decode cJ9_min_7cf53 0 = .ok (.iload_n 0, 1) := by decide +kernel
theorem dJ9_min_7cf53_1 : decode cJ9_min_7cf53 1 = .ok (.iload_n 1, 1) := by decide +kernel
theorem dJ9_min_7cf53_2 : decode cJ9_min_7cf53 2 = .ok (.if_icmp .gt 7, 3) := by decide +kernel
theorem dJ9_min_7cf53_5 : decode cJ9_min_7cf53 5 = .ok (.iload_n 0, 1) := by decide +kernel
theorem dJ9_min_7cf53_6 : decode cJ9_min_7cf53 6 = .ok (.goto 4, 3) := by decide +kernel
theorem dJ9_min_7cf53_9 : decode cJ9_min_7cf53 9 = .ok (.iload_n 1, 1) := by decide +kernel
theorem dJ9_min_7cf53_10 : decode cJ9_min_7cf53 10 = .ok (.ireturn, 1) := by decide +kernel
theorem dJ7_copyOf_59c91_0 : decode cJ7_copyOf_59c91 0 = .ok (.iload_n 1, 1) := by decide +kernel
theorem dJ7_copyOf_59c91_1 : decode cJ7_copyOf_59c91 1 = .ok (.aload_n 0, 1) := by decide +kernel
theorem dJ7_copyOf_59c91_2 : decode cJ7_copyOf_59c91 2 = .ok (.arraylength, 1) := by decide +kernel
theorem dJ7_copyOf_59c91_3 : decode cJ7_copyOf_59c91 3 = .ok (.if_icmp .ne 11, 3) := by decide +kernel
theorem dJ7_copyOf_59c91_6 : decode cJ7_copyOf_59c91 6 = .ok (.aload_n 0, 1) := by decide +kernel
theorem dJ7_copyOf_59c91_7 : decode cJ7_copyOf_59c91 7 = .ok (.invokevirtual 316, 3) := by decide +kernel
theorem dJ7_copyOf_59c91_10 : decode cJ7_copyOf_59c91 10 = .ok (.checkcast 317, 3) := by decide +kernel
theorem dJ7_copyOf_59c91_13 : decode cJ7_copyOf_59c91 13 = .ok (.areturn, 1) := by decide +kernel
theorem dJ7_copyOf_59c91_14 : decode cJ7_copyOf_59c91 14 = .ok (.iload_n 1, 1) := by decide +kernel
theorem dJ7_copyOf_59c91_15 : decode cJ7_copyOf_59c91 15 = .ok (.newarray .int, 2) := by decide +kernel
theorem dJ7_copyOf_59c91_17 : decode cJ7_copyOf_59c91 17 = .ok (.astore_n 2, 1) := by decide +kernel
theorem dJ7_copyOf_59c91_18 : decode cJ7_copyOf_59c91 18 = .ok (.aload_n 0, 1) := by decide +kernel
theorem dJ7_copyOf_59c91_19 : decode cJ7_copyOf_59c91 19 = .ok (.iconst 0, 1) := by decide +kernel
theorem dJ7_copyOf_59c91_20 : decode cJ7_copyOf_59c91 20 = .ok (.aload_n 2, 1) := by decide +kernel
theorem dJ7_copyOf_59c91_21 : decode cJ7_copyOf_59c91 21 = .ok (.iconst 0, 1) := by decide +kernel
theorem dJ7_copyOf_59c91_22 : decode cJ7_copyOf_59c91 22 = .ok (.aload_n 0, 1) := by decide +kernel
theorem dJ7_copyOf_59c91_23 : decode cJ7_copyOf_59c91 23 = .ok (.arraylength, 1) := by decide +kernel
theorem dJ7_copyOf_59c91_24 : decode cJ7_copyOf_59c91 24 = .ok (.iload_n 1, 1) := by decide +kernel
theorem dJ7_copyOf_59c91_25 : decode cJ7_copyOf_59c91 25 = .ok (.invokestatic 304, 3) := by decide +kernel
theorem dJ7_copyOf_59c91_28 : decode cJ7_copyOf_59c91 28 = .ok (.invokestatic 150, 3) := by decide +kernel
theorem dJ7_copyOf_59c91_31 : decode cJ7_copyOf_59c91 31 = .ok (.aload_n 2, 1) := by decide +kernel
theorem dJ7_copyOf_59c91_32 : decode cJ7_copyOf_59c91 32 = .ok (.areturn, 1) := by decide +kernel
end
section
/-! my own base: one table of array kinds, contracts that only read, their calls -/
abbrev tyA (Y : Nat → ClassId) : List (ClassId × FieldType) := [(Y 0, .int), (Y 1, .byte), (Y 2, .boolean), (Y 3, .long), (Y 4, .object "ObjectRows$Changing")]
def rdPc (D : va_G) (Y : Nat → ClassId) (av : List Value) (wW : va_W) : Array Value → State → Prop := va_Pc av (fun U => va_P D vwCl wW U.heap ∧ va_K D vwCl (tyA Y) U)
theorem rdPc_blind {D : va_G} {Y : Nat → ClassId} {av : List Value} {wW : va_W} : FrameBlind (rdPc D Y av wW) := fun a U g mk q => ⟨q.1, q.2.1, va_K.moved (u := U) (U := U.calling g mk a) (Vm.Alike.refl U.vm) q.2.2⟩
def stPc (av : List Value) : Array Value → State → Prop := va_Pc av (fun _ => True)
theorem stPc_blind {av : List Value} : FrameBlind (stPc av) := fun _ _ _ _ q => q
/-- true and false as the machine has them -/
def bI (b : Bool) : Int32 := if b = true then 1 else 0
theorem bI_t {b : Bool} (h : b = true) : bI b = 1 := by rw [h]; rfl
theorem bI_f {b : Bool} (h : b = false) : bI b = 0 := by rw [h]; rfl
section RdOf
variable {l : Launch} {y : MethodName} {ws ws' : List Cond} {rm : Room} {D : va_G} {Y : Nat → ClassId} {av : List Value} {wW : va_W} {Qc : Array Value → State → Outcome → State → Prop} {mc ms : Nat} {free : Addr → Prop} {cc : ByteArray} {maxL : Nat} {ret : Option FieldType}
theorem rdOf {own : String} (hy : plainName y.cls = true) (hw : ws = Cond.code y cc maxL ret :: ws') (hc : y.cls = own) (hav : (lg_sl av).length ≤ maxL)
    (body : ∀ (p : Program) (e : Env) (s : State) (m : MethodId) (below : List Frame) (meth : Method) (c : Code) (ls : Array Slot), p.tables.exec = Jvm.exec → c.code = cc → meth.sig.returnType = ret → (∀ w ∈ ws, w.before av.toArray s = true) → s.vm.findClass own = some m.cls → c.maxLocals = maxL → meth.locks = false → va_P D vwCl wW s.heap → va_K D vwCl (tyA Y) s → lv_has ls maxL (lv_args 0 av) → W p l e rm s m av.toArray below meth c s.heap [] 0 0 (MQ below Qc av.toArray s mc ms free) (F0 m 0 ls [])) : Met l y ws rm (rdPc D Y av wW) Qc mc ms free := by
  refine Met.ofW (cc := cc) (maxL := maxL) (ret := ret) hy hw ?_
  intro p e s m args below meth c s₁ B hml hv
  obtain ⟨rfl, hP, hK⟩ := hv
  have hown : s.vm.findClass y.cls = some m.cls := findClass_of_methodNamed B.named
  rw [lg_entry_eq]
  exact body p e s m below meth c _ B.exec B.bytes B.returns (atoms_spec (ws := ws) B.pre) (hc ▸ hown) hml B.notSynchronized hP hK (lv_entry av hav)
theorem stOf {own : String} (hy : plainName y.cls = true) (hw : ws = Cond.code y cc maxL ret :: ws') (hc : y.cls = own) (hav : (lg_sl av).length ≤ maxL)
    (body : ∀ (p : Program) (e : Env) (s : State) (m : MethodId) (below : List Frame) (meth : Method) (c : Code) (ls : Array Slot), p.tables.exec = Jvm.exec → c.code = cc → meth.sig.returnType = ret → (∀ w ∈ ws, w.before av.toArray s = true) → s.vm.findClass own = some m.cls → c.maxLocals = maxL → meth.locks = false → lv_has ls maxL (lv_args 0 av) → W p l e rm s m av.toArray below meth c s.heap [] 0 0 (MQ below Qc av.toArray s mc ms free) (F0 m 0 ls [])) : Met l y ws rm (stPc av) Qc mc ms free := by
  refine Met.ofW (cc := cc) (maxL := maxL) (ret := ret) hy hw ?_
  intro p e s m args below meth c s₁ B hml hv
  obtain ⟨rfl, -⟩ := hv
  have hown : s.vm.findClass y.cls = some m.cls := findClass_of_methodNamed B.named
  rw [lg_entry_eq]
  exact body p e s m below meth c _ B.exec B.bytes B.returns (atoms_spec (ws := ws) B.pre) (hc ▸ hown) hml B.notSynchronized (lv_entry av hav)
end RdOf
section RdCall
variable {p : Program} {l : Launch} {e : Env} {R : Room} {s : State} {m : MethodId} {args : Array Value} {below : List Frame} {meth : Method} {c : Code} {H : Heap} {locs : List Loc} {cells slots : Nat} {Q : State → Prop}
variable {y : MethodName} {bytes cc : ByteArray} {maxL nL n index : Nat} {ret : Option FieldType} {ws : List Cond} {rm : Room} {Ts : List Cond} {own C : String} {b : Addr} {As rest st0 : List Value} {pc : Nat} {ls : Array Slot} {D : va_G} {Y : Nat → ClassId} {wW : va_W}
theorem rcI {post : Int32 → Prop} (S : CallFix p m c cc nL s args Ts own) (hM : Met l y ws rm (rdPc D Y (.ref b :: As) wW) (vp_Si post) 0 0 (fun _ => False)) (cw : CallW R s args own C index y bytes maxL ret ws rm 0 0 n) (hP : va_P D vwCl wW H) (hK : va_K D vwCl (tyA Y) s) (q0 ci : Nat) {T : u_T} {N : Nat} {fs : List Value} (he : wW[q0]? = some (b, .inr (ci, fs))) (hc : vwCl[ci]? = some (C, T, N)) (hn : As.length = n) (hsize : ls.size = nL) (hstack : st0 = As.reverse ++ .ref b :: rest) (hW : (rest.map fun v => v.category).sum ≤ 8) (hdg : decode cc pc = .ok (.invokevirtual index, 3)) (hf : cells ≤ R.cells ∧ slots ≤ R.slots)
    (kk : ∀ r : Int32, post r → W p l e R s m args below meth c H locs cells slots Q (F0 m (pc + 3) ls (.int r :: rest))) : W p l e R s m args below meth c H locs cells slots Q (F0 m pc ls st0) :=
  vp_callSi (va_runV (As := As) (rest := rest) S hM cw ⟨rdPc_blind, va_recv hK hP hc he, fun U hU hWm => ⟨rfl, by rw [hU]; exact hP, va_K.moved hWm.alike hK⟩⟩ rfl hn hsize hstack (lv_room hW) hdg hf).run kk
theorem rcL {post : Int64 → Prop} (S : CallFix p m c cc nL s args Ts own) (hM : Met l y ws rm (rdPc D Y (.ref b :: As) wW) (vp_Sl post) 0 0 (fun _ => False)) (cw : CallW R s args own C index y bytes maxL ret ws rm 0 0 n) (hP : va_P D vwCl wW H) (hK : va_K D vwCl (tyA Y) s) (q0 ci : Nat) {T : u_T} {N : Nat} {fs : List Value} (he : wW[q0]? = some (b, .inr (ci, fs))) (hc : vwCl[ci]? = some (C, T, N)) (hn : As.length = n) (hsize : ls.size = nL) (hstack : st0 = As.reverse ++ .ref b :: rest) (hW : (rest.map fun v => v.category).sum ≤ 8) (hdg : decode cc pc = .ok (.invokevirtual index, 3)) (hf : cells ≤ R.cells ∧ slots ≤ R.slots)
    (kk : ∀ r : Int64, post r → W p l e R s m args below meth c H locs cells slots Q (F0 m (pc + 3) ls (.long r :: rest))) : W p l e R s m args below meth c H locs cells slots Q (F0 m pc ls st0) :=
  vp_callSl (va_runV (As := As) (rest := rest) S hM cw ⟨rdPc_blind, va_recv hK hP hc he, fun U hU hWm => ⟨rfl, by rw [hU]; exact hP, va_K.moved hWm.alike hK⟩⟩ rfl hn hsize hstack (lv_room hW) hdg hf).run kk
theorem rcR {post : Nat → Prop} (S : CallFix p m c cc nL s args Ts own) (hM : Met l y ws rm (rdPc D Y (.ref b :: As) wW) (va_Sr post (fun a => Value.ref a)) 0 0 (fun _ => False)) (cw : CallW R s args own C index y bytes maxL ret ws rm 0 0 n) (hP : va_P D vwCl wW H) (hK : va_K D vwCl (tyA Y) s) (q0 ci : Nat) {T : u_T} {N : Nat} {fs : List Value} (he : wW[q0]? = some (b, .inr (ci, fs))) (hc : vwCl[ci]? = some (C, T, N)) (hn : As.length = n) (hsize : ls.size = nL) (hstack : st0 = As.reverse ++ .ref b :: rest) (hW : (rest.map fun v => v.category).sum ≤ 8) (hdg : decode cc pc = .ok (.invokevirtual index, 3)) (hf : cells ≤ R.cells ∧ slots ≤ R.slots)
    (kk : ∀ r : Nat, post r → W p l e R s m args below meth c H locs cells slots Q (F0 m (pc + 3) ls (.ref r :: rest))) : W p l e R s m args below meth c H locs cells slots Q (F0 m pc ls st0) :=
  va_csr (va_runV (As := As) (rest := rest) S hM cw ⟨rdPc_blind, va_recv hK hP hc he, fun U hU hWm => ⟨rfl, by rw [hU]; exact hP, va_K.moved hWm.alike hK⟩⟩ rfl hn hsize hstack (lv_room hW) hdg hf).run kk
theorem scI {post : Int32 → Prop} (S : CallFix p m c cc nL s args Ts own) (hM : Met l y ws rm (stPc As) (vp_Si post) 0 0 (fun _ => False)) (cw : CallB R s args own index y bytes maxL ret ws rm 0 0 n ∧ (Cond.static y).before args s = true) (hn : As.length = n) (hsize : ls.size = nL) (hstack : st0 = As.reverse ++ rest) (hW : (rest.map fun v => v.category).sum ≤ 8) (hdg : decode cc pc = .ok (.invokestatic index, 3)) (hf : cells ≤ R.cells ∧ slots ≤ R.slots)
    (kk : ∀ r : Int32, post r → W p l e R s m args below meth c H locs cells slots Q (F0 m (pc + 3) ls (.int r :: rest))) : W p l e R s m args below meth c H locs cells slots Q (F0 m pc ls st0) :=
  vp_callSi (va_runS (As := As) (rest := rest) S hM cw ⟨stPc_blind, fun U hU hWm => ⟨rfl, trivial⟩⟩ rfl hn hsize hstack (lv_room hW) hdg hf).run kk
theorem scL {post : Int64 → Prop} (S : CallFix p m c cc nL s args Ts own) (hM : Met l y ws rm (stPc As) (vp_Sl post) 0 0 (fun _ => False)) (cw : CallB R s args own index y bytes maxL ret ws rm 0 0 n ∧ (Cond.static y).before args s = true) (hn : As.length = n) (hsize : ls.size = nL) (hstack : st0 = As.reverse ++ rest) (hW : (rest.map fun v => v.category).sum ≤ 8) (hdg : decode cc pc = .ok (.invokestatic index, 3)) (hf : cells ≤ R.cells ∧ slots ≤ R.slots)
    (kk : ∀ r : Int64, post r → W p l e R s m args below meth c H locs cells slots Q (F0 m (pc + 3) ls (.long r :: rest))) : W p l e R s m args below meth c H locs cells slots Q (F0 m pc ls st0) :=
  vp_callSl (va_runS (As := As) (rest := rest) S hM cw ⟨stPc_blind, fun U hU hWm => ⟨rfl, trivial⟩⟩ rfl hn hsize hstack (lv_room hW) hdg hf).run kk
end RdCall
section RdEnd
variable {p : Program} {l : Launch} {e : Env} {R : Room} {s : State} {m : MethodId} {args : Array Value} {below : List Frame} {meth : Method} {c : Code} {cc : ByteArray} {pc : Nat} {ls : Array Slot}
theorem reI {post : Int32 → Prop} {v : Int32} (hx : p.tables.exec = Jvm.exec) (hb : c.code = cc) (hr : meth.sig.returnType = some .int) (hlocks : meth.locks = false) (hd : decode cc pc = .ok (.ireturn, 1)) (h : post v) : W p l e R s m args below meth c s.heap [] 0 0 (MQ below (vp_Si post) args s 0 0 (fun _ => False)) (F0 m pc ls [.int v]) :=
  W.iret hx hb hr (fun _ ht _ => ⟨v, rfl, h, ht⟩) (fun _ h => by cases h) hd hlocks
theorem reZ {post : Int32 → Prop} {v : Int32} (hx : p.tables.exec = Jvm.exec) (hb : c.code = cc) (hr : meth.sig.returnType = some .boolean) (hlocks : meth.locks = false) (hd : decode cc pc = .ok (.ireturn, 1)) (hz : v = 0 ∨ v = 1) (h : post v) : W p l e R s m args below meth c s.heap [] 0 0 (MQ below (vp_Si post) args s 0 0 (fun _ => False)) (F0 m pc ls [.int v]) :=
  W.zret hx hb hr (by rcases hz with rfl | rfl <;> rfl) (fun _ ht _ => ⟨v, rfl, h, ht⟩) (fun _ h => by cases h) hd hlocks
theorem reL {post : Int64 → Prop} {v : Int64} (hx : p.tables.exec = Jvm.exec) (hb : c.code = cc) (hr : meth.sig.returnType = some .long) (hlocks : meth.locks = false) (hd : decode cc pc = .ok (.lreturn, 1)) (h : post v) : W p l e R s m args below meth c s.heap [] 0 0 (MQ below (vp_Sl post) args s 0 0 (fun _ => False)) (F0 m pc ls [.long v]) :=
  W.lret hx hb hr (fun _ ht _ => ⟨v, rfl, h, ht⟩) (fun _ h => by cases h) hd hlocks
theorem reR {post : Nat → Prop} {v : Nat} {C : String} (hx : p.tables.exec = Jvm.exec) (hb : c.code = cc) (hr : meth.sig.returnType = some (.object C)) (hlocks : meth.locks = false) (hd : decode cc pc = .ok (.areturn, 1)) (h : post v) : W p l e R s m args below meth c s.heap [] 0 0 (MQ below (va_Sr post (fun a => Value.ref a)) args s 0 0 (fun _ => False)) (F0 m pc ls [.ref v]) :=
  W.aret hx hb hr (Or.inl ⟨_, rfl⟩) (Or.inr ⟨v, rfl⟩) (fun _ ht _ => ⟨v, rfl, h, ht⟩) (fun _ h => by cases h) hd hlocks
end RdEnd
/-! a row of the class: the address of its cells, how many there are, what they hold, the size -/
abbrev RV : Type := Nat × Nat × (Nat → Int32) × Nat
abbrev rA (r : RV) : Nat := r.1
abbrev rN (r : RV) : Nat := r.2.1
abbrev rF (r : RV) : Nat → Int32 := r.2.2.1
abbrev rZ (r : RV) : Nat := r.2.2.2
abbrev rW (Y : Nat → ClassId) (h : Nat) (r : RV) : va_W := [(h, .inr (2, [.ref (rA r), .int (nI (rZ r))])), (rA r, .inl (Y 0, rN r, .inl (rF r)))]
/-- what lies behind the cells is 0; the size fits -/
def rOK (r : RV) : Prop := rN r < 1000000 ∧ (∀ j, rN r ≤ j → rF r j = 0) ∧ rZ r ≤ rN r
/-- reading at any place -/
def rd (f : Nat → Int32) (i : Int32) : Int32 := if i < 0 then 0 else f i.toNatClampNeg
/-! the whole object: its own address, now's, kept's, the rows' addresses, the rows, count, saves, storage -/
abbrev OS : Type := (Nat × Nat × Nat) × (Nat → Nat) × (Nat → RV) × (Int32 × Int32 × Int32)
abbrev oO (t : OS) : Nat := t.1.1
abbrev oNow (t : OS) : Nat := t.1.2.1
abbrev oKp (t : OS) : Nat := t.1.2.2
abbrev oH (t : OS) (k : Nat) : Nat := t.2.1 k
abbrev oR (t : OS) (k : Nat) : RV := t.2.2.1 k
abbrev oCnt (t : OS) : Int32 := t.2.2.2.1
abbrev oSv (t : OS) : Int32 := t.2.2.2.2.1
abbrev oSto (t : OS) : Int32 := t.2.2.2.2.2
abbrev oW (Y : Nat → ClassId) (t : OS) : va_W := [(oO t, .inr (3, [.ref (oH t 0), .ref (oH t 1), .ref (oH t 2), .ref (oH t 3), .ref (oH t 4), .ref (oH t 5), .ref (oNow t), .ref (oKp t), .int (oCnt t), .int (oSv t)])), (oNow t, .inr (1, [.ref (oH t 6), .ref (oH t 7), .ref (oH t 8), .ref (oH t 9), .ref (oH t 10), .ref (oH t 11), .int (oSto t)])),
  (oH t 0, .inr (2, [.ref (rA (oR t 0)), .int (nI (rZ (oR t 0)))])), (rA (oR t 0), .inl (Y 0, rN (oR t 0), .inl (rF (oR t 0)))), (oH t 1, .inr (2, [.ref (rA (oR t 1)), .int (nI (rZ (oR t 1)))])), (rA (oR t 1), .inl (Y 0, rN (oR t 1), .inl (rF (oR t 1)))), (oH t 2, .inr (2, [.ref (rA (oR t 2)), .int (nI (rZ (oR t 2)))])), (rA (oR t 2), .inl (Y 0, rN (oR t 2), .inl (rF (oR t 2)))), (oH t 3, .inr (2, [.ref (rA (oR t 3)), .int (nI (rZ (oR t 3)))])), (rA (oR t 3), .inl (Y 0, rN (oR t 3), .inl (rF (oR t 3)))),
  (oH t 4, .inr (2, [.ref (rA (oR t 4)), .int (nI (rZ (oR t 4)))])), (rA (oR t 4), .inl (Y 0, rN (oR t 4), .inl (rF (oR t 4)))), (oH t 5, .inr (2, [.ref (rA (oR t 5)), .int (nI (rZ (oR t 5)))])), (rA (oR t 5), .inl (Y 0, rN (oR t 5), .inl (rF (oR t 5)))), (oH t 6, .inr (2, [.ref (rA (oR t 6)), .int (nI (rZ (oR t 6)))])), (rA (oR t 6), .inl (Y 0, rN (oR t 6), .inl (rF (oR t 6)))), (oH t 7, .inr (2, [.ref (rA (oR t 7)), .int (nI (rZ (oR t 7)))])), (rA (oR t 7), .inl (Y 0, rN (oR t 7), .inl (rF (oR t 7)))),
  (oH t 8, .inr (2, [.ref (rA (oR t 8)), .int (nI (rZ (oR t 8)))])), (rA (oR t 8), .inl (Y 0, rN (oR t 8), .inl (rF (oR t 8)))), (oH t 9, .inr (2, [.ref (rA (oR t 9)), .int (nI (rZ (oR t 9)))])), (rA (oR t 9), .inl (Y 0, rN (oR t 9), .inl (rF (oR t 9)))), (oH t 10, .inr (2, [.ref (rA (oR t 10)), .int (nI (rZ (oR t 10)))])), (rA (oR t 10), .inl (Y 0, rN (oR t 10), .inl (rF (oR t 10)))), (oH t 11, .inr (2, [.ref (rA (oR t 11)), .int (nI (rZ (oR t 11)))])), (rA (oR t 11), .inl (Y 0, rN (oR t 11), .inl (rF (oR t 11))))]
def oOK (t : OS) : Prop := ∀ k, k < 12 → rOK (oR t k)
theorem oWr0 {D : va_G} {Y : Nat → ClassId} {t : OS} {H : Heap} (hP : va_P D vwCl (oW Y t) H) : va_P D vwCl (rW Y (oH t 0) (oR t 0)) H := hP.sub [2, 3] rfl
theorem oWr1 {D : va_G} {Y : Nat → ClassId} {t : OS} {H : Heap} (hP : va_P D vwCl (oW Y t) H) : va_P D vwCl (rW Y (oH t 1) (oR t 1)) H := hP.sub [4, 5] rfl
theorem oWr2 {D : va_G} {Y : Nat → ClassId} {t : OS} {H : Heap} (hP : va_P D vwCl (oW Y t) H) : va_P D vwCl (rW Y (oH t 2) (oR t 2)) H := hP.sub [6, 7] rfl
theorem oWr3 {D : va_G} {Y : Nat → ClassId} {t : OS} {H : Heap} (hP : va_P D vwCl (oW Y t) H) : va_P D vwCl (rW Y (oH t 3) (oR t 3)) H := hP.sub [8, 9] rfl
theorem oWr4 {D : va_G} {Y : Nat → ClassId} {t : OS} {H : Heap} (hP : va_P D vwCl (oW Y t) H) : va_P D vwCl (rW Y (oH t 4) (oR t 4)) H := hP.sub [10, 11] rfl
theorem oWr5 {D : va_G} {Y : Nat → ClassId} {t : OS} {H : Heap} (hP : va_P D vwCl (oW Y t) H) : va_P D vwCl (rW Y (oH t 5) (oR t 5)) H := hP.sub [12, 13] rfl
theorem oWr6 {D : va_G} {Y : Nat → ClassId} {t : OS} {H : Heap} (hP : va_P D vwCl (oW Y t) H) : va_P D vwCl (rW Y (oH t 6) (oR t 6)) H := hP.sub [14, 15] rfl
theorem oWr7 {D : va_G} {Y : Nat → ClassId} {t : OS} {H : Heap} (hP : va_P D vwCl (oW Y t) H) : va_P D vwCl (rW Y (oH t 7) (oR t 7)) H := hP.sub [16, 17] rfl
theorem oWr8 {D : va_G} {Y : Nat → ClassId} {t : OS} {H : Heap} (hP : va_P D vwCl (oW Y t) H) : va_P D vwCl (rW Y (oH t 8) (oR t 8)) H := hP.sub [18, 19] rfl
theorem oWr9 {D : va_G} {Y : Nat → ClassId} {t : OS} {H : Heap} (hP : va_P D vwCl (oW Y t) H) : va_P D vwCl (rW Y (oH t 9) (oR t 9)) H := hP.sub [20, 21] rfl
theorem oWr10 {D : va_G} {Y : Nat → ClassId} {t : OS} {H : Heap} (hP : va_P D vwCl (oW Y t) H) : va_P D vwCl (rW Y (oH t 10) (oR t 10)) H := hP.sub [22, 23] rfl
theorem oWr11 {D : va_G} {Y : Nat → ClassId} {t : OS} {H : Heap} (hP : va_P D vwCl (oW Y t) H) : va_P D vwCl (rW Y (oH t 11) (oR t 11)) H := hP.sub [24, 25] rfl
section TblD
variable {p : Program} {l : Launch} {e : Env} {R : Room} {s : State} {m : MethodId} {args : Array Value} {below : List Frame} {meth : Method} {c : Code} {H : Heap} {locs : List Loc} {cells slots : Nat} {Q : State → Prop} {cc : ByteArray} {pc : Nat} {ls : Array Slot} {rest : List Value}
theorem tblD {x : Int32} {lo hi dflt : Int} {offs : Array Int} {ks : List Int} (hall : ∀ j, j < offs.size → offs[j]? = some dflt ∨ (lo + (j : Int)) ∈ ks) (h : ∀ k ∈ ks, x.toInt ≠ k) (hsz : hi + 1 = lo + (offs.size : Int)) : (x.toInt < lo ∨ hi < x.toInt) ∨ (¬ x.toInt < lo ∧ ¬ hi < x.toInt ∧ offs[(x.toInt - lo).toNat]? = some dflt) := by
  by_cases h1 : x.toInt < lo
  · exact Or.inl (Or.inl h1)
  · by_cases h2 : hi < x.toInt
    · exact Or.inl (Or.inr h2)
    · refine Or.inr ⟨h1, h2, ?_⟩
      rcases hall (x.toInt - lo).toNat (by omega) with q | q
      · exact q
      · exact absurd (by omega) (h _ q)
theorem lv_tableD (hexec : p.tables.exec = Jvm.exec) (hb : c.code = cc) {dflt lo hi : Int} {offs : Array Int} {len : Nat} {x : Int32} {tgt : Nat} (hdg : decode cc pc = .ok (.tableswitch dflt lo hi offs, len)) (h : (x.toInt < lo ∨ hi < x.toInt) ∨ (¬ x.toInt < lo ∧ ¬ hi < x.toInt ∧ offs[(x.toInt - lo).toNat]? = some dflt)) (ht : (pc : Int) + dflt = (tgt : Int))
    (k : W p l e R s m args below meth c H locs cells slots Q (F0 m tgt ls rest)) : W p l e R s m args below meth c H locs cells slots Q (F0 m pc ls (.int x :: rest)) := by
  rcases h with h | ⟨h1, h2, h3⟩
  · exact lv_tableOut hexec hb hdg h ht k
  · exact lv_tableIn hexec hb hdg h1 h2 h3 ht k
end TblD
end
section
/-! what the class's reading methods answer, as functions of the object's picture -/
theorem bI_01 (b : Bool) : bI b = 0 ∨ bI b = 1 := by cases b <;> simp [bI]
theorem neI {x k : Int32} {a : Int} (h : ¬ x = k) (hk : k.toInt = a) : x.toInt ≠ a := fun e => h (Int32.toInt_inj.mp (e.trans hk.symm))
theorem inbR {i : Int32} {n : Nat} (hn : n < 1000000) (h1 : ¬ i < 0) (h2 : ¬ nI n ≤ i) : vp_in i n := by
  obtain ⟨j, hj, rfl⟩ := nI_of h1
  exact vp_in_nI (by rcases Nat.lt_or_ge j n with q | q; exact q; exact absurd (nI_le q hj) h2) (by omega)
theorem rd_out {r : RV} {i : Int32} (h : rOK r) (h1 : ¬ i < 0) (h2 : nI (rN r) ≤ i) : rd (rF r) i = 0 := by
  obtain ⟨j, hj, rfl⟩ := nI_of h1
  rw [rd, if_neg h1, nI_clamp hj]
  exact h.2.1 j ((nI_leI (by have := h.1; omega) hj).mp h2)
theorem mstep {M z y : Int32} {n : Nat} (c : ¬ M ≤ z) (h : (M.toInt - z.toInt).toNat < n + 1) (e : y = z + 1) : (M.toInt - y.toInt).toNat < n := by
  subst e
  have h1 : z.toInt < M.toInt := by
    have := Int32.not_le.mp c
    exact Int32.lt_iff_toInt_lt.mp this
  have h2 : (z + 1).toInt = z.toInt + 1 := by
    rw [Int32.toInt_add, show (1 : Int32).toInt = 1 from rfl]
    have a1 := z.toInt_lt
    have a2 := z.le_toInt
    have a3 := M.toInt_lt
    rw [Int.bmod_eq_of_le (by omega) (by omega)]
  rw [h2]
  omega
def kd (t : OS) (x : Int32) : Int32 := rd (rF (oR t 0)) x
def nu (t : OS) (x : Int32) : Int32 := rd (rF (oR t 1)) x
def ow (t : OS) (x : Int32) : Int32 := rd (rF (oR t 2)) x
def sta (t : OS) (x : Int32) : Int32 := rd (rF (oR t 3)) x
def len (t : OS) (x : Int32) : Int32 := rd (rF (oR t 4)) x
def rdB (t : OS) (x : Int32) : Int32 := rd (rF (oR t 5)) x
def rdX (t : OS) (x : Int32) : Int32 := rd (rF (oR t 6)) x
def rdA (t : OS) (x : Int32) : Int32 := rd (rF (oR t 7)) x
def rdC (t : OS) (x : Int32) : Int32 := rd (rF (oR t 8)) x
def rdN (t : OS) (x : Int32) : Int32 := rd (rF (oR t 9)) x
def rdG (t : OS) (x : Int32) : Int32 := rd (rF (oR t 10)) x
def rdE (t : OS) (x : Int32) : Int32 := rd (rF (oR t 11)) x
def pKnown (t : OS) (x : Int32) : Bool := !decide (x < 0) && !decide (oCnt t ≤ x)
def pWithin (v m : Int32) : Bool := !decide (v < 0) && !decide (m < v)
def pList (k : Int32) : Bool := decide (k = 5) || decide (k = 6)
def pView (k : Int32) : Bool := decide (k = 4) || pList k
def pHasNum (k : Int32) : Bool := decide (k = 1) || decide (k = 2) || decide (k = 3) || decide (k = 9) || decide (k = 10)
def pFirst (k : Int32) : Int32 := if k = 4 ∨ k = 5 ∨ k = 7 ∨ k = 9 then 3 else if k = 6 then 2 else 0
def pPlace (k : Int32) : Int32 := if k = 4 then 1 else if k = 5 then 8 else if k = 6 then 4 else if k = 7 then 16 else 0
def pOrder (a b : Int32) : Int32 := if a = b then 1 else if b ≤ a then 2 else 0
def pDigits (n : Int32) : Int32 := if 10 ≤ n then (if 100 ≤ n then 3 else 2) else 1
def pFits (t : OS) (k z : Int32) : Bool := if k = 2 then pWithin z 1 else if k = 3 then pWithin z 999 else if k = 4 then pWithin z 64 else if k = 5 then pWithin z 32 else if k = 6 then pWithin z (if oCnt t < 32 then oCnt t else 32) else if k = 7 then pWithin z 32 else true
def pHasEl (t : OS) (x i : Int32) : Bool := !decide (i < 0) && !decide (len t x ≤ i)
def pHasPart (t : OS) (x f n : Int32) : Bool := pWithin f (len t x) && pWithin n (len t x - f)
def pStore (t : OS) (k : Int32) : Nat := if k = 4 then oH t 5 else oH t 11
def pEl (t : OS) (x i : Int32) : Int32 := if kd t x = 4 then rdB t (sta t x + i) else rdE t (sta t x + i)
def pHolder (t : OS) (x : Int32) : Int32 := if kd t x = 7 then ow t x else x
def pAcc (t : OS) (x : Int32) : Int32 := rdA t (pHolder t x)
def pRStr (t : OS) (x : Int32) : Bool := decide (kd t x = 4) && !decide (pAcc t x < 2)
def pAlikeK (t : OS) (k a b : Int32) : Bool := if k = 0 ∨ k = 8 then true else if k = 5 ∨ k = 6 then decide (ow t a = ow t b) && decide (sta t a = sta t b) && decide (len t a = len t b) else if k = 7 then decide (ow t a = ow t b) else if k = 11 then decide (a = b) else decide (nu t a = nu t b)
def pAlikeB (t : OS) (a b : Int32) : Bool := (pList (kd t a) && pList (kd t b) && decide (len t a = 0) && decide (len t b = 0)) || (decide (kd t a = kd t b) && pAlikeK t (kd t a) a b)
def pMinL (t : OS) (a b : Int32) : Int32 := if len t b < len t a then len t b else len t a
/-- the bytes of two strings from place i on, n steps at most -/
def pOrdL (t : OS) (a b : Int32) : Nat → Int32 → Int32
  | 0, _ => 0
  | n + 1, i => if pMinL t a b ≤ i then pOrder (len t a) (len t b) else if pOrder (pEl t a i) (pEl t b i) = 1 then pOrdL t a b n (i + 1) else pOrder (pEl t a i) (pEl t b i)
def pOrdB (t : OS) (a b : Int32) : Int32 := pOrdL t a b ((pMinL t a b).toInt.toNat + 1) 0
/-- the number that a string's bytes are in tens, from place i on -/
def pTenL (t : OS) (x : Int32) : Nat → Int32 → Int32 → Int32
  | 0, _, _ => 0
  | n + 1, i, v => if len t x ≤ i then v else if pWithin (pEl t x i - 48) 9 = false ∨ (0 < i ∧ v = 0) then -1 else pTenL t x n (i + 1) (v * 10 + (pEl t x i - 48))
def pTens (t : OS) (x : Int32) : Int32 := if len t x < 1 then -1 else if 3 < len t x then -1 else pTenL t x ((len t x).toInt.toNat + 1) 0 0
def pName (t : OS) (x : Int32) : Int32 := if kd t x = 3 then nu t x else if pRStr t x = true then pTens t x else -1
def pAlike (t : OS) (a b : Int32) : Bool := if kd t a = 4 ∧ kd t b = 4 then pRStr t a && pRStr t b && decide (pOrdB t a b = 1) else if kd t a = 4 ∨ kd t b = 4 then !decide (pName t a = -1) && decide (pName t a = pName t b) else pAlikeB t a b
def pKeyFor (t : OS) (x : Int32) : Int32 := if kd t x = 0 then -1 else if ¬ kd t x = 4 ∧ ¬ kd t x = 3 then x else if pName t x = -1 then -1 else 100 + pName t x
def pAlikeKeys (t : OS) (a b : Int32) : Bool := if 100 ≤ a ∨ 100 ≤ b then decide (a = b) else pAlikeB t a b
def pKeyCell (t : OS) (d p : Int32) : Int32 := sta t d + p
def pValCell (t : OS) (d p : Int32) : Int32 := sta t d + 32 + p
def pPlaceL (t : OS) (d k : Int32) : Nat → Int32 → Int32
  | 0, _ => 0
  | n + 1, p => if rdN t (ow t d) ≤ p then -1 else if pAlikeKeys t (rdE t (pKeyCell t d p)) k = true then p else pPlaceL t d k n (p + 1)
def pPlaceOf (t : OS) (d k : Int32) : Int32 := pPlaceL t d k ((rdN t (ow t d)).toInt.toNat + 1) 0
def pTold (t : OS) (x w : Int32) : Int32 := if pKnown t x = false then -1 else if w = 0 then rdX t x else if w = 1 then pAcc t x else if w = 2 then rdG t (ow t x) else if w = 3 then (if pHasNum (kd t x) = true then nu t x else 0) else if w = 4 then rdC t (ow t x) else -2
def pSame (t : OS) (a b : Int32) : Bool := pKnown t a && pKnown t b && pAlike t a b
def pCompare (t : OS) (a b : Int32) : Int32 := if pKnown t a = false then -1 else if pKnown t b = false then -1 else if kd t a = 1 ∧ kd t b = 1 then pOrder (nu t a) (nu t b) else if pRStr t a = true ∧ pRStr t b = true then pOrdB t a b else -3
def pLength (t : OS) (x : Int32) : Int32 := if pKnown t x = false then -1 else if kd t x = 3 then pDigits (nu t x) else if kd t x = 4 ∨ kd t x = 5 ∨ kd t x = 6 then len t x else if kd t x = 7 then rdN t (ow t x) else -3
def pLook (t : OS) (d k : Int32) : Int32 := if pKnown t d = false then -1 else if pKnown t k = false then -1 else if ¬ kd t d = 7 then -3 else if pAcc t d < 2 then -3 else if pKeyFor t k = -1 then -3 else if pPlaceOf t d (pKeyFor t k) = -1 then -5 else rdE t (pValCell t d (pPlaceOf t d (pKeyFor t k)))
def pKind (t : OS) (x : Int32) : Int32 := if pKnown t x = true then kd t x else -1
end
section
set_option maxHeartbeats 4000000 in
set_option maxRecDepth 100000 in
theorem c_X1_at (l : Launch) (D : va_G) (Y : Nat → ClassId) (h : Nat) (r : RV) (i : Int32) (hok : rOK r) : Met l yX1_at wsX1_at ({ frames := 0, cells := 0, slots := 0, locals := 0 }) (rdPc D Y [.ref h, .int i] (rW Y h r)) (vp_Si (fun ans => ans = rd (rF r) i)) 0 0 (fun _ => False) := by
  refine rdOf (cc := cX1_at) (maxL := 2) (ret := (some .int)) (own := RX1) (by decide) rfl rfl (Nat.le_of_ble_eq_true rfl) ?_
  intro p e s m below meth c ls hx hb hr hts hown hml hlocks hP hK hl
  have iwX1 : ∀ w ∈ u_ws RX1 TX1 2, w ∈ wsX1_at := fun _ h => List.mem_cons_of_mem _ (List.mem_append_right _ h)
  have hl : lv_has ls 2 [(0, .ref h), (1, .int i)] := hl
  refine lv_iload_n hx hb dX1_at_0 rfl (lv_at hl 1 rfl) ?_
  refine lv_if_lt (tgt := 22) hx hb dX1_at_1 (by decide) (fun c1 => ?_) (fun c1 => ?_)
  · skip
    refine lv_iconst (v := 0) hx hb dX1_at_22 (by decide) ?_
    exact reI hx hb hr hlocks dX1_at_23 (by first | (simp [rd, c1]; done) | exact (rd_out hok c1).symm)
  · skip
    refine lv_iload_n hx hb dX1_at_4 rfl (lv_at hl 1 rfl) ?_
    refine lv_aload_n hx hb dX1_at_5 rfl (lv_at hl 0 rfl) ?_
    refine va_get (D := D) (ci := 2) (v := .ref (rA r)) (C := RX1) (T := TX1) (N := 2) hx hb hts iwX1 hown hK hP 0 rfl rfl 0 (by decide) (hts (.fieldLink RX1 9 "ObjectRows$Row" "cells" "[I") (by decide +kernel)) (fun _ h9 => h9) rfl dX1_at_6 ?_
    refine va_alen (v := nI (rN r)) hx hb hK hP 1 0 rfl rfl rfl dX1_at_9 ?_
    refine lv_icmp_ge (tgt := 22) hx hb dX1_at_10 (by decide) (fun c2 => ?_) (fun c2 => ?_)
    · skip
      refine lv_iconst (v := 0) hx hb dX1_at_22 (by decide) ?_
      exact reI hx hb hr hlocks dX1_at_23 (by first | (simp [rd, c1, c2]; done) | exact (rd_out hok c1 c2).symm)
    · skip
      refine lv_aload_n hx hb dX1_at_13 rfl (lv_at hl 0 rfl) ?_
      refine va_get (D := D) (ci := 2) (v := .ref (rA r)) (C := RX1) (T := TX1) (N := 2) hx hb hts iwX1 hown hK hP 0 rfl rfl 0 (by decide) (hts (.fieldLink RX1 9 "ObjectRows$Row" "cells" "[I") (by decide +kernel)) (fun _ h9 => h9) rfl dX1_at_14 ?_
      refine lv_iload_n hx hb dX1_at_17 rfl (lv_at hl 1 rfl) ?_
      refine va_iald hx hb hK hP 1 0 rfl rfl (inbR hok.1 c1 c2) dX1_at_18 ?_
      refine lv_goto (tgt := 23) hx hb dX1_at_19 (by decide) ?_
      exact reI hx hb hr hlocks dX1_at_23 (by first | (simp [rd, c1, c2]; done) | exact (rd_out hok c1 c2).symm)
theorem hdX1_at : yX1_at.cls = RX1 ∧ yX1_at.cls ≠ "java/lang/invoke/MethodHandle" ∧ yX1_at.cls ≠ "java/lang/invoke/VarHandle" ∧ (parseMethodDescriptor yX1_at.desc).map (fun d => d.parameters.length) = some 1 := by decide +kernel
set_option maxHeartbeats 4000000 in
set_option maxRecDepth 100000 in
theorem c_X1_size (l : Launch) (D : va_G) (Y : Nat → ClassId) (h : Nat) (r : RV)   : Met l yX1_size wsX1_size ({ frames := 0, cells := 0, slots := 0, locals := 0 }) (rdPc D Y [.ref h] (rW Y h r)) (vp_Si (fun ans => ans = nI (rZ r))) 0 0 (fun _ => False) := by
  refine rdOf (cc := cX1_size) (maxL := 1) (ret := (some .int)) (own := RX1) (by decide) rfl rfl (Nat.le_of_ble_eq_true rfl) ?_
  intro p e s m below meth c ls hx hb hr hts hown hml hlocks hP hK hl
  have iwX1 : ∀ w ∈ u_ws RX1 TX1 2, w ∈ wsX1_size := fun _ h => List.mem_cons_of_mem _ (List.mem_append_right _ h)
  have hl : lv_has ls 1 [(0, .ref h)] := hl
  refine lv_aload_n hx hb dX1_size_0 rfl (lv_at hl 0 rfl) ?_
  refine va_get (D := D) (ci := 2) (v := .int (nI (rZ r))) (C := RX1) (T := TX1) (N := 2) hx hb hts iwX1 hown hK hP 0 rfl rfl 1 (by decide) (hts (.fieldLink RX1 13 "ObjectRows$Row" "size" "I") (by decide +kernel)) (fun _ h9 => h9) rfl dX1_size_1 ?_
  exact reI hx hb hr hlocks dX1_size_4 (by rfl)
theorem hdX1_size : yX1_size.cls = RX1 ∧ yX1_size.cls ≠ "java/lang/invoke/MethodHandle" ∧ yX1_size.cls ≠ "java/lang/invoke/VarHandle" ∧ (parseMethodDescriptor yX1_size.desc).map (fun d => d.parameters.length) = some 0 := by decide +kernel
set_option maxHeartbeats 4000000 in
set_option maxRecDepth 100000 in
theorem c_X2_within (l : Launch) (v : Int32) (q : Int32) : Met l yX2_within wsX2_within ({ frames := 0, cells := 0, slots := 0, locals := 0 }) (stPc [.int v, .int q]) (vp_Si (fun ans => ans = bI (pWithin v q))) 0 0 (fun _ => False) := by
  refine stOf (cc := cX2_within) (maxL := 2) (ret := (some .boolean)) (own := RX2) (by decide) rfl rfl (Nat.le_of_ble_eq_true rfl) ?_
  intro p e s m below meth c ls hx hb hr hts hown hml hlocks hl
  have hl : lv_has ls 2 [(0, .int v), (1, .int q)] := hl
  refine lv_iload_n hx hb dX2_within_0 rfl (lv_at hl 0 rfl) ?_
  refine lv_if_lt (tgt := 13) hx hb dX2_within_1 (by decide) (fun c1 => ?_) (fun c1 => ?_)
  · skip
    refine lv_iconst (v := 0) hx hb dX2_within_13 (by decide) ?_
    exact reZ hx hb hr hlocks dX2_within_14 (by first | exact Or.inl rfl | exact Or.inr rfl | exact bI_01 _ | (rename_i h9; rw [h9]; exact bI_01 _) | (subst_vars; exact bI_01 _)) (by first | (simp only [pWithin, bI, c1, decide_true, decide_false, Bool.not_true, Bool.not_false, Bool.and_true, Bool.true_and, Bool.and_false, Bool.false_and, Bool.or_true, Bool.true_or, Bool.or_false, Bool.false_or, Bool.and_self, Bool.or_self, if_true, if_false, ite_true, ite_false, Bool.false_eq_true, reduceIte, not_true_eq_false, not_false_eq_true, and_true, true_and, and_false, false_and, or_true, true_or, or_false, false_or, and_self, or_self, eq_self, decide_eq_true_eq, Bool.true_eq_false, reduceCtorEq, ne_eq]; done) | (simp [pWithin, bI, c1, Int32.not_le.mpr c1]; done))
  · skip
    refine lv_iload_n hx hb dX2_within_4 rfl (lv_at hl 0 rfl) ?_
    refine lv_iload_n hx hb dX2_within_5 rfl (lv_at hl 1 rfl) ?_
    refine lv_icmp_gt (tgt := 13) hx hb dX2_within_6 (by decide) (fun c2 => ?_) (fun c2 => ?_)
    · skip
      refine lv_iconst (v := 0) hx hb dX2_within_13 (by decide) ?_
      exact reZ hx hb hr hlocks dX2_within_14 (by first | exact Or.inl rfl | exact Or.inr rfl | exact bI_01 _ | (rename_i h9; rw [h9]; exact bI_01 _) | (subst_vars; exact bI_01 _)) (by first | (simp only [pWithin, bI, c1, c2, decide_true, decide_false, Bool.not_true, Bool.not_false, Bool.and_true, Bool.true_and, Bool.and_false, Bool.false_and, Bool.or_true, Bool.true_or, Bool.or_false, Bool.false_or, Bool.and_self, Bool.or_self, if_true, if_false, ite_true, ite_false, Bool.false_eq_true, reduceIte, not_true_eq_false, not_false_eq_true, and_true, true_and, and_false, false_and, or_true, true_or, or_false, false_or, and_self, or_self, eq_self, decide_eq_true_eq, Bool.true_eq_false, reduceCtorEq, ne_eq]; done) | (simp [pWithin, bI, c1, c2, Int32.not_lt.mp c1, Int32.not_le.mpr c2]; done))
    · skip
      refine lv_iconst (v := 1) hx hb dX2_within_9 (by decide) ?_
      refine lv_goto (tgt := 14) hx hb dX2_within_10 (by decide) ?_
      exact reZ hx hb hr hlocks dX2_within_14 (by first | exact Or.inl rfl | exact Or.inr rfl | exact bI_01 _ | (rename_i h9; rw [h9]; exact bI_01 _) | (subst_vars; exact bI_01 _)) (by first | (simp only [pWithin, bI, c1, c2, decide_true, decide_false, Bool.not_true, Bool.not_false, Bool.and_true, Bool.true_and, Bool.and_false, Bool.false_and, Bool.or_true, Bool.true_or, Bool.or_false, Bool.false_or, Bool.and_self, Bool.or_self, if_true, if_false, ite_true, ite_false, Bool.false_eq_true, reduceIte, not_true_eq_false, not_false_eq_true, and_true, true_and, and_false, false_and, or_true, true_or, or_false, false_or, and_self, or_self, eq_self, decide_eq_true_eq, Bool.true_eq_false, reduceCtorEq, ne_eq]; done) | (simp [pWithin, bI, c1, c2, Int32.not_lt.mp c1, Int32.not_lt.mp c2]; done))
theorem hdX2_within : yX2_within.cls ≠ "java/lang/invoke/MethodHandle" ∧ yX2_within.cls ≠ "java/lang/invoke/VarHandle" ∧ (parseMethodDescriptor yX2_within.desc).map (fun d => d.parameters.length) = some 2 := by decide +kernel
set_option maxHeartbeats 4000000 in
set_option maxRecDepth 100000 in
theorem c_X2_isList (l : Launch) (k : Int32) : Met l yX2_isList wsX2_isList ({ frames := 0, cells := 0, slots := 0, locals := 0 }) (stPc [.int k]) (vp_Si (fun ans => ans = bI (pList k))) 0 0 (fun _ => False) := by
  refine stOf (cc := cX2_isList) (maxL := 1) (ret := (some .boolean)) (own := RX2) (by decide) rfl rfl (Nat.le_of_ble_eq_true rfl) ?_
  intro p e s m below meth c ls hx hb hr hts hown hml hlocks hl
  have hl : lv_has ls 1 [(0, .int k)] := hl
  refine lv_iload_n hx hb dX2_isList_0 rfl (lv_at hl 0 rfl) ?_
  refine lv_iconst (v := 5) hx hb dX2_isList_1 (by decide) ?_
  refine lv_icmp_eq (tgt := 11) hx hb dX2_isList_2 (by decide) (fun c1 => ?_) (fun c1 => ?_)
  · skip
    refine lv_iconst (v := 1) hx hb dX2_isList_11 (by decide) ?_
    refine lv_goto (tgt := 16) hx hb dX2_isList_12 (by decide) ?_
    exact reZ hx hb hr hlocks dX2_isList_16 (by first | exact Or.inl rfl | exact Or.inr rfl | exact bI_01 _ | (rename_i h9; rw [h9]; exact bI_01 _) | (subst_vars; exact bI_01 _)) (by first | (simp only [pList, bI, c1, decide_true, decide_false, Bool.not_true, Bool.not_false, Bool.and_true, Bool.true_and, Bool.and_false, Bool.false_and, Bool.or_true, Bool.true_or, Bool.or_false, Bool.false_or, Bool.and_self, Bool.or_self, if_true, if_false, ite_true, ite_false, Bool.false_eq_true, reduceIte, not_true_eq_false, not_false_eq_true, and_true, true_and, and_false, false_and, or_true, true_or, or_false, false_or, and_self, or_self, eq_self, decide_eq_true_eq, Bool.true_eq_false, reduceCtorEq, ne_eq]; done) | (simp [pList, bI, c1]; done))
  · skip
    refine lv_iload_n hx hb dX2_isList_5 rfl (lv_at hl 0 rfl) ?_
    refine lv_bipush (v := 6) hx hb dX2_isList_6 (by decide) ?_
    refine lv_icmp_ne (tgt := 15) hx hb dX2_isList_8 (by decide) (fun c2 => ?_) (fun c2 => ?_)
    · skip
      refine lv_iconst (v := 0) hx hb dX2_isList_15 (by decide) ?_
      exact reZ hx hb hr hlocks dX2_isList_16 (by first | exact Or.inl rfl | exact Or.inr rfl | exact bI_01 _ | (rename_i h9; rw [h9]; exact bI_01 _) | (subst_vars; exact bI_01 _)) (by first | (simp only [pList, bI, c1, c2, decide_true, decide_false, Bool.not_true, Bool.not_false, Bool.and_true, Bool.true_and, Bool.and_false, Bool.false_and, Bool.or_true, Bool.true_or, Bool.or_false, Bool.false_or, Bool.and_self, Bool.or_self, if_true, if_false, ite_true, ite_false, Bool.false_eq_true, reduceIte, not_true_eq_false, not_false_eq_true, and_true, true_and, and_false, false_and, or_true, true_or, or_false, false_or, and_self, or_self, eq_self, decide_eq_true_eq, Bool.true_eq_false, reduceCtorEq, ne_eq]; done) | (simp [pList, bI, c1, c2]; done))
    · skip
      refine lv_iconst (v := 1) hx hb dX2_isList_11 (by decide) ?_
      refine lv_goto (tgt := 16) hx hb dX2_isList_12 (by decide) ?_
      exact reZ hx hb hr hlocks dX2_isList_16 (by first | exact Or.inl rfl | exact Or.inr rfl | exact bI_01 _ | (rename_i h9; rw [h9]; exact bI_01 _) | (subst_vars; exact bI_01 _)) (by first | (simp only [pList, bI, c1, c2, decide_true, decide_false, Bool.not_true, Bool.not_false, Bool.and_true, Bool.true_and, Bool.and_false, Bool.false_and, Bool.or_true, Bool.true_or, Bool.or_false, Bool.false_or, Bool.and_self, Bool.or_self, if_true, if_false, ite_true, ite_false, Bool.false_eq_true, reduceIte, not_true_eq_false, not_false_eq_true, and_true, true_and, and_false, false_and, or_true, true_or, or_false, false_or, and_self, or_self, eq_self, decide_eq_true_eq, Bool.true_eq_false, reduceCtorEq, ne_eq]; done) | (simp [pList, bI, c1, c2]; done))
theorem hdX2_isList : yX2_isList.cls ≠ "java/lang/invoke/MethodHandle" ∧ yX2_isList.cls ≠ "java/lang/invoke/VarHandle" ∧ (parseMethodDescriptor yX2_isList.desc).map (fun d => d.parameters.length) = some 1 := by decide +kernel
set_option maxHeartbeats 4000000 in
set_option maxRecDepth 100000 in
theorem c_X2_isView (l : Launch) (k : Int32) : Met l yX2_isView wsX2_isView ({ frames := 1, cells := 0, slots := 0, locals := 20 }) (stPc [.int k]) (vp_Si (fun ans => ans = bI (pView k))) 0 0 (fun _ => False) := by
  refine stOf (cc := cX2_isView) (maxL := 1) (ret := (some .boolean)) (own := RX2) (by decide) rfl rfl (Nat.le_of_ble_eq_true rfl) ?_
  intro p e s m below meth c ls hx hb hr hts hown hml hlocks hl
  have hl : lv_has ls 1 [(0, .int k)] := hl
  refine lv_iload_n hx hb dX2_isView_0 rfl (lv_at hl 0 rfl) ?_
  refine lv_iconst (v := 4) hx hb dX2_isView_1 (by decide) ?_
  refine lv_icmp_eq (tgt := 12) hx hb dX2_isView_2 (by decide) (fun c1 => ?_) (fun c1 => ?_)
  · skip
    refine lv_iconst (v := 1) hx hb dX2_isView_12 (by decide) ?_
    refine lv_goto (tgt := 17) hx hb dX2_isView_13 (by decide) ?_
    exact reZ hx hb hr hlocks dX2_isView_17 (by first | exact Or.inl rfl | exact Or.inr rfl | exact bI_01 _ | (rename_i h9; rw [h9]; exact bI_01 _) | (subst_vars; exact bI_01 _)) (by first | (simp only [pView, bI, c1, decide_true, decide_false, Bool.not_true, Bool.not_false, Bool.and_true, Bool.true_and, Bool.and_false, Bool.false_and, Bool.or_true, Bool.true_or, Bool.or_false, Bool.false_or, Bool.and_self, Bool.or_self, if_true, if_false, ite_true, ite_false, Bool.false_eq_true, reduceIte, not_true_eq_false, not_false_eq_true, and_true, true_and, and_false, false_and, or_true, true_or, or_false, false_or, and_self, or_self, eq_self, decide_eq_true_eq, Bool.true_eq_false, reduceCtorEq, ne_eq]; done) | (simp [pView, bI, c1]; done))
  · skip
    refine lv_iload_n hx hb dX2_isView_5 rfl (lv_at hl 0 rfl) ?_
    refine scI (As := [.int k]) (rest := []) ⟨hx, hb, hml, hown, hts⟩ (c_X2_isList l k) (va_cwS 1 hts gX2_isView_X2_isList rfl rfl rfl hdX2_isList ⟨Nat.le_of_ble_eq_true rfl, Nat.le_of_ble_eq_true rfl⟩) rfl hl.1 rfl (Nat.le_of_ble_eq_true rfl) dX2_isView_6 ⟨(Nat.zero_le _), (Nat.zero_le _)⟩ (fun r2 hr2 => ?_)
    cases b3 : pList k
    · replace hr2 : r2 = 0 := by rw [hr2, b3]; rfl
      subst hr2
      refine lv_if_eq (tgt := 16) hx hb dX2_isView_9 (by decide) (fun _ => ?_) (fun c4 => absurd (by decide) c4)
      refine lv_iconst (v := 0) hx hb dX2_isView_16 (by decide) ?_
      exact reZ hx hb hr hlocks dX2_isView_17 (by first | exact Or.inl rfl | exact Or.inr rfl | exact bI_01 _ | (rename_i h9; rw [h9]; exact bI_01 _) | (subst_vars; exact bI_01 _)) (by first | (simp only [pView, bI, c1, b3, decide_true, decide_false, Bool.not_true, Bool.not_false, Bool.and_true, Bool.true_and, Bool.and_false, Bool.false_and, Bool.or_true, Bool.true_or, Bool.or_false, Bool.false_or, Bool.and_self, Bool.or_self, if_true, if_false, ite_true, ite_false, Bool.false_eq_true, reduceIte, not_true_eq_false, not_false_eq_true, and_true, true_and, and_false, false_and, or_true, true_or, or_false, false_or, and_self, or_self, eq_self, decide_eq_true_eq, Bool.true_eq_false, reduceCtorEq, ne_eq]; done) | (simp [pView, bI, c1, b3]; done))
    · replace hr2 : r2 = 1 := by rw [hr2, b3]; rfl
      subst hr2
      refine lv_if_eq (tgt := 16) hx hb dX2_isView_9 (by decide) (fun c5 => absurd c5 (by decide)) (fun _ => ?_)
      refine lv_iconst (v := 1) hx hb dX2_isView_12 (by decide) ?_
      refine lv_goto (tgt := 17) hx hb dX2_isView_13 (by decide) ?_
      exact reZ hx hb hr hlocks dX2_isView_17 (by first | exact Or.inl rfl | exact Or.inr rfl | exact bI_01 _ | (rename_i h9; rw [h9]; exact bI_01 _) | (subst_vars; exact bI_01 _)) (by first | (simp only [pView, bI, c1, b3, decide_true, decide_false, Bool.not_true, Bool.not_false, Bool.and_true, Bool.true_and, Bool.and_false, Bool.false_and, Bool.or_true, Bool.true_or, Bool.or_false, Bool.false_or, Bool.and_self, Bool.or_self, if_true, if_false, ite_true, ite_false, Bool.false_eq_true, reduceIte, not_true_eq_false, not_false_eq_true, and_true, true_and, and_false, false_and, or_true, true_or, or_false, false_or, and_self, or_self, eq_self, decide_eq_true_eq, Bool.true_eq_false, reduceCtorEq, ne_eq]; done) | (simp [pView, bI, c1, b3]; done))
theorem hdX2_isView : yX2_isView.cls ≠ "java/lang/invoke/MethodHandle" ∧ yX2_isView.cls ≠ "java/lang/invoke/VarHandle" ∧ (parseMethodDescriptor yX2_isView.desc).map (fun d => d.parameters.length) = some 1 := by decide +kernel
set_option maxHeartbeats 4000000 in
set_option maxRecDepth 100000 in
theorem c_X2_hasNumber (l : Launch) (k : Int32) : Met l yX2_hasNumber wsX2_hasNumber ({ frames := 0, cells := 0, slots := 0, locals := 0 }) (stPc [.int k]) (vp_Si (fun ans => ans = bI (pHasNum k))) 0 0 (fun _ => False) := by
  refine stOf (cc := cX2_hasNumber) (maxL := 1) (ret := (some .boolean)) (own := RX2) (by decide) rfl rfl (Nat.le_of_ble_eq_true rfl) ?_
  intro p e s m below meth c ls hx hb hr hts hown hml hlocks hl
  have hl : lv_has ls 1 [(0, .int k)] := hl
  refine lv_iload_n hx hb dX2_hasNumber_0 rfl (lv_at hl 0 rfl) ?_
  refine lv_iconst (v := 1) hx hb dX2_hasNumber_1 (by decide) ?_
  refine lv_icmp_eq (tgt := 27) hx hb dX2_hasNumber_2 (by decide) (fun c1 => ?_) (fun c1 => ?_)
  · skip
    refine lv_iconst (v := 1) hx hb dX2_hasNumber_27 (by decide) ?_
    refine lv_goto (tgt := 32) hx hb dX2_hasNumber_28 (by decide) ?_
    exact reZ hx hb hr hlocks dX2_hasNumber_32 (by first | exact Or.inl rfl | exact Or.inr rfl | exact bI_01 _ | (rename_i h9; rw [h9]; exact bI_01 _) | (subst_vars; exact bI_01 _)) (by first | (simp only [pHasNum, bI, c1, decide_true, decide_false, Bool.not_true, Bool.not_false, Bool.and_true, Bool.true_and, Bool.and_false, Bool.false_and, Bool.or_true, Bool.true_or, Bool.or_false, Bool.false_or, Bool.and_self, Bool.or_self, if_true, if_false, ite_true, ite_false, Bool.false_eq_true, reduceIte, not_true_eq_false, not_false_eq_true, and_true, true_and, and_false, false_and, or_true, true_or, or_false, false_or, and_self, or_self, eq_self, decide_eq_true_eq, Bool.true_eq_false, reduceCtorEq, ne_eq]; done) | (simp [pHasNum, bI, c1]; done))
  · skip
    refine lv_iload_n hx hb dX2_hasNumber_5 rfl (lv_at hl 0 rfl) ?_
    refine lv_iconst (v := 2) hx hb dX2_hasNumber_6 (by decide) ?_
    refine lv_icmp_eq (tgt := 27) hx hb dX2_hasNumber_7 (by decide) (fun c2 => ?_) (fun c2 => ?_)
    · skip
      refine lv_iconst (v := 1) hx hb dX2_hasNumber_27 (by decide) ?_
      refine lv_goto (tgt := 32) hx hb dX2_hasNumber_28 (by decide) ?_
      exact reZ hx hb hr hlocks dX2_hasNumber_32 (by first | exact Or.inl rfl | exact Or.inr rfl | exact bI_01 _ | (rename_i h9; rw [h9]; exact bI_01 _) | (subst_vars; exact bI_01 _)) (by first | (simp only [pHasNum, bI, c1, c2, decide_true, decide_false, Bool.not_true, Bool.not_false, Bool.and_true, Bool.true_and, Bool.and_false, Bool.false_and, Bool.or_true, Bool.true_or, Bool.or_false, Bool.false_or, Bool.and_self, Bool.or_self, if_true, if_false, ite_true, ite_false, Bool.false_eq_true, reduceIte, not_true_eq_false, not_false_eq_true, and_true, true_and, and_false, false_and, or_true, true_or, or_false, false_or, and_self, or_self, eq_self, decide_eq_true_eq, Bool.true_eq_false, reduceCtorEq, ne_eq]; done) | (simp [pHasNum, bI, c1, c2]; done))
    · skip
      refine lv_iload_n hx hb dX2_hasNumber_10 rfl (lv_at hl 0 rfl) ?_
      refine lv_iconst (v := 3) hx hb dX2_hasNumber_11 (by decide) ?_
      refine lv_icmp_eq (tgt := 27) hx hb dX2_hasNumber_12 (by decide) (fun c3 => ?_) (fun c3 => ?_)
      · skip
        refine lv_iconst (v := 1) hx hb dX2_hasNumber_27 (by decide) ?_
        refine lv_goto (tgt := 32) hx hb dX2_hasNumber_28 (by decide) ?_
        exact reZ hx hb hr hlocks dX2_hasNumber_32 (by first | exact Or.inl rfl | exact Or.inr rfl | exact bI_01 _ | (rename_i h9; rw [h9]; exact bI_01 _) | (subst_vars; exact bI_01 _)) (by first | (simp only [pHasNum, bI, c1, c2, c3, decide_true, decide_false, Bool.not_true, Bool.not_false, Bool.and_true, Bool.true_and, Bool.and_false, Bool.false_and, Bool.or_true, Bool.true_or, Bool.or_false, Bool.false_or, Bool.and_self, Bool.or_self, if_true, if_false, ite_true, ite_false, Bool.false_eq_true, reduceIte, not_true_eq_false, not_false_eq_true, and_true, true_and, and_false, false_and, or_true, true_or, or_false, false_or, and_self, or_self, eq_self, decide_eq_true_eq, Bool.true_eq_false, reduceCtorEq, ne_eq]; done) | (simp [pHasNum, bI, c1, c2, c3]; done))
      · skip
        refine lv_iload_n hx hb dX2_hasNumber_15 rfl (lv_at hl 0 rfl) ?_
        refine lv_bipush (v := 9) hx hb dX2_hasNumber_16 (by decide) ?_
        refine lv_icmp_eq (tgt := 27) hx hb dX2_hasNumber_18 (by decide) (fun c4 => ?_) (fun c4 => ?_)
        · skip
          refine lv_iconst (v := 1) hx hb dX2_hasNumber_27 (by decide) ?_
          refine lv_goto (tgt := 32) hx hb dX2_hasNumber_28 (by decide) ?_
          exact reZ hx hb hr hlocks dX2_hasNumber_32 (by first | exact Or.inl rfl | exact Or.inr rfl | exact bI_01 _ | (rename_i h9; rw [h9]; exact bI_01 _) | (subst_vars; exact bI_01 _)) (by first | (simp only [pHasNum, bI, c1, c2, c3, c4, decide_true, decide_false, Bool.not_true, Bool.not_false, Bool.and_true, Bool.true_and, Bool.and_false, Bool.false_and, Bool.or_true, Bool.true_or, Bool.or_false, Bool.false_or, Bool.and_self, Bool.or_self, if_true, if_false, ite_true, ite_false, Bool.false_eq_true, reduceIte, not_true_eq_false, not_false_eq_true, and_true, true_and, and_false, false_and, or_true, true_or, or_false, false_or, and_self, or_self, eq_self, decide_eq_true_eq, Bool.true_eq_false, reduceCtorEq, ne_eq]; done) | (simp [pHasNum, bI, c1, c2, c3, c4]; done))
        · skip
          refine lv_iload_n hx hb dX2_hasNumber_21 rfl (lv_at hl 0 rfl) ?_
          refine lv_bipush (v := 10) hx hb dX2_hasNumber_22 (by decide) ?_
          refine lv_icmp_ne (tgt := 31) hx hb dX2_hasNumber_24 (by decide) (fun c5 => ?_) (fun c5 => ?_)
          · skip
            refine lv_iconst (v := 0) hx hb dX2_hasNumber_31 (by decide) ?_
            exact reZ hx hb hr hlocks dX2_hasNumber_32 (by first | exact Or.inl rfl | exact Or.inr rfl | exact bI_01 _ | (rename_i h9; rw [h9]; exact bI_01 _) | (subst_vars; exact bI_01 _)) (by first | (simp only [pHasNum, bI, c1, c2, c3, c4, c5, decide_true, decide_false, Bool.not_true, Bool.not_false, Bool.and_true, Bool.true_and, Bool.and_false, Bool.false_and, Bool.or_true, Bool.true_or, Bool.or_false, Bool.false_or, Bool.and_self, Bool.or_self, if_true, if_false, ite_true, ite_false, Bool.false_eq_true, reduceIte, not_true_eq_false, not_false_eq_true, and_true, true_and, and_false, false_and, or_true, true_or, or_false, false_or, and_self, or_self, eq_self, decide_eq_true_eq, Bool.true_eq_false, reduceCtorEq, ne_eq]; done) | (simp [pHasNum, bI, c1, c2, c3, c4, c5]; done))
          · skip
            refine lv_iconst (v := 1) hx hb dX2_hasNumber_27 (by decide) ?_
            refine lv_goto (tgt := 32) hx hb dX2_hasNumber_28 (by decide) ?_
            exact reZ hx hb hr hlocks dX2_hasNumber_32 (by first | exact Or.inl rfl | exact Or.inr rfl | exact bI_01 _ | (rename_i h9; rw [h9]; exact bI_01 _) | (subst_vars; exact bI_01 _)) (by first | (simp only [pHasNum, bI, c1, c2, c3, c4, c5, decide_true, decide_false, Bool.not_true, Bool.not_false, Bool.and_true, Bool.true_and, Bool.and_false, Bool.false_and, Bool.or_true, Bool.true_or, Bool.or_false, Bool.false_or, Bool.and_self, Bool.or_self, if_true, if_false, ite_true, ite_false, Bool.false_eq_true, reduceIte, not_true_eq_false, not_false_eq_true, and_true, true_and, and_false, false_and, or_true, true_or, or_false, false_or, and_self, or_self, eq_self, decide_eq_true_eq, Bool.true_eq_false, reduceCtorEq, ne_eq]; done) | (simp [pHasNum, bI, c1, c2, c3, c4, c5]; done))
theorem hdX2_hasNumber : yX2_hasNumber.cls ≠ "java/lang/invoke/MethodHandle" ∧ yX2_hasNumber.cls ≠ "java/lang/invoke/VarHandle" ∧ (parseMethodDescriptor yX2_hasNumber.desc).map (fun d => d.parameters.length) = some 1 := by decide +kernel
set_option maxHeartbeats 4000000 in
set_option maxRecDepth 100000 in
theorem c_X2_firstAccess (l : Launch) (k : Int32) : Met l yX2_firstAccess wsX2_firstAccess ({ frames := 0, cells := 0, slots := 0, locals := 0 }) (stPc [.int k]) (vp_Si (fun ans => ans = pFirst k)) 0 0 (fun _ => False) := by
  refine stOf (cc := cX2_firstAccess) (maxL := 1) (ret := (some .int)) (own := RX2) (by decide) rfl rfl (Nat.le_of_ble_eq_true rfl) ?_
  intro p e s m below meth c ls hx hb hr hts hown hml hlocks hl
  have hl : lv_has ls 1 [(0, .int k)] := hl
  refine lv_iload_n hx hb dX2_firstAccess_0 rfl (lv_at hl 0 rfl) ?_
  by_cases c1 : k = 4 ∨ k = 5 ∨ k = 7 ∨ k = 9
  · refine lv_tableIn (off := 39) (tgt := 40) hx hb dX2_firstAccess_1 (by rcases c1 with c1 | c1 | c1 | c1 <;> rw [c1] <;> decide) (by rcases c1 with c1 | c1 | c1 | c1 <;> rw [c1] <;> decide) (by rcases c1 with c1 | c1 | c1 | c1 <;> rw [c1] <;> decide) (by decide) ?_
    refine lv_iconst (v := 3) hx hb dX2_firstAccess_40 (by decide) ?_
    exact reI hx hb hr hlocks dX2_firstAccess_41 (by first | (simp only [pFirst, c1, decide_true, decide_false, Bool.not_true, Bool.not_false, Bool.and_true, Bool.true_and, Bool.and_false, Bool.false_and, Bool.or_true, Bool.true_or, Bool.or_false, Bool.false_or, Bool.and_self, Bool.or_self, if_true, if_false, ite_true, ite_false, Bool.false_eq_true, reduceIte, not_true_eq_false, not_false_eq_true, and_true, true_and, and_false, false_and, or_true, true_or, or_false, false_or, and_self, or_self, eq_self, decide_eq_true_eq, Bool.true_eq_false, reduceCtorEq, ne_eq]; done) | (simp [pFirst, c1]; done))
  by_cases c2 : k = 6
  · refine lv_tableIn (off := 41) (tgt := 42) hx hb dX2_firstAccess_1 (by rw [c2]; decide) (by rw [c2]; decide) (by rw [c2]; decide) (by decide) ?_
    refine lv_iconst (v := 2) hx hb dX2_firstAccess_42 (by decide) ?_
    exact reI hx hb hr hlocks dX2_firstAccess_43 (by first | (simp only [pFirst, c1, c2, decide_true, decide_false, Bool.not_true, Bool.not_false, Bool.and_true, Bool.true_and, Bool.and_false, Bool.false_and, Bool.or_true, Bool.true_or, Bool.or_false, Bool.false_or, Bool.and_self, Bool.or_self, if_true, if_false, ite_true, ite_false, Bool.false_eq_true, reduceIte, not_true_eq_false, not_false_eq_true, and_true, true_and, and_false, false_and, or_true, true_or, or_false, false_or, and_self, or_self, eq_self, decide_eq_true_eq, Bool.true_eq_false, reduceCtorEq, ne_eq]; done) | (simp [pFirst, c1, c2]; done))
  refine lv_tableD (tgt := 44) hx hb dX2_firstAccess_1 (tblD (ks := [4, 5, 7, 9, 6]) (by decide) (List.forall_mem_cons.mpr ⟨neI (fun h9 => c1 (Or.inl h9)) (by decide), (List.forall_mem_cons.mpr ⟨neI (fun h9 => c1 (Or.inr (Or.inl h9))) (by decide), (List.forall_mem_cons.mpr ⟨neI (fun h9 => c1 (Or.inr (Or.inr (Or.inl h9)))) (by decide), (List.forall_mem_cons.mpr ⟨neI (fun h9 => c1 (Or.inr (Or.inr (Or.inr (h9))))) (by decide), (List.forall_mem_cons.mpr ⟨neI c2 (by decide), (fun _ h => absurd h List.not_mem_nil)⟩)⟩)⟩)⟩)⟩) (by decide)) (by decide) ?_
  refine lv_iconst (v := 0) hx hb dX2_firstAccess_44 (by decide) ?_
  exact reI hx hb hr hlocks dX2_firstAccess_45 (by first | (simp only [pFirst, c1, c2, decide_true, decide_false, Bool.not_true, Bool.not_false, Bool.and_true, Bool.true_and, Bool.and_false, Bool.false_and, Bool.or_true, Bool.true_or, Bool.or_false, Bool.false_or, Bool.and_self, Bool.or_self, if_true, if_false, ite_true, ite_false, Bool.false_eq_true, reduceIte, not_true_eq_false, not_false_eq_true, and_true, true_and, and_false, false_and, or_true, true_or, or_false, false_or, and_self, or_self, eq_self, decide_eq_true_eq, Bool.true_eq_false, reduceCtorEq, ne_eq]; done) | (simp [pFirst, c1, c2]; done))
theorem hdX2_firstAccess : yX2_firstAccess.cls ≠ "java/lang/invoke/MethodHandle" ∧ yX2_firstAccess.cls ≠ "java/lang/invoke/VarHandle" ∧ (parseMethodDescriptor yX2_firstAccess.desc).map (fun d => d.parameters.length) = some 1 := by decide +kernel
set_option maxHeartbeats 4000000 in
set_option maxRecDepth 100000 in
theorem c_X2_placeStorage (l : Launch) (k : Int32) : Met l yX2_placeStorage wsX2_placeStorage ({ frames := 0, cells := 0, slots := 0, locals := 0 }) (stPc [.int k]) (vp_Si (fun ans => ans = pPlace k)) 0 0 (fun _ => False) := by
  refine stOf (cc := cX2_placeStorage) (maxL := 1) (ret := (some .int)) (own := RX2) (by decide) rfl rfl (Nat.le_of_ble_eq_true rfl) ?_
  intro p e s m below meth c ls hx hb hr hts hown hml hlocks hl
  have hl : lv_has ls 1 [(0, .int k)] := hl
  refine lv_iload_n hx hb dX2_placeStorage_0 rfl (lv_at hl 0 rfl) ?_
  by_cases c1 : k = 4
  · refine lv_tableIn (off := 31) (tgt := 32) hx hb dX2_placeStorage_1 (by rw [c1]; decide) (by rw [c1]; decide) (by rw [c1]; decide) (by decide) ?_
    refine lv_iconst (v := 1) hx hb dX2_placeStorage_32 (by decide) ?_
    exact reI hx hb hr hlocks dX2_placeStorage_33 (by first | (simp only [pPlace, c1, decide_true, decide_false, Bool.not_true, Bool.not_false, Bool.and_true, Bool.true_and, Bool.and_false, Bool.false_and, Bool.or_true, Bool.true_or, Bool.or_false, Bool.false_or, Bool.and_self, Bool.or_self, if_true, if_false, ite_true, ite_false, Bool.false_eq_true, reduceIte, not_true_eq_false, not_false_eq_true, and_true, true_and, and_false, false_and, or_true, true_or, or_false, false_or, and_self, or_self, eq_self, decide_eq_true_eq, Bool.true_eq_false, reduceCtorEq, ne_eq]; done) | (simp [pPlace, c1]; done))
  by_cases c2 : k = 5
  · refine lv_tableIn (off := 33) (tgt := 34) hx hb dX2_placeStorage_1 (by rw [c2]; decide) (by rw [c2]; decide) (by rw [c2]; decide) (by decide) ?_
    refine lv_bipush (v := 8) hx hb dX2_placeStorage_34 (by decide) ?_
    exact reI hx hb hr hlocks dX2_placeStorage_36 (by first | (simp only [pPlace, c1, c2, decide_true, decide_false, Bool.not_true, Bool.not_false, Bool.and_true, Bool.true_and, Bool.and_false, Bool.false_and, Bool.or_true, Bool.true_or, Bool.or_false, Bool.false_or, Bool.and_self, Bool.or_self, if_true, if_false, ite_true, ite_false, Bool.false_eq_true, reduceIte, not_true_eq_false, not_false_eq_true, and_true, true_and, and_false, false_and, or_true, true_or, or_false, false_or, and_self, or_self, eq_self, decide_eq_true_eq, Bool.true_eq_false, reduceCtorEq, ne_eq]; done) | (simp [pPlace, c1, c2]; done))
  by_cases c3 : k = 6
  · refine lv_tableIn (off := 36) (tgt := 37) hx hb dX2_placeStorage_1 (by rw [c3]; decide) (by rw [c3]; decide) (by rw [c3]; decide) (by decide) ?_
    refine lv_iconst (v := 4) hx hb dX2_placeStorage_37 (by decide) ?_
    exact reI hx hb hr hlocks dX2_placeStorage_38 (by first | (simp only [pPlace, c1, c2, c3, decide_true, decide_false, Bool.not_true, Bool.not_false, Bool.and_true, Bool.true_and, Bool.and_false, Bool.false_and, Bool.or_true, Bool.true_or, Bool.or_false, Bool.false_or, Bool.and_self, Bool.or_self, if_true, if_false, ite_true, ite_false, Bool.false_eq_true, reduceIte, not_true_eq_false, not_false_eq_true, and_true, true_and, and_false, false_and, or_true, true_or, or_false, false_or, and_self, or_self, eq_self, decide_eq_true_eq, Bool.true_eq_false, reduceCtorEq, ne_eq]; done) | (simp [pPlace, c1, c2, c3]; done))
  by_cases c4 : k = 7
  · refine lv_tableIn (off := 38) (tgt := 39) hx hb dX2_placeStorage_1 (by rw [c4]; decide) (by rw [c4]; decide) (by rw [c4]; decide) (by decide) ?_
    refine lv_bipush (v := 16) hx hb dX2_placeStorage_39 (by decide) ?_
    exact reI hx hb hr hlocks dX2_placeStorage_41 (by first | (simp only [pPlace, c1, c2, c3, c4, decide_true, decide_false, Bool.not_true, Bool.not_false, Bool.and_true, Bool.true_and, Bool.and_false, Bool.false_and, Bool.or_true, Bool.true_or, Bool.or_false, Bool.false_or, Bool.and_self, Bool.or_self, if_true, if_false, ite_true, ite_false, Bool.false_eq_true, reduceIte, not_true_eq_false, not_false_eq_true, and_true, true_and, and_false, false_and, or_true, true_or, or_false, false_or, and_self, or_self, eq_self, decide_eq_true_eq, Bool.true_eq_false, reduceCtorEq, ne_eq]; done) | (simp [pPlace, c1, c2, c3, c4]; done))
  refine lv_tableD (tgt := 42) hx hb dX2_placeStorage_1 (tblD (ks := [4, 5, 6, 7]) (by decide) (List.forall_mem_cons.mpr ⟨neI c1 (by decide), (List.forall_mem_cons.mpr ⟨neI c2 (by decide), (List.forall_mem_cons.mpr ⟨neI c3 (by decide), (List.forall_mem_cons.mpr ⟨neI c4 (by decide), (fun _ h => absurd h List.not_mem_nil)⟩)⟩)⟩)⟩) (by decide)) (by decide) ?_
  refine lv_iconst (v := 0) hx hb dX2_placeStorage_42 (by decide) ?_
  exact reI hx hb hr hlocks dX2_placeStorage_43 (by first | (simp only [pPlace, c1, c2, c3, c4, decide_true, decide_false, Bool.not_true, Bool.not_false, Bool.and_true, Bool.true_and, Bool.and_false, Bool.false_and, Bool.or_true, Bool.true_or, Bool.or_false, Bool.false_or, Bool.and_self, Bool.or_self, if_true, if_false, ite_true, ite_false, Bool.false_eq_true, reduceIte, not_true_eq_false, not_false_eq_true, and_true, true_and, and_false, false_and, or_true, true_or, or_false, false_or, and_self, or_self, eq_self, decide_eq_true_eq, Bool.true_eq_false, reduceCtorEq, ne_eq]; done) | (simp [pPlace, c1, c2, c3, c4]; done))
theorem hdX2_placeStorage : yX2_placeStorage.cls ≠ "java/lang/invoke/MethodHandle" ∧ yX2_placeStorage.cls ≠ "java/lang/invoke/VarHandle" ∧ (parseMethodDescriptor yX2_placeStorage.desc).map (fun d => d.parameters.length) = some 1 := by decide +kernel
set_option maxHeartbeats 4000000 in
set_option maxRecDepth 100000 in
theorem c_X2_order (l : Launch) (a : Int32) (b : Int32) : Met l yX2_order wsX2_order ({ frames := 0, cells := 0, slots := 0, locals := 0 }) (stPc [.int a, .int b]) (vp_Si (fun ans => ans = pOrder a b)) 0 0 (fun _ => False) := by
  refine stOf (cc := cX2_order) (maxL := 2) (ret := (some .int)) (own := RX2) (by decide) rfl rfl (Nat.le_of_ble_eq_true rfl) ?_
  intro p e s m below meth c ls hx hb hr hts hown hml hlocks hl
  have hl : lv_has ls 2 [(0, .int a), (1, .int b)] := hl
  refine lv_iload_n hx hb dX2_order_0 rfl (lv_at hl 0 rfl) ?_
  refine lv_iload_n hx hb dX2_order_1 rfl (lv_at hl 1 rfl) ?_
  refine lv_icmp_ne (tgt := 7) hx hb dX2_order_2 (by decide) (fun c1 => ?_) (fun c1 => ?_)
  · skip
    refine lv_iload_n hx hb dX2_order_7 rfl (lv_at hl 0 rfl) ?_
    refine lv_iload_n hx hb dX2_order_8 rfl (lv_at hl 1 rfl) ?_
    refine lv_icmp_ge (tgt := 16) hx hb dX2_order_9 (by decide) (fun c2 => ?_) (fun c2 => ?_)
    · skip
      refine lv_iconst (v := 2) hx hb dX2_order_16 (by decide) ?_
      exact reI hx hb hr hlocks dX2_order_17 (by first | (simp only [pOrder, c1, c2, decide_true, decide_false, Bool.not_true, Bool.not_false, Bool.and_true, Bool.true_and, Bool.and_false, Bool.false_and, Bool.or_true, Bool.true_or, Bool.or_false, Bool.false_or, Bool.and_self, Bool.or_self, if_true, if_false, ite_true, ite_false, Bool.false_eq_true, reduceIte, not_true_eq_false, not_false_eq_true, and_true, true_and, and_false, false_and, or_true, true_or, or_false, false_or, and_self, or_self, eq_self, decide_eq_true_eq, Bool.true_eq_false, reduceCtorEq, ne_eq]; done) | (simp [pOrder, c1, c2, Int32.not_lt.mpr c2]; done))
    · skip
      refine lv_iconst (v := 0) hx hb dX2_order_12 (by decide) ?_
      refine lv_goto (tgt := 17) hx hb dX2_order_13 (by decide) ?_
      exact reI hx hb hr hlocks dX2_order_17 (by first | (simp only [pOrder, c1, c2, decide_true, decide_false, Bool.not_true, Bool.not_false, Bool.and_true, Bool.true_and, Bool.and_false, Bool.false_and, Bool.or_true, Bool.true_or, Bool.or_false, Bool.false_or, Bool.and_self, Bool.or_self, if_true, if_false, ite_true, ite_false, Bool.false_eq_true, reduceIte, not_true_eq_false, not_false_eq_true, and_true, true_and, and_false, false_and, or_true, true_or, or_false, false_or, and_self, or_self, eq_self, decide_eq_true_eq, Bool.true_eq_false, reduceCtorEq, ne_eq]; done) | (simp [pOrder, c1, c2, Int32.not_le.mp c2]; done))
  · skip
    refine lv_iconst (v := 1) hx hb dX2_order_5 (by decide) ?_
    exact reI hx hb hr hlocks dX2_order_6 (by first | (simp only [pOrder, eq_true c1, decide_true, decide_false, Bool.not_true, Bool.not_false, Bool.and_true, Bool.true_and, Bool.and_false, Bool.false_and, Bool.or_true, Bool.true_or, Bool.or_false, Bool.false_or, Bool.and_self, Bool.or_self, if_true, if_false, ite_true, ite_false, Bool.false_eq_true, reduceIte, not_true_eq_false, not_false_eq_true, and_true, true_and, and_false, false_and, or_true, true_or, or_false, false_or, and_self, or_self, eq_self, decide_eq_true_eq, Bool.true_eq_false, reduceCtorEq, ne_eq]; done) | (simp [pOrder, eq_true c1]; done))
theorem hdX2_order : yX2_order.cls ≠ "java/lang/invoke/MethodHandle" ∧ yX2_order.cls ≠ "java/lang/invoke/VarHandle" ∧ (parseMethodDescriptor yX2_order.desc).map (fun d => d.parameters.length) = some 2 := by decide +kernel
set_option maxHeartbeats 4000000 in
set_option maxRecDepth 100000 in
theorem c_X2_digits (l : Launch) (n : Int32) : Met l yX2_digits wsX2_digits ({ frames := 0, cells := 0, slots := 0, locals := 0 }) (stPc [.int n]) (vp_Si (fun ans => ans = pDigits n)) 0 0 (fun _ => False) := by
  refine stOf (cc := cX2_digits) (maxL := 1) (ret := (some .int)) (own := RX2) (by decide) rfl rfl (Nat.le_of_ble_eq_true rfl) ?_
  intro p e s m below meth c ls hx hb hr hts hown hml hlocks hl
  have hl : lv_has ls 1 [(0, .int n)] := hl
  refine lv_iload_n hx hb dX2_digits_0 rfl (lv_at hl 0 rfl) ?_
  refine lv_bipush (v := 10) hx hb dX2_digits_1 (by decide) ?_
  refine lv_icmp_ge (tgt := 8) hx hb dX2_digits_3 (by decide) (fun c1 => ?_) (fun c1 => ?_)
  · skip
    refine lv_iload_n hx hb dX2_digits_8 rfl (lv_at hl 0 rfl) ?_
    refine lv_bipush (v := 100) hx hb dX2_digits_9 (by decide) ?_
    refine lv_icmp_ge (tgt := 18) hx hb dX2_digits_11 (by decide) (fun c2 => ?_) (fun c2 => ?_)
    · skip
      refine lv_iconst (v := 3) hx hb dX2_digits_18 (by decide) ?_
      exact reI hx hb hr hlocks dX2_digits_19 (by first | (simp only [pDigits, c1, c2, decide_true, decide_false, Bool.not_true, Bool.not_false, Bool.and_true, Bool.true_and, Bool.and_false, Bool.false_and, Bool.or_true, Bool.true_or, Bool.or_false, Bool.false_or, Bool.and_self, Bool.or_self, if_true, if_false, ite_true, ite_false, Bool.false_eq_true, reduceIte, not_true_eq_false, not_false_eq_true, and_true, true_and, and_false, false_and, or_true, true_or, or_false, false_or, and_self, or_self, eq_self, decide_eq_true_eq, Bool.true_eq_false, reduceCtorEq, ne_eq]; done) | (simp [pDigits, c1, c2, Int32.not_lt.mpr c1, Int32.not_lt.mpr c2]; done))
    · skip
      refine lv_iconst (v := 2) hx hb dX2_digits_14 (by decide) ?_
      refine lv_goto (tgt := 19) hx hb dX2_digits_15 (by decide) ?_
      exact reI hx hb hr hlocks dX2_digits_19 (by first | (simp only [pDigits, c1, c2, decide_true, decide_false, Bool.not_true, Bool.not_false, Bool.and_true, Bool.true_and, Bool.and_false, Bool.false_and, Bool.or_true, Bool.true_or, Bool.or_false, Bool.false_or, Bool.and_self, Bool.or_self, if_true, if_false, ite_true, ite_false, Bool.false_eq_true, reduceIte, not_true_eq_false, not_false_eq_true, and_true, true_and, and_false, false_and, or_true, true_or, or_false, false_or, and_self, or_self, eq_self, decide_eq_true_eq, Bool.true_eq_false, reduceCtorEq, ne_eq]; done) | (simp [pDigits, c1, c2, Int32.not_lt.mpr c1, Int32.not_le.mp c2]; done))
  · skip
    refine lv_iconst (v := 1) hx hb dX2_digits_6 (by decide) ?_
    exact reI hx hb hr hlocks dX2_digits_7 (by first | (simp only [pDigits, c1, decide_true, decide_false, Bool.not_true, Bool.not_false, Bool.and_true, Bool.true_and, Bool.and_false, Bool.false_and, Bool.or_true, Bool.true_or, Bool.or_false, Bool.false_or, Bool.and_self, Bool.or_self, if_true, if_false, ite_true, ite_false, Bool.false_eq_true, reduceIte, not_true_eq_false, not_false_eq_true, and_true, true_and, and_false, false_and, or_true, true_or, or_false, false_or, and_self, or_self, eq_self, decide_eq_true_eq, Bool.true_eq_false, reduceCtorEq, ne_eq]; done) | (simp [pDigits, c1, Int32.not_le.mp c1]; done))
theorem hdX2_digits : yX2_digits.cls ≠ "java/lang/invoke/MethodHandle" ∧ yX2_digits.cls ≠ "java/lang/invoke/VarHandle" ∧ (parseMethodDescriptor yX2_digits.desc).map (fun d => d.parameters.length) = some 1 := by decide +kernel
set_option maxHeartbeats 4000000 in
set_option maxRecDepth 100000 in
theorem c_X2_known (l : Launch) (D : va_G) (Y : Nat → ClassId) (t : OS) (x : Int32) (hok : oOK t) : Met l yX2_known wsX2_known ({ frames := 0, cells := 0, slots := 0, locals := 0 }) (rdPc D Y [.ref (oO t), .int x] (oW Y t)) (vp_Si (fun ans => ans = bI (pKnown t x))) 0 0 (fun _ => False) := by
  refine rdOf (cc := cX2_known) (maxL := 2) (ret := (some .boolean)) (own := RX2) (by decide) rfl rfl (Nat.le_of_ble_eq_true rfl) ?_
  intro p e s m below meth c ls hx hb hr hts hown hml hlocks hP hK hl
  have iwX2 : ∀ w ∈ u_ws RX2 TX2 10, w ∈ wsX2_known := fun _ h => List.mem_cons_of_mem _ (List.mem_append_right _ h)
  have hl : lv_has ls 2 [(0, .ref (oO t)), (1, .int x)] := hl
  refine lv_iload_n hx hb dX2_known_0 rfl (lv_at hl 1 rfl) ?_
  refine lv_if_lt (tgt := 16) hx hb dX2_known_1 (by decide) (fun c1 => ?_) (fun c1 => ?_)
  · skip
    refine lv_iconst (v := 0) hx hb dX2_known_16 (by decide) ?_
    exact reZ hx hb hr hlocks dX2_known_17 (by first | exact Or.inl rfl | exact Or.inr rfl | exact bI_01 _ | (rename_i h9; rw [h9]; exact bI_01 _) | (subst_vars; exact bI_01 _)) (by first | (simp only [pKnown, bI, c1, decide_true, decide_false, Bool.not_true, Bool.not_false, Bool.and_true, Bool.true_and, Bool.and_false, Bool.false_and, Bool.or_true, Bool.true_or, Bool.or_false, Bool.false_or, Bool.and_self, Bool.or_self, if_true, if_false, ite_true, ite_false, Bool.false_eq_true, reduceIte, not_true_eq_false, not_false_eq_true, and_true, true_and, and_false, false_and, or_true, true_or, or_false, false_or, and_self, or_self, eq_self, decide_eq_true_eq, Bool.true_eq_false, reduceCtorEq, ne_eq]; done) | (simp [pKnown, bI, c1, Int32.not_le.mpr c1]; done))
  · skip
    refine lv_iload_n hx hb dX2_known_4 rfl (lv_at hl 1 rfl) ?_
    refine lv_aload_n hx hb dX2_known_5 rfl (lv_at hl 0 rfl) ?_
    refine va_get (D := D) (ci := 3) (v := .int (oCnt t)) (C := RX2) (T := TX2) (N := 10) hx hb hts iwX2 hown hK hP 0 rfl rfl 8 (by decide) (hts (.fieldLink RX2 50 "ObjectRows" "count" "I") (by decide +kernel)) (fun _ h9 => h9) rfl dX2_known_6 ?_
    refine lv_icmp_ge (tgt := 16) hx hb dX2_known_9 (by decide) (fun c2 => ?_) (fun c2 => ?_)
    · skip
      refine lv_iconst (v := 0) hx hb dX2_known_16 (by decide) ?_
      exact reZ hx hb hr hlocks dX2_known_17 (by first | exact Or.inl rfl | exact Or.inr rfl | exact bI_01 _ | (rename_i h9; rw [h9]; exact bI_01 _) | (subst_vars; exact bI_01 _)) (by first | (simp only [pKnown, bI, c1, c2, decide_true, decide_false, Bool.not_true, Bool.not_false, Bool.and_true, Bool.true_and, Bool.and_false, Bool.false_and, Bool.or_true, Bool.true_or, Bool.or_false, Bool.false_or, Bool.and_self, Bool.or_self, if_true, if_false, ite_true, ite_false, Bool.false_eq_true, reduceIte, not_true_eq_false, not_false_eq_true, and_true, true_and, and_false, false_and, or_true, true_or, or_false, false_or, and_self, or_self, eq_self, decide_eq_true_eq, Bool.true_eq_false, reduceCtorEq, ne_eq]; done) | (simp [pKnown, bI, c1, c2, Int32.not_lt.mp c1, Int32.not_lt.mpr c2]; done))
    · skip
      refine lv_iconst (v := 1) hx hb dX2_known_12 (by decide) ?_
      refine lv_goto (tgt := 17) hx hb dX2_known_13 (by decide) ?_
      exact reZ hx hb hr hlocks dX2_known_17 (by first | exact Or.inl rfl | exact Or.inr rfl | exact bI_01 _ | (rename_i h9; rw [h9]; exact bI_01 _) | (subst_vars; exact bI_01 _)) (by first | (simp only [pKnown, bI, c1, c2, decide_true, decide_false, Bool.not_true, Bool.not_false, Bool.and_true, Bool.true_and, Bool.and_false, Bool.false_and, Bool.or_true, Bool.true_or, Bool.or_false, Bool.false_or, Bool.and_self, Bool.or_self, if_true, if_false, ite_true, ite_false, Bool.false_eq_true, reduceIte, not_true_eq_false, not_false_eq_true, and_true, true_and, and_false, false_and, or_true, true_or, or_false, false_or, and_self, or_self, eq_self, decide_eq_true_eq, Bool.true_eq_false, reduceCtorEq, ne_eq]; done) | (simp [pKnown, bI, c1, c2, Int32.not_lt.mp c1, Int32.not_le.mp c2]; done))
theorem hdX2_known : yX2_known.cls = RX2 ∧ yX2_known.cls ≠ "java/lang/invoke/MethodHandle" ∧ yX2_known.cls ≠ "java/lang/invoke/VarHandle" ∧ (parseMethodDescriptor yX2_known.desc).map (fun d => d.parameters.length) = some 1 := by decide +kernel
set_option maxHeartbeats 4000000 in
set_option maxRecDepth 100000 in
theorem c_X2_sizeFits (l : Launch) (D : va_G) (Y : Nat → ClassId) (t : OS) (k : Int32) (z : Int32) (hok : oOK t) : Met l yX2_sizeFits wsX2_sizeFits ({ frames := 1, cells := 0, slots := 0, locals := 21 }) (rdPc D Y [.ref (oO t), .int k, .int z] (oW Y t)) (vp_Si (fun ans => ans = bI (pFits t k z))) 0 0 (fun _ => False) := by
  refine rdOf (cc := cX2_sizeFits) (maxL := 3) (ret := (some .boolean)) (own := RX2) (by decide) rfl rfl (Nat.le_of_ble_eq_true rfl) ?_
  intro p e s m below meth c ls hx hb hr hts hown hml hlocks hP hK hl
  have iwX2 : ∀ w ∈ u_ws RX2 TX2 10, w ∈ wsX2_sizeFits := fun _ h => List.mem_cons_of_mem _ (List.mem_append_right _ h)
  have hl : lv_has ls 3 [(0, .ref (oO t)), (1, .int k), (2, .int z)] := hl
  refine lv_iload_n hx hb dX2_sizeFits_0 rfl (lv_at hl 1 rfl) ?_
  by_cases c1 : k = 2
  · refine lv_tableIn (off := 39) (tgt := 40) hx hb dX2_sizeFits_1 (by rw [c1]; decide) (by rw [c1]; decide) (by rw [c1]; decide) (by decide) ?_
    refine lv_iload_n hx hb dX2_sizeFits_40 rfl (lv_at hl 2 rfl) ?_
    refine lv_iconst (v := 1) hx hb dX2_sizeFits_41 (by decide) ?_
    refine scI (As := [.int z, .int 1]) (rest := []) ⟨hx, hb, hml, hown, hts⟩ (c_X2_within l z 1) (va_cwS 2 hts gX2_sizeFits_X2_within rfl rfl rfl hdX2_within ⟨Nat.le_of_ble_eq_true rfl, Nat.le_of_ble_eq_true rfl⟩) rfl hl.1 rfl (Nat.le_of_ble_eq_true rfl) dX2_sizeFits_42 ⟨(Nat.zero_le _), (Nat.zero_le _)⟩ (fun r2 hr2 => ?_)
    cases b3 : pWithin z 1
    · replace hr2 : r2 = 0 := by rw [hr2, b3]; rfl
      subst hr2
      exact reZ hx hb hr hlocks dX2_sizeFits_45 (by first | exact Or.inl rfl | exact Or.inr rfl | exact bI_01 _ | (rename_i h9; rw [h9]; exact bI_01 _) | (subst_vars; exact bI_01 _)) (by first | (simp only [pFits, bI, c1, b3, decide_true, decide_false, Bool.not_true, Bool.not_false, Bool.and_true, Bool.true_and, Bool.and_false, Bool.false_and, Bool.or_true, Bool.true_or, Bool.or_false, Bool.false_or, Bool.and_self, Bool.or_self, if_true, if_false, ite_true, ite_false, Bool.false_eq_true, reduceIte, not_true_eq_false, not_false_eq_true, and_true, true_and, and_false, false_and, or_true, true_or, or_false, false_or, and_self, or_self, eq_self, decide_eq_true_eq, Bool.true_eq_false, reduceCtorEq, ne_eq]; done) | (simp [pFits, bI, c1, b3]; done))
    · replace hr2 : r2 = 1 := by rw [hr2, b3]; rfl
      subst hr2
      exact reZ hx hb hr hlocks dX2_sizeFits_45 (by first | exact Or.inl rfl | exact Or.inr rfl | exact bI_01 _ | (rename_i h9; rw [h9]; exact bI_01 _) | (subst_vars; exact bI_01 _)) (by first | (simp only [pFits, bI, c1, b3, decide_true, decide_false, Bool.not_true, Bool.not_false, Bool.and_true, Bool.true_and, Bool.and_false, Bool.false_and, Bool.or_true, Bool.true_or, Bool.or_false, Bool.false_or, Bool.and_self, Bool.or_self, if_true, if_false, ite_true, ite_false, Bool.false_eq_true, reduceIte, not_true_eq_false, not_false_eq_true, and_true, true_and, and_false, false_and, or_true, true_or, or_false, false_or, and_self, or_self, eq_self, decide_eq_true_eq, Bool.true_eq_false, reduceCtorEq, ne_eq]; done) | (simp [pFits, bI, c1, b3]; done))
  by_cases c4 : k = 3
  · refine lv_tableIn (off := 45) (tgt := 46) hx hb dX2_sizeFits_1 (by rw [c4]; decide) (by rw [c4]; decide) (by rw [c4]; decide) (by decide) ?_
    refine lv_iload_n hx hb dX2_sizeFits_46 rfl (lv_at hl 2 rfl) ?_
    refine lv_sipush (v := 999) hx hb dX2_sizeFits_47 (by decide) ?_
    refine scI (As := [.int z, .int 999]) (rest := []) ⟨hx, hb, hml, hown, hts⟩ (c_X2_within l z 999) (va_cwS 2 hts gX2_sizeFits_X2_within rfl rfl rfl hdX2_within ⟨Nat.le_of_ble_eq_true rfl, Nat.le_of_ble_eq_true rfl⟩) rfl hl.1 rfl (Nat.le_of_ble_eq_true rfl) dX2_sizeFits_50 ⟨(Nat.zero_le _), (Nat.zero_le _)⟩ (fun r5 hr5 => ?_)
    cases b6 : pWithin z 999
    · replace hr5 : r5 = 0 := by rw [hr5, b6]; rfl
      subst hr5
      exact reZ hx hb hr hlocks dX2_sizeFits_53 (by first | exact Or.inl rfl | exact Or.inr rfl | exact bI_01 _ | (rename_i h9; rw [h9]; exact bI_01 _) | (subst_vars; exact bI_01 _)) (by first | (simp only [pFits, bI, c1, c4, b6, decide_true, decide_false, Bool.not_true, Bool.not_false, Bool.and_true, Bool.true_and, Bool.and_false, Bool.false_and, Bool.or_true, Bool.true_or, Bool.or_false, Bool.false_or, Bool.and_self, Bool.or_self, if_true, if_false, ite_true, ite_false, Bool.false_eq_true, reduceIte, not_true_eq_false, not_false_eq_true, and_true, true_and, and_false, false_and, or_true, true_or, or_false, false_or, and_self, or_self, eq_self, decide_eq_true_eq, Bool.true_eq_false, reduceCtorEq, ne_eq]; done) | (simp [pFits, bI, c1, c4, b6]; done))
    · replace hr5 : r5 = 1 := by rw [hr5, b6]; rfl
      subst hr5
      exact reZ hx hb hr hlocks dX2_sizeFits_53 (by first | exact Or.inl rfl | exact Or.inr rfl | exact bI_01 _ | (rename_i h9; rw [h9]; exact bI_01 _) | (subst_vars; exact bI_01 _)) (by first | (simp only [pFits, bI, c1, c4, b6, decide_true, decide_false, Bool.not_true, Bool.not_false, Bool.and_true, Bool.true_and, Bool.and_false, Bool.false_and, Bool.or_true, Bool.true_or, Bool.or_false, Bool.false_or, Bool.and_self, Bool.or_self, if_true, if_false, ite_true, ite_false, Bool.false_eq_true, reduceIte, not_true_eq_false, not_false_eq_true, and_true, true_and, and_false, false_and, or_true, true_or, or_false, false_or, and_self, or_self, eq_self, decide_eq_true_eq, Bool.true_eq_false, reduceCtorEq, ne_eq]; done) | (simp [pFits, bI, c1, c4, b6]; done))
  by_cases c7 : k = 4
  · refine lv_tableIn (off := 53) (tgt := 54) hx hb dX2_sizeFits_1 (by rw [c7]; decide) (by rw [c7]; decide) (by rw [c7]; decide) (by decide) ?_
    refine lv_iload_n hx hb dX2_sizeFits_54 rfl (lv_at hl 2 rfl) ?_
    refine lv_bipush (v := 64) hx hb dX2_sizeFits_55 (by decide) ?_
    refine scI (As := [.int z, .int 64]) (rest := []) ⟨hx, hb, hml, hown, hts⟩ (c_X2_within l z 64) (va_cwS 2 hts gX2_sizeFits_X2_within rfl rfl rfl hdX2_within ⟨Nat.le_of_ble_eq_true rfl, Nat.le_of_ble_eq_true rfl⟩) rfl hl.1 rfl (Nat.le_of_ble_eq_true rfl) dX2_sizeFits_57 ⟨(Nat.zero_le _), (Nat.zero_le _)⟩ (fun r8 hr8 => ?_)
    cases b9 : pWithin z 64
    · replace hr8 : r8 = 0 := by rw [hr8, b9]; rfl
      subst hr8
      exact reZ hx hb hr hlocks dX2_sizeFits_60 (by first | exact Or.inl rfl | exact Or.inr rfl | exact bI_01 _ | (rename_i h9; rw [h9]; exact bI_01 _) | (subst_vars; exact bI_01 _)) (by first | (simp only [pFits, bI, c1, c4, c7, b9, decide_true, decide_false, Bool.not_true, Bool.not_false, Bool.and_true, Bool.true_and, Bool.and_false, Bool.false_and, Bool.or_true, Bool.true_or, Bool.or_false, Bool.false_or, Bool.and_self, Bool.or_self, if_true, if_false, ite_true, ite_false, Bool.false_eq_true, reduceIte, not_true_eq_false, not_false_eq_true, and_true, true_and, and_false, false_and, or_true, true_or, or_false, false_or, and_self, or_self, eq_self, decide_eq_true_eq, Bool.true_eq_false, reduceCtorEq, ne_eq]; done) | (simp [pFits, bI, c1, c4, c7, b9]; done))
    · replace hr8 : r8 = 1 := by rw [hr8, b9]; rfl
      subst hr8
      exact reZ hx hb hr hlocks dX2_sizeFits_60 (by first | exact Or.inl rfl | exact Or.inr rfl | exact bI_01 _ | (rename_i h9; rw [h9]; exact bI_01 _) | (subst_vars; exact bI_01 _)) (by first | (simp only [pFits, bI, c1, c4, c7, b9, decide_true, decide_false, Bool.not_true, Bool.not_false, Bool.and_true, Bool.true_and, Bool.and_false, Bool.false_and, Bool.or_true, Bool.true_or, Bool.or_false, Bool.false_or, Bool.and_self, Bool.or_self, if_true, if_false, ite_true, ite_false, Bool.false_eq_true, reduceIte, not_true_eq_false, not_false_eq_true, and_true, true_and, and_false, false_and, or_true, true_or, or_false, false_or, and_self, or_self, eq_self, decide_eq_true_eq, Bool.true_eq_false, reduceCtorEq, ne_eq]; done) | (simp [pFits, bI, c1, c4, c7, b9]; done))
  by_cases c10 : k = 5
  · refine lv_tableIn (off := 60) (tgt := 61) hx hb dX2_sizeFits_1 (by rw [c10]; decide) (by rw [c10]; decide) (by rw [c10]; decide) (by decide) ?_
    refine lv_iload_n hx hb dX2_sizeFits_61 rfl (lv_at hl 2 rfl) ?_
    refine lv_bipush (v := 32) hx hb dX2_sizeFits_62 (by decide) ?_
    refine scI (As := [.int z, .int 32]) (rest := []) ⟨hx, hb, hml, hown, hts⟩ (c_X2_within l z 32) (va_cwS 2 hts gX2_sizeFits_X2_within rfl rfl rfl hdX2_within ⟨Nat.le_of_ble_eq_true rfl, Nat.le_of_ble_eq_true rfl⟩) rfl hl.1 rfl (Nat.le_of_ble_eq_true rfl) dX2_sizeFits_64 ⟨(Nat.zero_le _), (Nat.zero_le _)⟩ (fun r11 hr11 => ?_)
    cases b12 : pWithin z 32
    · replace hr11 : r11 = 0 := by rw [hr11, b12]; rfl
      subst hr11
      exact reZ hx hb hr hlocks dX2_sizeFits_67 (by first | exact Or.inl rfl | exact Or.inr rfl | exact bI_01 _ | (rename_i h9; rw [h9]; exact bI_01 _) | (subst_vars; exact bI_01 _)) (by first | (simp only [pFits, bI, c1, c4, c7, c10, b12, decide_true, decide_false, Bool.not_true, Bool.not_false, Bool.and_true, Bool.true_and, Bool.and_false, Bool.false_and, Bool.or_true, Bool.true_or, Bool.or_false, Bool.false_or, Bool.and_self, Bool.or_self, if_true, if_false, ite_true, ite_false, Bool.false_eq_true, reduceIte, not_true_eq_false, not_false_eq_true, and_true, true_and, and_false, false_and, or_true, true_or, or_false, false_or, and_self, or_self, eq_self, decide_eq_true_eq, Bool.true_eq_false, reduceCtorEq, ne_eq]; done) | (simp [pFits, bI, c1, c4, c7, c10, b12]; done))
    · replace hr11 : r11 = 1 := by rw [hr11, b12]; rfl
      subst hr11
      exact reZ hx hb hr hlocks dX2_sizeFits_67 (by first | exact Or.inl rfl | exact Or.inr rfl | exact bI_01 _ | (rename_i h9; rw [h9]; exact bI_01 _) | (subst_vars; exact bI_01 _)) (by first | (simp only [pFits, bI, c1, c4, c7, c10, b12, decide_true, decide_false, Bool.not_true, Bool.not_false, Bool.and_true, Bool.true_and, Bool.and_false, Bool.false_and, Bool.or_true, Bool.true_or, Bool.or_false, Bool.false_or, Bool.and_self, Bool.or_self, if_true, if_false, ite_true, ite_false, Bool.false_eq_true, reduceIte, not_true_eq_false, not_false_eq_true, and_true, true_and, and_false, false_and, or_true, true_or, or_false, false_or, and_self, or_self, eq_self, decide_eq_true_eq, Bool.true_eq_false, reduceCtorEq, ne_eq]; done) | (simp [pFits, bI, c1, c4, c7, c10, b12]; done))
  by_cases c13 : k = 6
  · refine lv_tableIn (off := 67) (tgt := 68) hx hb dX2_sizeFits_1 (by rw [c13]; decide) (by rw [c13]; decide) (by rw [c13]; decide) (by decide) ?_
    refine lv_iload_n hx hb dX2_sizeFits_68 rfl (lv_at hl 2 rfl) ?_
    refine lv_bipush (v := 32) hx hb dX2_sizeFits_69 (by decide) ?_
    refine lv_aload_n hx hb dX2_sizeFits_71 rfl (lv_at hl 0 rfl) ?_
    refine va_get (D := D) (ci := 3) (v := .int (oCnt t)) (C := RX2) (T := TX2) (N := 10) hx hb hts iwX2 hown hK hP 0 rfl rfl 8 (by decide) (hts (.fieldLink RX2 50 "ObjectRows" "count" "I") (by decide +kernel)) (fun _ h9 => h9) rfl dX2_sizeFits_72 ?_
    refine va_mmin hx hb (hml.trans hl.1.symm) hown (hts (.methodLink RX2 186 Lib.Math.min.name) (by decide +kernel)) (hts (.static Lib.Math.min.name) (by decide +kernel)) (hts (.initialized "java/lang/Math") (by decide +kernel)) (hts (.code Lib.Math.min.name Lib.Math.min.code 2 (some .int)) (by decide +kernel)) (Nat.le_of_ble_eq_true rfl) (Nat.le_of_ble_eq_true rfl) (Nat.zero_le _) (Nat.zero_le _) dX2_sizeFits_75 ?_
    refine scI (As := [.int z, .int (if oCnt t < 32 then oCnt t else 32)]) (rest := []) ⟨hx, hb, hml, hown, hts⟩ (c_X2_within l z (if oCnt t < 32 then oCnt t else 32)) (va_cwS 2 hts gX2_sizeFits_X2_within rfl rfl rfl hdX2_within ⟨Nat.le_of_ble_eq_true rfl, Nat.le_of_ble_eq_true rfl⟩) rfl hl.1 rfl (Nat.le_of_ble_eq_true rfl) dX2_sizeFits_78 ⟨(Nat.zero_le _), (Nat.zero_le _)⟩ (fun r14 hr14 => ?_)
    cases b15 : pWithin z (if oCnt t < 32 then oCnt t else 32)
    · replace hr14 : r14 = 0 := by rw [hr14, b15]; rfl
      subst hr14
      exact reZ hx hb hr hlocks dX2_sizeFits_81 (by first | exact Or.inl rfl | exact Or.inr rfl | exact bI_01 _ | (rename_i h9; rw [h9]; exact bI_01 _) | (subst_vars; exact bI_01 _)) (by first | (simp only [pFits, bI, c1, c4, c7, c10, c13, b15, decide_true, decide_false, Bool.not_true, Bool.not_false, Bool.and_true, Bool.true_and, Bool.and_false, Bool.false_and, Bool.or_true, Bool.true_or, Bool.or_false, Bool.false_or, Bool.and_self, Bool.or_self, if_true, if_false, ite_true, ite_false, Bool.false_eq_true, reduceIte, not_true_eq_false, not_false_eq_true, and_true, true_and, and_false, false_and, or_true, true_or, or_false, false_or, and_self, or_self, eq_self, decide_eq_true_eq, Bool.true_eq_false, reduceCtorEq, ne_eq]; done) | (simp [pFits, bI, c1, c4, c7, c10, c13, b15]; done))
    · replace hr14 : r14 = 1 := by rw [hr14, b15]; rfl
      subst hr14
      exact reZ hx hb hr hlocks dX2_sizeFits_81 (by first | exact Or.inl rfl | exact Or.inr rfl | exact bI_01 _ | (rename_i h9; rw [h9]; exact bI_01 _) | (subst_vars; exact bI_01 _)) (by first | (simp only [pFits, bI, c1, c4, c7, c10, c13, b15, decide_true, decide_false, Bool.not_true, Bool.not_false, Bool.and_true, Bool.true_and, Bool.and_false, Bool.false_and, Bool.or_true, Bool.true_or, Bool.or_false, Bool.false_or, Bool.and_self, Bool.or_self, if_true, if_false, ite_true, ite_false, Bool.false_eq_true, reduceIte, not_true_eq_false, not_false_eq_true, and_true, true_and, and_false, false_and, or_true, true_or, or_false, false_or, and_self, or_self, eq_self, decide_eq_true_eq, Bool.true_eq_false, reduceCtorEq, ne_eq]; done) | (simp [pFits, bI, c1, c4, c7, c10, c13, b15]; done))
  by_cases c16 : k = 7
  · refine lv_tableIn (off := 81) (tgt := 82) hx hb dX2_sizeFits_1 (by rw [c16]; decide) (by rw [c16]; decide) (by rw [c16]; decide) (by decide) ?_
    refine lv_iload_n hx hb dX2_sizeFits_82 rfl (lv_at hl 2 rfl) ?_
    refine lv_bipush (v := 32) hx hb dX2_sizeFits_83 (by decide) ?_
    refine scI (As := [.int z, .int 32]) (rest := []) ⟨hx, hb, hml, hown, hts⟩ (c_X2_within l z 32) (va_cwS 2 hts gX2_sizeFits_X2_within rfl rfl rfl hdX2_within ⟨Nat.le_of_ble_eq_true rfl, Nat.le_of_ble_eq_true rfl⟩) rfl hl.1 rfl (Nat.le_of_ble_eq_true rfl) dX2_sizeFits_85 ⟨(Nat.zero_le _), (Nat.zero_le _)⟩ (fun r17 hr17 => ?_)
    cases b18 : pWithin z 32
    · replace hr17 : r17 = 0 := by rw [hr17, b18]; rfl
      subst hr17
      exact reZ hx hb hr hlocks dX2_sizeFits_88 (by first | exact Or.inl rfl | exact Or.inr rfl | exact bI_01 _ | (rename_i h9; rw [h9]; exact bI_01 _) | (subst_vars; exact bI_01 _)) (by first | (simp only [pFits, bI, c1, c4, c7, c10, c13, c16, b18, decide_true, decide_false, Bool.not_true, Bool.not_false, Bool.and_true, Bool.true_and, Bool.and_false, Bool.false_and, Bool.or_true, Bool.true_or, Bool.or_false, Bool.false_or, Bool.and_self, Bool.or_self, if_true, if_false, ite_true, ite_false, Bool.false_eq_true, reduceIte, not_true_eq_false, not_false_eq_true, and_true, true_and, and_false, false_and, or_true, true_or, or_false, false_or, and_self, or_self, eq_self, decide_eq_true_eq, Bool.true_eq_false, reduceCtorEq, ne_eq]; done) | (simp [pFits, bI, c1, c4, c7, c10, c13, c16, b18]; done))
    · replace hr17 : r17 = 1 := by rw [hr17, b18]; rfl
      subst hr17
      exact reZ hx hb hr hlocks dX2_sizeFits_88 (by first | exact Or.inl rfl | exact Or.inr rfl | exact bI_01 _ | (rename_i h9; rw [h9]; exact bI_01 _) | (subst_vars; exact bI_01 _)) (by first | (simp only [pFits, bI, c1, c4, c7, c10, c13, c16, b18, decide_true, decide_false, Bool.not_true, Bool.not_false, Bool.and_true, Bool.true_and, Bool.and_false, Bool.false_and, Bool.or_true, Bool.true_or, Bool.or_false, Bool.false_or, Bool.and_self, Bool.or_self, if_true, if_false, ite_true, ite_false, Bool.false_eq_true, reduceIte, not_true_eq_false, not_false_eq_true, and_true, true_and, and_false, false_and, or_true, true_or, or_false, false_or, and_self, or_self, eq_self, decide_eq_true_eq, Bool.true_eq_false, reduceCtorEq, ne_eq]; done) | (simp [pFits, bI, c1, c4, c7, c10, c13, c16, b18]; done))
  refine lv_tableD (tgt := 89) hx hb dX2_sizeFits_1 (tblD (ks := [2, 3, 4, 5, 6, 7]) (by decide) (List.forall_mem_cons.mpr ⟨neI c1 (by decide), (List.forall_mem_cons.mpr ⟨neI c4 (by decide), (List.forall_mem_cons.mpr ⟨neI c7 (by decide), (List.forall_mem_cons.mpr ⟨neI c10 (by decide), (List.forall_mem_cons.mpr ⟨neI c13 (by decide), (List.forall_mem_cons.mpr ⟨neI c16 (by decide), (fun _ h => absurd h List.not_mem_nil)⟩)⟩)⟩)⟩)⟩)⟩) (by decide)) (by decide) ?_
  refine lv_iconst (v := 1) hx hb dX2_sizeFits_89 (by decide) ?_
  exact reZ hx hb hr hlocks dX2_sizeFits_90 (by first | exact Or.inl rfl | exact Or.inr rfl | exact bI_01 _ | (rename_i h9; rw [h9]; exact bI_01 _) | (subst_vars; exact bI_01 _)) (by first | (simp only [pFits, bI, c1, c4, c7, c10, c13, c16, decide_true, decide_false, Bool.not_true, Bool.not_false, Bool.and_true, Bool.true_and, Bool.and_false, Bool.false_and, Bool.or_true, Bool.true_or, Bool.or_false, Bool.false_or, Bool.and_self, Bool.or_self, if_true, if_false, ite_true, ite_false, Bool.false_eq_true, reduceIte, not_true_eq_false, not_false_eq_true, and_true, true_and, and_false, false_and, or_true, true_or, or_false, false_or, and_self, or_self, eq_self, decide_eq_true_eq, Bool.true_eq_false, reduceCtorEq, ne_eq]; done) | (simp [pFits, bI, c1, c4, c7, c10, c13, c16]; done))
theorem hdX2_sizeFits : yX2_sizeFits.cls = RX2 ∧ yX2_sizeFits.cls ≠ "java/lang/invoke/MethodHandle" ∧ yX2_sizeFits.cls ≠ "java/lang/invoke/VarHandle" ∧ (parseMethodDescriptor yX2_sizeFits.desc).map (fun d => d.parameters.length) = some 2 := by decide +kernel
set_option maxHeartbeats 4000000 in
set_option maxRecDepth 100000 in
theorem c_X2_hasElement (l : Launch) (D : va_G) (Y : Nat → ClassId) (t : OS) (x : Int32) (i : Int32) (hok : oOK t) : Met l yX2_hasElement wsX2_hasElement ({ frames := 1, cells := 0, slots := 0, locals := 21 }) (rdPc D Y [.ref (oO t), .int x, .int i] (oW Y t)) (vp_Si (fun ans => ans = bI (pHasEl t x i))) 0 0 (fun _ => False) := by
  refine rdOf (cc := cX2_hasElement) (maxL := 3) (ret := (some .boolean)) (own := RX2) (by decide) rfl rfl (Nat.le_of_ble_eq_true rfl) ?_
  intro p e s m below meth c ls hx hb hr hts hown hml hlocks hP hK hl
  have iwX2 : ∀ w ∈ u_ws RX2 TX2 10, w ∈ wsX2_hasElement := fun _ h => List.mem_cons_of_mem _ (List.mem_append_left _ (List.mem_append_right _ h))
  have hl : lv_has ls 3 [(0, .ref (oO t)), (1, .int x), (2, .int i)] := hl
  refine lv_iload_n hx hb dX2_hasElement_0 rfl (lv_at hl 2 rfl) ?_
  refine lv_if_lt (tgt := 20) hx hb dX2_hasElement_1 (by decide) (fun c1 => ?_) (fun c1 => ?_)
  · skip
    refine lv_iconst (v := 0) hx hb dX2_hasElement_20 (by decide) ?_
    exact reZ hx hb hr hlocks dX2_hasElement_21 (by first | exact Or.inl rfl | exact Or.inr rfl | exact bI_01 _ | (rename_i h9; rw [h9]; exact bI_01 _) | (subst_vars; exact bI_01 _)) (by first | (simp only [pHasEl, bI, c1, decide_true, decide_false, Bool.not_true, Bool.not_false, Bool.and_true, Bool.true_and, Bool.and_false, Bool.false_and, Bool.or_true, Bool.true_or, Bool.or_false, Bool.false_or, Bool.and_self, Bool.or_self, if_true, if_false, ite_true, ite_false, Bool.false_eq_true, reduceIte, not_true_eq_false, not_false_eq_true, and_true, true_and, and_false, false_and, or_true, true_or, or_false, false_or, and_self, or_self, eq_self, decide_eq_true_eq, Bool.true_eq_false, reduceCtorEq, ne_eq]; done) | (simp [pHasEl, bI, c1, Int32.not_le.mpr c1]; done))
  · skip
    refine lv_iload_n hx hb dX2_hasElement_4 rfl (lv_at hl 2 rfl) ?_
    refine lv_aload_n hx hb dX2_hasElement_5 rfl (lv_at hl 0 rfl) ?_
    refine va_get (D := D) (ci := 3) (v := .ref (oH t 4)) (C := RX2) (T := TX2) (N := 10) hx hb hts iwX2 hown hK hP 0 rfl rfl 4 (by decide) (hts (.fieldLink RX2 25 "ObjectRows" "lengths" "LObjectRows$Row;") (by decide +kernel)) (fun _ h9 => h9) rfl dX2_hasElement_6 ?_
    refine lv_iload_n hx hb dX2_hasElement_9 rfl (lv_at hl 1 rfl) ?_
    refine rcI (As := [.int x]) (rest := [.int i]) ⟨hx, hb, hml, hown, hts⟩ (c_X1_at l D Y (oH t 4) (oR t 4) x (hok 4 (by decide))) (cwV 1 hts gX2_hasElement_X1_at rfl rfl rfl hdX1_at ⟨Nat.le_of_ble_eq_true rfl, Nat.le_of_ble_eq_true rfl⟩) (oWr4 hP) hK 0 2 rfl rfl rfl hl.1 rfl (Nat.le_of_ble_eq_true rfl) dX2_hasElement_10 ⟨(Nat.zero_le _), (Nat.zero_le _)⟩ (fun r2 hr2 => ?_)
    obtain rfl : r2 = len t x := hr2
    refine lv_icmp_ge (tgt := 20) hx hb dX2_hasElement_13 (by decide) (fun c3 => ?_) (fun c3 => ?_)
    · skip
      refine lv_iconst (v := 0) hx hb dX2_hasElement_20 (by decide) ?_
      exact reZ hx hb hr hlocks dX2_hasElement_21 (by first | exact Or.inl rfl | exact Or.inr rfl | exact bI_01 _ | (rename_i h9; rw [h9]; exact bI_01 _) | (subst_vars; exact bI_01 _)) (by first | (simp only [pHasEl, bI, c1, c3, decide_true, decide_false, Bool.not_true, Bool.not_false, Bool.and_true, Bool.true_and, Bool.and_false, Bool.false_and, Bool.or_true, Bool.true_or, Bool.or_false, Bool.false_or, Bool.and_self, Bool.or_self, if_true, if_false, ite_true, ite_false, Bool.false_eq_true, reduceIte, not_true_eq_false, not_false_eq_true, and_true, true_and, and_false, false_and, or_true, true_or, or_false, false_or, and_self, or_self, eq_self, decide_eq_true_eq, Bool.true_eq_false, reduceCtorEq, ne_eq]; done) | (simp [pHasEl, bI, c1, c3, Int32.not_lt.mp c1, Int32.not_lt.mpr c3]; done))
    · skip
      refine lv_iconst (v := 1) hx hb dX2_hasElement_16 (by decide) ?_
      refine lv_goto (tgt := 21) hx hb dX2_hasElement_17 (by decide) ?_
      exact reZ hx hb hr hlocks dX2_hasElement_21 (by first | exact Or.inl rfl | exact Or.inr rfl | exact bI_01 _ | (rename_i h9; rw [h9]; exact bI_01 _) | (subst_vars; exact bI_01 _)) (by first | (simp only [pHasEl, bI, c1, c3, decide_true, decide_false, Bool.not_true, Bool.not_false, Bool.and_true, Bool.true_and, Bool.and_false, Bool.false_and, Bool.or_true, Bool.true_or, Bool.or_false, Bool.false_or, Bool.and_self, Bool.or_self, if_true, if_false, ite_true, ite_false, Bool.false_eq_true, reduceIte, not_true_eq_false, not_false_eq_true, and_true, true_and, and_false, false_and, or_true, true_or, or_false, false_or, and_self, or_self, eq_self, decide_eq_true_eq, Bool.true_eq_false, reduceCtorEq, ne_eq]; done) | (simp [pHasEl, bI, c1, c3, Int32.not_lt.mp c1, Int32.not_le.mp c3]; done))
theorem hdX2_hasElement : yX2_hasElement.cls = RX2 ∧ yX2_hasElement.cls ≠ "java/lang/invoke/MethodHandle" ∧ yX2_hasElement.cls ≠ "java/lang/invoke/VarHandle" ∧ (parseMethodDescriptor yX2_hasElement.desc).map (fun d => d.parameters.length) = some 2 := by decide +kernel
set_option maxHeartbeats 4000000 in
set_option maxRecDepth 100000 in
theorem c_X2_hasPart (l : Launch) (D : va_G) (Y : Nat → ClassId) (t : OS) (x : Int32) (f : Int32) (n : Int32) (hok : oOK t) : Met l yX2_hasPart wsX2_hasPart ({ frames := 1, cells := 0, slots := 0, locals := 21 }) (rdPc D Y [.ref (oO t), .int x, .int f, .int n] (oW Y t)) (vp_Si (fun ans => ans = bI (pHasPart t x f n))) 0 0 (fun _ => False) := by
  refine rdOf (cc := cX2_hasPart) (maxL := 5) (ret := (some .boolean)) (own := RX2) (by decide) rfl rfl (Nat.le_of_ble_eq_true rfl) ?_
  intro p e s m below meth c ls hx hb hr hts hown hml hlocks hP hK hl
  have iwX2 : ∀ w ∈ u_ws RX2 TX2 10, w ∈ wsX2_hasPart := fun _ h => List.mem_cons_of_mem _ (List.mem_append_left _ (List.mem_append_right _ h))
  have hl : lv_has ls 5 [(0, .ref (oO t)), (1, .int x), (2, .int f), (3, .int n)] := hl
  refine lv_aload_n hx hb dX2_hasPart_0 rfl (lv_at hl 0 rfl) ?_
  refine va_get (D := D) (ci := 3) (v := .ref (oH t 4)) (C := RX2) (T := TX2) (N := 10) hx hb hts iwX2 hown hK hP 0 rfl rfl 4 (by decide) (hts (.fieldLink RX2 25 "ObjectRows" "lengths" "LObjectRows$Row;") (by decide +kernel)) (fun _ h9 => h9) rfl dX2_hasPart_1 ?_
  refine lv_iload_n hx hb dX2_hasPart_4 rfl (lv_at hl 1 rfl) ?_
  refine rcI (As := [.int x]) (rest := []) ⟨hx, hb, hml, hown, hts⟩ (c_X1_at l D Y (oH t 4) (oR t 4) x (hok 4 (by decide))) (cwV 1 hts gX2_hasPart_X1_at rfl rfl rfl hdX1_at ⟨Nat.le_of_ble_eq_true rfl, Nat.le_of_ble_eq_true rfl⟩) (oWr4 hP) hK 0 2 rfl rfl rfl hl.1 rfl (Nat.le_of_ble_eq_true rfl) dX2_hasPart_5 ⟨(Nat.zero_le _), (Nat.zero_le _)⟩ (fun r1 hr1 => ?_)
  obtain rfl : r1 = len t x := hr1
  refine lv_istore (lv' := [(4, .int (len t x)), (0, .ref (oO t)), (1, .int x), (2, .int f), (3, .int n)]) hx hb dX2_hasPart_8 hl (by decide) rfl (fun ls hl => ?_)
  refine lv_iload_n hx hb dX2_hasPart_10 rfl (lv_at hl 3 rfl) ?_
  refine lv_iload hx hb dX2_hasPart_11 (lv_at hl 0 rfl) ?_
  refine scI (As := [.int f, .int (len t x)]) (rest := []) ⟨hx, hb, hml, hown, hts⟩ (c_X2_within l f (len t x)) (va_cwS 2 hts gX2_hasPart_X2_within rfl rfl rfl hdX2_within ⟨Nat.le_of_ble_eq_true rfl, Nat.le_of_ble_eq_true rfl⟩) rfl hl.1 rfl (Nat.le_of_ble_eq_true rfl) dX2_hasPart_13 ⟨(Nat.zero_le _), (Nat.zero_le _)⟩ (fun r2 hr2 => ?_)
  cases b3 : pWithin f (len t x)
  · replace hr2 : r2 = 0 := by rw [hr2, b3]; rfl
    subst hr2
    refine lv_if_eq (tgt := 34) hx hb dX2_hasPart_16 (by decide) (fun _ => ?_) (fun c4 => absurd (by decide) c4)
    refine lv_iconst (v := 0) hx hb dX2_hasPart_34 (by decide) ?_
    exact reZ hx hb hr hlocks dX2_hasPart_35 (by first | exact Or.inl rfl | exact Or.inr rfl | exact bI_01 _ | (rename_i h9; rw [h9]; exact bI_01 _) | (subst_vars; exact bI_01 _)) (by first | (simp only [pHasPart, bI, b3, decide_true, decide_false, Bool.not_true, Bool.not_false, Bool.and_true, Bool.true_and, Bool.and_false, Bool.false_and, Bool.or_true, Bool.true_or, Bool.or_false, Bool.false_or, Bool.and_self, Bool.or_self, if_true, if_false, ite_true, ite_false, Bool.false_eq_true, reduceIte, not_true_eq_false, not_false_eq_true, and_true, true_and, and_false, false_and, or_true, true_or, or_false, false_or, and_self, or_self, eq_self, decide_eq_true_eq, Bool.true_eq_false, reduceCtorEq, ne_eq]; done) | (simp [pHasPart, bI, b3]; done))
  · replace hr2 : r2 = 1 := by rw [hr2, b3]; rfl
    subst hr2
    refine lv_if_eq (tgt := 34) hx hb dX2_hasPart_16 (by decide) (fun c5 => absurd c5 (by decide)) (fun _ => ?_)
    refine lv_iload_n hx hb dX2_hasPart_19 rfl (lv_at hl 4 rfl) ?_
    refine lv_iload hx hb dX2_hasPart_20 (lv_at hl 0 rfl) ?_
    refine lv_iload_n hx hb dX2_hasPart_22 rfl (lv_at hl 3 rfl) ?_
    refine lv_isub hx hb dX2_hasPart_23 ?_
    refine scI (As := [.int n, .int ((len t x) - f)]) (rest := []) ⟨hx, hb, hml, hown, hts⟩ (c_X2_within l n ((len t x) - f)) (va_cwS 2 hts gX2_hasPart_X2_within rfl rfl rfl hdX2_within ⟨Nat.le_of_ble_eq_true rfl, Nat.le_of_ble_eq_true rfl⟩) rfl hl.1 rfl (Nat.le_of_ble_eq_true rfl) dX2_hasPart_24 ⟨(Nat.zero_le _), (Nat.zero_le _)⟩ (fun r6 hr6 => ?_)
    cases b7 : pWithin n ((len t x) - f)
    · replace hr6 : r6 = 0 := by rw [hr6, b7]; rfl
      subst hr6
      refine lv_if_eq (tgt := 34) hx hb dX2_hasPart_27 (by decide) (fun _ => ?_) (fun c8 => absurd (by decide) c8)
      refine lv_iconst (v := 0) hx hb dX2_hasPart_34 (by decide) ?_
      exact reZ hx hb hr hlocks dX2_hasPart_35 (by first | exact Or.inl rfl | exact Or.inr rfl | exact bI_01 _ | (rename_i h9; rw [h9]; exact bI_01 _) | (subst_vars; exact bI_01 _)) (by first | (simp only [pHasPart, bI, b3, b7, decide_true, decide_false, Bool.not_true, Bool.not_false, Bool.and_true, Bool.true_and, Bool.and_false, Bool.false_and, Bool.or_true, Bool.true_or, Bool.or_false, Bool.false_or, Bool.and_self, Bool.or_self, if_true, if_false, ite_true, ite_false, Bool.false_eq_true, reduceIte, not_true_eq_false, not_false_eq_true, and_true, true_and, and_false, false_and, or_true, true_or, or_false, false_or, and_self, or_self, eq_self, decide_eq_true_eq, Bool.true_eq_false, reduceCtorEq, ne_eq]; done) | (simp [pHasPart, bI, b3, b7]; done))
    · replace hr6 : r6 = 1 := by rw [hr6, b7]; rfl
      subst hr6
      refine lv_if_eq (tgt := 34) hx hb dX2_hasPart_27 (by decide) (fun c9 => absurd c9 (by decide)) (fun _ => ?_)
      refine lv_iconst (v := 1) hx hb dX2_hasPart_30 (by decide) ?_
      refine lv_goto (tgt := 35) hx hb dX2_hasPart_31 (by decide) ?_
      exact reZ hx hb hr hlocks dX2_hasPart_35 (by first | exact Or.inl rfl | exact Or.inr rfl | exact bI_01 _ | (rename_i h9; rw [h9]; exact bI_01 _) | (subst_vars; exact bI_01 _)) (by first | (simp only [pHasPart, bI, b3, b7, decide_true, decide_false, Bool.not_true, Bool.not_false, Bool.and_true, Bool.true_and, Bool.and_false, Bool.false_and, Bool.or_true, Bool.true_or, Bool.or_false, Bool.false_or, Bool.and_self, Bool.or_self, if_true, if_false, ite_true, ite_false, Bool.false_eq_true, reduceIte, not_true_eq_false, not_false_eq_true, and_true, true_and, and_false, false_and, or_true, true_or, or_false, false_or, and_self, or_self, eq_self, decide_eq_true_eq, Bool.true_eq_false, reduceCtorEq, ne_eq]; done) | (simp [pHasPart, bI, b3, b7]; done))
theorem hdX2_hasPart : yX2_hasPart.cls = RX2 ∧ yX2_hasPart.cls ≠ "java/lang/invoke/MethodHandle" ∧ yX2_hasPart.cls ≠ "java/lang/invoke/VarHandle" ∧ (parseMethodDescriptor yX2_hasPart.desc).map (fun d => d.parameters.length) = some 3 := by decide +kernel
set_option maxHeartbeats 4000000 in
set_option maxRecDepth 100000 in
theorem c_X2_storeRow (l : Launch) (D : va_G) (Y : Nat → ClassId) (t : OS) (k : Int32) (hok : oOK t) : Met l yX2_storeRow wsX2_storeRow ({ frames := 0, cells := 0, slots := 0, locals := 0 }) (rdPc D Y [.ref (oO t), .int k] (oW Y t)) (va_Sr (fun ans => ans = pStore t k) (fun a => Value.ref a)) 0 0 (fun _ => False) := by
  refine rdOf (cc := cX2_storeRow) (maxL := 2) (ret := (some (.object "ObjectRows$Row"))) (own := RX2) (by decide) rfl rfl (Nat.le_of_ble_eq_true rfl) ?_
  intro p e s m below meth c ls hx hb hr hts hown hml hlocks hP hK hl
  have iwX0 : ∀ w ∈ u_ws RX0 TX0 7, w ∈ wsX2_storeRow := fun _ h => List.mem_cons_of_mem _ (List.mem_append_right _ h)
  have iwX2 : ∀ w ∈ u_ws RX2 TX2 10, w ∈ wsX2_storeRow := fun _ h => List.mem_cons_of_mem _ (List.mem_append_left _ (List.mem_append_right _ h))
  have hl : lv_has ls 2 [(0, .ref (oO t)), (1, .int k)] := hl
  refine lv_iload_n hx hb dX2_storeRow_0 rfl (lv_at hl 1 rfl) ?_
  refine lv_iconst (v := 4) hx hb dX2_storeRow_1 (by decide) ?_
  refine lv_icmp_ne (tgt := 12) hx hb dX2_storeRow_2 (by decide) (fun c1 => ?_) (fun c1 => ?_)
  · skip
    refine lv_aload_n hx hb dX2_storeRow_12 rfl (lv_at hl 0 rfl) ?_
    refine va_get (D := D) (ci := 3) (v := .ref (oNow t)) (C := RX2) (T := TX2) (N := 10) hx hb hts iwX2 hown hK hP 0 rfl rfl 6 (by decide) (hts (.fieldLink RX2 34 "ObjectRows" "now" "LObjectRows$Changing;") (by decide +kernel)) (fun _ h9 => h9) rfl dX2_storeRow_13 ?_
    refine va_get (D := D) (ci := 1) (v := .ref (oH t 11)) (C := RX0) (T := TX0) (N := 7) hx hb hts iwX0 hown hK hP 1 rfl rfl 5 (by decide) (hts (.fieldLink RX2 67 "ObjectRows$Changing" "elements" "LObjectRows$Row;") (by decide +kernel)) (fun _ h9 => h9) rfl dX2_storeRow_16 ?_
    exact reR hx hb hr hlocks dX2_storeRow_19 (by first | (simp only [pStore, c1, decide_true, decide_false, Bool.not_true, Bool.not_false, Bool.and_true, Bool.true_and, Bool.and_false, Bool.false_and, Bool.or_true, Bool.true_or, Bool.or_false, Bool.false_or, Bool.and_self, Bool.or_self, if_true, if_false, ite_true, ite_false, Bool.false_eq_true, reduceIte, not_true_eq_false, not_false_eq_true, and_true, true_and, and_false, false_and, or_true, true_or, or_false, false_or, and_self, or_self, eq_self, decide_eq_true_eq, Bool.true_eq_false, reduceCtorEq, ne_eq]; done) | (simp [pStore, c1]; done))
  · skip
    refine lv_aload_n hx hb dX2_storeRow_5 rfl (lv_at hl 0 rfl) ?_
    refine va_get (D := D) (ci := 3) (v := .ref (oH t 5)) (C := RX2) (T := TX2) (N := 10) hx hb hts iwX2 hown hK hP 0 rfl rfl 5 (by decide) (hts (.fieldLink RX2 28 "ObjectRows" "bytes" "LObjectRows$Row;") (by decide +kernel)) (fun _ h9 => h9) rfl dX2_storeRow_6 ?_
    refine lv_goto (tgt := 19) hx hb dX2_storeRow_9 (by decide) ?_
    exact reR hx hb hr hlocks dX2_storeRow_19 (by first | (simp only [pStore, c1, decide_true, decide_false, Bool.not_true, Bool.not_false, Bool.and_true, Bool.true_and, Bool.and_false, Bool.false_and, Bool.or_true, Bool.true_or, Bool.or_false, Bool.false_or, Bool.and_self, Bool.or_self, if_true, if_false, ite_true, ite_false, Bool.false_eq_true, reduceIte, not_true_eq_false, not_false_eq_true, and_true, true_and, and_false, false_and, or_true, true_or, or_false, false_or, and_self, or_self, eq_self, decide_eq_true_eq, Bool.true_eq_false, reduceCtorEq, ne_eq]; done) | (simp [pStore, c1]; done))
theorem hdX2_storeRow : yX2_storeRow.cls = RX2 ∧ yX2_storeRow.cls ≠ "java/lang/invoke/MethodHandle" ∧ yX2_storeRow.cls ≠ "java/lang/invoke/VarHandle" ∧ (parseMethodDescriptor yX2_storeRow.desc).map (fun d => d.parameters.length) = some 1 := by decide +kernel
set_option maxHeartbeats 4000000 in
set_option maxRecDepth 100000 in
theorem c_X2_elementOf (l : Launch) (D : va_G) (Y : Nat → ClassId) (t : OS) (x : Int32) (i : Int32) (hok : oOK t) : Met l yX2_elementOf wsX2_elementOf ({ frames := 1, cells := 0, slots := 0, locals := 21 }) (rdPc D Y [.ref (oO t), .int x, .int i] (oW Y t)) (vp_Si (fun ans => ans = pEl t x i)) 0 0 (fun _ => False) := by
  refine rdOf (cc := cX2_elementOf) (maxL := 3) (ret := (some .int)) (own := RX2) (by decide) rfl rfl (Nat.le_of_ble_eq_true rfl) ?_
  intro p e s m below meth c ls hx hb hr hts hown hml hlocks hP hK hl
  have iwX2 : ∀ w ∈ u_ws RX2 TX2 10, w ∈ wsX2_elementOf := fun _ h => List.mem_cons_of_mem _ (List.mem_append_left _ (List.mem_append_left _ (List.mem_append_right _ h)))
  have hl : lv_has ls 3 [(0, .ref (oO t)), (1, .int x), (2, .int i)] := hl
  refine lv_aload_n hx hb dX2_elementOf_0 rfl (lv_at hl 0 rfl) ?_
  refine lv_aload_n hx hb dX2_elementOf_1 rfl (lv_at hl 0 rfl) ?_
  refine va_get (D := D) (ci := 3) (v := .ref (oH t 0)) (C := RX2) (T := TX2) (N := 10) hx hb hts iwX2 hown hK hP 0 rfl rfl 0 (by decide) (hts (.fieldLink RX2 12 "ObjectRows" "kinds" "LObjectRows$Row;") (by decide +kernel)) (fun _ h9 => h9) rfl dX2_elementOf_2 ?_
  refine lv_iload_n hx hb dX2_elementOf_5 rfl (lv_at hl 1 rfl) ?_
  refine rcI (As := [.int x]) (rest := [.ref (oO t)]) ⟨hx, hb, hml, hown, hts⟩ (c_X1_at l D Y (oH t 0) (oR t 0) x (hok 0 (by decide))) (cwV 1 hts gX2_elementOf_X1_at rfl rfl rfl hdX1_at ⟨Nat.le_of_ble_eq_true rfl, Nat.le_of_ble_eq_true rfl⟩) (oWr0 hP) hK 0 2 rfl rfl rfl hl.1 rfl (Nat.le_of_ble_eq_true rfl) dX2_elementOf_6 ⟨(Nat.zero_le _), (Nat.zero_le _)⟩ (fun r1 hr1 => ?_)
  obtain rfl : r1 = kd t x := hr1
  refine rcR (As := [.int (kd t x)]) (rest := []) ⟨hx, hb, hml, hown, hts⟩ (c_X2_storeRow l D Y t (kd t x) hok) (cwV 1 hts gX2_elementOf_X2_storeRow rfl rfl rfl hdX2_storeRow ⟨Nat.le_of_ble_eq_true rfl, Nat.le_of_ble_eq_true rfl⟩) hP hK 0 3 rfl rfl rfl hl.1 rfl (Nat.le_of_ble_eq_true rfl) dX2_elementOf_9 ⟨(Nat.zero_le _), (Nat.zero_le _)⟩ (fun r2 hr2 => ?_)
  obtain rfl : r2 = pStore t (kd t x) := hr2
  by_cases c3 : kd t x = 4
  · rw [show pStore t (kd t x) = oH t 5 from if_pos c3]
    refine lv_aload_n hx hb dX2_elementOf_12 rfl (lv_at hl 0 rfl) ?_
    refine va_get (D := D) (ci := 3) (v := .ref (oH t 3)) (C := RX2) (T := TX2) (N := 10) hx hb hts iwX2 hown hK hP 0 rfl rfl 3 (by decide) (hts (.fieldLink RX2 22 "ObjectRows" "starts" "LObjectRows$Row;") (by decide +kernel)) (fun _ h9 => h9) rfl dX2_elementOf_13 ?_
    refine lv_iload_n hx hb dX2_elementOf_16 rfl (lv_at hl 1 rfl) ?_
    refine rcI (As := [.int x]) (rest := [.ref (oH t 5)]) ⟨hx, hb, hml, hown, hts⟩ (c_X1_at l D Y (oH t 3) (oR t 3) x (hok 3 (by decide))) (cwV 1 hts gX2_elementOf_X1_at rfl rfl rfl hdX1_at ⟨Nat.le_of_ble_eq_true rfl, Nat.le_of_ble_eq_true rfl⟩) (oWr3 hP) hK 0 2 rfl rfl rfl hl.1 rfl (Nat.le_of_ble_eq_true rfl) dX2_elementOf_17 ⟨(Nat.zero_le _), (Nat.zero_le _)⟩ (fun r4 hr4 => ?_)
    obtain rfl : r4 = sta t x := hr4
    refine lv_iload_n hx hb dX2_elementOf_20 rfl (lv_at hl 2 rfl) ?_
    refine lv_iadd hx hb dX2_elementOf_21 ?_
    refine rcI (As := [.int ((sta t x) + i)]) (rest := []) ⟨hx, hb, hml, hown, hts⟩ (c_X1_at l D Y (oH t 5) (oR t 5) ((sta t x) + i) (hok 5 (by decide))) (cwV 1 hts gX2_elementOf_X1_at rfl rfl rfl hdX1_at ⟨Nat.le_of_ble_eq_true rfl, Nat.le_of_ble_eq_true rfl⟩) (oWr5 hP) hK 0 2 rfl rfl rfl hl.1 rfl (Nat.le_of_ble_eq_true rfl) dX2_elementOf_22 ⟨(Nat.zero_le _), (Nat.zero_le _)⟩ (fun r5 hr5 => ?_)
    obtain rfl : r5 = rdB t ((sta t x) + i) := hr5
    exact reI hx hb hr hlocks dX2_elementOf_25 (by first | (simp only [pEl, c3, decide_true, decide_false, Bool.not_true, Bool.not_false, Bool.and_true, Bool.true_and, Bool.and_false, Bool.false_and, Bool.or_true, Bool.true_or, Bool.or_false, Bool.false_or, Bool.and_self, Bool.or_self, if_true, if_false, ite_true, ite_false, Bool.false_eq_true, reduceIte, not_true_eq_false, not_false_eq_true, and_true, true_and, and_false, false_and, or_true, true_or, or_false, false_or, and_self, or_self, eq_self, decide_eq_true_eq, Bool.true_eq_false, reduceCtorEq, ne_eq]; done) | (simp [pEl, c3]; done))
  · rw [show pStore t (kd t x) = oH t 11 from if_neg c3]
    refine lv_aload_n hx hb dX2_elementOf_12 rfl (lv_at hl 0 rfl) ?_
    refine va_get (D := D) (ci := 3) (v := .ref (oH t 3)) (C := RX2) (T := TX2) (N := 10) hx hb hts iwX2 hown hK hP 0 rfl rfl 3 (by decide) (hts (.fieldLink RX2 22 "ObjectRows" "starts" "LObjectRows$Row;") (by decide +kernel)) (fun _ h9 => h9) rfl dX2_elementOf_13 ?_
    refine lv_iload_n hx hb dX2_elementOf_16 rfl (lv_at hl 1 rfl) ?_
    refine rcI (As := [.int x]) (rest := [.ref (oH t 11)]) ⟨hx, hb, hml, hown, hts⟩ (c_X1_at l D Y (oH t 3) (oR t 3) x (hok 3 (by decide))) (cwV 1 hts gX2_elementOf_X1_at rfl rfl rfl hdX1_at ⟨Nat.le_of_ble_eq_true rfl, Nat.le_of_ble_eq_true rfl⟩) (oWr3 hP) hK 0 2 rfl rfl rfl hl.1 rfl (Nat.le_of_ble_eq_true rfl) dX2_elementOf_17 ⟨(Nat.zero_le _), (Nat.zero_le _)⟩ (fun r6 hr6 => ?_)
    obtain rfl : r6 = sta t x := hr6
    refine lv_iload_n hx hb dX2_elementOf_20 rfl (lv_at hl 2 rfl) ?_
    refine lv_iadd hx hb dX2_elementOf_21 ?_
    refine rcI (As := [.int ((sta t x) + i)]) (rest := []) ⟨hx, hb, hml, hown, hts⟩ (c_X1_at l D Y (oH t 11) (oR t 11) ((sta t x) + i) (hok 11 (by decide))) (cwV 1 hts gX2_elementOf_X1_at rfl rfl rfl hdX1_at ⟨Nat.le_of_ble_eq_true rfl, Nat.le_of_ble_eq_true rfl⟩) (oWr11 hP) hK 0 2 rfl rfl rfl hl.1 rfl (Nat.le_of_ble_eq_true rfl) dX2_elementOf_22 ⟨(Nat.zero_le _), (Nat.zero_le _)⟩ (fun r7 hr7 => ?_)
    obtain rfl : r7 = rdE t ((sta t x) + i) := hr7
    exact reI hx hb hr hlocks dX2_elementOf_25 (by first | (simp only [pEl, c3, decide_true, decide_false, Bool.not_true, Bool.not_false, Bool.and_true, Bool.true_and, Bool.and_false, Bool.false_and, Bool.or_true, Bool.true_or, Bool.or_false, Bool.false_or, Bool.and_self, Bool.or_self, if_true, if_false, ite_true, ite_false, Bool.false_eq_true, reduceIte, not_true_eq_false, not_false_eq_true, and_true, true_and, and_false, false_and, or_true, true_or, or_false, false_or, and_self, or_self, eq_self, decide_eq_true_eq, Bool.true_eq_false, reduceCtorEq, ne_eq]; done) | (simp [pEl, c3]; done))
theorem hdX2_elementOf : yX2_elementOf.cls = RX2 ∧ yX2_elementOf.cls ≠ "java/lang/invoke/MethodHandle" ∧ yX2_elementOf.cls ≠ "java/lang/invoke/VarHandle" ∧ (parseMethodDescriptor yX2_elementOf.desc).map (fun d => d.parameters.length) = some 2 := by decide +kernel
set_option maxHeartbeats 4000000 in
set_option maxRecDepth 100000 in
theorem c_X2_accessHolder (l : Launch) (D : va_G) (Y : Nat → ClassId) (t : OS) (x : Int32) (hok : oOK t) : Met l yX2_accessHolder wsX2_accessHolder ({ frames := 1, cells := 0, slots := 0, locals := 21 }) (rdPc D Y [.ref (oO t), .int x] (oW Y t)) (vp_Si (fun ans => ans = pHolder t x)) 0 0 (fun _ => False) := by
  refine rdOf (cc := cX2_accessHolder) (maxL := 2) (ret := (some .int)) (own := RX2) (by decide) rfl rfl (Nat.le_of_ble_eq_true rfl) ?_
  intro p e s m below meth c ls hx hb hr hts hown hml hlocks hP hK hl
  have iwX2 : ∀ w ∈ u_ws RX2 TX2 10, w ∈ wsX2_accessHolder := fun _ h => List.mem_cons_of_mem _ (List.mem_append_left _ (List.mem_append_right _ h))
  have hl : lv_has ls 2 [(0, .ref (oO t)), (1, .int x)] := hl
  refine lv_aload_n hx hb dX2_accessHolder_0 rfl (lv_at hl 0 rfl) ?_
  refine va_get (D := D) (ci := 3) (v := .ref (oH t 0)) (C := RX2) (T := TX2) (N := 10) hx hb hts iwX2 hown hK hP 0 rfl rfl 0 (by decide) (hts (.fieldLink RX2 12 "ObjectRows" "kinds" "LObjectRows$Row;") (by decide +kernel)) (fun _ h9 => h9) rfl dX2_accessHolder_1 ?_
  refine lv_iload_n hx hb dX2_accessHolder_4 rfl (lv_at hl 1 rfl) ?_
  refine rcI (As := [.int x]) (rest := []) ⟨hx, hb, hml, hown, hts⟩ (c_X1_at l D Y (oH t 0) (oR t 0) x (hok 0 (by decide))) (cwV 1 hts gX2_accessHolder_X1_at rfl rfl rfl hdX1_at ⟨Nat.le_of_ble_eq_true rfl, Nat.le_of_ble_eq_true rfl⟩) (oWr0 hP) hK 0 2 rfl rfl rfl hl.1 rfl (Nat.le_of_ble_eq_true rfl) dX2_accessHolder_5 ⟨(Nat.zero_le _), (Nat.zero_le _)⟩ (fun r1 hr1 => ?_)
  obtain rfl : r1 = kd t x := hr1
  refine lv_bipush (v := 7) hx hb dX2_accessHolder_8 (by decide) ?_
  refine lv_icmp_ne (tgt := 24) hx hb dX2_accessHolder_10 (by decide) (fun c2 => ?_) (fun c2 => ?_)
  · skip
    refine lv_iload_n hx hb dX2_accessHolder_24 rfl (lv_at hl 1 rfl) ?_
    exact reI hx hb hr hlocks dX2_accessHolder_25 (by first | (simp only [pHolder, c2, decide_true, decide_false, Bool.not_true, Bool.not_false, Bool.and_true, Bool.true_and, Bool.and_false, Bool.false_and, Bool.or_true, Bool.true_or, Bool.or_false, Bool.false_or, Bool.and_self, Bool.or_self, if_true, if_false, ite_true, ite_false, Bool.false_eq_true, reduceIte, not_true_eq_false, not_false_eq_true, and_true, true_and, and_false, false_and, or_true, true_or, or_false, false_or, and_self, or_self, eq_self, decide_eq_true_eq, Bool.true_eq_false, reduceCtorEq, ne_eq]; done) | (simp [pHolder, c2]; done))
  · skip
    refine lv_aload_n hx hb dX2_accessHolder_13 rfl (lv_at hl 0 rfl) ?_
    refine va_get (D := D) (ci := 3) (v := .ref (oH t 2)) (C := RX2) (T := TX2) (N := 10) hx hb hts iwX2 hown hK hP 0 rfl rfl 2 (by decide) (hts (.fieldLink RX2 19 "ObjectRows" "owners" "LObjectRows$Row;") (by decide +kernel)) (fun _ h9 => h9) rfl dX2_accessHolder_14 ?_
    refine lv_iload_n hx hb dX2_accessHolder_17 rfl (lv_at hl 1 rfl) ?_
    refine rcI (As := [.int x]) (rest := []) ⟨hx, hb, hml, hown, hts⟩ (c_X1_at l D Y (oH t 2) (oR t 2) x (hok 2 (by decide))) (cwV 1 hts gX2_accessHolder_X1_at rfl rfl rfl hdX1_at ⟨Nat.le_of_ble_eq_true rfl, Nat.le_of_ble_eq_true rfl⟩) (oWr2 hP) hK 0 2 rfl rfl rfl hl.1 rfl (Nat.le_of_ble_eq_true rfl) dX2_accessHolder_18 ⟨(Nat.zero_le _), (Nat.zero_le _)⟩ (fun r3 hr3 => ?_)
    obtain rfl : r3 = ow t x := hr3
    refine lv_goto (tgt := 25) hx hb dX2_accessHolder_21 (by decide) ?_
    exact reI hx hb hr hlocks dX2_accessHolder_25 (by first | (simp only [pHolder, c2, decide_true, decide_false, Bool.not_true, Bool.not_false, Bool.and_true, Bool.true_and, Bool.and_false, Bool.false_and, Bool.or_true, Bool.true_or, Bool.or_false, Bool.false_or, Bool.and_self, Bool.or_self, if_true, if_false, ite_true, ite_false, Bool.false_eq_true, reduceIte, not_true_eq_false, not_false_eq_true, and_true, true_and, and_false, false_and, or_true, true_or, or_false, false_or, and_self, or_self, eq_self, decide_eq_true_eq, Bool.true_eq_false, reduceCtorEq, ne_eq]; done) | (simp [pHolder, c2]; done))
theorem hdX2_accessHolder : yX2_accessHolder.cls = RX2 ∧ yX2_accessHolder.cls ≠ "java/lang/invoke/MethodHandle" ∧ yX2_accessHolder.cls ≠ "java/lang/invoke/VarHandle" ∧ (parseMethodDescriptor yX2_accessHolder.desc).map (fun d => d.parameters.length) = some 1 := by decide +kernel
set_option maxHeartbeats 4000000 in
set_option maxRecDepth 100000 in
theorem c_X2_accessOf (l : Launch) (D : va_G) (Y : Nat → ClassId) (t : OS) (x : Int32) (hok : oOK t) : Met l yX2_accessOf wsX2_accessOf ({ frames := 2, cells := 0, slots := 0, locals := 42 }) (rdPc D Y [.ref (oO t), .int x] (oW Y t)) (vp_Si (fun ans => ans = pAcc t x)) 0 0 (fun _ => False) := by
  refine rdOf (cc := cX2_accessOf) (maxL := 2) (ret := (some .int)) (own := RX2) (by decide) rfl rfl (Nat.le_of_ble_eq_true rfl) ?_
  intro p e s m below meth c ls hx hb hr hts hown hml hlocks hP hK hl
  have iwX0 : ∀ w ∈ u_ws RX0 TX0 7, w ∈ wsX2_accessOf := fun _ h => List.mem_cons_of_mem _ (List.mem_append_left _ (List.mem_append_right _ h))
  have iwX2 : ∀ w ∈ u_ws RX2 TX2 10, w ∈ wsX2_accessOf := fun _ h => List.mem_cons_of_mem _ (List.mem_append_left _ (List.mem_append_left _ (List.mem_append_right _ h)))
  have hl : lv_has ls 2 [(0, .ref (oO t)), (1, .int x)] := hl
  refine lv_aload_n hx hb dX2_accessOf_0 rfl (lv_at hl 0 rfl) ?_
  refine va_get (D := D) (ci := 3) (v := .ref (oNow t)) (C := RX2) (T := TX2) (N := 10) hx hb hts iwX2 hown hK hP 0 rfl rfl 6 (by decide) (hts (.fieldLink RX2 34 "ObjectRows" "now" "LObjectRows$Changing;") (by decide +kernel)) (fun _ h9 => h9) rfl dX2_accessOf_1 ?_
  refine va_get (D := D) (ci := 1) (v := .ref (oH t 7)) (C := RX0) (T := TX0) (N := 7) hx hb hts iwX0 hown hK hP 1 rfl rfl 1 (by decide) (hts (.fieldLink RX2 206 "ObjectRows$Changing" "accesses" "LObjectRows$Row;") (by decide +kernel)) (fun _ h9 => h9) rfl dX2_accessOf_4 ?_
  refine lv_aload_n hx hb dX2_accessOf_7 rfl (lv_at hl 0 rfl) ?_
  refine lv_iload_n hx hb dX2_accessOf_8 rfl (lv_at hl 1 rfl) ?_
  refine rcI (As := [.int x]) (rest := [.ref (oH t 7)]) ⟨hx, hb, hml, hown, hts⟩ (c_X2_accessHolder l D Y t x hok) (cwV 1 hts gX2_accessOf_X2_accessHolder rfl rfl rfl hdX2_accessHolder ⟨Nat.le_of_ble_eq_true rfl, Nat.le_of_ble_eq_true rfl⟩) hP hK 0 3 rfl rfl rfl hl.1 rfl (Nat.le_of_ble_eq_true rfl) dX2_accessOf_9 ⟨(Nat.zero_le _), (Nat.zero_le _)⟩ (fun r1 hr1 => ?_)
  obtain rfl : r1 = pHolder t x := hr1
  refine rcI (As := [.int (pHolder t x)]) (rest := []) ⟨hx, hb, hml, hown, hts⟩ (c_X1_at l D Y (oH t 7) (oR t 7) (pHolder t x) (hok 7 (by decide))) (cwV 1 hts gX2_accessOf_X1_at rfl rfl rfl hdX1_at ⟨Nat.le_of_ble_eq_true rfl, Nat.le_of_ble_eq_true rfl⟩) (oWr7 hP) hK 0 2 rfl rfl rfl hl.1 rfl (Nat.le_of_ble_eq_true rfl) dX2_accessOf_12 ⟨(Nat.zero_le _), (Nat.zero_le _)⟩ (fun r2 hr2 => ?_)
  obtain rfl : r2 = rdA t (pHolder t x) := hr2
  exact reI hx hb hr hlocks dX2_accessOf_15 (by first | (simp only [pAcc, decide_true, decide_false, Bool.not_true, Bool.not_false, Bool.and_true, Bool.true_and, Bool.and_false, Bool.false_and, Bool.or_true, Bool.true_or, Bool.or_false, Bool.false_or, Bool.and_self, Bool.or_self, if_true, if_false, ite_true, ite_false, Bool.false_eq_true, reduceIte, not_true_eq_false, not_false_eq_true, and_true, true_and, and_false, false_and, or_true, true_or, or_false, false_or, and_self, or_self, eq_self, decide_eq_true_eq, Bool.true_eq_false, reduceCtorEq, ne_eq]; done) | (simp [pAcc]; done))
theorem hdX2_accessOf : yX2_accessOf.cls = RX2 ∧ yX2_accessOf.cls ≠ "java/lang/invoke/MethodHandle" ∧ yX2_accessOf.cls ≠ "java/lang/invoke/VarHandle" ∧ (parseMethodDescriptor yX2_accessOf.desc).map (fun d => d.parameters.length) = some 1 := by decide +kernel
set_option maxHeartbeats 4000000 in
set_option maxRecDepth 100000 in
theorem c_X2_readableString (l : Launch) (D : va_G) (Y : Nat → ClassId) (t : OS) (x : Int32) (hok : oOK t) : Met l yX2_readableString wsX2_readableString ({ frames := 3, cells := 0, slots := 0, locals := 63 }) (rdPc D Y [.ref (oO t), .int x] (oW Y t)) (vp_Si (fun ans => ans = bI (pRStr t x))) 0 0 (fun _ => False) := by
  refine rdOf (cc := cX2_readableString) (maxL := 2) (ret := (some .boolean)) (own := RX2) (by decide) rfl rfl (Nat.le_of_ble_eq_true rfl) ?_
  intro p e s m below meth c ls hx hb hr hts hown hml hlocks hP hK hl
  have iwX2 : ∀ w ∈ u_ws RX2 TX2 10, w ∈ wsX2_readableString := fun _ h => List.mem_cons_of_mem _ (List.mem_append_left _ (List.mem_append_left _ (List.mem_append_right _ h)))
  have hl : lv_has ls 2 [(0, .ref (oO t)), (1, .int x)] := hl
  refine lv_aload_n hx hb dX2_readableString_0 rfl (lv_at hl 0 rfl) ?_
  refine va_get (D := D) (ci := 3) (v := .ref (oH t 0)) (C := RX2) (T := TX2) (N := 10) hx hb hts iwX2 hown hK hP 0 rfl rfl 0 (by decide) (hts (.fieldLink RX2 12 "ObjectRows" "kinds" "LObjectRows$Row;") (by decide +kernel)) (fun _ h9 => h9) rfl dX2_readableString_1 ?_
  refine lv_iload_n hx hb dX2_readableString_4 rfl (lv_at hl 1 rfl) ?_
  refine rcI (As := [.int x]) (rest := []) ⟨hx, hb, hml, hown, hts⟩ (c_X1_at l D Y (oH t 0) (oR t 0) x (hok 0 (by decide))) (cwV 1 hts gX2_readableString_X1_at rfl rfl rfl hdX1_at ⟨Nat.le_of_ble_eq_true rfl, Nat.le_of_ble_eq_true rfl⟩) (oWr0 hP) hK 0 2 rfl rfl rfl hl.1 rfl (Nat.le_of_ble_eq_true rfl) dX2_readableString_5 ⟨(Nat.zero_le _), (Nat.zero_le _)⟩ (fun r1 hr1 => ?_)
  obtain rfl : r1 = kd t x := hr1
  refine lv_iconst (v := 4) hx hb dX2_readableString_8 (by decide) ?_
  refine lv_icmp_ne (tgt := 25) hx hb dX2_readableString_9 (by decide) (fun c2 => ?_) (fun c2 => ?_)
  · skip
    refine lv_iconst (v := 0) hx hb dX2_readableString_25 (by decide) ?_
    exact reZ hx hb hr hlocks dX2_readableString_26 (by first | exact Or.inl rfl | exact Or.inr rfl | exact bI_01 _ | (rename_i h9; rw [h9]; exact bI_01 _) | (subst_vars; exact bI_01 _)) (by first | (simp only [pRStr, bI, c2, decide_true, decide_false, Bool.not_true, Bool.not_false, Bool.and_true, Bool.true_and, Bool.and_false, Bool.false_and, Bool.or_true, Bool.true_or, Bool.or_false, Bool.false_or, Bool.and_self, Bool.or_self, if_true, if_false, ite_true, ite_false, Bool.false_eq_true, reduceIte, not_true_eq_false, not_false_eq_true, and_true, true_and, and_false, false_and, or_true, true_or, or_false, false_or, and_self, or_self, eq_self, decide_eq_true_eq, Bool.true_eq_false, reduceCtorEq, ne_eq]; done) | (simp [pRStr, bI, c2]; done))
  · skip
    refine lv_aload_n hx hb dX2_readableString_12 rfl (lv_at hl 0 rfl) ?_
    refine lv_iload_n hx hb dX2_readableString_13 rfl (lv_at hl 1 rfl) ?_
    refine rcI (As := [.int x]) (rest := []) ⟨hx, hb, hml, hown, hts⟩ (c_X2_accessOf l D Y t x hok) (cwV 1 hts gX2_readableString_X2_accessOf rfl rfl rfl hdX2_accessOf ⟨Nat.le_of_ble_eq_true rfl, Nat.le_of_ble_eq_true rfl⟩) hP hK 0 3 rfl rfl rfl hl.1 rfl (Nat.le_of_ble_eq_true rfl) dX2_readableString_14 ⟨(Nat.zero_le _), (Nat.zero_le _)⟩ (fun r3 hr3 => ?_)
    obtain rfl : r3 = pAcc t x := hr3
    refine lv_iconst (v := 2) hx hb dX2_readableString_17 (by decide) ?_
    refine lv_icmp_lt (tgt := 25) hx hb dX2_readableString_18 (by decide) (fun c4 => ?_) (fun c4 => ?_)
    · skip
      refine lv_iconst (v := 0) hx hb dX2_readableString_25 (by decide) ?_
      exact reZ hx hb hr hlocks dX2_readableString_26 (by first | exact Or.inl rfl | exact Or.inr rfl | exact bI_01 _ | (rename_i h9; rw [h9]; exact bI_01 _) | (subst_vars; exact bI_01 _)) (by first | (simp only [pRStr, bI, c2, c4, decide_true, decide_false, Bool.not_true, Bool.not_false, Bool.and_true, Bool.true_and, Bool.and_false, Bool.false_and, Bool.or_true, Bool.true_or, Bool.or_false, Bool.false_or, Bool.and_self, Bool.or_self, if_true, if_false, ite_true, ite_false, Bool.false_eq_true, reduceIte, not_true_eq_false, not_false_eq_true, and_true, true_and, and_false, false_and, or_true, true_or, or_false, false_or, and_self, or_self, eq_self, decide_eq_true_eq, Bool.true_eq_false, reduceCtorEq, ne_eq]; done) | (simp [pRStr, bI, c2, c4, Int32.not_le.mpr c4]; done))
    · skip
      refine lv_iconst (v := 1) hx hb dX2_readableString_21 (by decide) ?_
      refine lv_goto (tgt := 26) hx hb dX2_readableString_22 (by decide) ?_
      exact reZ hx hb hr hlocks dX2_readableString_26 (by first | exact Or.inl rfl | exact Or.inr rfl | exact bI_01 _ | (rename_i h9; rw [h9]; exact bI_01 _) | (subst_vars; exact bI_01 _)) (by first | (simp only [pRStr, bI, c2, c4, decide_true, decide_false, Bool.not_true, Bool.not_false, Bool.and_true, Bool.true_and, Bool.and_false, Bool.false_and, Bool.or_true, Bool.true_or, Bool.or_false, Bool.false_or, Bool.and_self, Bool.or_self, if_true, if_false, ite_true, ite_false, Bool.false_eq_true, reduceIte, not_true_eq_false, not_false_eq_true, and_true, true_and, and_false, false_and, or_true, true_or, or_false, false_or, and_self, or_self, eq_self, decide_eq_true_eq, Bool.true_eq_false, reduceCtorEq, ne_eq]; done) | (simp [pRStr, bI, c2, c4, Int32.not_lt.mp c4]; done))
theorem hdX2_readableString : yX2_readableString.cls = RX2 ∧ yX2_readableString.cls ≠ "java/lang/invoke/MethodHandle" ∧ yX2_readableString.cls ≠ "java/lang/invoke/VarHandle" ∧ (parseMethodDescriptor yX2_readableString.desc).map (fun d => d.parameters.length) = some 1 := by decide +kernel
set_option maxHeartbeats 4000000 in
set_option maxRecDepth 100000 in
theorem c_X2_alikeOfKind (l : Launch) (D : va_G) (Y : Nat → ClassId) (t : OS) (k : Int32) (a : Int32) (b : Int32) (hok : oOK t) : Met l yX2_alikeOfKind wsX2_alikeOfKind ({ frames := 1, cells := 0, slots := 0, locals := 21 }) (rdPc D Y [.ref (oO t), .int k, .int a, .int b] (oW Y t)) (vp_Si (fun ans => ans = bI (pAlikeK t k a b))) 0 0 (fun _ => False) := by
  refine rdOf (cc := cX2_alikeOfKind) (maxL := 4) (ret := (some .boolean)) (own := RX2) (by decide) rfl rfl (Nat.le_of_ble_eq_true rfl) ?_
  intro p e s m below meth c ls hx hb hr hts hown hml hlocks hP hK hl
  have iwX2 : ∀ w ∈ u_ws RX2 TX2 10, w ∈ wsX2_alikeOfKind := fun _ h => List.mem_cons_of_mem _ (List.mem_append_left _ (List.mem_append_right _ h))
  have hl : lv_has ls 4 [(0, .ref (oO t)), (1, .int k), (2, .int a), (3, .int b)] := hl
  refine lv_iload_n hx hb dX2_alikeOfKind_0 rfl (lv_at hl 1 rfl) ?_
  by_cases c1 : k = 0 ∨ k = 8
  · refine lv_tableIn (off := 63) (tgt := 64) hx hb dX2_alikeOfKind_1 (by rcases c1 with c1 | c1 <;> rw [c1] <;> decide) (by rcases c1 with c1 | c1 <;> rw [c1] <;> decide) (by rcases c1 with c1 | c1 <;> rw [c1] <;> decide) (by decide) ?_
    refine lv_iconst (v := 1) hx hb dX2_alikeOfKind_64 (by decide) ?_
    exact reZ hx hb hr hlocks dX2_alikeOfKind_65 (by first | exact Or.inl rfl | exact Or.inr rfl | exact bI_01 _ | (rename_i h9; rw [h9]; exact bI_01 _) | (subst_vars; exact bI_01 _)) (by first | (simp only [pAlikeK, bI, c1, decide_true, decide_false, Bool.not_true, Bool.not_false, Bool.and_true, Bool.true_and, Bool.and_false, Bool.false_and, Bool.or_true, Bool.true_or, Bool.or_false, Bool.false_or, Bool.and_self, Bool.or_self, if_true, if_false, ite_true, ite_false, Bool.false_eq_true, reduceIte, not_true_eq_false, not_false_eq_true, and_true, true_and, and_false, false_and, or_true, true_or, or_false, false_or, and_self, or_self, eq_self, decide_eq_true_eq, Bool.true_eq_false, reduceCtorEq, ne_eq]; done) | (simp [pAlikeK, bI, c1]; done))
  by_cases c2 : k = 5 ∨ k = 6
  · refine lv_tableIn (off := 65) (tgt := 66) hx hb dX2_alikeOfKind_1 (by rcases c2 with c2 | c2 <;> rw [c2] <;> decide) (by rcases c2 with c2 | c2 <;> rw [c2] <;> decide) (by rcases c2 with c2 | c2 <;> rw [c2] <;> decide) (by decide) ?_
    refine lv_aload_n hx hb dX2_alikeOfKind_66 rfl (lv_at hl 0 rfl) ?_
    refine va_get (D := D) (ci := 3) (v := .ref (oH t 2)) (C := RX2) (T := TX2) (N := 10) hx hb hts iwX2 hown hK hP 0 rfl rfl 2 (by decide) (hts (.fieldLink RX2 19 "ObjectRows" "owners" "LObjectRows$Row;") (by decide +kernel)) (fun _ h9 => h9) rfl dX2_alikeOfKind_67 ?_
    refine lv_iload_n hx hb dX2_alikeOfKind_70 rfl (lv_at hl 2 rfl) ?_
    refine rcI (As := [.int a]) (rest := []) ⟨hx, hb, hml, hown, hts⟩ (c_X1_at l D Y (oH t 2) (oR t 2) a (hok 2 (by decide))) (cwV 1 hts gX2_alikeOfKind_X1_at rfl rfl rfl hdX1_at ⟨Nat.le_of_ble_eq_true rfl, Nat.le_of_ble_eq_true rfl⟩) (oWr2 hP) hK 0 2 rfl rfl rfl hl.1 rfl (Nat.le_of_ble_eq_true rfl) dX2_alikeOfKind_71 ⟨(Nat.zero_le _), (Nat.zero_le _)⟩ (fun r3 hr3 => ?_)
    obtain rfl : r3 = ow t a := hr3
    refine lv_aload_n hx hb dX2_alikeOfKind_74 rfl (lv_at hl 0 rfl) ?_
    refine va_get (D := D) (ci := 3) (v := .ref (oH t 2)) (C := RX2) (T := TX2) (N := 10) hx hb hts iwX2 hown hK hP 0 rfl rfl 2 (by decide) (hts (.fieldLink RX2 19 "ObjectRows" "owners" "LObjectRows$Row;") (by decide +kernel)) (fun _ h9 => h9) rfl dX2_alikeOfKind_75 ?_
    refine lv_iload_n hx hb dX2_alikeOfKind_78 rfl (lv_at hl 3 rfl) ?_
    refine rcI (As := [.int b]) (rest := [.int (ow t a)]) ⟨hx, hb, hml, hown, hts⟩ (c_X1_at l D Y (oH t 2) (oR t 2) b (hok 2 (by decide))) (cwV 1 hts gX2_alikeOfKind_X1_at rfl rfl rfl hdX1_at ⟨Nat.le_of_ble_eq_true rfl, Nat.le_of_ble_eq_true rfl⟩) (oWr2 hP) hK 0 2 rfl rfl rfl hl.1 rfl (Nat.le_of_ble_eq_true rfl) dX2_alikeOfKind_79 ⟨(Nat.zero_le _), (Nat.zero_le _)⟩ (fun r4 hr4 => ?_)
    obtain rfl : r4 = ow t b := hr4
    refine lv_icmp_ne (tgt := 127) hx hb dX2_alikeOfKind_82 (by decide) (fun c5 => ?_) (fun c5 => ?_)
    · skip
      refine lv_iconst (v := 0) hx hb dX2_alikeOfKind_127 (by decide) ?_
      exact reZ hx hb hr hlocks dX2_alikeOfKind_128 (by first | exact Or.inl rfl | exact Or.inr rfl | exact bI_01 _ | (rename_i h9; rw [h9]; exact bI_01 _) | (subst_vars; exact bI_01 _)) (by first | (simp only [pAlikeK, bI, c1, c2, c5, decide_true, decide_false, Bool.not_true, Bool.not_false, Bool.and_true, Bool.true_and, Bool.and_false, Bool.false_and, Bool.or_true, Bool.true_or, Bool.or_false, Bool.false_or, Bool.and_self, Bool.or_self, if_true, if_false, ite_true, ite_false, Bool.false_eq_true, reduceIte, not_true_eq_false, not_false_eq_true, and_true, true_and, and_false, false_and, or_true, true_or, or_false, false_or, and_self, or_self, eq_self, decide_eq_true_eq, Bool.true_eq_false, reduceCtorEq, ne_eq]; done) | (simp [pAlikeK, bI, c1, c2, c5]; done))
    · skip
      refine lv_aload_n hx hb dX2_alikeOfKind_85 rfl (lv_at hl 0 rfl) ?_
      refine va_get (D := D) (ci := 3) (v := .ref (oH t 3)) (C := RX2) (T := TX2) (N := 10) hx hb hts iwX2 hown hK hP 0 rfl rfl 3 (by decide) (hts (.fieldLink RX2 22 "ObjectRows" "starts" "LObjectRows$Row;") (by decide +kernel)) (fun _ h9 => h9) rfl dX2_alikeOfKind_86 ?_
      refine lv_iload_n hx hb dX2_alikeOfKind_89 rfl (lv_at hl 2 rfl) ?_
      refine rcI (As := [.int a]) (rest := []) ⟨hx, hb, hml, hown, hts⟩ (c_X1_at l D Y (oH t 3) (oR t 3) a (hok 3 (by decide))) (cwV 1 hts gX2_alikeOfKind_X1_at rfl rfl rfl hdX1_at ⟨Nat.le_of_ble_eq_true rfl, Nat.le_of_ble_eq_true rfl⟩) (oWr3 hP) hK 0 2 rfl rfl rfl hl.1 rfl (Nat.le_of_ble_eq_true rfl) dX2_alikeOfKind_90 ⟨(Nat.zero_le _), (Nat.zero_le _)⟩ (fun r6 hr6 => ?_)
      obtain rfl : r6 = sta t a := hr6
      refine lv_aload_n hx hb dX2_alikeOfKind_93 rfl (lv_at hl 0 rfl) ?_
      refine va_get (D := D) (ci := 3) (v := .ref (oH t 3)) (C := RX2) (T := TX2) (N := 10) hx hb hts iwX2 hown hK hP 0 rfl rfl 3 (by decide) (hts (.fieldLink RX2 22 "ObjectRows" "starts" "LObjectRows$Row;") (by decide +kernel)) (fun _ h9 => h9) rfl dX2_alikeOfKind_94 ?_
      refine lv_iload_n hx hb dX2_alikeOfKind_97 rfl (lv_at hl 3 rfl) ?_
      refine rcI (As := [.int b]) (rest := [.int (sta t a)]) ⟨hx, hb, hml, hown, hts⟩ (c_X1_at l D Y (oH t 3) (oR t 3) b (hok 3 (by decide))) (cwV 1 hts gX2_alikeOfKind_X1_at rfl rfl rfl hdX1_at ⟨Nat.le_of_ble_eq_true rfl, Nat.le_of_ble_eq_true rfl⟩) (oWr3 hP) hK 0 2 rfl rfl rfl hl.1 rfl (Nat.le_of_ble_eq_true rfl) dX2_alikeOfKind_98 ⟨(Nat.zero_le _), (Nat.zero_le _)⟩ (fun r7 hr7 => ?_)
      obtain rfl : r7 = sta t b := hr7
      refine lv_icmp_ne (tgt := 127) hx hb dX2_alikeOfKind_101 (by decide) (fun c8 => ?_) (fun c8 => ?_)
      · skip
        refine lv_iconst (v := 0) hx hb dX2_alikeOfKind_127 (by decide) ?_
        exact reZ hx hb hr hlocks dX2_alikeOfKind_128 (by first | exact Or.inl rfl | exact Or.inr rfl | exact bI_01 _ | (rename_i h9; rw [h9]; exact bI_01 _) | (subst_vars; exact bI_01 _)) (by first | (simp only [pAlikeK, bI, c1, c2, eq_true c5, c8, decide_true, decide_false, Bool.not_true, Bool.not_false, Bool.and_true, Bool.true_and, Bool.and_false, Bool.false_and, Bool.or_true, Bool.true_or, Bool.or_false, Bool.false_or, Bool.and_self, Bool.or_self, if_true, if_false, ite_true, ite_false, Bool.false_eq_true, reduceIte, not_true_eq_false, not_false_eq_true, and_true, true_and, and_false, false_and, or_true, true_or, or_false, false_or, and_self, or_self, eq_self, decide_eq_true_eq, Bool.true_eq_false, reduceCtorEq, ne_eq]; done) | (simp [pAlikeK, bI, c1, c2, eq_true c5, c8]; done))
      · skip
        refine lv_aload_n hx hb dX2_alikeOfKind_104 rfl (lv_at hl 0 rfl) ?_
        refine va_get (D := D) (ci := 3) (v := .ref (oH t 4)) (C := RX2) (T := TX2) (N := 10) hx hb hts iwX2 hown hK hP 0 rfl rfl 4 (by decide) (hts (.fieldLink RX2 25 "ObjectRows" "lengths" "LObjectRows$Row;") (by decide +kernel)) (fun _ h9 => h9) rfl dX2_alikeOfKind_105 ?_
        refine lv_iload_n hx hb dX2_alikeOfKind_108 rfl (lv_at hl 2 rfl) ?_
        refine rcI (As := [.int a]) (rest := []) ⟨hx, hb, hml, hown, hts⟩ (c_X1_at l D Y (oH t 4) (oR t 4) a (hok 4 (by decide))) (cwV 1 hts gX2_alikeOfKind_X1_at rfl rfl rfl hdX1_at ⟨Nat.le_of_ble_eq_true rfl, Nat.le_of_ble_eq_true rfl⟩) (oWr4 hP) hK 0 2 rfl rfl rfl hl.1 rfl (Nat.le_of_ble_eq_true rfl) dX2_alikeOfKind_109 ⟨(Nat.zero_le _), (Nat.zero_le _)⟩ (fun r9 hr9 => ?_)
        obtain rfl : r9 = len t a := hr9
        refine lv_aload_n hx hb dX2_alikeOfKind_112 rfl (lv_at hl 0 rfl) ?_
        refine va_get (D := D) (ci := 3) (v := .ref (oH t 4)) (C := RX2) (T := TX2) (N := 10) hx hb hts iwX2 hown hK hP 0 rfl rfl 4 (by decide) (hts (.fieldLink RX2 25 "ObjectRows" "lengths" "LObjectRows$Row;") (by decide +kernel)) (fun _ h9 => h9) rfl dX2_alikeOfKind_113 ?_
        refine lv_iload_n hx hb dX2_alikeOfKind_116 rfl (lv_at hl 3 rfl) ?_
        refine rcI (As := [.int b]) (rest := [.int (len t a)]) ⟨hx, hb, hml, hown, hts⟩ (c_X1_at l D Y (oH t 4) (oR t 4) b (hok 4 (by decide))) (cwV 1 hts gX2_alikeOfKind_X1_at rfl rfl rfl hdX1_at ⟨Nat.le_of_ble_eq_true rfl, Nat.le_of_ble_eq_true rfl⟩) (oWr4 hP) hK 0 2 rfl rfl rfl hl.1 rfl (Nat.le_of_ble_eq_true rfl) dX2_alikeOfKind_117 ⟨(Nat.zero_le _), (Nat.zero_le _)⟩ (fun r10 hr10 => ?_)
        obtain rfl : r10 = len t b := hr10
        refine lv_icmp_ne (tgt := 127) hx hb dX2_alikeOfKind_120 (by decide) (fun c11 => ?_) (fun c11 => ?_)
        · skip
          refine lv_iconst (v := 0) hx hb dX2_alikeOfKind_127 (by decide) ?_
          exact reZ hx hb hr hlocks dX2_alikeOfKind_128 (by first | exact Or.inl rfl | exact Or.inr rfl | exact bI_01 _ | (rename_i h9; rw [h9]; exact bI_01 _) | (subst_vars; exact bI_01 _)) (by first | (simp only [pAlikeK, bI, c1, c2, eq_true c5, eq_true c8, c11, decide_true, decide_false, Bool.not_true, Bool.not_false, Bool.and_true, Bool.true_and, Bool.and_false, Bool.false_and, Bool.or_true, Bool.true_or, Bool.or_false, Bool.false_or, Bool.and_self, Bool.or_self, if_true, if_false, ite_true, ite_false, Bool.false_eq_true, reduceIte, not_true_eq_false, not_false_eq_true, and_true, true_and, and_false, false_and, or_true, true_or, or_false, false_or, and_self, or_self, eq_self, decide_eq_true_eq, Bool.true_eq_false, reduceCtorEq, ne_eq]; done) | (simp [pAlikeK, bI, c1, c2, eq_true c5, eq_true c8, c11]; done))
        · skip
          refine lv_iconst (v := 1) hx hb dX2_alikeOfKind_123 (by decide) ?_
          refine lv_goto (tgt := 128) hx hb dX2_alikeOfKind_124 (by decide) ?_
          exact reZ hx hb hr hlocks dX2_alikeOfKind_128 (by first | exact Or.inl rfl | exact Or.inr rfl | exact bI_01 _ | (rename_i h9; rw [h9]; exact bI_01 _) | (subst_vars; exact bI_01 _)) (by first | (simp only [pAlikeK, bI, c1, c2, eq_true c5, eq_true c8, eq_true c11, decide_true, decide_false, Bool.not_true, Bool.not_false, Bool.and_true, Bool.true_and, Bool.and_false, Bool.false_and, Bool.or_true, Bool.true_or, Bool.or_false, Bool.false_or, Bool.and_self, Bool.or_self, if_true, if_false, ite_true, ite_false, Bool.false_eq_true, reduceIte, not_true_eq_false, not_false_eq_true, and_true, true_and, and_false, false_and, or_true, true_or, or_false, false_or, and_self, or_self, eq_self, decide_eq_true_eq, Bool.true_eq_false, reduceCtorEq, ne_eq]; done) | (simp [pAlikeK, bI, c1, c2, eq_true c5, eq_true c8, eq_true c11]; done))
  by_cases c12 : k = 7
  · refine lv_tableIn (off := 128) (tgt := 129) hx hb dX2_alikeOfKind_1 (by rw [c12]; decide) (by rw [c12]; decide) (by rw [c12]; decide) (by decide) ?_
    refine lv_aload_n hx hb dX2_alikeOfKind_129 rfl (lv_at hl 0 rfl) ?_
    refine va_get (D := D) (ci := 3) (v := .ref (oH t 2)) (C := RX2) (T := TX2) (N := 10) hx hb hts iwX2 hown hK hP 0 rfl rfl 2 (by decide) (hts (.fieldLink RX2 19 "ObjectRows" "owners" "LObjectRows$Row;") (by decide +kernel)) (fun _ h9 => h9) rfl dX2_alikeOfKind_130 ?_
    refine lv_iload_n hx hb dX2_alikeOfKind_133 rfl (lv_at hl 2 rfl) ?_
    refine rcI (As := [.int a]) (rest := []) ⟨hx, hb, hml, hown, hts⟩ (c_X1_at l D Y (oH t 2) (oR t 2) a (hok 2 (by decide))) (cwV 1 hts gX2_alikeOfKind_X1_at rfl rfl rfl hdX1_at ⟨Nat.le_of_ble_eq_true rfl, Nat.le_of_ble_eq_true rfl⟩) (oWr2 hP) hK 0 2 rfl rfl rfl hl.1 rfl (Nat.le_of_ble_eq_true rfl) dX2_alikeOfKind_134 ⟨(Nat.zero_le _), (Nat.zero_le _)⟩ (fun r13 hr13 => ?_)
    obtain rfl : r13 = ow t a := hr13
    refine lv_aload_n hx hb dX2_alikeOfKind_137 rfl (lv_at hl 0 rfl) ?_
    refine va_get (D := D) (ci := 3) (v := .ref (oH t 2)) (C := RX2) (T := TX2) (N := 10) hx hb hts iwX2 hown hK hP 0 rfl rfl 2 (by decide) (hts (.fieldLink RX2 19 "ObjectRows" "owners" "LObjectRows$Row;") (by decide +kernel)) (fun _ h9 => h9) rfl dX2_alikeOfKind_138 ?_
    refine lv_iload_n hx hb dX2_alikeOfKind_141 rfl (lv_at hl 3 rfl) ?_
    refine rcI (As := [.int b]) (rest := [.int (ow t a)]) ⟨hx, hb, hml, hown, hts⟩ (c_X1_at l D Y (oH t 2) (oR t 2) b (hok 2 (by decide))) (cwV 1 hts gX2_alikeOfKind_X1_at rfl rfl rfl hdX1_at ⟨Nat.le_of_ble_eq_true rfl, Nat.le_of_ble_eq_true rfl⟩) (oWr2 hP) hK 0 2 rfl rfl rfl hl.1 rfl (Nat.le_of_ble_eq_true rfl) dX2_alikeOfKind_142 ⟨(Nat.zero_le _), (Nat.zero_le _)⟩ (fun r14 hr14 => ?_)
    obtain rfl : r14 = ow t b := hr14
    refine lv_icmp_ne (tgt := 152) hx hb dX2_alikeOfKind_145 (by decide) (fun c15 => ?_) (fun c15 => ?_)
    · skip
      refine lv_iconst (v := 0) hx hb dX2_alikeOfKind_152 (by decide) ?_
      exact reZ hx hb hr hlocks dX2_alikeOfKind_153 (by first | exact Or.inl rfl | exact Or.inr rfl | exact bI_01 _ | (rename_i h9; rw [h9]; exact bI_01 _) | (subst_vars; exact bI_01 _)) (by first | (simp only [pAlikeK, bI, c1, c2, c12, c15, decide_true, decide_false, Bool.not_true, Bool.not_false, Bool.and_true, Bool.true_and, Bool.and_false, Bool.false_and, Bool.or_true, Bool.true_or, Bool.or_false, Bool.false_or, Bool.and_self, Bool.or_self, if_true, if_false, ite_true, ite_false, Bool.false_eq_true, reduceIte, not_true_eq_false, not_false_eq_true, and_true, true_and, and_false, false_and, or_true, true_or, or_false, false_or, and_self, or_self, eq_self, decide_eq_true_eq, Bool.true_eq_false, reduceCtorEq, ne_eq]; done) | (simp [pAlikeK, bI, c1, c2, c12, c15]; done))
    · skip
      refine lv_iconst (v := 1) hx hb dX2_alikeOfKind_148 (by decide) ?_
      refine lv_goto (tgt := 153) hx hb dX2_alikeOfKind_149 (by decide) ?_
      exact reZ hx hb hr hlocks dX2_alikeOfKind_153 (by first | exact Or.inl rfl | exact Or.inr rfl | exact bI_01 _ | (rename_i h9; rw [h9]; exact bI_01 _) | (subst_vars; exact bI_01 _)) (by first | (simp only [pAlikeK, bI, c1, c2, c12, eq_true c15, decide_true, decide_false, Bool.not_true, Bool.not_false, Bool.and_true, Bool.true_and, Bool.and_false, Bool.false_and, Bool.or_true, Bool.true_or, Bool.or_false, Bool.false_or, Bool.and_self, Bool.or_self, if_true, if_false, ite_true, ite_false, Bool.false_eq_true, reduceIte, not_true_eq_false, not_false_eq_true, and_true, true_and, and_false, false_and, or_true, true_or, or_false, false_or, and_self, or_self, eq_self, decide_eq_true_eq, Bool.true_eq_false, reduceCtorEq, ne_eq]; done) | (simp [pAlikeK, bI, c1, c2, c12, eq_true c15]; done))
  by_cases c16 : k = 11
  · refine lv_tableIn (off := 153) (tgt := 154) hx hb dX2_alikeOfKind_1 (by rw [c16]; decide) (by rw [c16]; decide) (by rw [c16]; decide) (by decide) ?_
    refine lv_iload_n hx hb dX2_alikeOfKind_154 rfl (lv_at hl 2 rfl) ?_
    refine lv_iload_n hx hb dX2_alikeOfKind_155 rfl (lv_at hl 3 rfl) ?_
    refine lv_icmp_ne (tgt := 163) hx hb dX2_alikeOfKind_156 (by decide) (fun c17 => ?_) (fun c17 => ?_)
    · skip
      refine lv_iconst (v := 0) hx hb dX2_alikeOfKind_163 (by decide) ?_
      exact reZ hx hb hr hlocks dX2_alikeOfKind_164 (by first | exact Or.inl rfl | exact Or.inr rfl | exact bI_01 _ | (rename_i h9; rw [h9]; exact bI_01 _) | (subst_vars; exact bI_01 _)) (by first | (simp only [pAlikeK, bI, c1, c2, c12, c16, c17, decide_true, decide_false, Bool.not_true, Bool.not_false, Bool.and_true, Bool.true_and, Bool.and_false, Bool.false_and, Bool.or_true, Bool.true_or, Bool.or_false, Bool.false_or, Bool.and_self, Bool.or_self, if_true, if_false, ite_true, ite_false, Bool.false_eq_true, reduceIte, not_true_eq_false, not_false_eq_true, and_true, true_and, and_false, false_and, or_true, true_or, or_false, false_or, and_self, or_self, eq_self, decide_eq_true_eq, Bool.true_eq_false, reduceCtorEq, ne_eq]; done) | (simp [pAlikeK, bI, c1, c2, c12, c16, c17]; done))
    · skip
      refine lv_iconst (v := 1) hx hb dX2_alikeOfKind_159 (by decide) ?_
      refine lv_goto (tgt := 164) hx hb dX2_alikeOfKind_160 (by decide) ?_
      exact reZ hx hb hr hlocks dX2_alikeOfKind_164 (by first | exact Or.inl rfl | exact Or.inr rfl | exact bI_01 _ | (rename_i h9; rw [h9]; exact bI_01 _) | (subst_vars; exact bI_01 _)) (by first | (simp only [pAlikeK, bI, c1, c2, c12, c16, eq_true c17, decide_true, decide_false, Bool.not_true, Bool.not_false, Bool.and_true, Bool.true_and, Bool.and_false, Bool.false_and, Bool.or_true, Bool.true_or, Bool.or_false, Bool.false_or, Bool.and_self, Bool.or_self, if_true, if_false, ite_true, ite_false, Bool.false_eq_true, reduceIte, not_true_eq_false, not_false_eq_true, and_true, true_and, and_false, false_and, or_true, true_or, or_false, false_or, and_self, or_self, eq_self, decide_eq_true_eq, Bool.true_eq_false, reduceCtorEq, ne_eq]; done) | (simp [pAlikeK, bI, c1, c2, c12, c16, eq_true c17]; done))
  refine lv_tableD (tgt := 165) hx hb dX2_alikeOfKind_1 (tblD (ks := [0, 8, 5, 6, 7, 11]) (by decide) (List.forall_mem_cons.mpr ⟨neI (fun h9 => c1 (Or.inl h9)) (by decide), (List.forall_mem_cons.mpr ⟨neI (fun h9 => c1 (Or.inr (h9))) (by decide), (List.forall_mem_cons.mpr ⟨neI (fun h9 => c2 (Or.inl h9)) (by decide), (List.forall_mem_cons.mpr ⟨neI (fun h9 => c2 (Or.inr (h9))) (by decide), (List.forall_mem_cons.mpr ⟨neI c12 (by decide), (List.forall_mem_cons.mpr ⟨neI c16 (by decide), (fun _ h => absurd h List.not_mem_nil)⟩)⟩)⟩)⟩)⟩)⟩) (by decide)) (by decide) ?_
  refine lv_aload_n hx hb dX2_alikeOfKind_165 rfl (lv_at hl 0 rfl) ?_
  refine va_get (D := D) (ci := 3) (v := .ref (oH t 1)) (C := RX2) (T := TX2) (N := 10) hx hb hts iwX2 hown hK hP 0 rfl rfl 1 (by decide) (hts (.fieldLink RX2 16 "ObjectRows" "numbers" "LObjectRows$Row;") (by decide +kernel)) (fun _ h9 => h9) rfl dX2_alikeOfKind_166 ?_
  refine lv_iload_n hx hb dX2_alikeOfKind_169 rfl (lv_at hl 2 rfl) ?_
  refine rcI (As := [.int a]) (rest := []) ⟨hx, hb, hml, hown, hts⟩ (c_X1_at l D Y (oH t 1) (oR t 1) a (hok 1 (by decide))) (cwV 1 hts gX2_alikeOfKind_X1_at rfl rfl rfl hdX1_at ⟨Nat.le_of_ble_eq_true rfl, Nat.le_of_ble_eq_true rfl⟩) (oWr1 hP) hK 0 2 rfl rfl rfl hl.1 rfl (Nat.le_of_ble_eq_true rfl) dX2_alikeOfKind_170 ⟨(Nat.zero_le _), (Nat.zero_le _)⟩ (fun r18 hr18 => ?_)
  obtain rfl : r18 = nu t a := hr18
  refine lv_aload_n hx hb dX2_alikeOfKind_173 rfl (lv_at hl 0 rfl) ?_
  refine va_get (D := D) (ci := 3) (v := .ref (oH t 1)) (C := RX2) (T := TX2) (N := 10) hx hb hts iwX2 hown hK hP 0 rfl rfl 1 (by decide) (hts (.fieldLink RX2 16 "ObjectRows" "numbers" "LObjectRows$Row;") (by decide +kernel)) (fun _ h9 => h9) rfl dX2_alikeOfKind_174 ?_
  refine lv_iload_n hx hb dX2_alikeOfKind_177 rfl (lv_at hl 3 rfl) ?_
  refine rcI (As := [.int b]) (rest := [.int (nu t a)]) ⟨hx, hb, hml, hown, hts⟩ (c_X1_at l D Y (oH t 1) (oR t 1) b (hok 1 (by decide))) (cwV 1 hts gX2_alikeOfKind_X1_at rfl rfl rfl hdX1_at ⟨Nat.le_of_ble_eq_true rfl, Nat.le_of_ble_eq_true rfl⟩) (oWr1 hP) hK 0 2 rfl rfl rfl hl.1 rfl (Nat.le_of_ble_eq_true rfl) dX2_alikeOfKind_178 ⟨(Nat.zero_le _), (Nat.zero_le _)⟩ (fun r19 hr19 => ?_)
  obtain rfl : r19 = nu t b := hr19
  refine lv_icmp_ne (tgt := 188) hx hb dX2_alikeOfKind_181 (by decide) (fun c20 => ?_) (fun c20 => ?_)
  · skip
    refine lv_iconst (v := 0) hx hb dX2_alikeOfKind_188 (by decide) ?_
    exact reZ hx hb hr hlocks dX2_alikeOfKind_189 (by first | exact Or.inl rfl | exact Or.inr rfl | exact bI_01 _ | (rename_i h9; rw [h9]; exact bI_01 _) | (subst_vars; exact bI_01 _)) (by first | (simp only [pAlikeK, bI, c1, c2, c12, c16, c20, decide_true, decide_false, Bool.not_true, Bool.not_false, Bool.and_true, Bool.true_and, Bool.and_false, Bool.false_and, Bool.or_true, Bool.true_or, Bool.or_false, Bool.false_or, Bool.and_self, Bool.or_self, if_true, if_false, ite_true, ite_false, Bool.false_eq_true, reduceIte, not_true_eq_false, not_false_eq_true, and_true, true_and, and_false, false_and, or_true, true_or, or_false, false_or, and_self, or_self, eq_self, decide_eq_true_eq, Bool.true_eq_false, reduceCtorEq, ne_eq]; done) | (simp [pAlikeK, bI, c1, c2, c12, c16, c20]; done))
  · skip
    refine lv_iconst (v := 1) hx hb dX2_alikeOfKind_184 (by decide) ?_
    refine lv_goto (tgt := 189) hx hb dX2_alikeOfKind_185 (by decide) ?_
    exact reZ hx hb hr hlocks dX2_alikeOfKind_189 (by first | exact Or.inl rfl | exact Or.inr rfl | exact bI_01 _ | (rename_i h9; rw [h9]; exact bI_01 _) | (subst_vars; exact bI_01 _)) (by first | (simp only [pAlikeK, bI, c1, c2, c12, c16, eq_true c20, decide_true, decide_false, Bool.not_true, Bool.not_false, Bool.and_true, Bool.true_and, Bool.and_false, Bool.false_and, Bool.or_true, Bool.true_or, Bool.or_false, Bool.false_or, Bool.and_self, Bool.or_self, if_true, if_false, ite_true, ite_false, Bool.false_eq_true, reduceIte, not_true_eq_false, not_false_eq_true, and_true, true_and, and_false, false_and, or_true, true_or, or_false, false_or, and_self, or_self, eq_self, decide_eq_true_eq, Bool.true_eq_false, reduceCtorEq, ne_eq]; done) | (simp [pAlikeK, bI, c1, c2, c12, c16, eq_true c20]; done))
theorem hdX2_alikeOfKind : yX2_alikeOfKind.cls = RX2 ∧ yX2_alikeOfKind.cls ≠ "java/lang/invoke/MethodHandle" ∧ yX2_alikeOfKind.cls ≠ "java/lang/invoke/VarHandle" ∧ (parseMethodDescriptor yX2_alikeOfKind.desc).map (fun d => d.parameters.length) = some 3 := by decide +kernel
set_option maxHeartbeats 4000000 in
set_option maxRecDepth 100000 in
theorem c_X2_alikeButStrings (l : Launch) (D : va_G) (Y : Nat → ClassId) (t : OS) (a : Int32) (b : Int32) (hok : oOK t) : Met l yX2_alikeButStrings wsX2_alikeButStrings ({ frames := 2, cells := 0, slots := 0, locals := 44 }) (rdPc D Y [.ref (oO t), .int a, .int b] (oW Y t)) (vp_Si (fun ans => ans = bI (pAlikeB t a b))) 0 0 (fun _ => False) := by
  refine rdOf (cc := cX2_alikeButStrings) (maxL := 5) (ret := (some .boolean)) (own := RX2) (by decide) rfl rfl (Nat.le_of_ble_eq_true rfl) ?_
  intro p e s m below meth c ls hx hb hr hts hown hml hlocks hP hK hl
  have iwX2 : ∀ w ∈ u_ws RX2 TX2 10, w ∈ wsX2_alikeButStrings := fun _ h => List.mem_cons_of_mem _ (List.mem_append_left _ (List.mem_append_right _ h))
  have hl : lv_has ls 5 [(0, .ref (oO t)), (1, .int a), (2, .int b)] := hl
  refine lv_aload_n hx hb dX2_alikeButStrings_0 rfl (lv_at hl 0 rfl) ?_
  refine va_get (D := D) (ci := 3) (v := .ref (oH t 0)) (C := RX2) (T := TX2) (N := 10) hx hb hts iwX2 hown hK hP 0 rfl rfl 0 (by decide) (hts (.fieldLink RX2 12 "ObjectRows" "kinds" "LObjectRows$Row;") (by decide +kernel)) (fun _ h9 => h9) rfl dX2_alikeButStrings_1 ?_
  refine lv_iload_n hx hb dX2_alikeButStrings_4 rfl (lv_at hl 1 rfl) ?_
  refine rcI (As := [.int a]) (rest := []) ⟨hx, hb, hml, hown, hts⟩ (c_X1_at l D Y (oH t 0) (oR t 0) a (hok 0 (by decide))) (cwV 1 hts gX2_alikeButStrings_X1_at rfl rfl rfl hdX1_at ⟨Nat.le_of_ble_eq_true rfl, Nat.le_of_ble_eq_true rfl⟩) (oWr0 hP) hK 0 2 rfl rfl rfl hl.1 rfl (Nat.le_of_ble_eq_true rfl) dX2_alikeButStrings_5 ⟨(Nat.zero_le _), (Nat.zero_le _)⟩ (fun r1 hr1 => ?_)
  obtain rfl : r1 = kd t a := hr1
  refine lv_istore_n (lv' := [(3, .int (kd t a)), (0, .ref (oO t)), (1, .int a), (2, .int b)]) hx hb dX2_alikeButStrings_8 rfl hl (by decide) rfl (fun ls hl => ?_)
  refine lv_aload_n hx hb dX2_alikeButStrings_9 rfl (lv_at hl 1 rfl) ?_
  refine va_get (D := D) (ci := 3) (v := .ref (oH t 0)) (C := RX2) (T := TX2) (N := 10) hx hb hts iwX2 hown hK hP 0 rfl rfl 0 (by decide) (hts (.fieldLink RX2 12 "ObjectRows" "kinds" "LObjectRows$Row;") (by decide +kernel)) (fun _ h9 => h9) rfl dX2_alikeButStrings_10 ?_
  refine lv_iload_n hx hb dX2_alikeButStrings_13 rfl (lv_at hl 3 rfl) ?_
  refine rcI (As := [.int b]) (rest := []) ⟨hx, hb, hml, hown, hts⟩ (c_X1_at l D Y (oH t 0) (oR t 0) b (hok 0 (by decide))) (cwV 1 hts gX2_alikeButStrings_X1_at rfl rfl rfl hdX1_at ⟨Nat.le_of_ble_eq_true rfl, Nat.le_of_ble_eq_true rfl⟩) (oWr0 hP) hK 0 2 rfl rfl rfl hl.1 rfl (Nat.le_of_ble_eq_true rfl) dX2_alikeButStrings_14 ⟨(Nat.zero_le _), (Nat.zero_le _)⟩ (fun r2 hr2 => ?_)
  obtain rfl : r2 = kd t b := hr2
  refine lv_istore (lv' := [(4, .int (kd t b)), (3, .int (kd t a)), (0, .ref (oO t)), (1, .int a), (2, .int b)]) hx hb dX2_alikeButStrings_17 hl (by decide) rfl (fun ls hl => ?_)
  refine lv_iload_n hx hb dX2_alikeButStrings_19 rfl (lv_at hl 1 rfl) ?_
  refine scI (As := [.int (kd t a)]) (rest := []) ⟨hx, hb, hml, hown, hts⟩ (c_X2_isList l (kd t a)) (va_cwS 1 hts gX2_alikeButStrings_X2_isList rfl rfl rfl hdX2_isList ⟨Nat.le_of_ble_eq_true rfl, Nat.le_of_ble_eq_true rfl⟩) rfl hl.1 rfl (Nat.le_of_ble_eq_true rfl) dX2_alikeButStrings_20 ⟨(Nat.zero_le _), (Nat.zero_le _)⟩ (fun r3 hr3 => ?_)
  cases b4 : pList (kd t a)
  · replace hr3 : r3 = 0 := by rw [hr3, b4]; rfl
    subst hr3
    refine lv_if_eq (tgt := 58) hx hb dX2_alikeButStrings_23 (by decide) (fun _ => ?_) (fun c5 => absurd (by decide) c5)
    refine lv_iload_n hx hb dX2_alikeButStrings_58 rfl (lv_at hl 1 rfl) ?_
    refine lv_iload hx hb dX2_alikeButStrings_59 (lv_at hl 0 rfl) ?_
    refine lv_icmp_ne (tgt := 78) hx hb dX2_alikeButStrings_61 (by decide) (fun c6 => ?_) (fun c6 => ?_)
    · skip
      refine lv_iconst (v := 0) hx hb dX2_alikeButStrings_78 (by decide) ?_
      exact reZ hx hb hr hlocks dX2_alikeButStrings_79 (by first | exact Or.inl rfl | exact Or.inr rfl | exact bI_01 _ | (rename_i h9; rw [h9]; exact bI_01 _) | (subst_vars; exact bI_01 _)) (by first | (simp only [pAlikeB, bI, b4, c6, decide_true, decide_false, Bool.not_true, Bool.not_false, Bool.and_true, Bool.true_and, Bool.and_false, Bool.false_and, Bool.or_true, Bool.true_or, Bool.or_false, Bool.false_or, Bool.and_self, Bool.or_self, if_true, if_false, ite_true, ite_false, Bool.false_eq_true, reduceIte, not_true_eq_false, not_false_eq_true, and_true, true_and, and_false, false_and, or_true, true_or, or_false, false_or, and_self, or_self, eq_self, decide_eq_true_eq, Bool.true_eq_false, reduceCtorEq, ne_eq]; done) | (simp [pAlikeB, bI, b4, c6]; done))
    · skip
      refine lv_aload_n hx hb dX2_alikeButStrings_64 rfl (lv_at hl 2 rfl) ?_
      refine lv_iload_n hx hb dX2_alikeButStrings_65 rfl (lv_at hl 1 rfl) ?_
      refine lv_iload_n hx hb dX2_alikeButStrings_66 rfl (lv_at hl 3 rfl) ?_
      refine lv_iload_n hx hb dX2_alikeButStrings_67 rfl (lv_at hl 4 rfl) ?_
      refine rcI (As := [.int (kd t a), .int a, .int b]) (rest := []) ⟨hx, hb, hml, hown, hts⟩ (c_X2_alikeOfKind l D Y t (kd t a) a b hok) (cwV 3 hts gX2_alikeButStrings_X2_alikeOfKind rfl rfl rfl hdX2_alikeOfKind ⟨Nat.le_of_ble_eq_true rfl, Nat.le_of_ble_eq_true rfl⟩) hP hK 0 3 rfl rfl rfl hl.1 rfl (Nat.le_of_ble_eq_true rfl) dX2_alikeButStrings_68 ⟨(Nat.zero_le _), (Nat.zero_le _)⟩ (fun r7 hr7 => ?_)
      cases b8 : pAlikeK t (kd t a) a b
      · replace hr7 : r7 = 0 := by rw [hr7, b8]; rfl
        subst hr7
        refine lv_if_eq (tgt := 78) hx hb dX2_alikeButStrings_71 (by decide) (fun _ => ?_) (fun c9 => absurd (by decide) c9)
        refine lv_iconst (v := 0) hx hb dX2_alikeButStrings_78 (by decide) ?_
        exact reZ hx hb hr hlocks dX2_alikeButStrings_79 (by first | exact Or.inl rfl | exact Or.inr rfl | exact bI_01 _ | (rename_i h9; rw [h9]; exact bI_01 _) | (subst_vars; exact bI_01 _)) (by first | (simp only [pAlikeB, bI, b4, eq_true c6, b8, decide_true, decide_false, Bool.not_true, Bool.not_false, Bool.and_true, Bool.true_and, Bool.and_false, Bool.false_and, Bool.or_true, Bool.true_or, Bool.or_false, Bool.false_or, Bool.and_self, Bool.or_self, if_true, if_false, ite_true, ite_false, Bool.false_eq_true, reduceIte, not_true_eq_false, not_false_eq_true, and_true, true_and, and_false, false_and, or_true, true_or, or_false, false_or, and_self, or_self, eq_self, decide_eq_true_eq, Bool.true_eq_false, reduceCtorEq, ne_eq]; done) | (simp [pAlikeB, bI, b4, eq_true c6, b8]; done))
      · replace hr7 : r7 = 1 := by rw [hr7, b8]; rfl
        subst hr7
        refine lv_if_eq (tgt := 78) hx hb dX2_alikeButStrings_71 (by decide) (fun c10 => absurd c10 (by decide)) (fun _ => ?_)
        refine lv_iconst (v := 1) hx hb dX2_alikeButStrings_74 (by decide) ?_
        refine lv_goto (tgt := 79) hx hb dX2_alikeButStrings_75 (by decide) ?_
        exact reZ hx hb hr hlocks dX2_alikeButStrings_79 (by first | exact Or.inl rfl | exact Or.inr rfl | exact bI_01 _ | (rename_i h9; rw [h9]; exact bI_01 _) | (subst_vars; exact bI_01 _)) (by first | (simp only [pAlikeB, bI, b4, eq_true c6, b8, decide_true, decide_false, Bool.not_true, Bool.not_false, Bool.and_true, Bool.true_and, Bool.and_false, Bool.false_and, Bool.or_true, Bool.true_or, Bool.or_false, Bool.false_or, Bool.and_self, Bool.or_self, if_true, if_false, ite_true, ite_false, Bool.false_eq_true, reduceIte, not_true_eq_false, not_false_eq_true, and_true, true_and, and_false, false_and, or_true, true_or, or_false, false_or, and_self, or_self, eq_self, decide_eq_true_eq, Bool.true_eq_false, reduceCtorEq, ne_eq]; done) | (simp [pAlikeB, bI, b4, eq_true c6, b8]; done))
  · replace hr3 : r3 = 1 := by rw [hr3, b4]; rfl
    subst hr3
    refine lv_if_eq (tgt := 58) hx hb dX2_alikeButStrings_23 (by decide) (fun c11 => absurd c11 (by decide)) (fun _ => ?_)
    refine lv_iload hx hb dX2_alikeButStrings_26 (lv_at hl 0 rfl) ?_
    refine scI (As := [.int (kd t b)]) (rest := []) ⟨hx, hb, hml, hown, hts⟩ (c_X2_isList l (kd t b)) (va_cwS 1 hts gX2_alikeButStrings_X2_isList rfl rfl rfl hdX2_isList ⟨Nat.le_of_ble_eq_true rfl, Nat.le_of_ble_eq_true rfl⟩) rfl hl.1 rfl (Nat.le_of_ble_eq_true rfl) dX2_alikeButStrings_28 ⟨(Nat.zero_le _), (Nat.zero_le _)⟩ (fun r12 hr12 => ?_)
    cases b13 : pList (kd t b)
    · replace hr12 : r12 = 0 := by rw [hr12, b13]; rfl
      subst hr12
      refine lv_if_eq (tgt := 58) hx hb dX2_alikeButStrings_31 (by decide) (fun _ => ?_) (fun c14 => absurd (by decide) c14)
      refine lv_iload_n hx hb dX2_alikeButStrings_58 rfl (lv_at hl 1 rfl) ?_
      refine lv_iload hx hb dX2_alikeButStrings_59 (lv_at hl 0 rfl) ?_
      refine lv_icmp_ne (tgt := 78) hx hb dX2_alikeButStrings_61 (by decide) (fun c15 => ?_) (fun c15 => ?_)
      · skip
        refine lv_iconst (v := 0) hx hb dX2_alikeButStrings_78 (by decide) ?_
        exact reZ hx hb hr hlocks dX2_alikeButStrings_79 (by first | exact Or.inl rfl | exact Or.inr rfl | exact bI_01 _ | (rename_i h9; rw [h9]; exact bI_01 _) | (subst_vars; exact bI_01 _)) (by first | (simp only [pAlikeB, bI, b4, b13, c15, decide_true, decide_false, Bool.not_true, Bool.not_false, Bool.and_true, Bool.true_and, Bool.and_false, Bool.false_and, Bool.or_true, Bool.true_or, Bool.or_false, Bool.false_or, Bool.and_self, Bool.or_self, if_true, if_false, ite_true, ite_false, Bool.false_eq_true, reduceIte, not_true_eq_false, not_false_eq_true, and_true, true_and, and_false, false_and, or_true, true_or, or_false, false_or, and_self, or_self, eq_self, decide_eq_true_eq, Bool.true_eq_false, reduceCtorEq, ne_eq]; done) | (simp [pAlikeB, bI, b4, b13, c15]; done))
      · skip
        refine lv_aload_n hx hb dX2_alikeButStrings_64 rfl (lv_at hl 2 rfl) ?_
        refine lv_iload_n hx hb dX2_alikeButStrings_65 rfl (lv_at hl 1 rfl) ?_
        refine lv_iload_n hx hb dX2_alikeButStrings_66 rfl (lv_at hl 3 rfl) ?_
        refine lv_iload_n hx hb dX2_alikeButStrings_67 rfl (lv_at hl 4 rfl) ?_
        refine rcI (As := [.int (kd t a), .int a, .int b]) (rest := []) ⟨hx, hb, hml, hown, hts⟩ (c_X2_alikeOfKind l D Y t (kd t a) a b hok) (cwV 3 hts gX2_alikeButStrings_X2_alikeOfKind rfl rfl rfl hdX2_alikeOfKind ⟨Nat.le_of_ble_eq_true rfl, Nat.le_of_ble_eq_true rfl⟩) hP hK 0 3 rfl rfl rfl hl.1 rfl (Nat.le_of_ble_eq_true rfl) dX2_alikeButStrings_68 ⟨(Nat.zero_le _), (Nat.zero_le _)⟩ (fun r16 hr16 => ?_)
        cases b17 : pAlikeK t (kd t a) a b
        · replace hr16 : r16 = 0 := by rw [hr16, b17]; rfl
          subst hr16
          refine lv_if_eq (tgt := 78) hx hb dX2_alikeButStrings_71 (by decide) (fun _ => ?_) (fun c18 => absurd (by decide) c18)
          refine lv_iconst (v := 0) hx hb dX2_alikeButStrings_78 (by decide) ?_
          exact reZ hx hb hr hlocks dX2_alikeButStrings_79 (by first | exact Or.inl rfl | exact Or.inr rfl | exact bI_01 _ | (rename_i h9; rw [h9]; exact bI_01 _) | (subst_vars; exact bI_01 _)) (by first | (simp only [pAlikeB, bI, b4, b13, eq_true c15, b17, decide_true, decide_false, Bool.not_true, Bool.not_false, Bool.and_true, Bool.true_and, Bool.and_false, Bool.false_and, Bool.or_true, Bool.true_or, Bool.or_false, Bool.false_or, Bool.and_self, Bool.or_self, if_true, if_false, ite_true, ite_false, Bool.false_eq_true, reduceIte, not_true_eq_false, not_false_eq_true, and_true, true_and, and_false, false_and, or_true, true_or, or_false, false_or, and_self, or_self, eq_self, decide_eq_true_eq, Bool.true_eq_false, reduceCtorEq, ne_eq]; done) | (simp [pAlikeB, bI, b4, b13, eq_true c15, b17]; done))
        · replace hr16 : r16 = 1 := by rw [hr16, b17]; rfl
          subst hr16
          refine lv_if_eq (tgt := 78) hx hb dX2_alikeButStrings_71 (by decide) (fun c19 => absurd c19 (by decide)) (fun _ => ?_)
          refine lv_iconst (v := 1) hx hb dX2_alikeButStrings_74 (by decide) ?_
          refine lv_goto (tgt := 79) hx hb dX2_alikeButStrings_75 (by decide) ?_
          exact reZ hx hb hr hlocks dX2_alikeButStrings_79 (by first | exact Or.inl rfl | exact Or.inr rfl | exact bI_01 _ | (rename_i h9; rw [h9]; exact bI_01 _) | (subst_vars; exact bI_01 _)) (by first | (simp only [pAlikeB, bI, b4, b13, eq_true c15, b17, decide_true, decide_false, Bool.not_true, Bool.not_false, Bool.and_true, Bool.true_and, Bool.and_false, Bool.false_and, Bool.or_true, Bool.true_or, Bool.or_false, Bool.false_or, Bool.and_self, Bool.or_self, if_true, if_false, ite_true, ite_false, Bool.false_eq_true, reduceIte, not_true_eq_false, not_false_eq_true, and_true, true_and, and_false, false_and, or_true, true_or, or_false, false_or, and_self, or_self, eq_self, decide_eq_true_eq, Bool.true_eq_false, reduceCtorEq, ne_eq]; done) | (simp [pAlikeB, bI, b4, b13, eq_true c15, b17]; done))
    · replace hr12 : r12 = 1 := by rw [hr12, b13]; rfl
      subst hr12
      refine lv_if_eq (tgt := 58) hx hb dX2_alikeButStrings_31 (by decide) (fun c20 => absurd c20 (by decide)) (fun _ => ?_)
      refine lv_aload_n hx hb dX2_alikeButStrings_34 rfl (lv_at hl 2 rfl) ?_
      refine va_get (D := D) (ci := 3) (v := .ref (oH t 4)) (C := RX2) (T := TX2) (N := 10) hx hb hts iwX2 hown hK hP 0 rfl rfl 4 (by decide) (hts (.fieldLink RX2 25 "ObjectRows" "lengths" "LObjectRows$Row;") (by decide +kernel)) (fun _ h9 => h9) rfl dX2_alikeButStrings_35 ?_
      refine lv_iload_n hx hb dX2_alikeButStrings_38 rfl (lv_at hl 3 rfl) ?_
      refine rcI (As := [.int a]) (rest := []) ⟨hx, hb, hml, hown, hts⟩ (c_X1_at l D Y (oH t 4) (oR t 4) a (hok 4 (by decide))) (cwV 1 hts gX2_alikeButStrings_X1_at rfl rfl rfl hdX1_at ⟨Nat.le_of_ble_eq_true rfl, Nat.le_of_ble_eq_true rfl⟩) (oWr4 hP) hK 0 2 rfl rfl rfl hl.1 rfl (Nat.le_of_ble_eq_true rfl) dX2_alikeButStrings_39 ⟨(Nat.zero_le _), (Nat.zero_le _)⟩ (fun r21 hr21 => ?_)
      obtain rfl : r21 = len t a := hr21
      refine lv_if_ne (tgt := 58) hx hb dX2_alikeButStrings_42 (by decide) (fun c22 => ?_) (fun c22 => ?_)
      · skip
        refine lv_iload_n hx hb dX2_alikeButStrings_58 rfl (lv_at hl 1 rfl) ?_
        refine lv_iload hx hb dX2_alikeButStrings_59 (lv_at hl 0 rfl) ?_
        refine lv_icmp_ne (tgt := 78) hx hb dX2_alikeButStrings_61 (by decide) (fun c23 => ?_) (fun c23 => ?_)
        · skip
          refine lv_iconst (v := 0) hx hb dX2_alikeButStrings_78 (by decide) ?_
          exact reZ hx hb hr hlocks dX2_alikeButStrings_79 (by first | exact Or.inl rfl | exact Or.inr rfl | exact bI_01 _ | (rename_i h9; rw [h9]; exact bI_01 _) | (subst_vars; exact bI_01 _)) (by first | (simp only [pAlikeB, bI, b4, b13, c22, c23, decide_true, decide_false, Bool.not_true, Bool.not_false, Bool.and_true, Bool.true_and, Bool.and_false, Bool.false_and, Bool.or_true, Bool.true_or, Bool.or_false, Bool.false_or, Bool.and_self, Bool.or_self, if_true, if_false, ite_true, ite_false, Bool.false_eq_true, reduceIte, not_true_eq_false, not_false_eq_true, and_true, true_and, and_false, false_and, or_true, true_or, or_false, false_or, and_self, or_self, eq_self, decide_eq_true_eq, Bool.true_eq_false, reduceCtorEq, ne_eq]; done) | (simp [pAlikeB, bI, b4, b13, c22, c23]; done))
        · skip
          refine lv_aload_n hx hb dX2_alikeButStrings_64 rfl (lv_at hl 2 rfl) ?_
          refine lv_iload_n hx hb dX2_alikeButStrings_65 rfl (lv_at hl 1 rfl) ?_
          refine lv_iload_n hx hb dX2_alikeButStrings_66 rfl (lv_at hl 3 rfl) ?_
          refine lv_iload_n hx hb dX2_alikeButStrings_67 rfl (lv_at hl 4 rfl) ?_
          refine rcI (As := [.int (kd t a), .int a, .int b]) (rest := []) ⟨hx, hb, hml, hown, hts⟩ (c_X2_alikeOfKind l D Y t (kd t a) a b hok) (cwV 3 hts gX2_alikeButStrings_X2_alikeOfKind rfl rfl rfl hdX2_alikeOfKind ⟨Nat.le_of_ble_eq_true rfl, Nat.le_of_ble_eq_true rfl⟩) hP hK 0 3 rfl rfl rfl hl.1 rfl (Nat.le_of_ble_eq_true rfl) dX2_alikeButStrings_68 ⟨(Nat.zero_le _), (Nat.zero_le _)⟩ (fun r24 hr24 => ?_)
          cases b25 : pAlikeK t (kd t a) a b
          · replace hr24 : r24 = 0 := by rw [hr24, b25]; rfl
            subst hr24
            refine lv_if_eq (tgt := 78) hx hb dX2_alikeButStrings_71 (by decide) (fun _ => ?_) (fun c26 => absurd (by decide) c26)
            refine lv_iconst (v := 0) hx hb dX2_alikeButStrings_78 (by decide) ?_
            exact reZ hx hb hr hlocks dX2_alikeButStrings_79 (by first | exact Or.inl rfl | exact Or.inr rfl | exact bI_01 _ | (rename_i h9; rw [h9]; exact bI_01 _) | (subst_vars; exact bI_01 _)) (by first | (simp only [pAlikeB, bI, b4, b13, c22, eq_true c23, b25, decide_true, decide_false, Bool.not_true, Bool.not_false, Bool.and_true, Bool.true_and, Bool.and_false, Bool.false_and, Bool.or_true, Bool.true_or, Bool.or_false, Bool.false_or, Bool.and_self, Bool.or_self, if_true, if_false, ite_true, ite_false, Bool.false_eq_true, reduceIte, not_true_eq_false, not_false_eq_true, and_true, true_and, and_false, false_and, or_true, true_or, or_false, false_or, and_self, or_self, eq_self, decide_eq_true_eq, Bool.true_eq_false, reduceCtorEq, ne_eq]; done) | (simp [pAlikeB, bI, b4, b13, c22, eq_true c23, b25]; done))
          · replace hr24 : r24 = 1 := by rw [hr24, b25]; rfl
            subst hr24
            refine lv_if_eq (tgt := 78) hx hb dX2_alikeButStrings_71 (by decide) (fun c27 => absurd c27 (by decide)) (fun _ => ?_)
            refine lv_iconst (v := 1) hx hb dX2_alikeButStrings_74 (by decide) ?_
            refine lv_goto (tgt := 79) hx hb dX2_alikeButStrings_75 (by decide) ?_
            exact reZ hx hb hr hlocks dX2_alikeButStrings_79 (by first | exact Or.inl rfl | exact Or.inr rfl | exact bI_01 _ | (rename_i h9; rw [h9]; exact bI_01 _) | (subst_vars; exact bI_01 _)) (by first | (simp only [pAlikeB, bI, b4, b13, c22, eq_true c23, b25, decide_true, decide_false, Bool.not_true, Bool.not_false, Bool.and_true, Bool.true_and, Bool.and_false, Bool.false_and, Bool.or_true, Bool.true_or, Bool.or_false, Bool.false_or, Bool.and_self, Bool.or_self, if_true, if_false, ite_true, ite_false, Bool.false_eq_true, reduceIte, not_true_eq_false, not_false_eq_true, and_true, true_and, and_false, false_and, or_true, true_or, or_false, false_or, and_self, or_self, eq_self, decide_eq_true_eq, Bool.true_eq_false, reduceCtorEq, ne_eq]; done) | (simp [pAlikeB, bI, b4, b13, c22, eq_true c23, b25]; done))
      · skip
        refine lv_aload_n hx hb dX2_alikeButStrings_45 rfl (lv_at hl 2 rfl) ?_
        refine va_get (D := D) (ci := 3) (v := .ref (oH t 4)) (C := RX2) (T := TX2) (N := 10) hx hb hts iwX2 hown hK hP 0 rfl rfl 4 (by decide) (hts (.fieldLink RX2 25 "ObjectRows" "lengths" "LObjectRows$Row;") (by decide +kernel)) (fun _ h9 => h9) rfl dX2_alikeButStrings_46 ?_
        refine lv_iload_n hx hb dX2_alikeButStrings_49 rfl (lv_at hl 4 rfl) ?_
        refine rcI (As := [.int b]) (rest := []) ⟨hx, hb, hml, hown, hts⟩ (c_X1_at l D Y (oH t 4) (oR t 4) b (hok 4 (by decide))) (cwV 1 hts gX2_alikeButStrings_X1_at rfl rfl rfl hdX1_at ⟨Nat.le_of_ble_eq_true rfl, Nat.le_of_ble_eq_true rfl⟩) (oWr4 hP) hK 0 2 rfl rfl rfl hl.1 rfl (Nat.le_of_ble_eq_true rfl) dX2_alikeButStrings_50 ⟨(Nat.zero_le _), (Nat.zero_le _)⟩ (fun r28 hr28 => ?_)
        obtain rfl : r28 = len t b := hr28
        refine lv_if_ne (tgt := 58) hx hb dX2_alikeButStrings_53 (by decide) (fun c29 => ?_) (fun c29 => ?_)
        · skip
          refine lv_iload_n hx hb dX2_alikeButStrings_58 rfl (lv_at hl 1 rfl) ?_
          refine lv_iload hx hb dX2_alikeButStrings_59 (lv_at hl 0 rfl) ?_
          refine lv_icmp_ne (tgt := 78) hx hb dX2_alikeButStrings_61 (by decide) (fun c30 => ?_) (fun c30 => ?_)
          · skip
            refine lv_iconst (v := 0) hx hb dX2_alikeButStrings_78 (by decide) ?_
            exact reZ hx hb hr hlocks dX2_alikeButStrings_79 (by first | exact Or.inl rfl | exact Or.inr rfl | exact bI_01 _ | (rename_i h9; rw [h9]; exact bI_01 _) | (subst_vars; exact bI_01 _)) (by first | (simp only [pAlikeB, bI, b4, b13, c22, c29, c30, decide_true, decide_false, Bool.not_true, Bool.not_false, Bool.and_true, Bool.true_and, Bool.and_false, Bool.false_and, Bool.or_true, Bool.true_or, Bool.or_false, Bool.false_or, Bool.and_self, Bool.or_self, if_true, if_false, ite_true, ite_false, Bool.false_eq_true, reduceIte, not_true_eq_false, not_false_eq_true, and_true, true_and, and_false, false_and, or_true, true_or, or_false, false_or, and_self, or_self, eq_self, decide_eq_true_eq, Bool.true_eq_false, reduceCtorEq, ne_eq]; done) | (simp [pAlikeB, bI, b4, b13, c22, c29, c30]; done))
          · skip
            refine lv_aload_n hx hb dX2_alikeButStrings_64 rfl (lv_at hl 2 rfl) ?_
            refine lv_iload_n hx hb dX2_alikeButStrings_65 rfl (lv_at hl 1 rfl) ?_
            refine lv_iload_n hx hb dX2_alikeButStrings_66 rfl (lv_at hl 3 rfl) ?_
            refine lv_iload_n hx hb dX2_alikeButStrings_67 rfl (lv_at hl 4 rfl) ?_
            refine rcI (As := [.int (kd t a), .int a, .int b]) (rest := []) ⟨hx, hb, hml, hown, hts⟩ (c_X2_alikeOfKind l D Y t (kd t a) a b hok) (cwV 3 hts gX2_alikeButStrings_X2_alikeOfKind rfl rfl rfl hdX2_alikeOfKind ⟨Nat.le_of_ble_eq_true rfl, Nat.le_of_ble_eq_true rfl⟩) hP hK 0 3 rfl rfl rfl hl.1 rfl (Nat.le_of_ble_eq_true rfl) dX2_alikeButStrings_68 ⟨(Nat.zero_le _), (Nat.zero_le _)⟩ (fun r31 hr31 => ?_)
            cases b32 : pAlikeK t (kd t a) a b
            · replace hr31 : r31 = 0 := by rw [hr31, b32]; rfl
              subst hr31
              refine lv_if_eq (tgt := 78) hx hb dX2_alikeButStrings_71 (by decide) (fun _ => ?_) (fun c33 => absurd (by decide) c33)
              refine lv_iconst (v := 0) hx hb dX2_alikeButStrings_78 (by decide) ?_
              exact reZ hx hb hr hlocks dX2_alikeButStrings_79 (by first | exact Or.inl rfl | exact Or.inr rfl | exact bI_01 _ | (rename_i h9; rw [h9]; exact bI_01 _) | (subst_vars; exact bI_01 _)) (by first | (simp only [pAlikeB, bI, b4, b13, c22, c29, eq_true c30, b32, decide_true, decide_false, Bool.not_true, Bool.not_false, Bool.and_true, Bool.true_and, Bool.and_false, Bool.false_and, Bool.or_true, Bool.true_or, Bool.or_false, Bool.false_or, Bool.and_self, Bool.or_self, if_true, if_false, ite_true, ite_false, Bool.false_eq_true, reduceIte, not_true_eq_false, not_false_eq_true, and_true, true_and, and_false, false_and, or_true, true_or, or_false, false_or, and_self, or_self, eq_self, decide_eq_true_eq, Bool.true_eq_false, reduceCtorEq, ne_eq]; done) | (simp [pAlikeB, bI, b4, b13, c22, c29, eq_true c30, b32]; done))
            · replace hr31 : r31 = 1 := by rw [hr31, b32]; rfl
              subst hr31
              refine lv_if_eq (tgt := 78) hx hb dX2_alikeButStrings_71 (by decide) (fun c34 => absurd c34 (by decide)) (fun _ => ?_)
              refine lv_iconst (v := 1) hx hb dX2_alikeButStrings_74 (by decide) ?_
              refine lv_goto (tgt := 79) hx hb dX2_alikeButStrings_75 (by decide) ?_
              exact reZ hx hb hr hlocks dX2_alikeButStrings_79 (by first | exact Or.inl rfl | exact Or.inr rfl | exact bI_01 _ | (rename_i h9; rw [h9]; exact bI_01 _) | (subst_vars; exact bI_01 _)) (by first | (simp only [pAlikeB, bI, b4, b13, c22, c29, eq_true c30, b32, decide_true, decide_false, Bool.not_true, Bool.not_false, Bool.and_true, Bool.true_and, Bool.and_false, Bool.false_and, Bool.or_true, Bool.true_or, Bool.or_false, Bool.false_or, Bool.and_self, Bool.or_self, if_true, if_false, ite_true, ite_false, Bool.false_eq_true, reduceIte, not_true_eq_false, not_false_eq_true, and_true, true_and, and_false, false_and, or_true, true_or, or_false, false_or, and_self, or_self, eq_self, decide_eq_true_eq, Bool.true_eq_false, reduceCtorEq, ne_eq]; done) | (simp [pAlikeB, bI, b4, b13, c22, c29, eq_true c30, b32]; done))
        · skip
          refine lv_iconst (v := 1) hx hb dX2_alikeButStrings_56 (by decide) ?_
          exact reZ hx hb hr hlocks dX2_alikeButStrings_57 (by first | exact Or.inl rfl | exact Or.inr rfl | exact bI_01 _ | (rename_i h9; rw [h9]; exact bI_01 _) | (subst_vars; exact bI_01 _)) (by first | (simp only [pAlikeB, bI, b4, b13, c22, c29, decide_true, decide_false, Bool.not_true, Bool.not_false, Bool.and_true, Bool.true_and, Bool.and_false, Bool.false_and, Bool.or_true, Bool.true_or, Bool.or_false, Bool.false_or, Bool.and_self, Bool.or_self, if_true, if_false, ite_true, ite_false, Bool.false_eq_true, reduceIte, not_true_eq_false, not_false_eq_true, and_true, true_and, and_false, false_and, or_true, true_or, or_false, false_or, and_self, or_self, eq_self, decide_eq_true_eq, Bool.true_eq_false, reduceCtorEq, ne_eq]; done) | (simp [pAlikeB, bI, b4, b13, c22, c29]; done))
theorem hdX2_alikeButStrings : yX2_alikeButStrings.cls = RX2 ∧ yX2_alikeButStrings.cls ≠ "java/lang/invoke/MethodHandle" ∧ yX2_alikeButStrings.cls ≠ "java/lang/invoke/VarHandle" ∧ (parseMethodDescriptor yX2_alikeButStrings.desc).map (fun d => d.parameters.length) = some 2 := by decide +kernel
set_option maxHeartbeats 4000000 in
set_option maxRecDepth 100000 in
theorem c_X2_keyCell (l : Launch) (D : va_G) (Y : Nat → ClassId) (t : OS) (d : Int32) (q : Int32) (hok : oOK t) : Met l yX2_keyCell wsX2_keyCell ({ frames := 1, cells := 0, slots := 0, locals := 21 }) (rdPc D Y [.ref (oO t), .int d, .int q] (oW Y t)) (vp_Si (fun ans => ans = pKeyCell t d q)) 0 0 (fun _ => False) := by
  refine rdOf (cc := cX2_keyCell) (maxL := 3) (ret := (some .int)) (own := RX2) (by decide) rfl rfl (Nat.le_of_ble_eq_true rfl) ?_
  intro p e s m below meth c ls hx hb hr hts hown hml hlocks hP hK hl
  have iwX2 : ∀ w ∈ u_ws RX2 TX2 10, w ∈ wsX2_keyCell := fun _ h => List.mem_cons_of_mem _ (List.mem_append_left _ (List.mem_append_right _ h))
  have hl : lv_has ls 3 [(0, .ref (oO t)), (1, .int d), (2, .int q)] := hl
  refine lv_aload_n hx hb dX2_keyCell_0 rfl (lv_at hl 0 rfl) ?_
  refine va_get (D := D) (ci := 3) (v := .ref (oH t 3)) (C := RX2) (T := TX2) (N := 10) hx hb hts iwX2 hown hK hP 0 rfl rfl 3 (by decide) (hts (.fieldLink RX2 22 "ObjectRows" "starts" "LObjectRows$Row;") (by decide +kernel)) (fun _ h9 => h9) rfl dX2_keyCell_1 ?_
  refine lv_iload_n hx hb dX2_keyCell_4 rfl (lv_at hl 1 rfl) ?_
  refine rcI (As := [.int d]) (rest := []) ⟨hx, hb, hml, hown, hts⟩ (c_X1_at l D Y (oH t 3) (oR t 3) d (hok 3 (by decide))) (cwV 1 hts gX2_keyCell_X1_at rfl rfl rfl hdX1_at ⟨Nat.le_of_ble_eq_true rfl, Nat.le_of_ble_eq_true rfl⟩) (oWr3 hP) hK 0 2 rfl rfl rfl hl.1 rfl (Nat.le_of_ble_eq_true rfl) dX2_keyCell_5 ⟨(Nat.zero_le _), (Nat.zero_le _)⟩ (fun r1 hr1 => ?_)
  obtain rfl : r1 = sta t d := hr1
  refine lv_iload_n hx hb dX2_keyCell_8 rfl (lv_at hl 2 rfl) ?_
  refine lv_iadd hx hb dX2_keyCell_9 ?_
  exact reI hx hb hr hlocks dX2_keyCell_10 (by first | (simp only [pKeyCell, decide_true, decide_false, Bool.not_true, Bool.not_false, Bool.and_true, Bool.true_and, Bool.and_false, Bool.false_and, Bool.or_true, Bool.true_or, Bool.or_false, Bool.false_or, Bool.and_self, Bool.or_self, if_true, if_false, ite_true, ite_false, Bool.false_eq_true, reduceIte, not_true_eq_false, not_false_eq_true, and_true, true_and, and_false, false_and, or_true, true_or, or_false, false_or, and_self, or_self, eq_self, decide_eq_true_eq, Bool.true_eq_false, reduceCtorEq, ne_eq]; done) | (simp [pKeyCell]; done))
theorem hdX2_keyCell : yX2_keyCell.cls = RX2 ∧ yX2_keyCell.cls ≠ "java/lang/invoke/MethodHandle" ∧ yX2_keyCell.cls ≠ "java/lang/invoke/VarHandle" ∧ (parseMethodDescriptor yX2_keyCell.desc).map (fun d => d.parameters.length) = some 2 := by decide +kernel
set_option maxHeartbeats 4000000 in
set_option maxRecDepth 100000 in
theorem c_X2_valueCell (l : Launch) (D : va_G) (Y : Nat → ClassId) (t : OS) (d : Int32) (q : Int32) (hok : oOK t) : Met l yX2_valueCell wsX2_valueCell ({ frames := 1, cells := 0, slots := 0, locals := 21 }) (rdPc D Y [.ref (oO t), .int d, .int q] (oW Y t)) (vp_Si (fun ans => ans = pValCell t d q)) 0 0 (fun _ => False) := by
  refine rdOf (cc := cX2_valueCell) (maxL := 3) (ret := (some .int)) (own := RX2) (by decide) rfl rfl (Nat.le_of_ble_eq_true rfl) ?_
  intro p e s m below meth c ls hx hb hr hts hown hml hlocks hP hK hl
  have iwX2 : ∀ w ∈ u_ws RX2 TX2 10, w ∈ wsX2_valueCell := fun _ h => List.mem_cons_of_mem _ (List.mem_append_left _ (List.mem_append_right _ h))
  have hl : lv_has ls 3 [(0, .ref (oO t)), (1, .int d), (2, .int q)] := hl
  refine lv_aload_n hx hb dX2_valueCell_0 rfl (lv_at hl 0 rfl) ?_
  refine va_get (D := D) (ci := 3) (v := .ref (oH t 3)) (C := RX2) (T := TX2) (N := 10) hx hb hts iwX2 hown hK hP 0 rfl rfl 3 (by decide) (hts (.fieldLink RX2 22 "ObjectRows" "starts" "LObjectRows$Row;") (by decide +kernel)) (fun _ h9 => h9) rfl dX2_valueCell_1 ?_
  refine lv_iload_n hx hb dX2_valueCell_4 rfl (lv_at hl 1 rfl) ?_
  refine rcI (As := [.int d]) (rest := []) ⟨hx, hb, hml, hown, hts⟩ (c_X1_at l D Y (oH t 3) (oR t 3) d (hok 3 (by decide))) (cwV 1 hts gX2_valueCell_X1_at rfl rfl rfl hdX1_at ⟨Nat.le_of_ble_eq_true rfl, Nat.le_of_ble_eq_true rfl⟩) (oWr3 hP) hK 0 2 rfl rfl rfl hl.1 rfl (Nat.le_of_ble_eq_true rfl) dX2_valueCell_5 ⟨(Nat.zero_le _), (Nat.zero_le _)⟩ (fun r1 hr1 => ?_)
  obtain rfl : r1 = sta t d := hr1
  refine lv_bipush (v := 32) hx hb dX2_valueCell_8 (by decide) ?_
  refine lv_iadd hx hb dX2_valueCell_10 ?_
  refine lv_iload_n hx hb dX2_valueCell_11 rfl (lv_at hl 2 rfl) ?_
  refine lv_iadd hx hb dX2_valueCell_12 ?_
  exact reI hx hb hr hlocks dX2_valueCell_13 (by first | (simp only [pValCell, decide_true, decide_false, Bool.not_true, Bool.not_false, Bool.and_true, Bool.true_and, Bool.and_false, Bool.false_and, Bool.or_true, Bool.true_or, Bool.or_false, Bool.false_or, Bool.and_self, Bool.or_self, if_true, if_false, ite_true, ite_false, Bool.false_eq_true, reduceIte, not_true_eq_false, not_false_eq_true, and_true, true_and, and_false, false_and, or_true, true_or, or_false, false_or, and_self, or_self, eq_self, decide_eq_true_eq, Bool.true_eq_false, reduceCtorEq, ne_eq]; done) | (simp [pValCell]; done))
theorem hdX2_valueCell : yX2_valueCell.cls = RX2 ∧ yX2_valueCell.cls ≠ "java/lang/invoke/MethodHandle" ∧ yX2_valueCell.cls ≠ "java/lang/invoke/VarHandle" ∧ (parseMethodDescriptor yX2_valueCell.desc).map (fun d => d.parameters.length) = some 2 := by decide +kernel
set_option maxHeartbeats 4000000 in
set_option maxRecDepth 100000 in
theorem c_X2_alikeKeys (l : Launch) (D : va_G) (Y : Nat → ClassId) (t : OS) (a : Int32) (b : Int32) (hok : oOK t) : Met l yX2_alikeKeys wsX2_alikeKeys ({ frames := 3, cells := 0, slots := 0, locals := 68 }) (rdPc D Y [.ref (oO t), .int a, .int b] (oW Y t)) (vp_Si (fun ans => ans = bI (pAlikeKeys t a b))) 0 0 (fun _ => False) := by
  refine rdOf (cc := cX2_alikeKeys) (maxL := 3) (ret := (some .boolean)) (own := RX2) (by decide) rfl rfl (Nat.le_of_ble_eq_true rfl) ?_
  intro p e s m below meth c ls hx hb hr hts hown hml hlocks hP hK hl
  have hl : lv_has ls 3 [(0, .ref (oO t)), (1, .int a), (2, .int b)] := hl
  refine lv_iload_n hx hb dX2_alikeKeys_0 rfl (lv_at hl 1 rfl) ?_
  refine lv_bipush (v := 100) hx hb dX2_alikeKeys_1 (by decide) ?_
  refine lv_icmp_ge (tgt := 12) hx hb dX2_alikeKeys_3 (by decide) (fun c1 => ?_) (fun c1 => ?_)
  · skip
    refine lv_iload_n hx hb dX2_alikeKeys_12 rfl (lv_at hl 1 rfl) ?_
    refine lv_iload_n hx hb dX2_alikeKeys_13 rfl (lv_at hl 2 rfl) ?_
    refine lv_icmp_ne (tgt := 21) hx hb dX2_alikeKeys_14 (by decide) (fun c2 => ?_) (fun c2 => ?_)
    · skip
      refine lv_iconst (v := 0) hx hb dX2_alikeKeys_21 (by decide) ?_
      exact reZ hx hb hr hlocks dX2_alikeKeys_22 (by first | exact Or.inl rfl | exact Or.inr rfl | exact bI_01 _ | (rename_i h9; rw [h9]; exact bI_01 _) | (subst_vars; exact bI_01 _)) (by first | (simp only [pAlikeKeys, bI, c1, c2, decide_true, decide_false, Bool.not_true, Bool.not_false, Bool.and_true, Bool.true_and, Bool.and_false, Bool.false_and, Bool.or_true, Bool.true_or, Bool.or_false, Bool.false_or, Bool.and_self, Bool.or_self, if_true, if_false, ite_true, ite_false, Bool.false_eq_true, reduceIte, not_true_eq_false, not_false_eq_true, and_true, true_and, and_false, false_and, or_true, true_or, or_false, false_or, and_self, or_self, eq_self, decide_eq_true_eq, Bool.true_eq_false, reduceCtorEq, ne_eq]; done) | (simp [pAlikeKeys, bI, c1, c2, Int32.not_lt.mpr c1]; done))
    · skip
      refine lv_iconst (v := 1) hx hb dX2_alikeKeys_17 (by decide) ?_
      refine lv_goto (tgt := 22) hx hb dX2_alikeKeys_18 (by decide) ?_
      exact reZ hx hb hr hlocks dX2_alikeKeys_22 (by first | exact Or.inl rfl | exact Or.inr rfl | exact bI_01 _ | (rename_i h9; rw [h9]; exact bI_01 _) | (subst_vars; exact bI_01 _)) (by first | (simp only [pAlikeKeys, bI, c1, eq_true c2, decide_true, decide_false, Bool.not_true, Bool.not_false, Bool.and_true, Bool.true_and, Bool.and_false, Bool.false_and, Bool.or_true, Bool.true_or, Bool.or_false, Bool.false_or, Bool.and_self, Bool.or_self, if_true, if_false, ite_true, ite_false, Bool.false_eq_true, reduceIte, not_true_eq_false, not_false_eq_true, and_true, true_and, and_false, false_and, or_true, true_or, or_false, false_or, and_self, or_self, eq_self, decide_eq_true_eq, Bool.true_eq_false, reduceCtorEq, ne_eq]; done) | (simp [pAlikeKeys, bI, c1, eq_true c2, Int32.not_lt.mpr c1]; done))
  · skip
    refine lv_iload_n hx hb dX2_alikeKeys_6 rfl (lv_at hl 2 rfl) ?_
    refine lv_bipush (v := 100) hx hb dX2_alikeKeys_7 (by decide) ?_
    refine lv_icmp_lt (tgt := 23) hx hb dX2_alikeKeys_9 (by decide) (fun c3 => ?_) (fun c3 => ?_)
    · skip
      refine lv_aload_n hx hb dX2_alikeKeys_23 rfl (lv_at hl 0 rfl) ?_
      refine lv_iload_n hx hb dX2_alikeKeys_24 rfl (lv_at hl 1 rfl) ?_
      refine lv_iload_n hx hb dX2_alikeKeys_25 rfl (lv_at hl 2 rfl) ?_
      refine rcI (As := [.int a, .int b]) (rest := []) ⟨hx, hb, hml, hown, hts⟩ (c_X2_alikeButStrings l D Y t a b hok) (cwV 2 hts gX2_alikeKeys_X2_alikeButStrings rfl rfl rfl hdX2_alikeButStrings ⟨Nat.le_of_ble_eq_true rfl, Nat.le_of_ble_eq_true rfl⟩) hP hK 0 3 rfl rfl rfl hl.1 rfl (Nat.le_of_ble_eq_true rfl) dX2_alikeKeys_26 ⟨(Nat.zero_le _), (Nat.zero_le _)⟩ (fun r4 hr4 => ?_)
      cases b5 : pAlikeB t a b
      · replace hr4 : r4 = 0 := by rw [hr4, b5]; rfl
        subst hr4
        exact reZ hx hb hr hlocks dX2_alikeKeys_29 (by first | exact Or.inl rfl | exact Or.inr rfl | exact bI_01 _ | (rename_i h9; rw [h9]; exact bI_01 _) | (subst_vars; exact bI_01 _)) (by first | (simp only [pAlikeKeys, bI, c1, c3, b5, decide_true, decide_false, Bool.not_true, Bool.not_false, Bool.and_true, Bool.true_and, Bool.and_false, Bool.false_and, Bool.or_true, Bool.true_or, Bool.or_false, Bool.false_or, Bool.and_self, Bool.or_self, if_true, if_false, ite_true, ite_false, Bool.false_eq_true, reduceIte, not_true_eq_false, not_false_eq_true, and_true, true_and, and_false, false_and, or_true, true_or, or_false, false_or, and_self, or_self, eq_self, decide_eq_true_eq, Bool.true_eq_false, reduceCtorEq, ne_eq]; done) | (simp [pAlikeKeys, bI, c1, c3, b5, Int32.not_le.mp c1, Int32.not_le.mpr c3]; done))
      · replace hr4 : r4 = 1 := by rw [hr4, b5]; rfl
        subst hr4
        exact reZ hx hb hr hlocks dX2_alikeKeys_29 (by first | exact Or.inl rfl | exact Or.inr rfl | exact bI_01 _ | (rename_i h9; rw [h9]; exact bI_01 _) | (subst_vars; exact bI_01 _)) (by first | (simp only [pAlikeKeys, bI, c1, c3, b5, decide_true, decide_false, Bool.not_true, Bool.not_false, Bool.and_true, Bool.true_and, Bool.and_false, Bool.false_and, Bool.or_true, Bool.true_or, Bool.or_false, Bool.false_or, Bool.and_self, Bool.or_self, if_true, if_false, ite_true, ite_false, Bool.false_eq_true, reduceIte, not_true_eq_false, not_false_eq_true, and_true, true_and, and_false, false_and, or_true, true_or, or_false, false_or, and_self, or_self, eq_self, decide_eq_true_eq, Bool.true_eq_false, reduceCtorEq, ne_eq]; done) | (simp [pAlikeKeys, bI, c1, c3, b5, Int32.not_le.mp c1, Int32.not_le.mpr c3]; done))
    · skip
      refine lv_iload_n hx hb dX2_alikeKeys_12 rfl (lv_at hl 1 rfl) ?_
      refine lv_iload_n hx hb dX2_alikeKeys_13 rfl (lv_at hl 2 rfl) ?_
      refine lv_icmp_ne (tgt := 21) hx hb dX2_alikeKeys_14 (by decide) (fun c6 => ?_) (fun c6 => ?_)
      · skip
        refine lv_iconst (v := 0) hx hb dX2_alikeKeys_21 (by decide) ?_
        exact reZ hx hb hr hlocks dX2_alikeKeys_22 (by first | exact Or.inl rfl | exact Or.inr rfl | exact bI_01 _ | (rename_i h9; rw [h9]; exact bI_01 _) | (subst_vars; exact bI_01 _)) (by first | (simp only [pAlikeKeys, bI, c1, c3, c6, decide_true, decide_false, Bool.not_true, Bool.not_false, Bool.and_true, Bool.true_and, Bool.and_false, Bool.false_and, Bool.or_true, Bool.true_or, Bool.or_false, Bool.false_or, Bool.and_self, Bool.or_self, if_true, if_false, ite_true, ite_false, Bool.false_eq_true, reduceIte, not_true_eq_false, not_false_eq_true, and_true, true_and, and_false, false_and, or_true, true_or, or_false, false_or, and_self, or_self, eq_self, decide_eq_true_eq, Bool.true_eq_false, reduceCtorEq, ne_eq]; done) | (simp [pAlikeKeys, bI, c1, c3, c6, Int32.not_le.mp c1, Int32.not_lt.mp c3]; done))
      · skip
        refine lv_iconst (v := 1) hx hb dX2_alikeKeys_17 (by decide) ?_
        refine lv_goto (tgt := 22) hx hb dX2_alikeKeys_18 (by decide) ?_
        exact reZ hx hb hr hlocks dX2_alikeKeys_22 (by first | exact Or.inl rfl | exact Or.inr rfl | exact bI_01 _ | (rename_i h9; rw [h9]; exact bI_01 _) | (subst_vars; exact bI_01 _)) (by first | (simp only [pAlikeKeys, bI, c1, c3, eq_true c6, decide_true, decide_false, Bool.not_true, Bool.not_false, Bool.and_true, Bool.true_and, Bool.and_false, Bool.false_and, Bool.or_true, Bool.true_or, Bool.or_false, Bool.false_or, Bool.and_self, Bool.or_self, if_true, if_false, ite_true, ite_false, Bool.false_eq_true, reduceIte, not_true_eq_false, not_false_eq_true, and_true, true_and, and_false, false_and, or_true, true_or, or_false, false_or, and_self, or_self, eq_self, decide_eq_true_eq, Bool.true_eq_false, reduceCtorEq, ne_eq]; done) | (simp [pAlikeKeys, bI, c1, c3, eq_true c6, Int32.not_le.mp c1, Int32.not_lt.mp c3]; done))
theorem hdX2_alikeKeys : yX2_alikeKeys.cls = RX2 ∧ yX2_alikeKeys.cls ≠ "java/lang/invoke/MethodHandle" ∧ yX2_alikeKeys.cls ≠ "java/lang/invoke/VarHandle" ∧ (parseMethodDescriptor yX2_alikeKeys.desc).map (fun d => d.parameters.length) = some 2 := by decide +kernel
set_option maxHeartbeats 4000000 in
set_option maxRecDepth 100000 in
theorem c_X2_kind (l : Launch) (D : va_G) (Y : Nat → ClassId) (t : OS) (x : Int32) (hok : oOK t) : Met l yX2_kind wsX2_kind ({ frames := 1, cells := 0, slots := 0, locals := 21 }) (rdPc D Y [.ref (oO t), .int x] (oW Y t)) (vp_Si (fun ans => ans = pKind t x)) 0 0 (fun _ => False) := by
  refine rdOf (cc := cX2_kind) (maxL := 2) (ret := (some .int)) (own := RX2) (by decide) rfl rfl (Nat.le_of_ble_eq_true rfl) ?_
  intro p e s m below meth c ls hx hb hr hts hown hml hlocks hP hK hl
  have iwX2 : ∀ w ∈ u_ws RX2 TX2 10, w ∈ wsX2_kind := fun _ h => List.mem_cons_of_mem _ (List.mem_append_left _ (List.mem_append_right _ h))
  have hl : lv_has ls 2 [(0, .ref (oO t)), (1, .int x)] := hl
  refine lv_aload_n hx hb dX2_kind_0 rfl (lv_at hl 0 rfl) ?_
  refine lv_iload_n hx hb dX2_kind_1 rfl (lv_at hl 1 rfl) ?_
  refine rcI (As := [.int x]) (rest := []) ⟨hx, hb, hml, hown, hts⟩ (c_X2_known l D Y t x hok) (cwV 1 hts gX2_kind_X2_known rfl rfl rfl hdX2_known ⟨Nat.le_of_ble_eq_true rfl, Nat.le_of_ble_eq_true rfl⟩) hP hK 0 3 rfl rfl rfl hl.1 rfl (Nat.le_of_ble_eq_true rfl) dX2_kind_2 ⟨(Nat.zero_le _), (Nat.zero_le _)⟩ (fun r1 hr1 => ?_)
  cases b2 : pKnown t x
  · replace hr1 : r1 = 0 := by rw [hr1, b2]; rfl
    subst hr1
    refine lv_if_eq (tgt := 19) hx hb dX2_kind_5 (by decide) (fun _ => ?_) (fun c3 => absurd (by decide) c3)
    refine lv_iconst (v := (-1)) hx hb dX2_kind_19 (by decide) ?_
    exact reI hx hb hr hlocks dX2_kind_20 (by first | (simp only [pKind, b2, decide_true, decide_false, Bool.not_true, Bool.not_false, Bool.and_true, Bool.true_and, Bool.and_false, Bool.false_and, Bool.or_true, Bool.true_or, Bool.or_false, Bool.false_or, Bool.and_self, Bool.or_self, if_true, if_false, ite_true, ite_false, Bool.false_eq_true, reduceIte, not_true_eq_false, not_false_eq_true, and_true, true_and, and_false, false_and, or_true, true_or, or_false, false_or, and_self, or_self, eq_self, decide_eq_true_eq, Bool.true_eq_false, reduceCtorEq, ne_eq]; done) | (simp [pKind, b2]; done))
  · replace hr1 : r1 = 1 := by rw [hr1, b2]; rfl
    subst hr1
    refine lv_if_eq (tgt := 19) hx hb dX2_kind_5 (by decide) (fun c4 => absurd c4 (by decide)) (fun _ => ?_)
    refine lv_aload_n hx hb dX2_kind_8 rfl (lv_at hl 0 rfl) ?_
    refine va_get (D := D) (ci := 3) (v := .ref (oH t 0)) (C := RX2) (T := TX2) (N := 10) hx hb hts iwX2 hown hK hP 0 rfl rfl 0 (by decide) (hts (.fieldLink RX2 12 "ObjectRows" "kinds" "LObjectRows$Row;") (by decide +kernel)) (fun _ h9 => h9) rfl dX2_kind_9 ?_
    refine lv_iload_n hx hb dX2_kind_12 rfl (lv_at hl 1 rfl) ?_
    refine rcI (As := [.int x]) (rest := []) ⟨hx, hb, hml, hown, hts⟩ (c_X1_at l D Y (oH t 0) (oR t 0) x (hok 0 (by decide))) (cwV 1 hts gX2_kind_X1_at rfl rfl rfl hdX1_at ⟨Nat.le_of_ble_eq_true rfl, Nat.le_of_ble_eq_true rfl⟩) (oWr0 hP) hK 0 2 rfl rfl rfl hl.1 rfl (Nat.le_of_ble_eq_true rfl) dX2_kind_13 ⟨(Nat.zero_le _), (Nat.zero_le _)⟩ (fun r5 hr5 => ?_)
    obtain rfl : r5 = kd t x := hr5
    refine lv_goto (tgt := 20) hx hb dX2_kind_16 (by decide) ?_
    exact reI hx hb hr hlocks dX2_kind_20 (by first | (simp only [pKind, b2, decide_true, decide_false, Bool.not_true, Bool.not_false, Bool.and_true, Bool.true_and, Bool.and_false, Bool.false_and, Bool.or_true, Bool.true_or, Bool.or_false, Bool.false_or, Bool.and_self, Bool.or_self, if_true, if_false, ite_true, ite_false, Bool.false_eq_true, reduceIte, not_true_eq_false, not_false_eq_true, and_true, true_and, and_false, false_and, or_true, true_or, or_false, false_or, and_self, or_self, eq_self, decide_eq_true_eq, Bool.true_eq_false, reduceCtorEq, ne_eq]; done) | (simp [pKind, b2]; done))
theorem hdX2_kind : yX2_kind.cls = RX2 ∧ yX2_kind.cls ≠ "java/lang/invoke/MethodHandle" ∧ yX2_kind.cls ≠ "java/lang/invoke/VarHandle" ∧ (parseMethodDescriptor yX2_kind.desc).map (fun d => d.parameters.length) = some 1 := by decide +kernel
set_option maxHeartbeats 4000000 in
set_option maxRecDepth 100000 in
theorem c_X2_used (l : Launch) (D : va_G) (Y : Nat → ClassId) (t : OS)  (hok : oOK t) : Met l yX2_used wsX2_used ({ frames := 0, cells := 0, slots := 0, locals := 0 }) (rdPc D Y [.ref (oO t)] (oW Y t)) (vp_Si (fun ans => ans = oSto t)) 0 0 (fun _ => False) := by
  refine rdOf (cc := cX2_used) (maxL := 1) (ret := (some .int)) (own := RX2) (by decide) rfl rfl (Nat.le_of_ble_eq_true rfl) ?_
  intro p e s m below meth c ls hx hb hr hts hown hml hlocks hP hK hl
  have iwX0 : ∀ w ∈ u_ws RX0 TX0 7, w ∈ wsX2_used := fun _ h => List.mem_cons_of_mem _ (List.mem_append_right _ h)
  have iwX2 : ∀ w ∈ u_ws RX2 TX2 10, w ∈ wsX2_used := fun _ h => List.mem_cons_of_mem _ (List.mem_append_left _ (List.mem_append_right _ h))
  have hl : lv_has ls 1 [(0, .ref (oO t))] := hl
  refine lv_aload_n hx hb dX2_used_0 rfl (lv_at hl 0 rfl) ?_
  refine va_get (D := D) (ci := 3) (v := .ref (oNow t)) (C := RX2) (T := TX2) (N := 10) hx hb hts iwX2 hown hK hP 0 rfl rfl 6 (by decide) (hts (.fieldLink RX2 34 "ObjectRows" "now" "LObjectRows$Changing;") (by decide +kernel)) (fun _ h9 => h9) rfl dX2_used_1 ?_
  refine va_get (D := D) (ci := 1) (v := .int (oSto t)) (C := RX0) (T := TX0) (N := 7) hx hb hts iwX0 hown hK hP 1 rfl rfl 6 (by decide) (hts (.fieldLink RX2 57 "ObjectRows$Changing" "storage" "I") (by decide +kernel)) (fun _ h9 => h9) rfl dX2_used_4 ?_
  exact reI hx hb hr hlocks dX2_used_7 (by rfl)
theorem hdX2_used : yX2_used.cls = RX2 ∧ yX2_used.cls ≠ "java/lang/invoke/MethodHandle" ∧ yX2_used.cls ≠ "java/lang/invoke/VarHandle" ∧ (parseMethodDescriptor yX2_used.desc).map (fun d => d.parameters.length) = some 0 := by decide +kernel
set_option maxHeartbeats 4000000 in
set_option maxRecDepth 100000 in
theorem c_X2_orderOfBytes (l : Launch) (D : va_G) (Y : Nat → ClassId) (t : OS) (a : Int32) (b : Int32) (hok : oOK t) : Met l yX2_orderOfBytes wsX2_orderOfBytes ({ frames := 2, cells := 0, slots := 0, locals := 43 }) (rdPc D Y [.ref (oO t), .int a, .int b] (oW Y t)) (vp_Si (fun ans => ans = pOrdB t a b)) 0 0 (fun _ => False) := by
  refine rdOf (cc := cX2_orderOfBytes) (maxL := 6) (ret := (some .int)) (own := RX2) (by decide) rfl rfl (Nat.le_of_ble_eq_true rfl) ?_
  intro p e s m below meth c ls hx hb hr hts hown hml hlocks hP hK hl
  have iwX2 : ∀ w ∈ u_ws RX2 TX2 10, w ∈ wsX2_orderOfBytes := fun _ h => List.mem_cons_of_mem _ (List.mem_append_left _ (List.mem_append_left _ (List.mem_append_right _ h)))
  have hl : lv_has ls 6 [(0, .ref (oO t)), (1, .int a), (2, .int b)] := hl
  refine lv_aload_n hx hb dX2_orderOfBytes_0 rfl (lv_at hl 0 rfl) ?_
  refine va_get (D := D) (ci := 3) (v := .ref (oH t 4)) (C := RX2) (T := TX2) (N := 10) hx hb hts iwX2 hown hK hP 0 rfl rfl 4 (by decide) (hts (.fieldLink RX2 25 "ObjectRows" "lengths" "LObjectRows$Row;") (by decide +kernel)) (fun _ h9 => h9) rfl dX2_orderOfBytes_1 ?_
  refine lv_iload_n hx hb dX2_orderOfBytes_4 rfl (lv_at hl 1 rfl) ?_
  refine rcI (As := [.int a]) (rest := []) ⟨hx, hb, hml, hown, hts⟩ (c_X1_at l D Y (oH t 4) (oR t 4) a (hok 4 (by decide))) (cwV 1 hts gX2_orderOfBytes_X1_at rfl rfl rfl hdX1_at ⟨Nat.le_of_ble_eq_true rfl, Nat.le_of_ble_eq_true rfl⟩) (oWr4 hP) hK 0 2 rfl rfl rfl hl.1 rfl (Nat.le_of_ble_eq_true rfl) dX2_orderOfBytes_5 ⟨(Nat.zero_le _), (Nat.zero_le _)⟩ (fun r1 hr1 => ?_)
  obtain rfl : r1 = len t a := hr1
  refine lv_aload_n hx hb dX2_orderOfBytes_8 rfl (lv_at hl 0 rfl) ?_
  refine va_get (D := D) (ci := 3) (v := .ref (oH t 4)) (C := RX2) (T := TX2) (N := 10) hx hb hts iwX2 hown hK hP 0 rfl rfl 4 (by decide) (hts (.fieldLink RX2 25 "ObjectRows" "lengths" "LObjectRows$Row;") (by decide +kernel)) (fun _ h9 => h9) rfl dX2_orderOfBytes_9 ?_
  refine lv_iload_n hx hb dX2_orderOfBytes_12 rfl (lv_at hl 2 rfl) ?_
  refine rcI (As := [.int b]) (rest := [.int (len t a)]) ⟨hx, hb, hml, hown, hts⟩ (c_X1_at l D Y (oH t 4) (oR t 4) b (hok 4 (by decide))) (cwV 1 hts gX2_orderOfBytes_X1_at rfl rfl rfl hdX1_at ⟨Nat.le_of_ble_eq_true rfl, Nat.le_of_ble_eq_true rfl⟩) (oWr4 hP) hK 0 2 rfl rfl rfl hl.1 rfl (Nat.le_of_ble_eq_true rfl) dX2_orderOfBytes_13 ⟨(Nat.zero_le _), (Nat.zero_le _)⟩ (fun r2 hr2 => ?_)
  obtain rfl : r2 = len t b := hr2
  refine va_mmin hx hb (hml.trans hl.1.symm) hown (hts (.methodLink RX2 186 Lib.Math.min.name) (by decide +kernel)) (hts (.static Lib.Math.min.name) (by decide +kernel)) (hts (.initialized "java/lang/Math") (by decide +kernel)) (hts (.code Lib.Math.min.name Lib.Math.min.code 2 (some .int)) (by decide +kernel)) (Nat.le_of_ble_eq_true rfl) (Nat.le_of_ble_eq_true rfl) (Nat.zero_le _) (Nat.zero_le _) dX2_orderOfBytes_16 ?_
  refine lv_istore_n (lv' := [(3, .int (pMinL t a b)), (0, .ref (oO t)), (1, .int a), (2, .int b)]) hx hb dX2_orderOfBytes_19 rfl hl (by decide) rfl (fun ls hl => ?_)
  refine lv_iconst (v := 0) hx hb dX2_orderOfBytes_20 (by decide) ?_
  refine lv_istore (lv' := [(4, .int 0), (3, .int (pMinL t a b)), (0, .ref (oO t)), (1, .int a), (2, .int b)]) hx hb dX2_orderOfBytes_21 hl (by decide) rfl (fun ls hl => ?_)
  have LP : ∀ (n : Nat) (z : Int32), ((pMinL t a b).toInt - z.toInt).toNat < n → pOrdL t a b n z = pOrdB t a b → ∀ ls : Array Slot, lv_has ls 6 [(4, .int z), (3, .int (pMinL t a b)), (0, .ref (oO t)), (1, .int a), (2, .int b)] → W p l e ({ frames := 2, cells := 0, slots := 0, locals := 43 }) s m ([.ref (oO t), .int a, .int b] : List Value).toArray below meth c s.heap [] 0 0 (MQ below (vp_Si (fun ans => ans = pOrdB t a b)) ([.ref (oO t), .int a, .int b] : List Value).toArray s 0 0 (fun _ => False)) (F0 m 23 ls []) := by
    intro n
    induction n with
    | zero => intro z h9; exact absurd h9 (Nat.not_lt_zero _)
    | succ n ih =>
      intro z hz hv ls hl
      refine lv_iload hx hb dX2_orderOfBytes_23 (lv_at hl 0 rfl) ?_
      refine lv_iload_n hx hb dX2_orderOfBytes_25 rfl (lv_at hl 1 rfl) ?_
      refine lv_icmp_ge (tgt := 63) hx hb dX2_orderOfBytes_26 (by decide) (fun c3 => ?_) (fun c3 => ?_)
      · skip
        refine lv_aload_n hx hb dX2_orderOfBytes_63 rfl (lv_at hl 2 rfl) ?_
        refine va_get (D := D) (ci := 3) (v := .ref (oH t 4)) (C := RX2) (T := TX2) (N := 10) hx hb hts iwX2 hown hK hP 0 rfl rfl 4 (by decide) (hts (.fieldLink RX2 25 "ObjectRows" "lengths" "LObjectRows$Row;") (by decide +kernel)) (fun _ h9 => h9) rfl dX2_orderOfBytes_64 ?_
        refine lv_iload_n hx hb dX2_orderOfBytes_67 rfl (lv_at hl 3 rfl) ?_
        refine rcI (As := [.int a]) (rest := []) ⟨hx, hb, hml, hown, hts⟩ (c_X1_at l D Y (oH t 4) (oR t 4) a (hok 4 (by decide))) (cwV 1 hts gX2_orderOfBytes_X1_at rfl rfl rfl hdX1_at ⟨Nat.le_of_ble_eq_true rfl, Nat.le_of_ble_eq_true rfl⟩) (oWr4 hP) hK 0 2 rfl rfl rfl hl.1 rfl (Nat.le_of_ble_eq_true rfl) dX2_orderOfBytes_68 ⟨(Nat.zero_le _), (Nat.zero_le _)⟩ (fun r4 hr4 => ?_)
        obtain rfl : r4 = len t a := hr4
        refine lv_aload_n hx hb dX2_orderOfBytes_71 rfl (lv_at hl 2 rfl) ?_
        refine va_get (D := D) (ci := 3) (v := .ref (oH t 4)) (C := RX2) (T := TX2) (N := 10) hx hb hts iwX2 hown hK hP 0 rfl rfl 4 (by decide) (hts (.fieldLink RX2 25 "ObjectRows" "lengths" "LObjectRows$Row;") (by decide +kernel)) (fun _ h9 => h9) rfl dX2_orderOfBytes_72 ?_
        refine lv_iload_n hx hb dX2_orderOfBytes_75 rfl (lv_at hl 4 rfl) ?_
        refine rcI (As := [.int b]) (rest := [.int (len t a)]) ⟨hx, hb, hml, hown, hts⟩ (c_X1_at l D Y (oH t 4) (oR t 4) b (hok 4 (by decide))) (cwV 1 hts gX2_orderOfBytes_X1_at rfl rfl rfl hdX1_at ⟨Nat.le_of_ble_eq_true rfl, Nat.le_of_ble_eq_true rfl⟩) (oWr4 hP) hK 0 2 rfl rfl rfl hl.1 rfl (Nat.le_of_ble_eq_true rfl) dX2_orderOfBytes_76 ⟨(Nat.zero_le _), (Nat.zero_le _)⟩ (fun r5 hr5 => ?_)
        obtain rfl : r5 = len t b := hr5
        refine scI (As := [.int (len t a), .int (len t b)]) (rest := []) ⟨hx, hb, hml, hown, hts⟩ (c_X2_order l (len t a) (len t b)) (va_cwS 2 hts gX2_orderOfBytes_X2_order rfl rfl rfl hdX2_order ⟨Nat.le_of_ble_eq_true rfl, Nat.le_of_ble_eq_true rfl⟩) rfl hl.1 rfl (Nat.le_of_ble_eq_true rfl) dX2_orderOfBytes_79 ⟨(Nat.zero_le _), (Nat.zero_le _)⟩ (fun r6 hr6 => ?_)
        obtain rfl : r6 = pOrder (len t a) (len t b) := hr6
        exact reI hx hb hr hlocks dX2_orderOfBytes_82 (by first | (rw [← hv]; simp only [pOrdL, c3, decide_true, decide_false, Bool.not_true, Bool.not_false, Bool.and_true, Bool.true_and, Bool.and_false, Bool.false_and, Bool.or_true, Bool.true_or, Bool.or_false, Bool.false_or, Bool.and_self, Bool.or_self, if_true, if_false, ite_true, ite_false, Bool.false_eq_true, reduceIte, not_true_eq_false, not_false_eq_true, and_true, true_and, and_false, false_and, or_true, true_or, or_false, false_or, and_self, or_self, eq_self, decide_eq_true_eq, Bool.true_eq_false, reduceCtorEq, ne_eq]; done) | (rw [← hv]; simp [pOrdL, c3, Int32.not_lt.mpr c3]; done))
      · skip
        refine lv_aload_n hx hb dX2_orderOfBytes_29 rfl (lv_at hl 2 rfl) ?_
        refine lv_iload_n hx hb dX2_orderOfBytes_30 rfl (lv_at hl 3 rfl) ?_
        refine lv_iload hx hb dX2_orderOfBytes_31 (lv_at hl 0 rfl) ?_
        refine rcI (As := [.int a, .int z]) (rest := []) ⟨hx, hb, hml, hown, hts⟩ (c_X2_elementOf l D Y t a z hok) (cwV 2 hts gX2_orderOfBytes_X2_elementOf rfl rfl rfl hdX2_elementOf ⟨Nat.le_of_ble_eq_true rfl, Nat.le_of_ble_eq_true rfl⟩) hP hK 0 3 rfl rfl rfl hl.1 rfl (Nat.le_of_ble_eq_true rfl) dX2_orderOfBytes_33 ⟨(Nat.zero_le _), (Nat.zero_le _)⟩ (fun r7 hr7 => ?_)
        obtain rfl : r7 = pEl t a z := hr7
        refine lv_aload_n hx hb dX2_orderOfBytes_36 rfl (lv_at hl 2 rfl) ?_
        refine lv_iload_n hx hb dX2_orderOfBytes_37 rfl (lv_at hl 4 rfl) ?_
        refine lv_iload hx hb dX2_orderOfBytes_38 (lv_at hl 0 rfl) ?_
        refine rcI (As := [.int b, .int z]) (rest := [.int (pEl t a z)]) ⟨hx, hb, hml, hown, hts⟩ (c_X2_elementOf l D Y t b z hok) (cwV 2 hts gX2_orderOfBytes_X2_elementOf rfl rfl rfl hdX2_elementOf ⟨Nat.le_of_ble_eq_true rfl, Nat.le_of_ble_eq_true rfl⟩) hP hK 0 3 rfl rfl rfl hl.1 rfl (Nat.le_of_ble_eq_true rfl) dX2_orderOfBytes_40 ⟨(Nat.zero_le _), (Nat.zero_le _)⟩ (fun r8 hr8 => ?_)
        obtain rfl : r8 = pEl t b z := hr8
        refine scI (As := [.int (pEl t a z), .int (pEl t b z)]) (rest := []) ⟨hx, hb, hml, hown, hts⟩ (c_X2_order l (pEl t a z) (pEl t b z)) (va_cwS 2 hts gX2_orderOfBytes_X2_order rfl rfl rfl hdX2_order ⟨Nat.le_of_ble_eq_true rfl, Nat.le_of_ble_eq_true rfl⟩) rfl hl.1 rfl (Nat.le_of_ble_eq_true rfl) dX2_orderOfBytes_43 ⟨(Nat.zero_le _), (Nat.zero_le _)⟩ (fun r9 hr9 => ?_)
        obtain rfl : r9 = pOrder (pEl t a z) (pEl t b z) := hr9
        refine lv_istore (lv' := [(5, .int (pOrder (pEl t a z) (pEl t b z))), (4, .int z), (3, .int (pMinL t a b)), (0, .ref (oO t)), (1, .int a), (2, .int b)]) hx hb dX2_orderOfBytes_46 hl (by decide) rfl (fun ls hl => ?_)
        refine lv_iload hx hb dX2_orderOfBytes_48 (lv_at hl 0 rfl) ?_
        refine lv_iconst (v := 1) hx hb dX2_orderOfBytes_50 (by decide) ?_
        refine lv_icmp_eq (tgt := 57) hx hb dX2_orderOfBytes_51 (by decide) (fun c10 => ?_) (fun c10 => ?_)
        · skip
          obtain ⟨z11, ez11⟩ : ∃ y : Int32, y = z + 1 := ⟨_, rfl⟩
          refine lv_iinc (v := z11) (lv' := [(4, .int z11), (5, .int (pOrder (pEl t a z) (pEl t b z))), (3, .int (pMinL t a b)), (0, .ref (oO t)), (1, .int a), (2, .int b)]) hx hb dX2_orderOfBytes_57 hl (k := 1) rfl (by rw [ez11]; rfl) (by decide) rfl (fun ls hl => ?_)
          refine lv_goto (tgt := 23) hx hb dX2_orderOfBytes_60 (by decide) ?_
          exact ih z11 (mstep c3 hz ez11) (by first | (rw [← hv]; simp only [pOrdL, c3, c10, ez11, decide_true, decide_false, Bool.not_true, Bool.not_false, Bool.and_true, Bool.true_and, Bool.and_false, Bool.false_and, Bool.or_true, Bool.true_or, Bool.or_false, Bool.false_or, Bool.and_self, Bool.or_self, if_true, if_false, ite_true, ite_false, Bool.false_eq_true, reduceIte, not_true_eq_false, not_false_eq_true, and_true, true_and, and_false, false_and, or_true, true_or, or_false, false_or, and_self, or_self, eq_self, decide_eq_true_eq, Bool.true_eq_false, reduceCtorEq, ne_eq]; done) | (rw [← hv]; simp [pOrdL, c3, c10, ez11, Int32.not_le.mp c3]; done)) ls (lv_sub hl [0, 2, 3, 4, 5] rfl)
        · skip
          refine lv_iload hx hb dX2_orderOfBytes_54 (lv_at hl 0 rfl) ?_
          exact reI hx hb hr hlocks dX2_orderOfBytes_56 (by first | (rw [← hv]; simp only [pOrdL, c3, c10, decide_true, decide_false, Bool.not_true, Bool.not_false, Bool.and_true, Bool.true_and, Bool.and_false, Bool.false_and, Bool.or_true, Bool.true_or, Bool.or_false, Bool.false_or, Bool.and_self, Bool.or_self, if_true, if_false, ite_true, ite_false, Bool.false_eq_true, reduceIte, not_true_eq_false, not_false_eq_true, and_true, true_and, and_false, false_and, or_true, true_or, or_false, false_or, and_self, or_self, eq_self, decide_eq_true_eq, Bool.true_eq_false, reduceCtorEq, ne_eq]; done) | (rw [← hv]; simp [pOrdL, c3, c10, Int32.not_le.mp c3]; done))
  exact LP ((pMinL t a b).toInt.toNat + 1) 0 (by rw [show ((0 : Int32)).toInt = 0 from rfl]; omega) (by rfl) ls (lv_sub hl [0, 1, 2, 3, 4] rfl)
theorem hdX2_orderOfBytes : yX2_orderOfBytes.cls = RX2 ∧ yX2_orderOfBytes.cls ≠ "java/lang/invoke/MethodHandle" ∧ yX2_orderOfBytes.cls ≠ "java/lang/invoke/VarHandle" ∧ (parseMethodDescriptor yX2_orderOfBytes.desc).map (fun d => d.parameters.length) = some 2 := by decide +kernel
set_option maxHeartbeats 4000000 in
set_option maxRecDepth 100000 in
theorem c_X2_numberInTens (l : Launch) (D : va_G) (Y : Nat → ClassId) (t : OS) (x : Int32) (hok : oOK t) : Met l yX2_numberInTens wsX2_numberInTens ({ frames := 2, cells := 0, slots := 0, locals := 43 }) (rdPc D Y [.ref (oO t), .int x] (oW Y t)) (vp_Si (fun ans => ans = pTens t x)) 0 0 (fun _ => False) := by
  refine rdOf (cc := cX2_numberInTens) (maxL := 7) (ret := (some .int)) (own := RX2) (by decide) rfl rfl (Nat.le_of_ble_eq_true rfl) ?_
  intro p e s m below meth c ls hx hb hr hts hown hml hlocks hP hK hl
  have iwX2 : ∀ w ∈ u_ws RX2 TX2 10, w ∈ wsX2_numberInTens := fun _ h => List.mem_cons_of_mem _ (List.mem_append_left _ (List.mem_append_left _ (List.mem_append_right _ h)))
  have hl : lv_has ls 7 [(0, .ref (oO t)), (1, .int x)] := hl
  refine lv_aload_n hx hb dX2_numberInTens_0 rfl (lv_at hl 0 rfl) ?_
  refine va_get (D := D) (ci := 3) (v := .ref (oH t 4)) (C := RX2) (T := TX2) (N := 10) hx hb hts iwX2 hown hK hP 0 rfl rfl 4 (by decide) (hts (.fieldLink RX2 25 "ObjectRows" "lengths" "LObjectRows$Row;") (by decide +kernel)) (fun _ h9 => h9) rfl dX2_numberInTens_1 ?_
  refine lv_iload_n hx hb dX2_numberInTens_4 rfl (lv_at hl 1 rfl) ?_
  refine rcI (As := [.int x]) (rest := []) ⟨hx, hb, hml, hown, hts⟩ (c_X1_at l D Y (oH t 4) (oR t 4) x (hok 4 (by decide))) (cwV 1 hts gX2_numberInTens_X1_at rfl rfl rfl hdX1_at ⟨Nat.le_of_ble_eq_true rfl, Nat.le_of_ble_eq_true rfl⟩) (oWr4 hP) hK 0 2 rfl rfl rfl hl.1 rfl (Nat.le_of_ble_eq_true rfl) dX2_numberInTens_5 ⟨(Nat.zero_le _), (Nat.zero_le _)⟩ (fun r1 hr1 => ?_)
  obtain rfl : r1 = len t x := hr1
  refine lv_istore_n (lv' := [(2, .int (len t x)), (0, .ref (oO t)), (1, .int x)]) hx hb dX2_numberInTens_8 rfl hl (by decide) rfl (fun ls hl => ?_)
  refine lv_iload_n hx hb dX2_numberInTens_9 rfl (lv_at hl 0 rfl) ?_
  refine lv_iconst (v := 1) hx hb dX2_numberInTens_10 (by decide) ?_
  refine lv_icmp_lt (tgt := 19) hx hb dX2_numberInTens_11 (by decide) (fun c2 => ?_) (fun c2 => ?_)
  · skip
    refine lv_iconst (v := (-1)) hx hb dX2_numberInTens_19 (by decide) ?_
    exact reI hx hb hr hlocks dX2_numberInTens_20 (by first | (simp only [pTens, c2, decide_true, decide_false, Bool.not_true, Bool.not_false, Bool.and_true, Bool.true_and, Bool.and_false, Bool.false_and, Bool.or_true, Bool.true_or, Bool.or_false, Bool.false_or, Bool.and_self, Bool.or_self, if_true, if_false, ite_true, ite_false, Bool.false_eq_true, reduceIte, not_true_eq_false, not_false_eq_true, and_true, true_and, and_false, false_and, or_true, true_or, or_false, false_or, and_self, or_self, eq_self, decide_eq_true_eq, Bool.true_eq_false, reduceCtorEq, ne_eq]; done) | (simp [pTens, c2, Int32.not_le.mpr c2]; done))
  · skip
    refine lv_iload_n hx hb dX2_numberInTens_14 rfl (lv_at hl 0 rfl) ?_
    refine lv_iconst (v := 3) hx hb dX2_numberInTens_15 (by decide) ?_
    refine lv_icmp_le (tgt := 21) hx hb dX2_numberInTens_16 (by decide) (fun c3 => ?_) (fun c3 => ?_)
    · skip
      refine lv_iconst (v := 0) hx hb dX2_numberInTens_21 (by decide) ?_
      refine lv_istore_n (lv' := [(3, .int 0), (2, .int (len t x)), (0, .ref (oO t)), (1, .int x)]) hx hb dX2_numberInTens_22 rfl hl (by decide) rfl (fun ls hl => ?_)
      refine lv_iconst (v := 0) hx hb dX2_numberInTens_23 (by decide) ?_
      refine lv_istore (lv' := [(4, .int 0), (3, .int 0), (2, .int (len t x)), (0, .ref (oO t)), (1, .int x)]) hx hb dX2_numberInTens_24 hl (by decide) rfl (fun ls hl => ?_)
      have LP : ∀ (n : Nat) (v z : Int32), ((len t x).toInt - z.toInt).toNat < n → pTenL t x n z v = pTens t x → ∀ ls : Array Slot, lv_has ls 7 [(4, .int z), (3, .int v), (2, .int (len t x)), (0, .ref (oO t)), (1, .int x)] → W p l e ({ frames := 2, cells := 0, slots := 0, locals := 43 }) s m ([.ref (oO t), .int x] : List Value).toArray below meth c s.heap [] 0 0 (MQ below (vp_Si (fun ans => ans = pTens t x)) ([.ref (oO t), .int x] : List Value).toArray s 0 0 (fun _ => False)) (F0 m 26 ls []) := by
        intro n
        induction n with
        | zero => intro v z h9; exact absurd h9 (Nat.not_lt_zero _)
        | succ n ih =>
          intro v z hz hv ls hl
          refine lv_iload hx hb dX2_numberInTens_26 (lv_at hl 0 rfl) ?_
          refine lv_iload_n hx hb dX2_numberInTens_28 rfl (lv_at hl 2 rfl) ?_
          refine lv_icmp_ge (tgt := 91) hx hb dX2_numberInTens_29 (by decide) (fun c4 => ?_) (fun c4 => ?_)
          · skip
            refine lv_iload_n hx hb dX2_numberInTens_91 rfl (lv_at hl 1 rfl) ?_
            exact reI hx hb hr hlocks dX2_numberInTens_92 (by first | (rw [← hv]; simp only [pTenL, c4, decide_true, decide_false, Bool.not_true, Bool.not_false, Bool.and_true, Bool.true_and, Bool.and_false, Bool.false_and, Bool.or_true, Bool.true_or, Bool.or_false, Bool.false_or, Bool.and_self, Bool.or_self, if_true, if_false, ite_true, ite_false, Bool.false_eq_true, reduceIte, not_true_eq_false, not_false_eq_true, and_true, true_and, and_false, false_and, or_true, true_or, or_false, false_or, and_self, or_self, eq_self, decide_eq_true_eq, Bool.true_eq_false, reduceCtorEq, ne_eq]; done) | (rw [← hv]; simp [pTenL, c4, Int32.not_lt.mp c2, Int32.not_lt.mpr c3, Int32.not_lt.mpr c4]; done))
          · skip
            refine lv_aload_n hx hb dX2_numberInTens_32 rfl (lv_at hl 3 rfl) ?_
            refine lv_iload_n hx hb dX2_numberInTens_33 rfl (lv_at hl 4 rfl) ?_
            refine lv_iload hx hb dX2_numberInTens_34 (lv_at hl 0 rfl) ?_
            refine rcI (As := [.int x, .int z]) (rest := []) ⟨hx, hb, hml, hown, hts⟩ (c_X2_elementOf l D Y t x z hok) (cwV 2 hts gX2_numberInTens_X2_elementOf rfl rfl rfl hdX2_elementOf ⟨Nat.le_of_ble_eq_true rfl, Nat.le_of_ble_eq_true rfl⟩) hP hK 0 3 rfl rfl rfl hl.1 rfl (Nat.le_of_ble_eq_true rfl) dX2_numberInTens_36 ⟨(Nat.zero_le _), (Nat.zero_le _)⟩ (fun r5 hr5 => ?_)
            obtain rfl : r5 = pEl t x z := hr5
            refine lv_bipush (v := 48) hx hb dX2_numberInTens_39 (by decide) ?_
            refine lv_isub hx hb dX2_numberInTens_41 ?_
            refine lv_istore (lv' := [(5, .int ((pEl t x z) - 48)), (4, .int z), (3, .int v), (2, .int (len t x)), (0, .ref (oO t)), (1, .int x)]) hx hb dX2_numberInTens_42 hl (by decide) rfl (fun ls hl => ?_)
            refine lv_iload hx hb dX2_numberInTens_44 (lv_at hl 1 rfl) ?_
            refine lv_if_le (tgt := 57) hx hb dX2_numberInTens_46 (by decide) (fun c6 => ?_) (fun c6 => ?_)
            · skip
              refine lv_iconst (v := 0) hx hb dX2_numberInTens_57 (by decide) ?_
              refine lv_istore (lv' := [(6, .int 0), (5, .int ((pEl t x z) - 48)), (4, .int z), (3, .int v), (2, .int (len t x)), (0, .ref (oO t)), (1, .int x)]) hx hb dX2_numberInTens_58 hl (by decide) rfl (fun ls hl => ?_)
              refine lv_iload hx hb dX2_numberInTens_60 (lv_at hl 1 rfl) ?_
              refine lv_bipush (v := 9) hx hb dX2_numberInTens_62 (by decide) ?_
              refine scI (As := [.int ((pEl t x z) - 48), .int 9]) (rest := []) ⟨hx, hb, hml, hown, hts⟩ (c_X2_within l ((pEl t x z) - 48) 9) (va_cwS 2 hts gX2_numberInTens_X2_within rfl rfl rfl hdX2_within ⟨Nat.le_of_ble_eq_true rfl, Nat.le_of_ble_eq_true rfl⟩) rfl hl.1 rfl (Nat.le_of_ble_eq_true rfl) dX2_numberInTens_64 ⟨(Nat.zero_le _), (Nat.zero_le _)⟩ (fun r7 hr7 => ?_)
              cases b8 : pWithin ((pEl t x z) - 48) 9
              · replace hr7 : r7 = 0 := by rw [hr7, b8]; rfl
                subst hr7
                refine lv_if_eq (tgt := 75) hx hb dX2_numberInTens_67 (by decide) (fun _ => ?_) (fun c9 => absurd (by decide) c9)
                refine lv_iconst (v := (-1)) hx hb dX2_numberInTens_75 (by decide) ?_
                exact reI hx hb hr hlocks dX2_numberInTens_76 (by first | (rw [← hv]; simp only [pTenL, c4, c6, b8, decide_true, decide_false, Bool.not_true, Bool.not_false, Bool.and_true, Bool.true_and, Bool.and_false, Bool.false_and, Bool.or_true, Bool.true_or, Bool.or_false, Bool.false_or, Bool.and_self, Bool.or_self, if_true, if_false, ite_true, ite_false, Bool.false_eq_true, reduceIte, not_true_eq_false, not_false_eq_true, and_true, true_and, and_false, false_and, or_true, true_or, or_false, false_or, and_self, or_self, eq_self, decide_eq_true_eq, Bool.true_eq_false, reduceCtorEq, ne_eq]; done) | (rw [← hv]; simp [pTenL, c4, c6, b8, Int32.not_lt.mp c2, Int32.not_lt.mpr c3, Int32.not_le.mp c4, Int32.not_lt.mpr c6]; done))
              · replace hr7 : r7 = 1 := by rw [hr7, b8]; rfl
                subst hr7
                refine lv_if_eq (tgt := 75) hx hb dX2_numberInTens_67 (by decide) (fun c10 => absurd c10 (by decide)) (fun _ => ?_)
                refine lv_iload hx hb dX2_numberInTens_70 (lv_at hl 0 rfl) ?_
                refine lv_if_eq (tgt := 77) hx hb dX2_numberInTens_72 (by decide) (fun _ => ?_) (fun c11 => absurd (by decide) c11)
                refine lv_iload_n hx hb dX2_numberInTens_77 rfl (lv_at hl 3 rfl) ?_
                refine lv_bipush (v := 10) hx hb dX2_numberInTens_78 (by decide) ?_
                refine lv_imul hx hb dX2_numberInTens_80 ?_
                refine lv_iload hx hb dX2_numberInTens_81 (lv_at hl 1 rfl) ?_
                refine lv_iadd hx hb dX2_numberInTens_83 ?_
                refine lv_istore_n (lv' := [(3, .int ((v * 10) + ((pEl t x z) - 48))), (6, .int 0), (5, .int ((pEl t x z) - 48)), (4, .int z), (2, .int (len t x)), (0, .ref (oO t)), (1, .int x)]) hx hb dX2_numberInTens_84 rfl hl (by decide) rfl (fun ls hl => ?_)
                obtain ⟨z12, ez12⟩ : ∃ y : Int32, y = z + 1 := ⟨_, rfl⟩
                refine lv_iinc (v := z12) (lv' := [(4, .int z12), (3, .int ((v * 10) + ((pEl t x z) - 48))), (6, .int 0), (5, .int ((pEl t x z) - 48)), (2, .int (len t x)), (0, .ref (oO t)), (1, .int x)]) hx hb dX2_numberInTens_85 hl (k := 3) rfl (by rw [ez12]; rfl) (by decide) rfl (fun ls hl => ?_)
                refine lv_goto (tgt := 26) hx hb dX2_numberInTens_88 (by decide) ?_
                exact ih ((v * 10) + ((pEl t x z) - 48)) z12 (mstep c4 hz ez12) (by first | (rw [← hv]; simp only [pTenL, c4, c6, b8, ez12, decide_true, decide_false, Bool.not_true, Bool.not_false, Bool.and_true, Bool.true_and, Bool.and_false, Bool.false_and, Bool.or_true, Bool.true_or, Bool.or_false, Bool.false_or, Bool.and_self, Bool.or_self, if_true, if_false, ite_true, ite_false, Bool.false_eq_true, reduceIte, not_true_eq_false, not_false_eq_true, and_true, true_and, and_false, false_and, or_true, true_or, or_false, false_or, and_self, or_self, eq_self, decide_eq_true_eq, Bool.true_eq_false, reduceCtorEq, ne_eq]; done) | (rw [← hv]; simp [pTenL, c4, c6, b8, ez12, Int32.not_lt.mp c2, Int32.not_lt.mpr c3, Int32.not_le.mp c4, Int32.not_lt.mpr c6]; done)) ls (lv_sub hl [0, 1, 4, 5, 6] rfl)
            · skip
              refine lv_iload_n hx hb dX2_numberInTens_49 rfl (lv_at hl 2 rfl) ?_
              refine lv_if_ne (tgt := 57) hx hb dX2_numberInTens_50 (by decide) (fun c13 => ?_) (fun c13 => ?_)
              · skip
                refine lv_iconst (v := 0) hx hb dX2_numberInTens_57 (by decide) ?_
                refine lv_istore (lv' := [(6, .int 0), (5, .int ((pEl t x z) - 48)), (4, .int z), (3, .int v), (2, .int (len t x)), (0, .ref (oO t)), (1, .int x)]) hx hb dX2_numberInTens_58 hl (by decide) rfl (fun ls hl => ?_)
                refine lv_iload hx hb dX2_numberInTens_60 (lv_at hl 1 rfl) ?_
                refine lv_bipush (v := 9) hx hb dX2_numberInTens_62 (by decide) ?_
                refine scI (As := [.int ((pEl t x z) - 48), .int 9]) (rest := []) ⟨hx, hb, hml, hown, hts⟩ (c_X2_within l ((pEl t x z) - 48) 9) (va_cwS 2 hts gX2_numberInTens_X2_within rfl rfl rfl hdX2_within ⟨Nat.le_of_ble_eq_true rfl, Nat.le_of_ble_eq_true rfl⟩) rfl hl.1 rfl (Nat.le_of_ble_eq_true rfl) dX2_numberInTens_64 ⟨(Nat.zero_le _), (Nat.zero_le _)⟩ (fun r14 hr14 => ?_)
                cases b15 : pWithin ((pEl t x z) - 48) 9
                · replace hr14 : r14 = 0 := by rw [hr14, b15]; rfl
                  subst hr14
                  refine lv_if_eq (tgt := 75) hx hb dX2_numberInTens_67 (by decide) (fun _ => ?_) (fun c16 => absurd (by decide) c16)
                  refine lv_iconst (v := (-1)) hx hb dX2_numberInTens_75 (by decide) ?_
                  exact reI hx hb hr hlocks dX2_numberInTens_76 (by first | (rw [← hv]; simp only [pTenL, c4, c6, c13, b15, decide_true, decide_false, Bool.not_true, Bool.not_false, Bool.and_true, Bool.true_and, Bool.and_false, Bool.false_and, Bool.or_true, Bool.true_or, Bool.or_false, Bool.false_or, Bool.and_self, Bool.or_self, if_true, if_false, ite_true, ite_false, Bool.false_eq_true, reduceIte, not_true_eq_false, not_false_eq_true, and_true, true_and, and_false, false_and, or_true, true_or, or_false, false_or, and_self, or_self, eq_self, decide_eq_true_eq, Bool.true_eq_false, reduceCtorEq, ne_eq]; done) | (rw [← hv]; simp [pTenL, c4, c6, c13, b15, Int32.not_lt.mp c2, Int32.not_lt.mpr c3, Int32.not_le.mp c4, Int32.not_le.mp c6]; done))
                · replace hr14 : r14 = 1 := by rw [hr14, b15]; rfl
                  subst hr14
                  refine lv_if_eq (tgt := 75) hx hb dX2_numberInTens_67 (by decide) (fun c17 => absurd c17 (by decide)) (fun _ => ?_)
                  refine lv_iload hx hb dX2_numberInTens_70 (lv_at hl 0 rfl) ?_
                  refine lv_if_eq (tgt := 77) hx hb dX2_numberInTens_72 (by decide) (fun _ => ?_) (fun c18 => absurd (by decide) c18)
                  refine lv_iload_n hx hb dX2_numberInTens_77 rfl (lv_at hl 3 rfl) ?_
                  refine lv_bipush (v := 10) hx hb dX2_numberInTens_78 (by decide) ?_
                  refine lv_imul hx hb dX2_numberInTens_80 ?_
                  refine lv_iload hx hb dX2_numberInTens_81 (lv_at hl 1 rfl) ?_
                  refine lv_iadd hx hb dX2_numberInTens_83 ?_
                  refine lv_istore_n (lv' := [(3, .int ((v * 10) + ((pEl t x z) - 48))), (6, .int 0), (5, .int ((pEl t x z) - 48)), (4, .int z), (2, .int (len t x)), (0, .ref (oO t)), (1, .int x)]) hx hb dX2_numberInTens_84 rfl hl (by decide) rfl (fun ls hl => ?_)
                  obtain ⟨z19, ez19⟩ : ∃ y : Int32, y = z + 1 := ⟨_, rfl⟩
                  refine lv_iinc (v := z19) (lv' := [(4, .int z19), (3, .int ((v * 10) + ((pEl t x z) - 48))), (6, .int 0), (5, .int ((pEl t x z) - 48)), (2, .int (len t x)), (0, .ref (oO t)), (1, .int x)]) hx hb dX2_numberInTens_85 hl (k := 3) rfl (by rw [ez19]; rfl) (by decide) rfl (fun ls hl => ?_)
                  refine lv_goto (tgt := 26) hx hb dX2_numberInTens_88 (by decide) ?_
                  exact ih ((v * 10) + ((pEl t x z) - 48)) z19 (mstep c4 hz ez19) (by first | (rw [← hv]; simp only [pTenL, c4, c6, c13, b15, ez19, decide_true, decide_false, Bool.not_true, Bool.not_false, Bool.and_true, Bool.true_and, Bool.and_false, Bool.false_and, Bool.or_true, Bool.true_or, Bool.or_false, Bool.false_or, Bool.and_self, Bool.or_self, if_true, if_false, ite_true, ite_false, Bool.false_eq_true, reduceIte, not_true_eq_false, not_false_eq_true, and_true, true_and, and_false, false_and, or_true, true_or, or_false, false_or, and_self, or_self, eq_self, decide_eq_true_eq, Bool.true_eq_false, reduceCtorEq, ne_eq]; done) | (rw [← hv]; simp [pTenL, c4, c6, c13, b15, ez19, Int32.not_lt.mp c2, Int32.not_lt.mpr c3, Int32.not_le.mp c4, Int32.not_le.mp c6]; done)) ls (lv_sub hl [0, 1, 4, 5, 6] rfl)
              · skip
                refine lv_iconst (v := 1) hx hb dX2_numberInTens_53 (by decide) ?_
                refine lv_goto (tgt := 58) hx hb dX2_numberInTens_54 (by decide) ?_
                refine lv_istore (lv' := [(6, .int 1), (5, .int ((pEl t x z) - 48)), (4, .int z), (3, .int v), (2, .int (len t x)), (0, .ref (oO t)), (1, .int x)]) hx hb dX2_numberInTens_58 hl (by decide) rfl (fun ls hl => ?_)
                refine lv_iload hx hb dX2_numberInTens_60 (lv_at hl 1 rfl) ?_
                refine lv_bipush (v := 9) hx hb dX2_numberInTens_62 (by decide) ?_
                refine scI (As := [.int ((pEl t x z) - 48), .int 9]) (rest := []) ⟨hx, hb, hml, hown, hts⟩ (c_X2_within l ((pEl t x z) - 48) 9) (va_cwS 2 hts gX2_numberInTens_X2_within rfl rfl rfl hdX2_within ⟨Nat.le_of_ble_eq_true rfl, Nat.le_of_ble_eq_true rfl⟩) rfl hl.1 rfl (Nat.le_of_ble_eq_true rfl) dX2_numberInTens_64 ⟨(Nat.zero_le _), (Nat.zero_le _)⟩ (fun r20 hr20 => ?_)
                cases b21 : pWithin ((pEl t x z) - 48) 9
                · replace hr20 : r20 = 0 := by rw [hr20, b21]; rfl
                  subst hr20
                  refine lv_if_eq (tgt := 75) hx hb dX2_numberInTens_67 (by decide) (fun _ => ?_) (fun c22 => absurd (by decide) c22)
                  refine lv_iconst (v := (-1)) hx hb dX2_numberInTens_75 (by decide) ?_
                  exact reI hx hb hr hlocks dX2_numberInTens_76 (by first | (rw [← hv]; simp only [pTenL, c4, c6, c13, b21, decide_true, decide_false, Bool.not_true, Bool.not_false, Bool.and_true, Bool.true_and, Bool.and_false, Bool.false_and, Bool.or_true, Bool.true_or, Bool.or_false, Bool.false_or, Bool.and_self, Bool.or_self, if_true, if_false, ite_true, ite_false, Bool.false_eq_true, reduceIte, not_true_eq_false, not_false_eq_true, and_true, true_and, and_false, false_and, or_true, true_or, or_false, false_or, and_self, or_self, eq_self, decide_eq_true_eq, Bool.true_eq_false, reduceCtorEq, ne_eq]; done) | (rw [← hv]; simp [pTenL, c4, c6, c13, b21, Int32.not_lt.mp c2, Int32.not_lt.mpr c3, Int32.not_le.mp c4, Int32.not_le.mp c6]; done))
                · replace hr20 : r20 = 1 := by rw [hr20, b21]; rfl
                  subst hr20
                  refine lv_if_eq (tgt := 75) hx hb dX2_numberInTens_67 (by decide) (fun c23 => absurd c23 (by decide)) (fun _ => ?_)
                  refine lv_iload hx hb dX2_numberInTens_70 (lv_at hl 0 rfl) ?_
                  refine lv_if_eq (tgt := 77) hx hb dX2_numberInTens_72 (by decide) (fun c24 => absurd c24 (by decide)) (fun _ => ?_)
                  refine lv_iconst (v := (-1)) hx hb dX2_numberInTens_75 (by decide) ?_
                  exact reI hx hb hr hlocks dX2_numberInTens_76 (by first | (rw [← hv]; simp only [pTenL, c4, c6, c13, b21, decide_true, decide_false, Bool.not_true, Bool.not_false, Bool.and_true, Bool.true_and, Bool.and_false, Bool.false_and, Bool.or_true, Bool.true_or, Bool.or_false, Bool.false_or, Bool.and_self, Bool.or_self, if_true, if_false, ite_true, ite_false, Bool.false_eq_true, reduceIte, not_true_eq_false, not_false_eq_true, and_true, true_and, and_false, false_and, or_true, true_or, or_false, false_or, and_self, or_self, eq_self, decide_eq_true_eq, Bool.true_eq_false, reduceCtorEq, ne_eq]; done) | (rw [← hv]; simp [pTenL, c4, c6, c13, b21, Int32.not_lt.mp c2, Int32.not_lt.mpr c3, Int32.not_le.mp c4, Int32.not_le.mp c6]; done))
      exact LP ((len t x).toInt.toNat + 1) 0 0 (by rw [show ((0 : Int32)).toInt = 0 from rfl]; omega) (by first | (simp only [pTens, c2, c3, decide_true, decide_false, Bool.not_true, Bool.not_false, Bool.and_true, Bool.true_and, Bool.and_false, Bool.false_and, Bool.or_true, Bool.true_or, Bool.or_false, Bool.false_or, Bool.and_self, Bool.or_self, if_true, if_false, ite_true, ite_false, Bool.false_eq_true, reduceIte, not_true_eq_false, not_false_eq_true, and_true, true_and, and_false, false_and, or_true, true_or, or_false, false_or, and_self, or_self, eq_self, decide_eq_true_eq, Bool.true_eq_false, reduceCtorEq, ne_eq]; done) | (simp [pTens, c2, c3, Int32.not_lt.mp c2, Int32.not_lt.mpr c3]; done)) ls (lv_sub hl [0, 1, 2, 3, 4] rfl)
    · skip
      refine lv_iconst (v := (-1)) hx hb dX2_numberInTens_19 (by decide) ?_
      exact reI hx hb hr hlocks dX2_numberInTens_20 (by first | (simp only [pTens, c2, c3, decide_true, decide_false, Bool.not_true, Bool.not_false, Bool.and_true, Bool.true_and, Bool.and_false, Bool.false_and, Bool.or_true, Bool.true_or, Bool.or_false, Bool.false_or, Bool.and_self, Bool.or_self, if_true, if_false, ite_true, ite_false, Bool.false_eq_true, reduceIte, not_true_eq_false, not_false_eq_true, and_true, true_and, and_false, false_and, or_true, true_or, or_false, false_or, and_self, or_self, eq_self, decide_eq_true_eq, Bool.true_eq_false, reduceCtorEq, ne_eq]; done) | (simp [pTens, c2, c3, Int32.not_lt.mp c2, Int32.not_le.mp c3]; done))
theorem hdX2_numberInTens : yX2_numberInTens.cls = RX2 ∧ yX2_numberInTens.cls ≠ "java/lang/invoke/MethodHandle" ∧ yX2_numberInTens.cls ≠ "java/lang/invoke/VarHandle" ∧ (parseMethodDescriptor yX2_numberInTens.desc).map (fun d => d.parameters.length) = some 1 := by decide +kernel
set_option maxHeartbeats 4000000 in
set_option maxRecDepth 100000 in
theorem c_X2_nameOf (l : Launch) (D : va_G) (Y : Nat → ClassId) (t : OS) (x : Int32) (hok : oOK t) : Met l yX2_nameOf wsX2_nameOf ({ frames := 4, cells := 0, slots := 0, locals := 84 }) (rdPc D Y [.ref (oO t), .int x] (oW Y t)) (vp_Si (fun ans => ans = pName t x)) 0 0 (fun _ => False) := by
  refine rdOf (cc := cX2_nameOf) (maxL := 2) (ret := (some .int)) (own := RX2) (by decide) rfl rfl (Nat.le_of_ble_eq_true rfl) ?_
  intro p e s m below meth c ls hx hb hr hts hown hml hlocks hP hK hl
  have iwX2 : ∀ w ∈ u_ws RX2 TX2 10, w ∈ wsX2_nameOf := fun _ h => List.mem_cons_of_mem _ (List.mem_append_left _ (List.mem_append_left _ (List.mem_append_right _ h)))
  have hl : lv_has ls 2 [(0, .ref (oO t)), (1, .int x)] := hl
  refine lv_aload_n hx hb dX2_nameOf_0 rfl (lv_at hl 0 rfl) ?_
  refine va_get (D := D) (ci := 3) (v := .ref (oH t 0)) (C := RX2) (T := TX2) (N := 10) hx hb hts iwX2 hown hK hP 0 rfl rfl 0 (by decide) (hts (.fieldLink RX2 12 "ObjectRows" "kinds" "LObjectRows$Row;") (by decide +kernel)) (fun _ h9 => h9) rfl dX2_nameOf_1 ?_
  refine lv_iload_n hx hb dX2_nameOf_4 rfl (lv_at hl 1 rfl) ?_
  refine rcI (As := [.int x]) (rest := []) ⟨hx, hb, hml, hown, hts⟩ (c_X1_at l D Y (oH t 0) (oR t 0) x (hok 0 (by decide))) (cwV 1 hts gX2_nameOf_X1_at rfl rfl rfl hdX1_at ⟨Nat.le_of_ble_eq_true rfl, Nat.le_of_ble_eq_true rfl⟩) (oWr0 hP) hK 0 2 rfl rfl rfl hl.1 rfl (Nat.le_of_ble_eq_true rfl) dX2_nameOf_5 ⟨(Nat.zero_le _), (Nat.zero_le _)⟩ (fun r1 hr1 => ?_)
  obtain rfl : r1 = kd t x := hr1
  refine lv_iconst (v := 3) hx hb dX2_nameOf_8 (by decide) ?_
  refine lv_icmp_ne (tgt := 21) hx hb dX2_nameOf_9 (by decide) (fun c2 => ?_) (fun c2 => ?_)
  · skip
    refine lv_aload_n hx hb dX2_nameOf_21 rfl (lv_at hl 0 rfl) ?_
    refine lv_iload_n hx hb dX2_nameOf_22 rfl (lv_at hl 1 rfl) ?_
    refine rcI (As := [.int x]) (rest := []) ⟨hx, hb, hml, hown, hts⟩ (c_X2_readableString l D Y t x hok) (cwV 1 hts gX2_nameOf_X2_readableString rfl rfl rfl hdX2_readableString ⟨Nat.le_of_ble_eq_true rfl, Nat.le_of_ble_eq_true rfl⟩) hP hK 0 3 rfl rfl rfl hl.1 rfl (Nat.le_of_ble_eq_true rfl) dX2_nameOf_23 ⟨(Nat.zero_le _), (Nat.zero_le _)⟩ (fun r3 hr3 => ?_)
    cases b4 : pRStr t x
    · replace hr3 : r3 = 0 := by rw [hr3, b4]; rfl
      subst hr3
      refine lv_if_eq (tgt := 37) hx hb dX2_nameOf_26 (by decide) (fun _ => ?_) (fun c5 => absurd (by decide) c5)
      refine lv_iconst (v := (-1)) hx hb dX2_nameOf_37 (by decide) ?_
      exact reI hx hb hr hlocks dX2_nameOf_38 (by first | (simp only [pName, c2, b4, decide_true, decide_false, Bool.not_true, Bool.not_false, Bool.and_true, Bool.true_and, Bool.and_false, Bool.false_and, Bool.or_true, Bool.true_or, Bool.or_false, Bool.false_or, Bool.and_self, Bool.or_self, if_true, if_false, ite_true, ite_false, Bool.false_eq_true, reduceIte, not_true_eq_false, not_false_eq_true, and_true, true_and, and_false, false_and, or_true, true_or, or_false, false_or, and_self, or_self, eq_self, decide_eq_true_eq, Bool.true_eq_false, reduceCtorEq, ne_eq]; done) | (simp [pName, c2, b4]; done))
    · replace hr3 : r3 = 1 := by rw [hr3, b4]; rfl
      subst hr3
      refine lv_if_eq (tgt := 37) hx hb dX2_nameOf_26 (by decide) (fun c6 => absurd c6 (by decide)) (fun _ => ?_)
      refine lv_aload_n hx hb dX2_nameOf_29 rfl (lv_at hl 0 rfl) ?_
      refine lv_iload_n hx hb dX2_nameOf_30 rfl (lv_at hl 1 rfl) ?_
      refine rcI (As := [.int x]) (rest := []) ⟨hx, hb, hml, hown, hts⟩ (c_X2_numberInTens l D Y t x hok) (cwV 1 hts gX2_nameOf_X2_numberInTens rfl rfl rfl hdX2_numberInTens ⟨Nat.le_of_ble_eq_true rfl, Nat.le_of_ble_eq_true rfl⟩) hP hK 0 3 rfl rfl rfl hl.1 rfl (Nat.le_of_ble_eq_true rfl) dX2_nameOf_31 ⟨(Nat.zero_le _), (Nat.zero_le _)⟩ (fun r7 hr7 => ?_)
      obtain rfl : r7 = pTens t x := hr7
      refine lv_goto (tgt := 38) hx hb dX2_nameOf_34 (by decide) ?_
      exact reI hx hb hr hlocks dX2_nameOf_38 (by first | (simp only [pName, c2, b4, decide_true, decide_false, Bool.not_true, Bool.not_false, Bool.and_true, Bool.true_and, Bool.and_false, Bool.false_and, Bool.or_true, Bool.true_or, Bool.or_false, Bool.false_or, Bool.and_self, Bool.or_self, if_true, if_false, ite_true, ite_false, Bool.false_eq_true, reduceIte, not_true_eq_false, not_false_eq_true, and_true, true_and, and_false, false_and, or_true, true_or, or_false, false_or, and_self, or_self, eq_self, decide_eq_true_eq, Bool.true_eq_false, reduceCtorEq, ne_eq]; done) | (simp [pName, c2, b4]; done))
  · skip
    refine lv_aload_n hx hb dX2_nameOf_12 rfl (lv_at hl 0 rfl) ?_
    refine va_get (D := D) (ci := 3) (v := .ref (oH t 1)) (C := RX2) (T := TX2) (N := 10) hx hb hts iwX2 hown hK hP 0 rfl rfl 1 (by decide) (hts (.fieldLink RX2 16 "ObjectRows" "numbers" "LObjectRows$Row;") (by decide +kernel)) (fun _ h9 => h9) rfl dX2_nameOf_13 ?_
    refine lv_iload_n hx hb dX2_nameOf_16 rfl (lv_at hl 1 rfl) ?_
    refine rcI (As := [.int x]) (rest := []) ⟨hx, hb, hml, hown, hts⟩ (c_X1_at l D Y (oH t 1) (oR t 1) x (hok 1 (by decide))) (cwV 1 hts gX2_nameOf_X1_at rfl rfl rfl hdX1_at ⟨Nat.le_of_ble_eq_true rfl, Nat.le_of_ble_eq_true rfl⟩) (oWr1 hP) hK 0 2 rfl rfl rfl hl.1 rfl (Nat.le_of_ble_eq_true rfl) dX2_nameOf_17 ⟨(Nat.zero_le _), (Nat.zero_le _)⟩ (fun r8 hr8 => ?_)
    obtain rfl : r8 = nu t x := hr8
    exact reI hx hb hr hlocks dX2_nameOf_20 (by first | (simp only [pName, c2, decide_true, decide_false, Bool.not_true, Bool.not_false, Bool.and_true, Bool.true_and, Bool.and_false, Bool.false_and, Bool.or_true, Bool.true_or, Bool.or_false, Bool.false_or, Bool.and_self, Bool.or_self, if_true, if_false, ite_true, ite_false, Bool.false_eq_true, reduceIte, not_true_eq_false, not_false_eq_true, and_true, true_and, and_false, false_and, or_true, true_or, or_false, false_or, and_self, or_self, eq_self, decide_eq_true_eq, Bool.true_eq_false, reduceCtorEq, ne_eq]; done) | (simp [pName, c2]; done))
theorem hdX2_nameOf : yX2_nameOf.cls = RX2 ∧ yX2_nameOf.cls ≠ "java/lang/invoke/MethodHandle" ∧ yX2_nameOf.cls ≠ "java/lang/invoke/VarHandle" ∧ (parseMethodDescriptor yX2_nameOf.desc).map (fun d => d.parameters.length) = some 1 := by decide +kernel
set_option maxHeartbeats 4000000 in
set_option maxRecDepth 100000 in
theorem c_X2_keyFor (l : Launch) (D : va_G) (Y : Nat → ClassId) (t : OS) (x : Int32) (hok : oOK t) : Met l yX2_keyFor wsX2_keyFor ({ frames := 5, cells := 0, slots := 0, locals := 105 }) (rdPc D Y [.ref (oO t), .int x] (oW Y t)) (vp_Si (fun ans => ans = pKeyFor t x)) 0 0 (fun _ => False) := by
  refine rdOf (cc := cX2_keyFor) (maxL := 4) (ret := (some .int)) (own := RX2) (by decide) rfl rfl (Nat.le_of_ble_eq_true rfl) ?_
  intro p e s m below meth c ls hx hb hr hts hown hml hlocks hP hK hl
  have iwX2 : ∀ w ∈ u_ws RX2 TX2 10, w ∈ wsX2_keyFor := fun _ h => List.mem_cons_of_mem _ (List.mem_append_left _ (List.mem_append_left _ (List.mem_append_right _ h)))
  have hl : lv_has ls 4 [(0, .ref (oO t)), (1, .int x)] := hl
  refine lv_aload_n hx hb dX2_keyFor_0 rfl (lv_at hl 0 rfl) ?_
  refine va_get (D := D) (ci := 3) (v := .ref (oH t 0)) (C := RX2) (T := TX2) (N := 10) hx hb hts iwX2 hown hK hP 0 rfl rfl 0 (by decide) (hts (.fieldLink RX2 12 "ObjectRows" "kinds" "LObjectRows$Row;") (by decide +kernel)) (fun _ h9 => h9) rfl dX2_keyFor_1 ?_
  refine lv_iload_n hx hb dX2_keyFor_4 rfl (lv_at hl 1 rfl) ?_
  refine rcI (As := [.int x]) (rest := []) ⟨hx, hb, hml, hown, hts⟩ (c_X1_at l D Y (oH t 0) (oR t 0) x (hok 0 (by decide))) (cwV 1 hts gX2_keyFor_X1_at rfl rfl rfl hdX1_at ⟨Nat.le_of_ble_eq_true rfl, Nat.le_of_ble_eq_true rfl⟩) (oWr0 hP) hK 0 2 rfl rfl rfl hl.1 rfl (Nat.le_of_ble_eq_true rfl) dX2_keyFor_5 ⟨(Nat.zero_le _), (Nat.zero_le _)⟩ (fun r1 hr1 => ?_)
  obtain rfl : r1 = kd t x := hr1
  refine lv_istore_n (lv' := [(2, .int (kd t x)), (0, .ref (oO t)), (1, .int x)]) hx hb dX2_keyFor_8 rfl hl (by decide) rfl (fun ls hl => ?_)
  refine lv_iload_n hx hb dX2_keyFor_9 rfl (lv_at hl 0 rfl) ?_
  refine lv_if_ne (tgt := 15) hx hb dX2_keyFor_10 (by decide) (fun c2 => ?_) (fun c2 => ?_)
  · skip
    refine lv_iload_n hx hb dX2_keyFor_15 rfl (lv_at hl 0 rfl) ?_
    refine lv_iconst (v := 4) hx hb dX2_keyFor_16 (by decide) ?_
    refine lv_icmp_eq (tgt := 27) hx hb dX2_keyFor_17 (by decide) (fun c3 => ?_) (fun c3 => ?_)
    · skip
      refine lv_aload_n hx hb dX2_keyFor_27 rfl (lv_at hl 1 rfl) ?_
      refine lv_iload_n hx hb dX2_keyFor_28 rfl (lv_at hl 2 rfl) ?_
      refine rcI (As := [.int x]) (rest := []) ⟨hx, hb, hml, hown, hts⟩ (c_X2_nameOf l D Y t x hok) (cwV 1 hts gX2_keyFor_X2_nameOf rfl rfl rfl hdX2_nameOf ⟨Nat.le_of_ble_eq_true rfl, Nat.le_of_ble_eq_true rfl⟩) hP hK 0 3 rfl rfl rfl hl.1 rfl (Nat.le_of_ble_eq_true rfl) dX2_keyFor_29 ⟨(Nat.zero_le _), (Nat.zero_le _)⟩ (fun r4 hr4 => ?_)
      obtain rfl : r4 = pName t x := hr4
      refine lv_istore_n (lv' := [(3, .int (pName t x)), (2, .int (kd t x)), (0, .ref (oO t)), (1, .int x)]) hx hb dX2_keyFor_32 rfl hl (by decide) rfl (fun ls hl => ?_)
      refine lv_iload_n hx hb dX2_keyFor_33 rfl (lv_at hl 0 rfl) ?_
      refine lv_iconst (v := (-1)) hx hb dX2_keyFor_34 (by decide) ?_
      refine lv_icmp_ne (tgt := 42) hx hb dX2_keyFor_35 (by decide) (fun c5 => ?_) (fun c5 => ?_)
      · skip
        refine lv_bipush (v := 100) hx hb dX2_keyFor_42 (by decide) ?_
        refine lv_iload_n hx hb dX2_keyFor_44 rfl (lv_at hl 0 rfl) ?_
        refine lv_iadd hx hb dX2_keyFor_45 ?_
        exact reI hx hb hr hlocks dX2_keyFor_46 (by first | (simp only [pKeyFor, c2, c3, c5, decide_true, decide_false, Bool.not_true, Bool.not_false, Bool.and_true, Bool.true_and, Bool.and_false, Bool.false_and, Bool.or_true, Bool.true_or, Bool.or_false, Bool.false_or, Bool.and_self, Bool.or_self, if_true, if_false, ite_true, ite_false, Bool.false_eq_true, reduceIte, not_true_eq_false, not_false_eq_true, and_true, true_and, and_false, false_and, or_true, true_or, or_false, false_or, and_self, or_self, eq_self, decide_eq_true_eq, Bool.true_eq_false, reduceCtorEq, ne_eq]; done) | (simp [pKeyFor, c2, c3, c5]; done))
      · skip
        refine lv_iconst (v := (-1)) hx hb dX2_keyFor_38 (by decide) ?_
        refine lv_goto (tgt := 46) hx hb dX2_keyFor_39 (by decide) ?_
        exact reI hx hb hr hlocks dX2_keyFor_46 (by first | (simp only [pKeyFor, c2, c3, c5, decide_true, decide_false, Bool.not_true, Bool.not_false, Bool.and_true, Bool.true_and, Bool.and_false, Bool.false_and, Bool.or_true, Bool.true_or, Bool.or_false, Bool.false_or, Bool.and_self, Bool.or_self, if_true, if_false, ite_true, ite_false, Bool.false_eq_true, reduceIte, not_true_eq_false, not_false_eq_true, and_true, true_and, and_false, false_and, or_true, true_or, or_false, false_or, and_self, or_self, eq_self, decide_eq_true_eq, Bool.true_eq_false, reduceCtorEq, ne_eq]; done) | (simp [pKeyFor, c2, c3, c5]; done))
    · skip
      refine lv_iload_n hx hb dX2_keyFor_20 rfl (lv_at hl 0 rfl) ?_
      refine lv_iconst (v := 3) hx hb dX2_keyFor_21 (by decide) ?_
      refine lv_icmp_eq (tgt := 27) hx hb dX2_keyFor_22 (by decide) (fun c6 => ?_) (fun c6 => ?_)
      · skip
        refine lv_aload_n hx hb dX2_keyFor_27 rfl (lv_at hl 1 rfl) ?_
        refine lv_iload_n hx hb dX2_keyFor_28 rfl (lv_at hl 2 rfl) ?_
        refine rcI (As := [.int x]) (rest := []) ⟨hx, hb, hml, hown, hts⟩ (c_X2_nameOf l D Y t x hok) (cwV 1 hts gX2_keyFor_X2_nameOf rfl rfl rfl hdX2_nameOf ⟨Nat.le_of_ble_eq_true rfl, Nat.le_of_ble_eq_true rfl⟩) hP hK 0 3 rfl rfl rfl hl.1 rfl (Nat.le_of_ble_eq_true rfl) dX2_keyFor_29 ⟨(Nat.zero_le _), (Nat.zero_le _)⟩ (fun r7 hr7 => ?_)
        obtain rfl : r7 = pName t x := hr7
        refine lv_istore_n (lv' := [(3, .int (pName t x)), (2, .int (kd t x)), (0, .ref (oO t)), (1, .int x)]) hx hb dX2_keyFor_32 rfl hl (by decide) rfl (fun ls hl => ?_)
        refine lv_iload_n hx hb dX2_keyFor_33 rfl (lv_at hl 0 rfl) ?_
        refine lv_iconst (v := (-1)) hx hb dX2_keyFor_34 (by decide) ?_
        refine lv_icmp_ne (tgt := 42) hx hb dX2_keyFor_35 (by decide) (fun c8 => ?_) (fun c8 => ?_)
        · skip
          refine lv_bipush (v := 100) hx hb dX2_keyFor_42 (by decide) ?_
          refine lv_iload_n hx hb dX2_keyFor_44 rfl (lv_at hl 0 rfl) ?_
          refine lv_iadd hx hb dX2_keyFor_45 ?_
          exact reI hx hb hr hlocks dX2_keyFor_46 (by first | (simp only [pKeyFor, c2, c3, c6, c8, decide_true, decide_false, Bool.not_true, Bool.not_false, Bool.and_true, Bool.true_and, Bool.and_false, Bool.false_and, Bool.or_true, Bool.true_or, Bool.or_false, Bool.false_or, Bool.and_self, Bool.or_self, if_true, if_false, ite_true, ite_false, Bool.false_eq_true, reduceIte, not_true_eq_false, not_false_eq_true, and_true, true_and, and_false, false_and, or_true, true_or, or_false, false_or, and_self, or_self, eq_self, decide_eq_true_eq, Bool.true_eq_false, reduceCtorEq, ne_eq]; done) | (simp [pKeyFor, c2, c3, c6, c8]; done))
        · skip
          refine lv_iconst (v := (-1)) hx hb dX2_keyFor_38 (by decide) ?_
          refine lv_goto (tgt := 46) hx hb dX2_keyFor_39 (by decide) ?_
          exact reI hx hb hr hlocks dX2_keyFor_46 (by first | (simp only [pKeyFor, c2, c3, c6, c8, decide_true, decide_false, Bool.not_true, Bool.not_false, Bool.and_true, Bool.true_and, Bool.and_false, Bool.false_and, Bool.or_true, Bool.true_or, Bool.or_false, Bool.false_or, Bool.and_self, Bool.or_self, if_true, if_false, ite_true, ite_false, Bool.false_eq_true, reduceIte, not_true_eq_false, not_false_eq_true, and_true, true_and, and_false, false_and, or_true, true_or, or_false, false_or, and_self, or_self, eq_self, decide_eq_true_eq, Bool.true_eq_false, reduceCtorEq, ne_eq]; done) | (simp [pKeyFor, c2, c3, c6, c8]; done))
      · skip
        refine lv_iload_n hx hb dX2_keyFor_25 rfl (lv_at hl 2 rfl) ?_
        exact reI hx hb hr hlocks dX2_keyFor_26 (by first | (simp only [pKeyFor, c2, c3, c6, decide_true, decide_false, Bool.not_true, Bool.not_false, Bool.and_true, Bool.true_and, Bool.and_false, Bool.false_and, Bool.or_true, Bool.true_or, Bool.or_false, Bool.false_or, Bool.and_self, Bool.or_self, if_true, if_false, ite_true, ite_false, Bool.false_eq_true, reduceIte, not_true_eq_false, not_false_eq_true, and_true, true_and, and_false, false_and, or_true, true_or, or_false, false_or, and_self, or_self, eq_self, decide_eq_true_eq, Bool.true_eq_false, reduceCtorEq, ne_eq]; done) | (simp [pKeyFor, c2, c3, c6]; done))
  · skip
    refine lv_iconst (v := (-1)) hx hb dX2_keyFor_13 (by decide) ?_
    exact reI hx hb hr hlocks dX2_keyFor_14 (by first | (simp only [pKeyFor, c2, decide_true, decide_false, Bool.not_true, Bool.not_false, Bool.and_true, Bool.true_and, Bool.and_false, Bool.false_and, Bool.or_true, Bool.true_or, Bool.or_false, Bool.false_or, Bool.and_self, Bool.or_self, if_true, if_false, ite_true, ite_false, Bool.false_eq_true, reduceIte, not_true_eq_false, not_false_eq_true, and_true, true_and, and_false, false_and, or_true, true_or, or_false, false_or, and_self, or_self, eq_self, decide_eq_true_eq, Bool.true_eq_false, reduceCtorEq, ne_eq]; done) | (simp [pKeyFor, c2]; done))
theorem hdX2_keyFor : yX2_keyFor.cls = RX2 ∧ yX2_keyFor.cls ≠ "java/lang/invoke/MethodHandle" ∧ yX2_keyFor.cls ≠ "java/lang/invoke/VarHandle" ∧ (parseMethodDescriptor yX2_keyFor.desc).map (fun d => d.parameters.length) = some 1 := by decide +kernel
set_option maxHeartbeats 4000000 in
set_option maxRecDepth 100000 in
theorem c_X2_alike (l : Launch) (D : va_G) (Y : Nat → ClassId) (t : OS) (a : Int32) (b : Int32) (hok : oOK t) : Met l yX2_alike wsX2_alike ({ frames := 5, cells := 0, slots := 0, locals := 105 }) (rdPc D Y [.ref (oO t), .int a, .int b] (oW Y t)) (vp_Si (fun ans => ans = bI (pAlike t a b))) 0 0 (fun _ => False) := by
  refine rdOf (cc := cX2_alike) (maxL := 5) (ret := (some .boolean)) (own := RX2) (by decide) rfl rfl (Nat.le_of_ble_eq_true rfl) ?_
  intro p e s m below meth c ls hx hb hr hts hown hml hlocks hP hK hl
  have iwX2 : ∀ w ∈ u_ws RX2 TX2 10, w ∈ wsX2_alike := fun _ h => List.mem_cons_of_mem _ (List.mem_append_left _ (List.mem_append_left _ (List.mem_append_right _ h)))
  have hl : lv_has ls 5 [(0, .ref (oO t)), (1, .int a), (2, .int b)] := hl
  refine lv_aload_n hx hb dX2_alike_0 rfl (lv_at hl 0 rfl) ?_
  refine va_get (D := D) (ci := 3) (v := .ref (oH t 0)) (C := RX2) (T := TX2) (N := 10) hx hb hts iwX2 hown hK hP 0 rfl rfl 0 (by decide) (hts (.fieldLink RX2 12 "ObjectRows" "kinds" "LObjectRows$Row;") (by decide +kernel)) (fun _ h9 => h9) rfl dX2_alike_1 ?_
  refine lv_iload_n hx hb dX2_alike_4 rfl (lv_at hl 1 rfl) ?_
  refine rcI (As := [.int a]) (rest := []) ⟨hx, hb, hml, hown, hts⟩ (c_X1_at l D Y (oH t 0) (oR t 0) a (hok 0 (by decide))) (cwV 1 hts gX2_alike_X1_at rfl rfl rfl hdX1_at ⟨Nat.le_of_ble_eq_true rfl, Nat.le_of_ble_eq_true rfl⟩) (oWr0 hP) hK 0 2 rfl rfl rfl hl.1 rfl (Nat.le_of_ble_eq_true rfl) dX2_alike_5 ⟨(Nat.zero_le _), (Nat.zero_le _)⟩ (fun r1 hr1 => ?_)
  obtain rfl : r1 = kd t a := hr1
  refine lv_istore_n (lv' := [(3, .int (kd t a)), (0, .ref (oO t)), (1, .int a), (2, .int b)]) hx hb dX2_alike_8 rfl hl (by decide) rfl (fun ls hl => ?_)
  refine lv_aload_n hx hb dX2_alike_9 rfl (lv_at hl 1 rfl) ?_
  refine va_get (D := D) (ci := 3) (v := .ref (oH t 0)) (C := RX2) (T := TX2) (N := 10) hx hb hts iwX2 hown hK hP 0 rfl rfl 0 (by decide) (hts (.fieldLink RX2 12 "ObjectRows" "kinds" "LObjectRows$Row;") (by decide +kernel)) (fun _ h9 => h9) rfl dX2_alike_10 ?_
  refine lv_iload_n hx hb dX2_alike_13 rfl (lv_at hl 3 rfl) ?_
  refine rcI (As := [.int b]) (rest := []) ⟨hx, hb, hml, hown, hts⟩ (c_X1_at l D Y (oH t 0) (oR t 0) b (hok 0 (by decide))) (cwV 1 hts gX2_alike_X1_at rfl rfl rfl hdX1_at ⟨Nat.le_of_ble_eq_true rfl, Nat.le_of_ble_eq_true rfl⟩) (oWr0 hP) hK 0 2 rfl rfl rfl hl.1 rfl (Nat.le_of_ble_eq_true rfl) dX2_alike_14 ⟨(Nat.zero_le _), (Nat.zero_le _)⟩ (fun r2 hr2 => ?_)
  obtain rfl : r2 = kd t b := hr2
  refine lv_istore (lv' := [(4, .int (kd t b)), (3, .int (kd t a)), (0, .ref (oO t)), (1, .int a), (2, .int b)]) hx hb dX2_alike_17 hl (by decide) rfl (fun ls hl => ?_)
  refine lv_iload_n hx hb dX2_alike_19 rfl (lv_at hl 1 rfl) ?_
  refine lv_iconst (v := 4) hx hb dX2_alike_20 (by decide) ?_
  refine lv_icmp_ne (tgt := 62) hx hb dX2_alike_21 (by decide) (fun c3 => ?_) (fun c3 => ?_)
  · skip
    refine lv_iload_n hx hb dX2_alike_62 rfl (lv_at hl 1 rfl) ?_
    refine lv_iconst (v := 4) hx hb dX2_alike_63 (by decide) ?_
    refine lv_icmp_eq (tgt := 73) hx hb dX2_alike_64 (by decide) (fun c4 => absurd c4 c3) (fun _ => ?_)
    refine lv_iload hx hb dX2_alike_67 (lv_at hl 0 rfl) ?_
    refine lv_iconst (v := 4) hx hb dX2_alike_69 (by decide) ?_
    refine lv_icmp_ne (tgt := 101) hx hb dX2_alike_70 (by decide) (fun c5 => ?_) (fun c5 => ?_)
    · skip
      refine lv_aload_n hx hb dX2_alike_101 rfl (lv_at hl 2 rfl) ?_
      refine lv_iload_n hx hb dX2_alike_102 rfl (lv_at hl 3 rfl) ?_
      refine lv_iload_n hx hb dX2_alike_103 rfl (lv_at hl 4 rfl) ?_
      refine rcI (As := [.int a, .int b]) (rest := []) ⟨hx, hb, hml, hown, hts⟩ (c_X2_alikeButStrings l D Y t a b hok) (cwV 2 hts gX2_alike_X2_alikeButStrings rfl rfl rfl hdX2_alikeButStrings ⟨Nat.le_of_ble_eq_true rfl, Nat.le_of_ble_eq_true rfl⟩) hP hK 0 3 rfl rfl rfl hl.1 rfl (Nat.le_of_ble_eq_true rfl) dX2_alike_104 ⟨(Nat.zero_le _), (Nat.zero_le _)⟩ (fun r6 hr6 => ?_)
      cases b7 : pAlikeB t a b
      · replace hr6 : r6 = 0 := by rw [hr6, b7]; rfl
        subst hr6
        exact reZ hx hb hr hlocks dX2_alike_107 (by first | exact Or.inl rfl | exact Or.inr rfl | exact bI_01 _ | (rename_i h9; rw [h9]; exact bI_01 _) | (subst_vars; exact bI_01 _)) (by first | (simp only [pAlike, bI, c3, c5, b7, decide_true, decide_false, Bool.not_true, Bool.not_false, Bool.and_true, Bool.true_and, Bool.and_false, Bool.false_and, Bool.or_true, Bool.true_or, Bool.or_false, Bool.false_or, Bool.and_self, Bool.or_self, if_true, if_false, ite_true, ite_false, Bool.false_eq_true, reduceIte, not_true_eq_false, not_false_eq_true, and_true, true_and, and_false, false_and, or_true, true_or, or_false, false_or, and_self, or_self, eq_self, decide_eq_true_eq, Bool.true_eq_false, reduceCtorEq, ne_eq]; done) | (simp [pAlike, bI, c3, c5, b7]; done))
      · replace hr6 : r6 = 1 := by rw [hr6, b7]; rfl
        subst hr6
        exact reZ hx hb hr hlocks dX2_alike_107 (by first | exact Or.inl rfl | exact Or.inr rfl | exact bI_01 _ | (rename_i h9; rw [h9]; exact bI_01 _) | (subst_vars; exact bI_01 _)) (by first | (simp only [pAlike, bI, c3, c5, b7, decide_true, decide_false, Bool.not_true, Bool.not_false, Bool.and_true, Bool.true_and, Bool.and_false, Bool.false_and, Bool.or_true, Bool.true_or, Bool.or_false, Bool.false_or, Bool.and_self, Bool.or_self, if_true, if_false, ite_true, ite_false, Bool.false_eq_true, reduceIte, not_true_eq_false, not_false_eq_true, and_true, true_and, and_false, false_and, or_true, true_or, or_false, false_or, and_self, or_self, eq_self, decide_eq_true_eq, Bool.true_eq_false, reduceCtorEq, ne_eq]; done) | (simp [pAlike, bI, c3, c5, b7]; done))
    · skip
      refine lv_aload_n hx hb dX2_alike_73 rfl (lv_at hl 2 rfl) ?_
      refine lv_iload_n hx hb dX2_alike_74 rfl (lv_at hl 3 rfl) ?_
      refine rcI (As := [.int a]) (rest := []) ⟨hx, hb, hml, hown, hts⟩ (c_X2_nameOf l D Y t a hok) (cwV 1 hts gX2_alike_X2_nameOf rfl rfl rfl hdX2_nameOf ⟨Nat.le_of_ble_eq_true rfl, Nat.le_of_ble_eq_true rfl⟩) hP hK 0 3 rfl rfl rfl hl.1 rfl (Nat.le_of_ble_eq_true rfl) dX2_alike_75 ⟨(Nat.zero_le _), (Nat.zero_le _)⟩ (fun r8 hr8 => ?_)
      obtain rfl : r8 = pName t a := hr8
      refine lv_iconst (v := (-1)) hx hb dX2_alike_78 (by decide) ?_
      refine lv_icmp_eq (tgt := 99) hx hb dX2_alike_79 (by decide) (fun c9 => ?_) (fun c9 => ?_)
      · skip
        refine lv_iconst (v := 0) hx hb dX2_alike_99 (by decide) ?_
        exact reZ hx hb hr hlocks dX2_alike_100 (by first | exact Or.inl rfl | exact Or.inr rfl | exact bI_01 _ | (rename_i h9; rw [h9]; exact bI_01 _) | (subst_vars; exact bI_01 _)) (by first | (simp only [pAlike, bI, c3, c5, c9, decide_true, decide_false, Bool.not_true, Bool.not_false, Bool.and_true, Bool.true_and, Bool.and_false, Bool.false_and, Bool.or_true, Bool.true_or, Bool.or_false, Bool.false_or, Bool.and_self, Bool.or_self, if_true, if_false, ite_true, ite_false, Bool.false_eq_true, reduceIte, not_true_eq_false, not_false_eq_true, and_true, true_and, and_false, false_and, or_true, true_or, or_false, false_or, and_self, or_self, eq_self, decide_eq_true_eq, Bool.true_eq_false, reduceCtorEq, ne_eq]; done) | (simp [pAlike, bI, c3, c5, c9]; done))
      · skip
        refine lv_aload_n hx hb dX2_alike_82 rfl (lv_at hl 2 rfl) ?_
        refine lv_iload_n hx hb dX2_alike_83 rfl (lv_at hl 3 rfl) ?_
        refine rcI (As := [.int a]) (rest := []) ⟨hx, hb, hml, hown, hts⟩ (c_X2_nameOf l D Y t a hok) (cwV 1 hts gX2_alike_X2_nameOf rfl rfl rfl hdX2_nameOf ⟨Nat.le_of_ble_eq_true rfl, Nat.le_of_ble_eq_true rfl⟩) hP hK 0 3 rfl rfl rfl hl.1 rfl (Nat.le_of_ble_eq_true rfl) dX2_alike_84 ⟨(Nat.zero_le _), (Nat.zero_le _)⟩ (fun r10 hr10 => ?_)
        obtain rfl : r10 = pName t a := hr10
        refine lv_aload_n hx hb dX2_alike_87 rfl (lv_at hl 2 rfl) ?_
        refine lv_iload_n hx hb dX2_alike_88 rfl (lv_at hl 4 rfl) ?_
        refine rcI (As := [.int b]) (rest := [.int (pName t a)]) ⟨hx, hb, hml, hown, hts⟩ (c_X2_nameOf l D Y t b hok) (cwV 1 hts gX2_alike_X2_nameOf rfl rfl rfl hdX2_nameOf ⟨Nat.le_of_ble_eq_true rfl, Nat.le_of_ble_eq_true rfl⟩) hP hK 0 3 rfl rfl rfl hl.1 rfl (Nat.le_of_ble_eq_true rfl) dX2_alike_89 ⟨(Nat.zero_le _), (Nat.zero_le _)⟩ (fun r11 hr11 => ?_)
        obtain rfl : r11 = pName t b := hr11
        refine lv_icmp_ne (tgt := 99) hx hb dX2_alike_92 (by decide) (fun c12 => ?_) (fun c12 => ?_)
        · skip
          refine lv_iconst (v := 0) hx hb dX2_alike_99 (by decide) ?_
          exact reZ hx hb hr hlocks dX2_alike_100 (by first | exact Or.inl rfl | exact Or.inr rfl | exact bI_01 _ | (rename_i h9; rw [h9]; exact bI_01 _) | (subst_vars; exact bI_01 _)) (by first | (simp only [pAlike, bI, c3, c5, c9, c12, decide_true, decide_false, Bool.not_true, Bool.not_false, Bool.and_true, Bool.true_and, Bool.and_false, Bool.false_and, Bool.or_true, Bool.true_or, Bool.or_false, Bool.false_or, Bool.and_self, Bool.or_self, if_true, if_false, ite_true, ite_false, Bool.false_eq_true, reduceIte, not_true_eq_false, not_false_eq_true, and_true, true_and, and_false, false_and, or_true, true_or, or_false, false_or, and_self, or_self, eq_self, decide_eq_true_eq, Bool.true_eq_false, reduceCtorEq, ne_eq]; done) | (simp [pAlike, bI, c3, c5, c9, c12]; done))
        · skip
          refine lv_iconst (v := 1) hx hb dX2_alike_95 (by decide) ?_
          refine lv_goto (tgt := 100) hx hb dX2_alike_96 (by decide) ?_
          exact reZ hx hb hr hlocks dX2_alike_100 (by first | exact Or.inl rfl | exact Or.inr rfl | exact bI_01 _ | (rename_i h9; rw [h9]; exact bI_01 _) | (subst_vars; exact bI_01 _)) (by first | (simp only [pAlike, bI, c3, c5, c9, eq_true c12, decide_true, decide_false, Bool.not_true, Bool.not_false, Bool.and_true, Bool.true_and, Bool.and_false, Bool.false_and, Bool.or_true, Bool.true_or, Bool.or_false, Bool.false_or, Bool.and_self, Bool.or_self, if_true, if_false, ite_true, ite_false, Bool.false_eq_true, reduceIte, not_true_eq_false, not_false_eq_true, and_true, true_and, and_false, false_and, or_true, true_or, or_false, false_or, and_self, or_self, eq_self, decide_eq_true_eq, Bool.true_eq_false, reduceCtorEq, ne_eq]; done) | (simp [pAlike, bI, c3, c5, c9, eq_true c12]; done))
  · skip
    refine lv_iload hx hb dX2_alike_24 (lv_at hl 0 rfl) ?_
    refine lv_iconst (v := 4) hx hb dX2_alike_26 (by decide) ?_
    refine lv_icmp_ne (tgt := 62) hx hb dX2_alike_27 (by decide) (fun c13 => ?_) (fun c13 => ?_)
    · skip
      refine lv_iload_n hx hb dX2_alike_62 rfl (lv_at hl 1 rfl) ?_
      refine lv_iconst (v := 4) hx hb dX2_alike_63 (by decide) ?_
      refine lv_icmp_eq (tgt := 73) hx hb dX2_alike_64 (by decide) (fun _ => ?_) (fun c14 => absurd c3 c14)
      refine lv_aload_n hx hb dX2_alike_73 rfl (lv_at hl 2 rfl) ?_
      refine lv_iload_n hx hb dX2_alike_74 rfl (lv_at hl 3 rfl) ?_
      refine rcI (As := [.int a]) (rest := []) ⟨hx, hb, hml, hown, hts⟩ (c_X2_nameOf l D Y t a hok) (cwV 1 hts gX2_alike_X2_nameOf rfl rfl rfl hdX2_nameOf ⟨Nat.le_of_ble_eq_true rfl, Nat.le_of_ble_eq_true rfl⟩) hP hK 0 3 rfl rfl rfl hl.1 rfl (Nat.le_of_ble_eq_true rfl) dX2_alike_75 ⟨(Nat.zero_le _), (Nat.zero_le _)⟩ (fun r15 hr15 => ?_)
      obtain rfl : r15 = pName t a := hr15
      refine lv_iconst (v := (-1)) hx hb dX2_alike_78 (by decide) ?_
      refine lv_icmp_eq (tgt := 99) hx hb dX2_alike_79 (by decide) (fun c16 => ?_) (fun c16 => ?_)
      · skip
        refine lv_iconst (v := 0) hx hb dX2_alike_99 (by decide) ?_
        exact reZ hx hb hr hlocks dX2_alike_100 (by first | exact Or.inl rfl | exact Or.inr rfl | exact bI_01 _ | (rename_i h9; rw [h9]; exact bI_01 _) | (subst_vars; exact bI_01 _)) (by first | (simp only [pAlike, bI, c3, c13, c16, decide_true, decide_false, Bool.not_true, Bool.not_false, Bool.and_true, Bool.true_and, Bool.and_false, Bool.false_and, Bool.or_true, Bool.true_or, Bool.or_false, Bool.false_or, Bool.and_self, Bool.or_self, if_true, if_false, ite_true, ite_false, Bool.false_eq_true, reduceIte, not_true_eq_false, not_false_eq_true, and_true, true_and, and_false, false_and, or_true, true_or, or_false, false_or, and_self, or_self, eq_self, decide_eq_true_eq, Bool.true_eq_false, reduceCtorEq, ne_eq]; done) | (simp [pAlike, bI, c3, c13, c16]; done))
      · skip
        refine lv_aload_n hx hb dX2_alike_82 rfl (lv_at hl 2 rfl) ?_
        refine lv_iload_n hx hb dX2_alike_83 rfl (lv_at hl 3 rfl) ?_
        refine rcI (As := [.int a]) (rest := []) ⟨hx, hb, hml, hown, hts⟩ (c_X2_nameOf l D Y t a hok) (cwV 1 hts gX2_alike_X2_nameOf rfl rfl rfl hdX2_nameOf ⟨Nat.le_of_ble_eq_true rfl, Nat.le_of_ble_eq_true rfl⟩) hP hK 0 3 rfl rfl rfl hl.1 rfl (Nat.le_of_ble_eq_true rfl) dX2_alike_84 ⟨(Nat.zero_le _), (Nat.zero_le _)⟩ (fun r17 hr17 => ?_)
        obtain rfl : r17 = pName t a := hr17
        refine lv_aload_n hx hb dX2_alike_87 rfl (lv_at hl 2 rfl) ?_
        refine lv_iload_n hx hb dX2_alike_88 rfl (lv_at hl 4 rfl) ?_
        refine rcI (As := [.int b]) (rest := [.int (pName t a)]) ⟨hx, hb, hml, hown, hts⟩ (c_X2_nameOf l D Y t b hok) (cwV 1 hts gX2_alike_X2_nameOf rfl rfl rfl hdX2_nameOf ⟨Nat.le_of_ble_eq_true rfl, Nat.le_of_ble_eq_true rfl⟩) hP hK 0 3 rfl rfl rfl hl.1 rfl (Nat.le_of_ble_eq_true rfl) dX2_alike_89 ⟨(Nat.zero_le _), (Nat.zero_le _)⟩ (fun r18 hr18 => ?_)
        obtain rfl : r18 = pName t b := hr18
        refine lv_icmp_ne (tgt := 99) hx hb dX2_alike_92 (by decide) (fun c19 => ?_) (fun c19 => ?_)
        · skip
          refine lv_iconst (v := 0) hx hb dX2_alike_99 (by decide) ?_
          exact reZ hx hb hr hlocks dX2_alike_100 (by first | exact Or.inl rfl | exact Or.inr rfl | exact bI_01 _ | (rename_i h9; rw [h9]; exact bI_01 _) | (subst_vars; exact bI_01 _)) (by first | (simp only [pAlike, bI, c3, c13, c16, c19, decide_true, decide_false, Bool.not_true, Bool.not_false, Bool.and_true, Bool.true_and, Bool.and_false, Bool.false_and, Bool.or_true, Bool.true_or, Bool.or_false, Bool.false_or, Bool.and_self, Bool.or_self, if_true, if_false, ite_true, ite_false, Bool.false_eq_true, reduceIte, not_true_eq_false, not_false_eq_true, and_true, true_and, and_false, false_and, or_true, true_or, or_false, false_or, and_self, or_self, eq_self, decide_eq_true_eq, Bool.true_eq_false, reduceCtorEq, ne_eq]; done) | (simp [pAlike, bI, c3, c13, c16, c19]; done))
        · skip
          refine lv_iconst (v := 1) hx hb dX2_alike_95 (by decide) ?_
          refine lv_goto (tgt := 100) hx hb dX2_alike_96 (by decide) ?_
          exact reZ hx hb hr hlocks dX2_alike_100 (by first | exact Or.inl rfl | exact Or.inr rfl | exact bI_01 _ | (rename_i h9; rw [h9]; exact bI_01 _) | (subst_vars; exact bI_01 _)) (by first | (simp only [pAlike, bI, c3, c13, c16, eq_true c19, decide_true, decide_false, Bool.not_true, Bool.not_false, Bool.and_true, Bool.true_and, Bool.and_false, Bool.false_and, Bool.or_true, Bool.true_or, Bool.or_false, Bool.false_or, Bool.and_self, Bool.or_self, if_true, if_false, ite_true, ite_false, Bool.false_eq_true, reduceIte, not_true_eq_false, not_false_eq_true, and_true, true_and, and_false, false_and, or_true, true_or, or_false, false_or, and_self, or_self, eq_self, decide_eq_true_eq, Bool.true_eq_false, reduceCtorEq, ne_eq]; done) | (simp [pAlike, bI, c3, c13, c16, eq_true c19]; done))
    · skip
      refine lv_aload_n hx hb dX2_alike_30 rfl (lv_at hl 2 rfl) ?_
      refine lv_iload_n hx hb dX2_alike_31 rfl (lv_at hl 3 rfl) ?_
      refine rcI (As := [.int a]) (rest := []) ⟨hx, hb, hml, hown, hts⟩ (c_X2_readableString l D Y t a hok) (cwV 1 hts gX2_alike_X2_readableString rfl rfl rfl hdX2_readableString ⟨Nat.le_of_ble_eq_true rfl, Nat.le_of_ble_eq_true rfl⟩) hP hK 0 3 rfl rfl rfl hl.1 rfl (Nat.le_of_ble_eq_true rfl) dX2_alike_32 ⟨(Nat.zero_le _), (Nat.zero_le _)⟩ (fun r20 hr20 => ?_)
      cases b21 : pRStr t a
      · replace hr20 : r20 = 0 := by rw [hr20, b21]; rfl
        subst hr20
        refine lv_if_eq (tgt := 60) hx hb dX2_alike_35 (by decide) (fun _ => ?_) (fun c22 => absurd (by decide) c22)
        refine lv_iconst (v := 0) hx hb dX2_alike_60 (by decide) ?_
        exact reZ hx hb hr hlocks dX2_alike_61 (by first | exact Or.inl rfl | exact Or.inr rfl | exact bI_01 _ | (rename_i h9; rw [h9]; exact bI_01 _) | (subst_vars; exact bI_01 _)) (by first | (simp only [pAlike, bI, c3, c13, b21, decide_true, decide_false, Bool.not_true, Bool.not_false, Bool.and_true, Bool.true_and, Bool.and_false, Bool.false_and, Bool.or_true, Bool.true_or, Bool.or_false, Bool.false_or, Bool.and_self, Bool.or_self, if_true, if_false, ite_true, ite_false, Bool.false_eq_true, reduceIte, not_true_eq_false, not_false_eq_true, and_true, true_and, and_false, false_and, or_true, true_or, or_false, false_or, and_self, or_self, eq_self, decide_eq_true_eq, Bool.true_eq_false, reduceCtorEq, ne_eq]; done) | (simp [pAlike, bI, c3, c13, b21]; done))
      · replace hr20 : r20 = 1 := by rw [hr20, b21]; rfl
        subst hr20
        refine lv_if_eq (tgt := 60) hx hb dX2_alike_35 (by decide) (fun c23 => absurd c23 (by decide)) (fun _ => ?_)
        refine lv_aload_n hx hb dX2_alike_38 rfl (lv_at hl 2 rfl) ?_
        refine lv_iload_n hx hb dX2_alike_39 rfl (lv_at hl 4 rfl) ?_
        refine rcI (As := [.int b]) (rest := []) ⟨hx, hb, hml, hown, hts⟩ (c_X2_readableString l D Y t b hok) (cwV 1 hts gX2_alike_X2_readableString rfl rfl rfl hdX2_readableString ⟨Nat.le_of_ble_eq_true rfl, Nat.le_of_ble_eq_true rfl⟩) hP hK 0 3 rfl rfl rfl hl.1 rfl (Nat.le_of_ble_eq_true rfl) dX2_alike_40 ⟨(Nat.zero_le _), (Nat.zero_le _)⟩ (fun r24 hr24 => ?_)
        cases b25 : pRStr t b
        · replace hr24 : r24 = 0 := by rw [hr24, b25]; rfl
          subst hr24
          refine lv_if_eq (tgt := 60) hx hb dX2_alike_43 (by decide) (fun _ => ?_) (fun c26 => absurd (by decide) c26)
          refine lv_iconst (v := 0) hx hb dX2_alike_60 (by decide) ?_
          exact reZ hx hb hr hlocks dX2_alike_61 (by first | exact Or.inl rfl | exact Or.inr rfl | exact bI_01 _ | (rename_i h9; rw [h9]; exact bI_01 _) | (subst_vars; exact bI_01 _)) (by first | (simp only [pAlike, bI, c3, c13, b21, b25, decide_true, decide_false, Bool.not_true, Bool.not_false, Bool.and_true, Bool.true_and, Bool.and_false, Bool.false_and, Bool.or_true, Bool.true_or, Bool.or_false, Bool.false_or, Bool.and_self, Bool.or_self, if_true, if_false, ite_true, ite_false, Bool.false_eq_true, reduceIte, not_true_eq_false, not_false_eq_true, and_true, true_and, and_false, false_and, or_true, true_or, or_false, false_or, and_self, or_self, eq_self, decide_eq_true_eq, Bool.true_eq_false, reduceCtorEq, ne_eq]; done) | (simp [pAlike, bI, c3, c13, b21, b25]; done))
        · replace hr24 : r24 = 1 := by rw [hr24, b25]; rfl
          subst hr24
          refine lv_if_eq (tgt := 60) hx hb dX2_alike_43 (by decide) (fun c27 => absurd c27 (by decide)) (fun _ => ?_)
          refine lv_aload_n hx hb dX2_alike_46 rfl (lv_at hl 2 rfl) ?_
          refine lv_iload_n hx hb dX2_alike_47 rfl (lv_at hl 3 rfl) ?_
          refine lv_iload_n hx hb dX2_alike_48 rfl (lv_at hl 4 rfl) ?_
          refine rcI (As := [.int a, .int b]) (rest := []) ⟨hx, hb, hml, hown, hts⟩ (c_X2_orderOfBytes l D Y t a b hok) (cwV 2 hts gX2_alike_X2_orderOfBytes rfl rfl rfl hdX2_orderOfBytes ⟨Nat.le_of_ble_eq_true rfl, Nat.le_of_ble_eq_true rfl⟩) hP hK 0 3 rfl rfl rfl hl.1 rfl (Nat.le_of_ble_eq_true rfl) dX2_alike_49 ⟨(Nat.zero_le _), (Nat.zero_le _)⟩ (fun r28 hr28 => ?_)
          obtain rfl : r28 = pOrdB t a b := hr28
          refine lv_iconst (v := 1) hx hb dX2_alike_52 (by decide) ?_
          refine lv_icmp_ne (tgt := 60) hx hb dX2_alike_53 (by decide) (fun c29 => ?_) (fun c29 => ?_)
          · skip
            refine lv_iconst (v := 0) hx hb dX2_alike_60 (by decide) ?_
            exact reZ hx hb hr hlocks dX2_alike_61 (by first | exact Or.inl rfl | exact Or.inr rfl | exact bI_01 _ | (rename_i h9; rw [h9]; exact bI_01 _) | (subst_vars; exact bI_01 _)) (by first | (simp only [pAlike, bI, c3, c13, b21, b25, c29, decide_true, decide_false, Bool.not_true, Bool.not_false, Bool.and_true, Bool.true_and, Bool.and_false, Bool.false_and, Bool.or_true, Bool.true_or, Bool.or_false, Bool.false_or, Bool.and_self, Bool.or_self, if_true, if_false, ite_true, ite_false, Bool.false_eq_true, reduceIte, not_true_eq_false, not_false_eq_true, and_true, true_and, and_false, false_and, or_true, true_or, or_false, false_or, and_self, or_self, eq_self, decide_eq_true_eq, Bool.true_eq_false, reduceCtorEq, ne_eq]; done) | (simp [pAlike, bI, c3, c13, b21, b25, c29]; done))
          · skip
            refine lv_iconst (v := 1) hx hb dX2_alike_56 (by decide) ?_
            refine lv_goto (tgt := 61) hx hb dX2_alike_57 (by decide) ?_
            exact reZ hx hb hr hlocks dX2_alike_61 (by first | exact Or.inl rfl | exact Or.inr rfl | exact bI_01 _ | (rename_i h9; rw [h9]; exact bI_01 _) | (subst_vars; exact bI_01 _)) (by first | (simp only [pAlike, bI, c3, c13, b21, b25, c29, decide_true, decide_false, Bool.not_true, Bool.not_false, Bool.and_true, Bool.true_and, Bool.and_false, Bool.false_and, Bool.or_true, Bool.true_or, Bool.or_false, Bool.false_or, Bool.and_self, Bool.or_self, if_true, if_false, ite_true, ite_false, Bool.false_eq_true, reduceIte, not_true_eq_false, not_false_eq_true, and_true, true_and, and_false, false_and, or_true, true_or, or_false, false_or, and_self, or_self, eq_self, decide_eq_true_eq, Bool.true_eq_false, reduceCtorEq, ne_eq]; done) | (simp [pAlike, bI, c3, c13, b21, b25, c29]; done))
theorem hdX2_alike : yX2_alike.cls = RX2 ∧ yX2_alike.cls ≠ "java/lang/invoke/MethodHandle" ∧ yX2_alike.cls ≠ "java/lang/invoke/VarHandle" ∧ (parseMethodDescriptor yX2_alike.desc).map (fun d => d.parameters.length) = some 2 := by decide +kernel
set_option maxHeartbeats 4000000 in
set_option maxRecDepth 100000 in
theorem c_X2_placeOf (l : Launch) (D : va_G) (Y : Nat → ClassId) (t : OS) (d : Int32) (k : Int32) (hok : oOK t) : Met l yX2_placeOf wsX2_placeOf ({ frames := 4, cells := 0, slots := 0, locals := 90 }) (rdPc D Y [.ref (oO t), .int d, .int k] (oW Y t)) (vp_Si (fun ans => ans = pPlaceOf t d k)) 0 0 (fun _ => False) := by
  refine rdOf (cc := cX2_placeOf) (maxL := 5) (ret := (some .int)) (own := RX2) (by decide) rfl rfl (Nat.le_of_ble_eq_true rfl) ?_
  intro p e s m below meth c ls hx hb hr hts hown hml hlocks hP hK hl
  have iwX0 : ∀ w ∈ u_ws RX0 TX0 7, w ∈ wsX2_placeOf := fun _ h => List.mem_cons_of_mem _ (List.mem_append_left _ (List.mem_append_right _ h))
  have iwX2 : ∀ w ∈ u_ws RX2 TX2 10, w ∈ wsX2_placeOf := fun _ h => List.mem_cons_of_mem _ (List.mem_append_left _ (List.mem_append_left _ (List.mem_append_right _ h)))
  have hl : lv_has ls 5 [(0, .ref (oO t)), (1, .int d), (2, .int k)] := hl
  refine lv_aload_n hx hb dX2_placeOf_0 rfl (lv_at hl 0 rfl) ?_
  refine va_get (D := D) (ci := 3) (v := .ref (oNow t)) (C := RX2) (T := TX2) (N := 10) hx hb hts iwX2 hown hK hP 0 rfl rfl 6 (by decide) (hts (.fieldLink RX2 34 "ObjectRows" "now" "LObjectRows$Changing;") (by decide +kernel)) (fun _ h9 => h9) rfl dX2_placeOf_1 ?_
  refine va_get (D := D) (ci := 1) (v := .ref (oH t 9)) (C := RX0) (T := TX0) (N := 7) hx hb hts iwX0 hown hK hP 1 rfl rfl 3 (by decide) (hts (.fieldLink RX2 159 "ObjectRows$Changing" "entries" "LObjectRows$Row;") (by decide +kernel)) (fun _ h9 => h9) rfl dX2_placeOf_4 ?_
  refine lv_aload_n hx hb dX2_placeOf_7 rfl (lv_at hl 0 rfl) ?_
  refine va_get (D := D) (ci := 3) (v := .ref (oH t 2)) (C := RX2) (T := TX2) (N := 10) hx hb hts iwX2 hown hK hP 0 rfl rfl 2 (by decide) (hts (.fieldLink RX2 19 "ObjectRows" "owners" "LObjectRows$Row;") (by decide +kernel)) (fun _ h9 => h9) rfl dX2_placeOf_8 ?_
  refine lv_iload_n hx hb dX2_placeOf_11 rfl (lv_at hl 1 rfl) ?_
  refine rcI (As := [.int d]) (rest := [.ref (oH t 9)]) ⟨hx, hb, hml, hown, hts⟩ (c_X1_at l D Y (oH t 2) (oR t 2) d (hok 2 (by decide))) (cwV 1 hts gX2_placeOf_X1_at rfl rfl rfl hdX1_at ⟨Nat.le_of_ble_eq_true rfl, Nat.le_of_ble_eq_true rfl⟩) (oWr2 hP) hK 0 2 rfl rfl rfl hl.1 rfl (Nat.le_of_ble_eq_true rfl) dX2_placeOf_12 ⟨(Nat.zero_le _), (Nat.zero_le _)⟩ (fun r1 hr1 => ?_)
  obtain rfl : r1 = ow t d := hr1
  refine rcI (As := [.int (ow t d)]) (rest := []) ⟨hx, hb, hml, hown, hts⟩ (c_X1_at l D Y (oH t 9) (oR t 9) (ow t d) (hok 9 (by decide))) (cwV 1 hts gX2_placeOf_X1_at rfl rfl rfl hdX1_at ⟨Nat.le_of_ble_eq_true rfl, Nat.le_of_ble_eq_true rfl⟩) (oWr9 hP) hK 0 2 rfl rfl rfl hl.1 rfl (Nat.le_of_ble_eq_true rfl) dX2_placeOf_15 ⟨(Nat.zero_le _), (Nat.zero_le _)⟩ (fun r2 hr2 => ?_)
  obtain rfl : r2 = rdN t (ow t d) := hr2
  refine lv_istore_n (lv' := [(3, .int (rdN t (ow t d))), (0, .ref (oO t)), (1, .int d), (2, .int k)]) hx hb dX2_placeOf_18 rfl hl (by decide) rfl (fun ls hl => ?_)
  refine lv_iconst (v := 0) hx hb dX2_placeOf_19 (by decide) ?_
  refine lv_istore (lv' := [(4, .int 0), (3, .int (rdN t (ow t d))), (0, .ref (oO t)), (1, .int d), (2, .int k)]) hx hb dX2_placeOf_20 hl (by decide) rfl (fun ls hl => ?_)
  have LP : ∀ (n : Nat) (z : Int32), ((rdN t (ow t d)).toInt - z.toInt).toNat < n → pPlaceL t d k n z = pPlaceOf t d k → ∀ ls : Array Slot, lv_has ls 5 [(4, .int z), (3, .int (rdN t (ow t d))), (0, .ref (oO t)), (1, .int d), (2, .int k)] → W p l e ({ frames := 4, cells := 0, slots := 0, locals := 90 }) s m ([.ref (oO t), .int d, .int k] : List Value).toArray below meth c s.heap [] 0 0 (MQ below (vp_Si (fun ans => ans = pPlaceOf t d k)) ([.ref (oO t), .int d, .int k] : List Value).toArray s 0 0 (fun _ => False)) (F0 m 22 ls []) := by
    intro n
    induction n with
    | zero => intro z h9; exact absurd h9 (Nat.not_lt_zero _)
    | succ n ih =>
      intro z hz hv ls hl
      refine lv_iload hx hb dX2_placeOf_22 (lv_at hl 0 rfl) ?_
      refine lv_iload_n hx hb dX2_placeOf_24 rfl (lv_at hl 1 rfl) ?_
      refine lv_icmp_ge (tgt := 62) hx hb dX2_placeOf_25 (by decide) (fun c3 => ?_) (fun c3 => ?_)
      · skip
        refine lv_iconst (v := (-1)) hx hb dX2_placeOf_62 (by decide) ?_
        exact reI hx hb hr hlocks dX2_placeOf_63 (by first | (rw [← hv]; simp only [pPlaceL, c3, decide_true, decide_false, Bool.not_true, Bool.not_false, Bool.and_true, Bool.true_and, Bool.and_false, Bool.false_and, Bool.or_true, Bool.true_or, Bool.or_false, Bool.false_or, Bool.and_self, Bool.or_self, if_true, if_false, ite_true, ite_false, Bool.false_eq_true, reduceIte, not_true_eq_false, not_false_eq_true, and_true, true_and, and_false, false_and, or_true, true_or, or_false, false_or, and_self, or_self, eq_self, decide_eq_true_eq, Bool.true_eq_false, reduceCtorEq, ne_eq]; done) | (rw [← hv]; simp [pPlaceL, c3, Int32.not_lt.mpr c3]; done))
      · skip
        refine lv_aload_n hx hb dX2_placeOf_28 rfl (lv_at hl 2 rfl) ?_
        refine lv_aload_n hx hb dX2_placeOf_29 rfl (lv_at hl 2 rfl) ?_
        refine va_get (D := D) (ci := 3) (v := .ref (oNow t)) (C := RX2) (T := TX2) (N := 10) hx hb hts iwX2 hown hK hP 0 rfl rfl 6 (by decide) (hts (.fieldLink RX2 34 "ObjectRows" "now" "LObjectRows$Changing;") (by decide +kernel)) (fun _ h9 => h9) rfl dX2_placeOf_30 ?_
        refine va_get (D := D) (ci := 1) (v := .ref (oH t 11)) (C := RX0) (T := TX0) (N := 7) hx hb hts iwX0 hown hK hP 1 rfl rfl 5 (by decide) (hts (.fieldLink RX2 67 "ObjectRows$Changing" "elements" "LObjectRows$Row;") (by decide +kernel)) (fun _ h9 => h9) rfl dX2_placeOf_33 ?_
        refine lv_aload_n hx hb dX2_placeOf_36 rfl (lv_at hl 2 rfl) ?_
        refine lv_iload_n hx hb dX2_placeOf_37 rfl (lv_at hl 3 rfl) ?_
        refine lv_iload hx hb dX2_placeOf_38 (lv_at hl 0 rfl) ?_
        refine rcI (As := [.int d, .int z]) (rest := [.ref (oH t 11), .ref (oO t)]) ⟨hx, hb, hml, hown, hts⟩ (c_X2_keyCell l D Y t d z hok) (cwV 2 hts gX2_placeOf_X2_keyCell rfl rfl rfl hdX2_keyCell ⟨Nat.le_of_ble_eq_true rfl, Nat.le_of_ble_eq_true rfl⟩) hP hK 0 3 rfl rfl rfl hl.1 rfl (Nat.le_of_ble_eq_true rfl) dX2_placeOf_40 ⟨(Nat.zero_le _), (Nat.zero_le _)⟩ (fun r4 hr4 => ?_)
        obtain rfl : r4 = pKeyCell t d z := hr4
        refine rcI (As := [.int (pKeyCell t d z)]) (rest := [.ref (oO t)]) ⟨hx, hb, hml, hown, hts⟩ (c_X1_at l D Y (oH t 11) (oR t 11) (pKeyCell t d z) (hok 11 (by decide))) (cwV 1 hts gX2_placeOf_X1_at rfl rfl rfl hdX1_at ⟨Nat.le_of_ble_eq_true rfl, Nat.le_of_ble_eq_true rfl⟩) (oWr11 hP) hK 0 2 rfl rfl rfl hl.1 rfl (Nat.le_of_ble_eq_true rfl) dX2_placeOf_43 ⟨(Nat.zero_le _), (Nat.zero_le _)⟩ (fun r5 hr5 => ?_)
        obtain rfl : r5 = rdE t (pKeyCell t d z) := hr5
        refine lv_iload_n hx hb dX2_placeOf_46 rfl (lv_at hl 4 rfl) ?_
        refine rcI (As := [.int (rdE t (pKeyCell t d z)), .int k]) (rest := []) ⟨hx, hb, hml, hown, hts⟩ (c_X2_alikeKeys l D Y t (rdE t (pKeyCell t d z)) k hok) (cwV 2 hts gX2_placeOf_X2_alikeKeys rfl rfl rfl hdX2_alikeKeys ⟨Nat.le_of_ble_eq_true rfl, Nat.le_of_ble_eq_true rfl⟩) hP hK 0 3 rfl rfl rfl hl.1 rfl (Nat.le_of_ble_eq_true rfl) dX2_placeOf_47 ⟨(Nat.zero_le _), (Nat.zero_le _)⟩ (fun r6 hr6 => ?_)
        cases b7 : pAlikeKeys t (rdE t (pKeyCell t d z)) k
        · replace hr6 : r6 = 0 := by rw [hr6, b7]; rfl
          subst hr6
          refine lv_if_eq (tgt := 56) hx hb dX2_placeOf_50 (by decide) (fun _ => ?_) (fun c8 => absurd (by decide) c8)
          obtain ⟨z9, ez9⟩ : ∃ y : Int32, y = z + 1 := ⟨_, rfl⟩
          refine lv_iinc (v := z9) (lv' := [(4, .int z9), (3, .int (rdN t (ow t d))), (0, .ref (oO t)), (1, .int d), (2, .int k)]) hx hb dX2_placeOf_56 hl (k := 0) rfl (by rw [ez9]; rfl) (by decide) rfl (fun ls hl => ?_)
          refine lv_goto (tgt := 22) hx hb dX2_placeOf_59 (by decide) ?_
          exact ih z9 (mstep c3 hz ez9) (by first | (rw [← hv]; simp only [pPlaceL, c3, b7, ez9, decide_true, decide_false, Bool.not_true, Bool.not_false, Bool.and_true, Bool.true_and, Bool.and_false, Bool.false_and, Bool.or_true, Bool.true_or, Bool.or_false, Bool.false_or, Bool.and_self, Bool.or_self, if_true, if_false, ite_true, ite_false, Bool.false_eq_true, reduceIte, not_true_eq_false, not_false_eq_true, and_true, true_and, and_false, false_and, or_true, true_or, or_false, false_or, and_self, or_self, eq_self, decide_eq_true_eq, Bool.true_eq_false, reduceCtorEq, ne_eq]; done) | (rw [← hv]; simp [pPlaceL, c3, b7, ez9, Int32.not_le.mp c3]; done)) ls (lv_sub hl [0, 1, 2, 3, 4] rfl)
        · replace hr6 : r6 = 1 := by rw [hr6, b7]; rfl
          subst hr6
          refine lv_if_eq (tgt := 56) hx hb dX2_placeOf_50 (by decide) (fun c10 => absurd c10 (by decide)) (fun _ => ?_)
          refine lv_iload hx hb dX2_placeOf_53 (lv_at hl 0 rfl) ?_
          exact reI hx hb hr hlocks dX2_placeOf_55 (by first | (rw [← hv]; simp only [pPlaceL, c3, b7, decide_true, decide_false, Bool.not_true, Bool.not_false, Bool.and_true, Bool.true_and, Bool.and_false, Bool.false_and, Bool.or_true, Bool.true_or, Bool.or_false, Bool.false_or, Bool.and_self, Bool.or_self, if_true, if_false, ite_true, ite_false, Bool.false_eq_true, reduceIte, not_true_eq_false, not_false_eq_true, and_true, true_and, and_false, false_and, or_true, true_or, or_false, false_or, and_self, or_self, eq_self, decide_eq_true_eq, Bool.true_eq_false, reduceCtorEq, ne_eq]; done) | (rw [← hv]; simp [pPlaceL, c3, b7, Int32.not_le.mp c3]; done))
  exact LP ((rdN t (ow t d)).toInt.toNat + 1) 0 (by rw [show ((0 : Int32)).toInt = 0 from rfl]; omega) (by rfl) ls (lv_sub hl [0, 1, 2, 3, 4] rfl)
theorem hdX2_placeOf : yX2_placeOf.cls = RX2 ∧ yX2_placeOf.cls ≠ "java/lang/invoke/MethodHandle" ∧ yX2_placeOf.cls ≠ "java/lang/invoke/VarHandle" ∧ (parseMethodDescriptor yX2_placeOf.desc).map (fun d => d.parameters.length) = some 2 := by decide +kernel
set_option maxHeartbeats 4000000 in
set_option maxRecDepth 100000 in
theorem c_X2_told (l : Launch) (D : va_G) (Y : Nat → ClassId) (t : OS) (x : Int32) (w : Int32) (hok : oOK t) : Met l yX2_told wsX2_told ({ frames := 3, cells := 0, slots := 0, locals := 63 }) (rdPc D Y [.ref (oO t), .int x, .int w] (oW Y t)) (vp_Si (fun ans => ans = pTold t x w)) 0 0 (fun _ => False) := by
  refine rdOf (cc := cX2_told) (maxL := 3) (ret := (some .int)) (own := RX2) (by decide) rfl rfl (Nat.le_of_ble_eq_true rfl) ?_
  intro p e s m below meth c ls hx hb hr hts hown hml hlocks hP hK hl
  have iwX0 : ∀ w ∈ u_ws RX0 TX0 7, w ∈ wsX2_told := fun _ h => List.mem_cons_of_mem _ (List.mem_append_left _ (List.mem_append_right _ h))
  have iwX2 : ∀ w ∈ u_ws RX2 TX2 10, w ∈ wsX2_told := fun _ h => List.mem_cons_of_mem _ (List.mem_append_left _ (List.mem_append_left _ (List.mem_append_right _ h)))
  have hl : lv_has ls 3 [(0, .ref (oO t)), (1, .int x), (2, .int w)] := hl
  refine lv_aload_n hx hb dX2_told_0 rfl (lv_at hl 0 rfl) ?_
  refine lv_iload_n hx hb dX2_told_1 rfl (lv_at hl 1 rfl) ?_
  refine rcI (As := [.int x]) (rest := []) ⟨hx, hb, hml, hown, hts⟩ (c_X2_known l D Y t x hok) (cwV 1 hts gX2_told_X2_known rfl rfl rfl hdX2_known ⟨Nat.le_of_ble_eq_true rfl, Nat.le_of_ble_eq_true rfl⟩) hP hK 0 3 rfl rfl rfl hl.1 rfl (Nat.le_of_ble_eq_true rfl) dX2_told_2 ⟨(Nat.zero_le _), (Nat.zero_le _)⟩ (fun r1 hr1 => ?_)
  cases b2 : pKnown t x
  · replace hr1 : r1 = 0 := by rw [hr1, b2]; rfl
    subst hr1
    refine lv_if_ne (tgt := 10) hx hb dX2_told_5 (by decide) (fun c3 => absurd (by decide) c3) (fun _ => ?_)
    refine lv_iconst (v := (-1)) hx hb dX2_told_8 (by decide) ?_
    exact reI hx hb hr hlocks dX2_told_9 (by first | (simp only [pTold, b2, decide_true, decide_false, Bool.not_true, Bool.not_false, Bool.and_true, Bool.true_and, Bool.and_false, Bool.false_and, Bool.or_true, Bool.true_or, Bool.or_false, Bool.false_or, Bool.and_self, Bool.or_self, if_true, if_false, ite_true, ite_false, Bool.false_eq_true, reduceIte, not_true_eq_false, not_false_eq_true, and_true, true_and, and_false, false_and, or_true, true_or, or_false, false_or, and_self, or_self, eq_self, decide_eq_true_eq, Bool.true_eq_false, reduceCtorEq, ne_eq]; done) | (simp [pTold, b2]; done))
  · replace hr1 : r1 = 1 := by rw [hr1, b2]; rfl
    subst hr1
    refine lv_if_ne (tgt := 10) hx hb dX2_told_5 (by decide) (fun _ => ?_) (fun c4 => absurd c4 (by decide))
    refine lv_iload_n hx hb dX2_told_10 rfl (lv_at hl 2 rfl) ?_
    by_cases c5 : w = 0
    · refine lv_tableIn (off := 33) (tgt := 44) hx hb dX2_told_11 (by rw [c5]; decide) (by rw [c5]; decide) (by rw [c5]; decide) (by decide) ?_
      refine lv_aload_n hx hb dX2_told_44 rfl (lv_at hl 0 rfl) ?_
      refine va_get (D := D) (ci := 3) (v := .ref (oNow t)) (C := RX2) (T := TX2) (N := 10) hx hb hts iwX2 hown hK hP 0 rfl rfl 6 (by decide) (hts (.fieldLink RX2 34 "ObjectRows" "now" "LObjectRows$Changing;") (by decide +kernel)) (fun _ h9 => h9) rfl dX2_told_45 ?_
      refine va_get (D := D) (ci := 1) (v := .ref (oH t 6)) (C := RX0) (T := TX0) (N := 7) hx hb hts iwX0 hown hK hP 1 rfl rfl 0 (by decide) (hts (.fieldLink RX2 126 "ObjectRows$Changing" "executables" "LObjectRows$Row;") (by decide +kernel)) (fun _ h9 => h9) rfl dX2_told_48 ?_
      refine lv_iload_n hx hb dX2_told_51 rfl (lv_at hl 1 rfl) ?_
      refine rcI (As := [.int x]) (rest := []) ⟨hx, hb, hml, hown, hts⟩ (c_X1_at l D Y (oH t 6) (oR t 6) x (hok 6 (by decide))) (cwV 1 hts gX2_told_X1_at rfl rfl rfl hdX1_at ⟨Nat.le_of_ble_eq_true rfl, Nat.le_of_ble_eq_true rfl⟩) (oWr6 hP) hK 0 2 rfl rfl rfl hl.1 rfl (Nat.le_of_ble_eq_true rfl) dX2_told_52 ⟨(Nat.zero_le _), (Nat.zero_le _)⟩ (fun r6 hr6 => ?_)
      obtain rfl : r6 = rdX t x := hr6
      exact reI hx hb hr hlocks dX2_told_55 (by first | (simp only [pTold, b2, c5, decide_true, decide_false, Bool.not_true, Bool.not_false, Bool.and_true, Bool.true_and, Bool.and_false, Bool.false_and, Bool.or_true, Bool.true_or, Bool.or_false, Bool.false_or, Bool.and_self, Bool.or_self, if_true, if_false, ite_true, ite_false, Bool.false_eq_true, reduceIte, not_true_eq_false, not_false_eq_true, and_true, true_and, and_false, false_and, or_true, true_or, or_false, false_or, and_self, or_self, eq_self, decide_eq_true_eq, Bool.true_eq_false, reduceCtorEq, ne_eq]; done) | (simp [pTold, b2, c5]; done))
    by_cases c7 : w = 1
    · refine lv_tableIn (off := 45) (tgt := 56) hx hb dX2_told_11 (by rw [c7]; decide) (by rw [c7]; decide) (by rw [c7]; decide) (by decide) ?_
      refine lv_aload_n hx hb dX2_told_56 rfl (lv_at hl 0 rfl) ?_
      refine lv_iload_n hx hb dX2_told_57 rfl (lv_at hl 1 rfl) ?_
      refine rcI (As := [.int x]) (rest := []) ⟨hx, hb, hml, hown, hts⟩ (c_X2_accessOf l D Y t x hok) (cwV 1 hts gX2_told_X2_accessOf rfl rfl rfl hdX2_accessOf ⟨Nat.le_of_ble_eq_true rfl, Nat.le_of_ble_eq_true rfl⟩) hP hK 0 3 rfl rfl rfl hl.1 rfl (Nat.le_of_ble_eq_true rfl) dX2_told_58 ⟨(Nat.zero_le _), (Nat.zero_le _)⟩ (fun r8 hr8 => ?_)
      obtain rfl : r8 = pAcc t x := hr8
      exact reI hx hb hr hlocks dX2_told_61 (by first | (simp only [pTold, b2, c5, c7, decide_true, decide_false, Bool.not_true, Bool.not_false, Bool.and_true, Bool.true_and, Bool.and_false, Bool.false_and, Bool.or_true, Bool.true_or, Bool.or_false, Bool.false_or, Bool.and_self, Bool.or_self, if_true, if_false, ite_true, ite_false, Bool.false_eq_true, reduceIte, not_true_eq_false, not_false_eq_true, and_true, true_and, and_false, false_and, or_true, true_or, or_false, false_or, and_self, or_self, eq_self, decide_eq_true_eq, Bool.true_eq_false, reduceCtorEq, ne_eq]; done) | (simp [pTold, b2, c5, c7]; done))
    by_cases c9 : w = 2
    · refine lv_tableIn (off := 51) (tgt := 62) hx hb dX2_told_11 (by rw [c9]; decide) (by rw [c9]; decide) (by rw [c9]; decide) (by decide) ?_
      refine lv_aload_n hx hb dX2_told_62 rfl (lv_at hl 0 rfl) ?_
      refine va_get (D := D) (ci := 3) (v := .ref (oNow t)) (C := RX2) (T := TX2) (N := 10) hx hb hts iwX2 hown hK hP 0 rfl rfl 6 (by decide) (hts (.fieldLink RX2 34 "ObjectRows" "now" "LObjectRows$Changing;") (by decide +kernel)) (fun _ h9 => h9) rfl dX2_told_63 ?_
      refine va_get (D := D) (ci := 1) (v := .ref (oH t 10)) (C := RX0) (T := TX0) (N := 7) hx hb hts iwX0 hown hK hP 1 rfl rfl 4 (by decide) (hts (.fieldLink RX2 135 "ObjectRows$Changing" "growths" "LObjectRows$Row;") (by decide +kernel)) (fun _ h9 => h9) rfl dX2_told_66 ?_
      refine lv_aload_n hx hb dX2_told_69 rfl (lv_at hl 0 rfl) ?_
      refine va_get (D := D) (ci := 3) (v := .ref (oH t 2)) (C := RX2) (T := TX2) (N := 10) hx hb hts iwX2 hown hK hP 0 rfl rfl 2 (by decide) (hts (.fieldLink RX2 19 "ObjectRows" "owners" "LObjectRows$Row;") (by decide +kernel)) (fun _ h9 => h9) rfl dX2_told_70 ?_
      refine lv_iload_n hx hb dX2_told_73 rfl (lv_at hl 1 rfl) ?_
      refine rcI (As := [.int x]) (rest := [.ref (oH t 10)]) ⟨hx, hb, hml, hown, hts⟩ (c_X1_at l D Y (oH t 2) (oR t 2) x (hok 2 (by decide))) (cwV 1 hts gX2_told_X1_at rfl rfl rfl hdX1_at ⟨Nat.le_of_ble_eq_true rfl, Nat.le_of_ble_eq_true rfl⟩) (oWr2 hP) hK 0 2 rfl rfl rfl hl.1 rfl (Nat.le_of_ble_eq_true rfl) dX2_told_74 ⟨(Nat.zero_le _), (Nat.zero_le _)⟩ (fun r10 hr10 => ?_)
      obtain rfl : r10 = ow t x := hr10
      refine rcI (As := [.int (ow t x)]) (rest := []) ⟨hx, hb, hml, hown, hts⟩ (c_X1_at l D Y (oH t 10) (oR t 10) (ow t x) (hok 10 (by decide))) (cwV 1 hts gX2_told_X1_at rfl rfl rfl hdX1_at ⟨Nat.le_of_ble_eq_true rfl, Nat.le_of_ble_eq_true rfl⟩) (oWr10 hP) hK 0 2 rfl rfl rfl hl.1 rfl (Nat.le_of_ble_eq_true rfl) dX2_told_77 ⟨(Nat.zero_le _), (Nat.zero_le _)⟩ (fun r11 hr11 => ?_)
      obtain rfl : r11 = rdG t (ow t x) := hr11
      exact reI hx hb hr hlocks dX2_told_80 (by first | (simp only [pTold, b2, c5, c7, c9, decide_true, decide_false, Bool.not_true, Bool.not_false, Bool.and_true, Bool.true_and, Bool.and_false, Bool.false_and, Bool.or_true, Bool.true_or, Bool.or_false, Bool.false_or, Bool.and_self, Bool.or_self, if_true, if_false, ite_true, ite_false, Bool.false_eq_true, reduceIte, not_true_eq_false, not_false_eq_true, and_true, true_and, and_false, false_and, or_true, true_or, or_false, false_or, and_self, or_self, eq_self, decide_eq_true_eq, Bool.true_eq_false, reduceCtorEq, ne_eq]; done) | (simp [pTold, b2, c5, c7, c9]; done))
    by_cases c12 : w = 3
    · refine lv_tableIn (off := 70) (tgt := 81) hx hb dX2_told_11 (by rw [c12]; decide) (by rw [c12]; decide) (by rw [c12]; decide) (by decide) ?_
      refine lv_aload_n hx hb dX2_told_81 rfl (lv_at hl 0 rfl) ?_
      refine va_get (D := D) (ci := 3) (v := .ref (oH t 0)) (C := RX2) (T := TX2) (N := 10) hx hb hts iwX2 hown hK hP 0 rfl rfl 0 (by decide) (hts (.fieldLink RX2 12 "ObjectRows" "kinds" "LObjectRows$Row;") (by decide +kernel)) (fun _ h9 => h9) rfl dX2_told_82 ?_
      refine lv_iload_n hx hb dX2_told_85 rfl (lv_at hl 1 rfl) ?_
      refine rcI (As := [.int x]) (rest := []) ⟨hx, hb, hml, hown, hts⟩ (c_X1_at l D Y (oH t 0) (oR t 0) x (hok 0 (by decide))) (cwV 1 hts gX2_told_X1_at rfl rfl rfl hdX1_at ⟨Nat.le_of_ble_eq_true rfl, Nat.le_of_ble_eq_true rfl⟩) (oWr0 hP) hK 0 2 rfl rfl rfl hl.1 rfl (Nat.le_of_ble_eq_true rfl) dX2_told_86 ⟨(Nat.zero_le _), (Nat.zero_le _)⟩ (fun r13 hr13 => ?_)
      obtain rfl : r13 = kd t x := hr13
      refine scI (As := [.int (kd t x)]) (rest := []) ⟨hx, hb, hml, hown, hts⟩ (c_X2_hasNumber l (kd t x)) (va_cwS 1 hts gX2_told_X2_hasNumber rfl rfl rfl hdX2_hasNumber ⟨Nat.le_of_ble_eq_true rfl, Nat.le_of_ble_eq_true rfl⟩) rfl hl.1 rfl (Nat.le_of_ble_eq_true rfl) dX2_told_89 ⟨(Nat.zero_le _), (Nat.zero_le _)⟩ (fun r14 hr14 => ?_)
      cases b15 : pHasNum (kd t x)
      · replace hr14 : r14 = 0 := by rw [hr14, b15]; rfl
        subst hr14
        refine lv_if_eq (tgt := 106) hx hb dX2_told_92 (by decide) (fun _ => ?_) (fun c16 => absurd (by decide) c16)
        refine lv_iconst (v := 0) hx hb dX2_told_106 (by decide) ?_
        exact reI hx hb hr hlocks dX2_told_107 (by first | (simp only [pTold, b2, c5, c7, c9, c12, b15, decide_true, decide_false, Bool.not_true, Bool.not_false, Bool.and_true, Bool.true_and, Bool.and_false, Bool.false_and, Bool.or_true, Bool.true_or, Bool.or_false, Bool.false_or, Bool.and_self, Bool.or_self, if_true, if_false, ite_true, ite_false, Bool.false_eq_true, reduceIte, not_true_eq_false, not_false_eq_true, and_true, true_and, and_false, false_and, or_true, true_or, or_false, false_or, and_self, or_self, eq_self, decide_eq_true_eq, Bool.true_eq_false, reduceCtorEq, ne_eq]; done) | (simp [pTold, b2, c5, c7, c9, c12, b15]; done))
      · replace hr14 : r14 = 1 := by rw [hr14, b15]; rfl
        subst hr14
        refine lv_if_eq (tgt := 106) hx hb dX2_told_92 (by decide) (fun c17 => absurd c17 (by decide)) (fun _ => ?_)
        refine lv_aload_n hx hb dX2_told_95 rfl (lv_at hl 0 rfl) ?_
        refine va_get (D := D) (ci := 3) (v := .ref (oH t 1)) (C := RX2) (T := TX2) (N := 10) hx hb hts iwX2 hown hK hP 0 rfl rfl 1 (by decide) (hts (.fieldLink RX2 16 "ObjectRows" "numbers" "LObjectRows$Row;") (by decide +kernel)) (fun _ h9 => h9) rfl dX2_told_96 ?_
        refine lv_iload_n hx hb dX2_told_99 rfl (lv_at hl 1 rfl) ?_
        refine rcI (As := [.int x]) (rest := []) ⟨hx, hb, hml, hown, hts⟩ (c_X1_at l D Y (oH t 1) (oR t 1) x (hok 1 (by decide))) (cwV 1 hts gX2_told_X1_at rfl rfl rfl hdX1_at ⟨Nat.le_of_ble_eq_true rfl, Nat.le_of_ble_eq_true rfl⟩) (oWr1 hP) hK 0 2 rfl rfl rfl hl.1 rfl (Nat.le_of_ble_eq_true rfl) dX2_told_100 ⟨(Nat.zero_le _), (Nat.zero_le _)⟩ (fun r18 hr18 => ?_)
        obtain rfl : r18 = nu t x := hr18
        refine lv_goto (tgt := 107) hx hb dX2_told_103 (by decide) ?_
        exact reI hx hb hr hlocks dX2_told_107 (by first | (simp only [pTold, b2, c5, c7, c9, c12, b15, decide_true, decide_false, Bool.not_true, Bool.not_false, Bool.and_true, Bool.true_and, Bool.and_false, Bool.false_and, Bool.or_true, Bool.true_or, Bool.or_false, Bool.false_or, Bool.and_self, Bool.or_self, if_true, if_false, ite_true, ite_false, Bool.false_eq_true, reduceIte, not_true_eq_false, not_false_eq_true, and_true, true_and, and_false, false_and, or_true, true_or, or_false, false_or, and_self, or_self, eq_self, decide_eq_true_eq, Bool.true_eq_false, reduceCtorEq, ne_eq]; done) | (simp [pTold, b2, c5, c7, c9, c12, b15]; done))
    by_cases c19 : w = 4
    · refine lv_tableIn (off := 97) (tgt := 108) hx hb dX2_told_11 (by rw [c19]; decide) (by rw [c19]; decide) (by rw [c19]; decide) (by decide) ?_
      refine lv_aload_n hx hb dX2_told_108 rfl (lv_at hl 0 rfl) ?_
      refine va_get (D := D) (ci := 3) (v := .ref (oNow t)) (C := RX2) (T := TX2) (N := 10) hx hb hts iwX2 hown hK hP 0 rfl rfl 6 (by decide) (hts (.fieldLink RX2 34 "ObjectRows" "now" "LObjectRows$Changing;") (by decide +kernel)) (fun _ h9 => h9) rfl dX2_told_109 ?_
      refine va_get (D := D) (ci := 1) (v := .ref (oH t 8)) (C := RX0) (T := TX0) (N := 7) hx hb hts iwX0 hown hK hP 1 rfl rfl 2 (by decide) (hts (.fieldLink RX2 141 "ObjectRows$Changing" "capacities" "LObjectRows$Row;") (by decide +kernel)) (fun _ h9 => h9) rfl dX2_told_112 ?_
      refine lv_aload_n hx hb dX2_told_115 rfl (lv_at hl 0 rfl) ?_
      refine va_get (D := D) (ci := 3) (v := .ref (oH t 2)) (C := RX2) (T := TX2) (N := 10) hx hb hts iwX2 hown hK hP 0 rfl rfl 2 (by decide) (hts (.fieldLink RX2 19 "ObjectRows" "owners" "LObjectRows$Row;") (by decide +kernel)) (fun _ h9 => h9) rfl dX2_told_116 ?_
      refine lv_iload_n hx hb dX2_told_119 rfl (lv_at hl 1 rfl) ?_
      refine rcI (As := [.int x]) (rest := [.ref (oH t 8)]) ⟨hx, hb, hml, hown, hts⟩ (c_X1_at l D Y (oH t 2) (oR t 2) x (hok 2 (by decide))) (cwV 1 hts gX2_told_X1_at rfl rfl rfl hdX1_at ⟨Nat.le_of_ble_eq_true rfl, Nat.le_of_ble_eq_true rfl⟩) (oWr2 hP) hK 0 2 rfl rfl rfl hl.1 rfl (Nat.le_of_ble_eq_true rfl) dX2_told_120 ⟨(Nat.zero_le _), (Nat.zero_le _)⟩ (fun r20 hr20 => ?_)
      obtain rfl : r20 = ow t x := hr20
      refine rcI (As := [.int (ow t x)]) (rest := []) ⟨hx, hb, hml, hown, hts⟩ (c_X1_at l D Y (oH t 8) (oR t 8) (ow t x) (hok 8 (by decide))) (cwV 1 hts gX2_told_X1_at rfl rfl rfl hdX1_at ⟨Nat.le_of_ble_eq_true rfl, Nat.le_of_ble_eq_true rfl⟩) (oWr8 hP) hK 0 2 rfl rfl rfl hl.1 rfl (Nat.le_of_ble_eq_true rfl) dX2_told_123 ⟨(Nat.zero_le _), (Nat.zero_le _)⟩ (fun r21 hr21 => ?_)
      obtain rfl : r21 = rdC t (ow t x) := hr21
      exact reI hx hb hr hlocks dX2_told_126 (by first | (simp only [pTold, b2, c5, c7, c9, c12, c19, decide_true, decide_false, Bool.not_true, Bool.not_false, Bool.and_true, Bool.true_and, Bool.and_false, Bool.false_and, Bool.or_true, Bool.true_or, Bool.or_false, Bool.false_or, Bool.and_self, Bool.or_self, if_true, if_false, ite_true, ite_false, Bool.false_eq_true, reduceIte, not_true_eq_false, not_false_eq_true, and_true, true_and, and_false, false_and, or_true, true_or, or_false, false_or, and_self, or_self, eq_self, decide_eq_true_eq, Bool.true_eq_false, reduceCtorEq, ne_eq]; done) | (simp [pTold, b2, c5, c7, c9, c12, c19]; done))
    refine lv_tableD (tgt := 127) hx hb dX2_told_11 (tblD (ks := [0, 1, 2, 3, 4]) (by decide) (List.forall_mem_cons.mpr ⟨neI c5 (by decide), (List.forall_mem_cons.mpr ⟨neI c7 (by decide), (List.forall_mem_cons.mpr ⟨neI c9 (by decide), (List.forall_mem_cons.mpr ⟨neI c12 (by decide), (List.forall_mem_cons.mpr ⟨neI c19 (by decide), (fun _ h => absurd h List.not_mem_nil)⟩)⟩)⟩)⟩)⟩) (by decide)) (by decide) ?_
    refine lv_bipush (v := (-2)) hx hb dX2_told_127 (by decide) ?_
    exact reI hx hb hr hlocks dX2_told_129 (by first | (simp only [pTold, b2, c5, c7, c9, c12, c19, decide_true, decide_false, Bool.not_true, Bool.not_false, Bool.and_true, Bool.true_and, Bool.and_false, Bool.false_and, Bool.or_true, Bool.true_or, Bool.or_false, Bool.false_or, Bool.and_self, Bool.or_self, if_true, if_false, ite_true, ite_false, Bool.false_eq_true, reduceIte, not_true_eq_false, not_false_eq_true, and_true, true_and, and_false, false_and, or_true, true_or, or_false, false_or, and_self, or_self, eq_self, decide_eq_true_eq, Bool.true_eq_false, reduceCtorEq, ne_eq]; done) | (simp [pTold, b2, c5, c7, c9, c12, c19]; done))
theorem hdX2_told : yX2_told.cls = RX2 ∧ yX2_told.cls ≠ "java/lang/invoke/MethodHandle" ∧ yX2_told.cls ≠ "java/lang/invoke/VarHandle" ∧ (parseMethodDescriptor yX2_told.desc).map (fun d => d.parameters.length) = some 2 := by decide +kernel
set_option maxHeartbeats 4000000 in
set_option maxRecDepth 100000 in
theorem c_X2_same (l : Launch) (D : va_G) (Y : Nat → ClassId) (t : OS) (a : Int32) (b : Int32) (hok : oOK t) : Met l yX2_same wsX2_same ({ frames := 6, cells := 0, slots := 0, locals := 129 }) (rdPc D Y [.ref (oO t), .int a, .int b] (oW Y t)) (vp_Si (fun ans => ans = bI (pSame t a b))) 0 0 (fun _ => False) := by
  refine rdOf (cc := cX2_same) (maxL := 3) (ret := (some .boolean)) (own := RX2) (by decide) rfl rfl (Nat.le_of_ble_eq_true rfl) ?_
  intro p e s m below meth c ls hx hb hr hts hown hml hlocks hP hK hl
  have hl : lv_has ls 3 [(0, .ref (oO t)), (1, .int a), (2, .int b)] := hl
  refine lv_aload_n hx hb dX2_same_0 rfl (lv_at hl 0 rfl) ?_
  refine lv_iload_n hx hb dX2_same_1 rfl (lv_at hl 1 rfl) ?_
  refine rcI (As := [.int a]) (rest := []) ⟨hx, hb, hml, hown, hts⟩ (c_X2_known l D Y t a hok) (cwV 1 hts gX2_same_X2_known rfl rfl rfl hdX2_known ⟨Nat.le_of_ble_eq_true rfl, Nat.le_of_ble_eq_true rfl⟩) hP hK 0 3 rfl rfl rfl hl.1 rfl (Nat.le_of_ble_eq_true rfl) dX2_same_2 ⟨(Nat.zero_le _), (Nat.zero_le _)⟩ (fun r1 hr1 => ?_)
  cases b2 : pKnown t a
  · replace hr1 : r1 = 0 := by rw [hr1, b2]; rfl
    subst hr1
    refine lv_if_eq (tgt := 29) hx hb dX2_same_5 (by decide) (fun _ => ?_) (fun c3 => absurd (by decide) c3)
    refine lv_iconst (v := 0) hx hb dX2_same_29 (by decide) ?_
    exact reZ hx hb hr hlocks dX2_same_30 (by first | exact Or.inl rfl | exact Or.inr rfl | exact bI_01 _ | (rename_i h9; rw [h9]; exact bI_01 _) | (subst_vars; exact bI_01 _)) (by first | (simp only [pSame, bI, b2, decide_true, decide_false, Bool.not_true, Bool.not_false, Bool.and_true, Bool.true_and, Bool.and_false, Bool.false_and, Bool.or_true, Bool.true_or, Bool.or_false, Bool.false_or, Bool.and_self, Bool.or_self, if_true, if_false, ite_true, ite_false, Bool.false_eq_true, reduceIte, not_true_eq_false, not_false_eq_true, and_true, true_and, and_false, false_and, or_true, true_or, or_false, false_or, and_self, or_self, eq_self, decide_eq_true_eq, Bool.true_eq_false, reduceCtorEq, ne_eq]; done) | (simp [pSame, bI, b2]; done))
  · replace hr1 : r1 = 1 := by rw [hr1, b2]; rfl
    subst hr1
    refine lv_if_eq (tgt := 29) hx hb dX2_same_5 (by decide) (fun c4 => absurd c4 (by decide)) (fun _ => ?_)
    refine lv_aload_n hx hb dX2_same_8 rfl (lv_at hl 0 rfl) ?_
    refine lv_iload_n hx hb dX2_same_9 rfl (lv_at hl 2 rfl) ?_
    refine rcI (As := [.int b]) (rest := []) ⟨hx, hb, hml, hown, hts⟩ (c_X2_known l D Y t b hok) (cwV 1 hts gX2_same_X2_known rfl rfl rfl hdX2_known ⟨Nat.le_of_ble_eq_true rfl, Nat.le_of_ble_eq_true rfl⟩) hP hK 0 3 rfl rfl rfl hl.1 rfl (Nat.le_of_ble_eq_true rfl) dX2_same_10 ⟨(Nat.zero_le _), (Nat.zero_le _)⟩ (fun r5 hr5 => ?_)
    cases b6 : pKnown t b
    · replace hr5 : r5 = 0 := by rw [hr5, b6]; rfl
      subst hr5
      refine lv_if_eq (tgt := 29) hx hb dX2_same_13 (by decide) (fun _ => ?_) (fun c7 => absurd (by decide) c7)
      refine lv_iconst (v := 0) hx hb dX2_same_29 (by decide) ?_
      exact reZ hx hb hr hlocks dX2_same_30 (by first | exact Or.inl rfl | exact Or.inr rfl | exact bI_01 _ | (rename_i h9; rw [h9]; exact bI_01 _) | (subst_vars; exact bI_01 _)) (by first | (simp only [pSame, bI, b2, b6, decide_true, decide_false, Bool.not_true, Bool.not_false, Bool.and_true, Bool.true_and, Bool.and_false, Bool.false_and, Bool.or_true, Bool.true_or, Bool.or_false, Bool.false_or, Bool.and_self, Bool.or_self, if_true, if_false, ite_true, ite_false, Bool.false_eq_true, reduceIte, not_true_eq_false, not_false_eq_true, and_true, true_and, and_false, false_and, or_true, true_or, or_false, false_or, and_self, or_self, eq_self, decide_eq_true_eq, Bool.true_eq_false, reduceCtorEq, ne_eq]; done) | (simp [pSame, bI, b2, b6]; done))
    · replace hr5 : r5 = 1 := by rw [hr5, b6]; rfl
      subst hr5
      refine lv_if_eq (tgt := 29) hx hb dX2_same_13 (by decide) (fun c8 => absurd c8 (by decide)) (fun _ => ?_)
      refine lv_aload_n hx hb dX2_same_16 rfl (lv_at hl 0 rfl) ?_
      refine lv_iload_n hx hb dX2_same_17 rfl (lv_at hl 1 rfl) ?_
      refine lv_iload_n hx hb dX2_same_18 rfl (lv_at hl 2 rfl) ?_
      refine rcI (As := [.int a, .int b]) (rest := []) ⟨hx, hb, hml, hown, hts⟩ (c_X2_alike l D Y t a b hok) (cwV 2 hts gX2_same_X2_alike rfl rfl rfl hdX2_alike ⟨Nat.le_of_ble_eq_true rfl, Nat.le_of_ble_eq_true rfl⟩) hP hK 0 3 rfl rfl rfl hl.1 rfl (Nat.le_of_ble_eq_true rfl) dX2_same_19 ⟨(Nat.zero_le _), (Nat.zero_le _)⟩ (fun r9 hr9 => ?_)
      cases b10 : pAlike t a b
      · replace hr9 : r9 = 0 := by rw [hr9, b10]; rfl
        subst hr9
        refine lv_if_eq (tgt := 29) hx hb dX2_same_22 (by decide) (fun _ => ?_) (fun c11 => absurd (by decide) c11)
        refine lv_iconst (v := 0) hx hb dX2_same_29 (by decide) ?_
        exact reZ hx hb hr hlocks dX2_same_30 (by first | exact Or.inl rfl | exact Or.inr rfl | exact bI_01 _ | (rename_i h9; rw [h9]; exact bI_01 _) | (subst_vars; exact bI_01 _)) (by first | (simp only [pSame, bI, b2, b6, b10, decide_true, decide_false, Bool.not_true, Bool.not_false, Bool.and_true, Bool.true_and, Bool.and_false, Bool.false_and, Bool.or_true, Bool.true_or, Bool.or_false, Bool.false_or, Bool.and_self, Bool.or_self, if_true, if_false, ite_true, ite_false, Bool.false_eq_true, reduceIte, not_true_eq_false, not_false_eq_true, and_true, true_and, and_false, false_and, or_true, true_or, or_false, false_or, and_self, or_self, eq_self, decide_eq_true_eq, Bool.true_eq_false, reduceCtorEq, ne_eq]; done) | (simp [pSame, bI, b2, b6, b10]; done))
      · replace hr9 : r9 = 1 := by rw [hr9, b10]; rfl
        subst hr9
        refine lv_if_eq (tgt := 29) hx hb dX2_same_22 (by decide) (fun c12 => absurd c12 (by decide)) (fun _ => ?_)
        refine lv_iconst (v := 1) hx hb dX2_same_25 (by decide) ?_
        refine lv_goto (tgt := 30) hx hb dX2_same_26 (by decide) ?_
        exact reZ hx hb hr hlocks dX2_same_30 (by first | exact Or.inl rfl | exact Or.inr rfl | exact bI_01 _ | (rename_i h9; rw [h9]; exact bI_01 _) | (subst_vars; exact bI_01 _)) (by first | (simp only [pSame, bI, b2, b6, b10, decide_true, decide_false, Bool.not_true, Bool.not_false, Bool.and_true, Bool.true_and, Bool.and_false, Bool.false_and, Bool.or_true, Bool.true_or, Bool.or_false, Bool.false_or, Bool.and_self, Bool.or_self, if_true, if_false, ite_true, ite_false, Bool.false_eq_true, reduceIte, not_true_eq_false, not_false_eq_true, and_true, true_and, and_false, false_and, or_true, true_or, or_false, false_or, and_self, or_self, eq_self, decide_eq_true_eq, Bool.true_eq_false, reduceCtorEq, ne_eq]; done) | (simp [pSame, bI, b2, b6, b10]; done))
theorem hdX2_same : yX2_same.cls = RX2 ∧ yX2_same.cls ≠ "java/lang/invoke/MethodHandle" ∧ yX2_same.cls ≠ "java/lang/invoke/VarHandle" ∧ (parseMethodDescriptor yX2_same.desc).map (fun d => d.parameters.length) = some 2 := by decide +kernel
set_option maxHeartbeats 4000000 in
set_option maxRecDepth 100000 in
theorem c_X2_compare (l : Launch) (D : va_G) (Y : Nat → ClassId) (t : OS) (a : Int32) (b : Int32) (hok : oOK t) : Met l yX2_compare wsX2_compare ({ frames := 4, cells := 0, slots := 0, locals := 84 }) (rdPc D Y [.ref (oO t), .int a, .int b] (oW Y t)) (vp_Si (fun ans => ans = pCompare t a b)) 0 0 (fun _ => False) := by
  refine rdOf (cc := cX2_compare) (maxL := 3) (ret := (some .int)) (own := RX2) (by decide) rfl rfl (Nat.le_of_ble_eq_true rfl) ?_
  intro p e s m below meth c ls hx hb hr hts hown hml hlocks hP hK hl
  have iwX2 : ∀ w ∈ u_ws RX2 TX2 10, w ∈ wsX2_compare := fun _ h => List.mem_cons_of_mem _ (List.mem_append_left _ (List.mem_append_left _ (List.mem_append_right _ h)))
  have hl : lv_has ls 3 [(0, .ref (oO t)), (1, .int a), (2, .int b)] := hl
  refine lv_aload_n hx hb dX2_compare_0 rfl (lv_at hl 0 rfl) ?_
  refine lv_iload_n hx hb dX2_compare_1 rfl (lv_at hl 1 rfl) ?_
  refine rcI (As := [.int a]) (rest := []) ⟨hx, hb, hml, hown, hts⟩ (c_X2_known l D Y t a hok) (cwV 1 hts gX2_compare_X2_known rfl rfl rfl hdX2_known ⟨Nat.le_of_ble_eq_true rfl, Nat.le_of_ble_eq_true rfl⟩) hP hK 0 3 rfl rfl rfl hl.1 rfl (Nat.le_of_ble_eq_true rfl) dX2_compare_2 ⟨(Nat.zero_le _), (Nat.zero_le _)⟩ (fun r1 hr1 => ?_)
  cases b2 : pKnown t a
  · replace hr1 : r1 = 0 := by rw [hr1, b2]; rfl
    subst hr1
    refine lv_if_eq (tgt := 16) hx hb dX2_compare_5 (by decide) (fun _ => ?_) (fun c3 => absurd (by decide) c3)
    refine lv_iconst (v := (-1)) hx hb dX2_compare_16 (by decide) ?_
    exact reI hx hb hr hlocks dX2_compare_17 (by first | (simp only [pCompare, b2, decide_true, decide_false, Bool.not_true, Bool.not_false, Bool.and_true, Bool.true_and, Bool.and_false, Bool.false_and, Bool.or_true, Bool.true_or, Bool.or_false, Bool.false_or, Bool.and_self, Bool.or_self, if_true, if_false, ite_true, ite_false, Bool.false_eq_true, reduceIte, not_true_eq_false, not_false_eq_true, and_true, true_and, and_false, false_and, or_true, true_or, or_false, false_or, and_self, or_self, eq_self, decide_eq_true_eq, Bool.true_eq_false, reduceCtorEq, ne_eq]; done) | (simp [pCompare, b2]; done))
  · replace hr1 : r1 = 1 := by rw [hr1, b2]; rfl
    subst hr1
    refine lv_if_eq (tgt := 16) hx hb dX2_compare_5 (by decide) (fun c4 => absurd c4 (by decide)) (fun _ => ?_)
    refine lv_aload_n hx hb dX2_compare_8 rfl (lv_at hl 0 rfl) ?_
    refine lv_iload_n hx hb dX2_compare_9 rfl (lv_at hl 2 rfl) ?_
    refine rcI (As := [.int b]) (rest := []) ⟨hx, hb, hml, hown, hts⟩ (c_X2_known l D Y t b hok) (cwV 1 hts gX2_compare_X2_known rfl rfl rfl hdX2_known ⟨Nat.le_of_ble_eq_true rfl, Nat.le_of_ble_eq_true rfl⟩) hP hK 0 3 rfl rfl rfl hl.1 rfl (Nat.le_of_ble_eq_true rfl) dX2_compare_10 ⟨(Nat.zero_le _), (Nat.zero_le _)⟩ (fun r5 hr5 => ?_)
    cases b6 : pKnown t b
    · replace hr5 : r5 = 0 := by rw [hr5, b6]; rfl
      subst hr5
      refine lv_if_ne (tgt := 18) hx hb dX2_compare_13 (by decide) (fun c7 => absurd (by decide) c7) (fun _ => ?_)
      refine lv_iconst (v := (-1)) hx hb dX2_compare_16 (by decide) ?_
      exact reI hx hb hr hlocks dX2_compare_17 (by first | (simp only [pCompare, b2, b6, decide_true, decide_false, Bool.not_true, Bool.not_false, Bool.and_true, Bool.true_and, Bool.and_false, Bool.false_and, Bool.or_true, Bool.true_or, Bool.or_false, Bool.false_or, Bool.and_self, Bool.or_self, if_true, if_false, ite_true, ite_false, Bool.false_eq_true, reduceIte, not_true_eq_false, not_false_eq_true, and_true, true_and, and_false, false_and, or_true, true_or, or_false, false_or, and_self, or_self, eq_self, decide_eq_true_eq, Bool.true_eq_false, reduceCtorEq, ne_eq]; done) | (simp [pCompare, b2, b6]; done))
    · replace hr5 : r5 = 1 := by rw [hr5, b6]; rfl
      subst hr5
      refine lv_if_ne (tgt := 18) hx hb dX2_compare_13 (by decide) (fun _ => ?_) (fun c8 => absurd c8 (by decide))
      refine lv_aload_n hx hb dX2_compare_18 rfl (lv_at hl 0 rfl) ?_
      refine va_get (D := D) (ci := 3) (v := .ref (oH t 0)) (C := RX2) (T := TX2) (N := 10) hx hb hts iwX2 hown hK hP 0 rfl rfl 0 (by decide) (hts (.fieldLink RX2 12 "ObjectRows" "kinds" "LObjectRows$Row;") (by decide +kernel)) (fun _ h9 => h9) rfl dX2_compare_19 ?_
      refine lv_iload_n hx hb dX2_compare_22 rfl (lv_at hl 1 rfl) ?_
      refine rcI (As := [.int a]) (rest := []) ⟨hx, hb, hml, hown, hts⟩ (c_X1_at l D Y (oH t 0) (oR t 0) a (hok 0 (by decide))) (cwV 1 hts gX2_compare_X1_at rfl rfl rfl hdX1_at ⟨Nat.le_of_ble_eq_true rfl, Nat.le_of_ble_eq_true rfl⟩) (oWr0 hP) hK 0 2 rfl rfl rfl hl.1 rfl (Nat.le_of_ble_eq_true rfl) dX2_compare_23 ⟨(Nat.zero_le _), (Nat.zero_le _)⟩ (fun r9 hr9 => ?_)
      obtain rfl : r9 = kd t a := hr9
      refine lv_iconst (v := 1) hx hb dX2_compare_26 (by decide) ?_
      refine lv_icmp_ne (tgt := 62) hx hb dX2_compare_27 (by decide) (fun c10 => ?_) (fun c10 => ?_)
      · skip
        refine lv_aload_n hx hb dX2_compare_62 rfl (lv_at hl 0 rfl) ?_
        refine lv_iload_n hx hb dX2_compare_63 rfl (lv_at hl 1 rfl) ?_
        refine rcI (As := [.int a]) (rest := []) ⟨hx, hb, hml, hown, hts⟩ (c_X2_readableString l D Y t a hok) (cwV 1 hts gX2_compare_X2_readableString rfl rfl rfl hdX2_readableString ⟨Nat.le_of_ble_eq_true rfl, Nat.le_of_ble_eq_true rfl⟩) hP hK 0 3 rfl rfl rfl hl.1 rfl (Nat.le_of_ble_eq_true rfl) dX2_compare_64 ⟨(Nat.zero_le _), (Nat.zero_le _)⟩ (fun r11 hr11 => ?_)
        cases b12 : pRStr t a
        · replace hr11 : r11 = 0 := by rw [hr11, b12]; rfl
          subst hr11
          refine lv_if_eq (tgt := 85) hx hb dX2_compare_67 (by decide) (fun _ => ?_) (fun c13 => absurd (by decide) c13)
          refine lv_bipush (v := (-3)) hx hb dX2_compare_85 (by decide) ?_
          exact reI hx hb hr hlocks dX2_compare_87 (by first | (simp only [pCompare, b2, b6, c10, b12, decide_true, decide_false, Bool.not_true, Bool.not_false, Bool.and_true, Bool.true_and, Bool.and_false, Bool.false_and, Bool.or_true, Bool.true_or, Bool.or_false, Bool.false_or, Bool.and_self, Bool.or_self, if_true, if_false, ite_true, ite_false, Bool.false_eq_true, reduceIte, not_true_eq_false, not_false_eq_true, and_true, true_and, and_false, false_and, or_true, true_or, or_false, false_or, and_self, or_self, eq_self, decide_eq_true_eq, Bool.true_eq_false, reduceCtorEq, ne_eq]; done) | (simp [pCompare, b2, b6, c10, b12]; done))
        · replace hr11 : r11 = 1 := by rw [hr11, b12]; rfl
          subst hr11
          refine lv_if_eq (tgt := 85) hx hb dX2_compare_67 (by decide) (fun c14 => absurd c14 (by decide)) (fun _ => ?_)
          refine lv_aload_n hx hb dX2_compare_70 rfl (lv_at hl 0 rfl) ?_
          refine lv_iload_n hx hb dX2_compare_71 rfl (lv_at hl 2 rfl) ?_
          refine rcI (As := [.int b]) (rest := []) ⟨hx, hb, hml, hown, hts⟩ (c_X2_readableString l D Y t b hok) (cwV 1 hts gX2_compare_X2_readableString rfl rfl rfl hdX2_readableString ⟨Nat.le_of_ble_eq_true rfl, Nat.le_of_ble_eq_true rfl⟩) hP hK 0 3 rfl rfl rfl hl.1 rfl (Nat.le_of_ble_eq_true rfl) dX2_compare_72 ⟨(Nat.zero_le _), (Nat.zero_le _)⟩ (fun r15 hr15 => ?_)
          cases b16 : pRStr t b
          · replace hr15 : r15 = 0 := by rw [hr15, b16]; rfl
            subst hr15
            refine lv_if_eq (tgt := 85) hx hb dX2_compare_75 (by decide) (fun _ => ?_) (fun c17 => absurd (by decide) c17)
            refine lv_bipush (v := (-3)) hx hb dX2_compare_85 (by decide) ?_
            exact reI hx hb hr hlocks dX2_compare_87 (by first | (simp only [pCompare, b2, b6, c10, b12, b16, decide_true, decide_false, Bool.not_true, Bool.not_false, Bool.and_true, Bool.true_and, Bool.and_false, Bool.false_and, Bool.or_true, Bool.true_or, Bool.or_false, Bool.false_or, Bool.and_self, Bool.or_self, if_true, if_false, ite_true, ite_false, Bool.false_eq_true, reduceIte, not_true_eq_false, not_false_eq_true, and_true, true_and, and_false, false_and, or_true, true_or, or_false, false_or, and_self, or_self, eq_self, decide_eq_true_eq, Bool.true_eq_false, reduceCtorEq, ne_eq]; done) | (simp [pCompare, b2, b6, c10, b12, b16]; done))
          · replace hr15 : r15 = 1 := by rw [hr15, b16]; rfl
            subst hr15
            refine lv_if_eq (tgt := 85) hx hb dX2_compare_75 (by decide) (fun c18 => absurd c18 (by decide)) (fun _ => ?_)
            refine lv_aload_n hx hb dX2_compare_78 rfl (lv_at hl 0 rfl) ?_
            refine lv_iload_n hx hb dX2_compare_79 rfl (lv_at hl 1 rfl) ?_
            refine lv_iload_n hx hb dX2_compare_80 rfl (lv_at hl 2 rfl) ?_
            refine rcI (As := [.int a, .int b]) (rest := []) ⟨hx, hb, hml, hown, hts⟩ (c_X2_orderOfBytes l D Y t a b hok) (cwV 2 hts gX2_compare_X2_orderOfBytes rfl rfl rfl hdX2_orderOfBytes ⟨Nat.le_of_ble_eq_true rfl, Nat.le_of_ble_eq_true rfl⟩) hP hK 0 3 rfl rfl rfl hl.1 rfl (Nat.le_of_ble_eq_true rfl) dX2_compare_81 ⟨(Nat.zero_le _), (Nat.zero_le _)⟩ (fun r19 hr19 => ?_)
            obtain rfl : r19 = pOrdB t a b := hr19
            exact reI hx hb hr hlocks dX2_compare_84 (by first | (simp only [pCompare, b2, b6, c10, b12, b16, decide_true, decide_false, Bool.not_true, Bool.not_false, Bool.and_true, Bool.true_and, Bool.and_false, Bool.false_and, Bool.or_true, Bool.true_or, Bool.or_false, Bool.false_or, Bool.and_self, Bool.or_self, if_true, if_false, ite_true, ite_false, Bool.false_eq_true, reduceIte, not_true_eq_false, not_false_eq_true, and_true, true_and, and_false, false_and, or_true, true_or, or_false, false_or, and_self, or_self, eq_self, decide_eq_true_eq, Bool.true_eq_false, reduceCtorEq, ne_eq]; done) | (simp [pCompare, b2, b6, c10, b12, b16]; done))
      · skip
        refine lv_aload_n hx hb dX2_compare_30 rfl (lv_at hl 0 rfl) ?_
        refine va_get (D := D) (ci := 3) (v := .ref (oH t 0)) (C := RX2) (T := TX2) (N := 10) hx hb hts iwX2 hown hK hP 0 rfl rfl 0 (by decide) (hts (.fieldLink RX2 12 "ObjectRows" "kinds" "LObjectRows$Row;") (by decide +kernel)) (fun _ h9 => h9) rfl dX2_compare_31 ?_
        refine lv_iload_n hx hb dX2_compare_34 rfl (lv_at hl 2 rfl) ?_
        refine rcI (As := [.int b]) (rest := []) ⟨hx, hb, hml, hown, hts⟩ (c_X1_at l D Y (oH t 0) (oR t 0) b (hok 0 (by decide))) (cwV 1 hts gX2_compare_X1_at rfl rfl rfl hdX1_at ⟨Nat.le_of_ble_eq_true rfl, Nat.le_of_ble_eq_true rfl⟩) (oWr0 hP) hK 0 2 rfl rfl rfl hl.1 rfl (Nat.le_of_ble_eq_true rfl) dX2_compare_35 ⟨(Nat.zero_le _), (Nat.zero_le _)⟩ (fun r20 hr20 => ?_)
        obtain rfl : r20 = kd t b := hr20
        refine lv_iconst (v := 1) hx hb dX2_compare_38 (by decide) ?_
        refine lv_icmp_ne (tgt := 62) hx hb dX2_compare_39 (by decide) (fun c21 => ?_) (fun c21 => ?_)
        · skip
          refine lv_aload_n hx hb dX2_compare_62 rfl (lv_at hl 0 rfl) ?_
          refine lv_iload_n hx hb dX2_compare_63 rfl (lv_at hl 1 rfl) ?_
          refine rcI (As := [.int a]) (rest := []) ⟨hx, hb, hml, hown, hts⟩ (c_X2_readableString l D Y t a hok) (cwV 1 hts gX2_compare_X2_readableString rfl rfl rfl hdX2_readableString ⟨Nat.le_of_ble_eq_true rfl, Nat.le_of_ble_eq_true rfl⟩) hP hK 0 3 rfl rfl rfl hl.1 rfl (Nat.le_of_ble_eq_true rfl) dX2_compare_64 ⟨(Nat.zero_le _), (Nat.zero_le _)⟩ (fun r22 hr22 => ?_)
          cases b23 : pRStr t a
          · replace hr22 : r22 = 0 := by rw [hr22, b23]; rfl
            subst hr22
            refine lv_if_eq (tgt := 85) hx hb dX2_compare_67 (by decide) (fun _ => ?_) (fun c24 => absurd (by decide) c24)
            refine lv_bipush (v := (-3)) hx hb dX2_compare_85 (by decide) ?_
            exact reI hx hb hr hlocks dX2_compare_87 (by first | (simp only [pCompare, b2, b6, c10, c21, b23, decide_true, decide_false, Bool.not_true, Bool.not_false, Bool.and_true, Bool.true_and, Bool.and_false, Bool.false_and, Bool.or_true, Bool.true_or, Bool.or_false, Bool.false_or, Bool.and_self, Bool.or_self, if_true, if_false, ite_true, ite_false, Bool.false_eq_true, reduceIte, not_true_eq_false, not_false_eq_true, and_true, true_and, and_false, false_and, or_true, true_or, or_false, false_or, and_self, or_self, eq_self, decide_eq_true_eq, Bool.true_eq_false, reduceCtorEq, ne_eq]; done) | (simp [pCompare, b2, b6, c10, c21, b23]; done))
          · replace hr22 : r22 = 1 := by rw [hr22, b23]; rfl
            subst hr22
            refine lv_if_eq (tgt := 85) hx hb dX2_compare_67 (by decide) (fun c25 => absurd c25 (by decide)) (fun _ => ?_)
            refine lv_aload_n hx hb dX2_compare_70 rfl (lv_at hl 0 rfl) ?_
            refine lv_iload_n hx hb dX2_compare_71 rfl (lv_at hl 2 rfl) ?_
            refine rcI (As := [.int b]) (rest := []) ⟨hx, hb, hml, hown, hts⟩ (c_X2_readableString l D Y t b hok) (cwV 1 hts gX2_compare_X2_readableString rfl rfl rfl hdX2_readableString ⟨Nat.le_of_ble_eq_true rfl, Nat.le_of_ble_eq_true rfl⟩) hP hK 0 3 rfl rfl rfl hl.1 rfl (Nat.le_of_ble_eq_true rfl) dX2_compare_72 ⟨(Nat.zero_le _), (Nat.zero_le _)⟩ (fun r26 hr26 => ?_)
            cases b27 : pRStr t b
            · replace hr26 : r26 = 0 := by rw [hr26, b27]; rfl
              subst hr26
              refine lv_if_eq (tgt := 85) hx hb dX2_compare_75 (by decide) (fun _ => ?_) (fun c28 => absurd (by decide) c28)
              refine lv_bipush (v := (-3)) hx hb dX2_compare_85 (by decide) ?_
              exact reI hx hb hr hlocks dX2_compare_87 (by first | (simp only [pCompare, b2, b6, c10, c21, b23, b27, decide_true, decide_false, Bool.not_true, Bool.not_false, Bool.and_true, Bool.true_and, Bool.and_false, Bool.false_and, Bool.or_true, Bool.true_or, Bool.or_false, Bool.false_or, Bool.and_self, Bool.or_self, if_true, if_false, ite_true, ite_false, Bool.false_eq_true, reduceIte, not_true_eq_false, not_false_eq_true, and_true, true_and, and_false, false_and, or_true, true_or, or_false, false_or, and_self, or_self, eq_self, decide_eq_true_eq, Bool.true_eq_false, reduceCtorEq, ne_eq]; done) | (simp [pCompare, b2, b6, c10, c21, b23, b27]; done))
            · replace hr26 : r26 = 1 := by rw [hr26, b27]; rfl
              subst hr26
              refine lv_if_eq (tgt := 85) hx hb dX2_compare_75 (by decide) (fun c29 => absurd c29 (by decide)) (fun _ => ?_)
              refine lv_aload_n hx hb dX2_compare_78 rfl (lv_at hl 0 rfl) ?_
              refine lv_iload_n hx hb dX2_compare_79 rfl (lv_at hl 1 rfl) ?_
              refine lv_iload_n hx hb dX2_compare_80 rfl (lv_at hl 2 rfl) ?_
              refine rcI (As := [.int a, .int b]) (rest := []) ⟨hx, hb, hml, hown, hts⟩ (c_X2_orderOfBytes l D Y t a b hok) (cwV 2 hts gX2_compare_X2_orderOfBytes rfl rfl rfl hdX2_orderOfBytes ⟨Nat.le_of_ble_eq_true rfl, Nat.le_of_ble_eq_true rfl⟩) hP hK 0 3 rfl rfl rfl hl.1 rfl (Nat.le_of_ble_eq_true rfl) dX2_compare_81 ⟨(Nat.zero_le _), (Nat.zero_le _)⟩ (fun r30 hr30 => ?_)
              obtain rfl : r30 = pOrdB t a b := hr30
              exact reI hx hb hr hlocks dX2_compare_84 (by first | (simp only [pCompare, b2, b6, c10, c21, b23, b27, decide_true, decide_false, Bool.not_true, Bool.not_false, Bool.and_true, Bool.true_and, Bool.and_false, Bool.false_and, Bool.or_true, Bool.true_or, Bool.or_false, Bool.false_or, Bool.and_self, Bool.or_self, if_true, if_false, ite_true, ite_false, Bool.false_eq_true, reduceIte, not_true_eq_false, not_false_eq_true, and_true, true_and, and_false, false_and, or_true, true_or, or_false, false_or, and_self, or_self, eq_self, decide_eq_true_eq, Bool.true_eq_false, reduceCtorEq, ne_eq]; done) | (simp [pCompare, b2, b6, c10, c21, b23, b27]; done))
        · skip
          refine lv_aload_n hx hb dX2_compare_42 rfl (lv_at hl 0 rfl) ?_
          refine va_get (D := D) (ci := 3) (v := .ref (oH t 1)) (C := RX2) (T := TX2) (N := 10) hx hb hts iwX2 hown hK hP 0 rfl rfl 1 (by decide) (hts (.fieldLink RX2 16 "ObjectRows" "numbers" "LObjectRows$Row;") (by decide +kernel)) (fun _ h9 => h9) rfl dX2_compare_43 ?_
          refine lv_iload_n hx hb dX2_compare_46 rfl (lv_at hl 1 rfl) ?_
          refine rcI (As := [.int a]) (rest := []) ⟨hx, hb, hml, hown, hts⟩ (c_X1_at l D Y (oH t 1) (oR t 1) a (hok 1 (by decide))) (cwV 1 hts gX2_compare_X1_at rfl rfl rfl hdX1_at ⟨Nat.le_of_ble_eq_true rfl, Nat.le_of_ble_eq_true rfl⟩) (oWr1 hP) hK 0 2 rfl rfl rfl hl.1 rfl (Nat.le_of_ble_eq_true rfl) dX2_compare_47 ⟨(Nat.zero_le _), (Nat.zero_le _)⟩ (fun r31 hr31 => ?_)
          obtain rfl : r31 = nu t a := hr31
          refine lv_aload_n hx hb dX2_compare_50 rfl (lv_at hl 0 rfl) ?_
          refine va_get (D := D) (ci := 3) (v := .ref (oH t 1)) (C := RX2) (T := TX2) (N := 10) hx hb hts iwX2 hown hK hP 0 rfl rfl 1 (by decide) (hts (.fieldLink RX2 16 "ObjectRows" "numbers" "LObjectRows$Row;") (by decide +kernel)) (fun _ h9 => h9) rfl dX2_compare_51 ?_
          refine lv_iload_n hx hb dX2_compare_54 rfl (lv_at hl 2 rfl) ?_
          refine rcI (As := [.int b]) (rest := [.int (nu t a)]) ⟨hx, hb, hml, hown, hts⟩ (c_X1_at l D Y (oH t 1) (oR t 1) b (hok 1 (by decide))) (cwV 1 hts gX2_compare_X1_at rfl rfl rfl hdX1_at ⟨Nat.le_of_ble_eq_true rfl, Nat.le_of_ble_eq_true rfl⟩) (oWr1 hP) hK 0 2 rfl rfl rfl hl.1 rfl (Nat.le_of_ble_eq_true rfl) dX2_compare_55 ⟨(Nat.zero_le _), (Nat.zero_le _)⟩ (fun r32 hr32 => ?_)
          obtain rfl : r32 = nu t b := hr32
          refine scI (As := [.int (nu t a), .int (nu t b)]) (rest := []) ⟨hx, hb, hml, hown, hts⟩ (c_X2_order l (nu t a) (nu t b)) (va_cwS 2 hts gX2_compare_X2_order rfl rfl rfl hdX2_order ⟨Nat.le_of_ble_eq_true rfl, Nat.le_of_ble_eq_true rfl⟩) rfl hl.1 rfl (Nat.le_of_ble_eq_true rfl) dX2_compare_58 ⟨(Nat.zero_le _), (Nat.zero_le _)⟩ (fun r33 hr33 => ?_)
          obtain rfl : r33 = pOrder (nu t a) (nu t b) := hr33
          exact reI hx hb hr hlocks dX2_compare_61 (by first | (simp only [pCompare, b2, b6, c10, c21, decide_true, decide_false, Bool.not_true, Bool.not_false, Bool.and_true, Bool.true_and, Bool.and_false, Bool.false_and, Bool.or_true, Bool.true_or, Bool.or_false, Bool.false_or, Bool.and_self, Bool.or_self, if_true, if_false, ite_true, ite_false, Bool.false_eq_true, reduceIte, not_true_eq_false, not_false_eq_true, and_true, true_and, and_false, false_and, or_true, true_or, or_false, false_or, and_self, or_self, eq_self, decide_eq_true_eq, Bool.true_eq_false, reduceCtorEq, ne_eq]; done) | (simp [pCompare, b2, b6, c10, c21]; done))
theorem hdX2_compare : yX2_compare.cls = RX2 ∧ yX2_compare.cls ≠ "java/lang/invoke/MethodHandle" ∧ yX2_compare.cls ≠ "java/lang/invoke/VarHandle" ∧ (parseMethodDescriptor yX2_compare.desc).map (fun d => d.parameters.length) = some 2 := by decide +kernel
set_option maxHeartbeats 4000000 in
set_option maxRecDepth 100000 in
theorem c_X2_length (l : Launch) (D : va_G) (Y : Nat → ClassId) (t : OS) (x : Int32) (hok : oOK t) : Met l yX2_length wsX2_length ({ frames := 1, cells := 0, slots := 0, locals := 21 }) (rdPc D Y [.ref (oO t), .int x] (oW Y t)) (vp_Si (fun ans => ans = pLength t x)) 0 0 (fun _ => False) := by
  refine rdOf (cc := cX2_length) (maxL := 2) (ret := (some .int)) (own := RX2) (by decide) rfl rfl (Nat.le_of_ble_eq_true rfl) ?_
  intro p e s m below meth c ls hx hb hr hts hown hml hlocks hP hK hl
  have iwX0 : ∀ w ∈ u_ws RX0 TX0 7, w ∈ wsX2_length := fun _ h => List.mem_cons_of_mem _ (List.mem_append_left _ (List.mem_append_right _ h))
  have iwX2 : ∀ w ∈ u_ws RX2 TX2 10, w ∈ wsX2_length := fun _ h => List.mem_cons_of_mem _ (List.mem_append_left _ (List.mem_append_left _ (List.mem_append_right _ h)))
  have hl : lv_has ls 2 [(0, .ref (oO t)), (1, .int x)] := hl
  refine lv_aload_n hx hb dX2_length_0 rfl (lv_at hl 0 rfl) ?_
  refine lv_iload_n hx hb dX2_length_1 rfl (lv_at hl 1 rfl) ?_
  refine rcI (As := [.int x]) (rest := []) ⟨hx, hb, hml, hown, hts⟩ (c_X2_known l D Y t x hok) (cwV 1 hts gX2_length_X2_known rfl rfl rfl hdX2_known ⟨Nat.le_of_ble_eq_true rfl, Nat.le_of_ble_eq_true rfl⟩) hP hK 0 3 rfl rfl rfl hl.1 rfl (Nat.le_of_ble_eq_true rfl) dX2_length_2 ⟨(Nat.zero_le _), (Nat.zero_le _)⟩ (fun r1 hr1 => ?_)
  cases b2 : pKnown t x
  · replace hr1 : r1 = 0 := by rw [hr1, b2]; rfl
    subst hr1
    refine lv_if_ne (tgt := 10) hx hb dX2_length_5 (by decide) (fun c3 => absurd (by decide) c3) (fun _ => ?_)
    refine lv_iconst (v := (-1)) hx hb dX2_length_8 (by decide) ?_
    exact reI hx hb hr hlocks dX2_length_9 (by first | (simp only [pLength, b2, decide_true, decide_false, Bool.not_true, Bool.not_false, Bool.and_true, Bool.true_and, Bool.and_false, Bool.false_and, Bool.or_true, Bool.true_or, Bool.or_false, Bool.false_or, Bool.and_self, Bool.or_self, if_true, if_false, ite_true, ite_false, Bool.false_eq_true, reduceIte, not_true_eq_false, not_false_eq_true, and_true, true_and, and_false, false_and, or_true, true_or, or_false, false_or, and_self, or_self, eq_self, decide_eq_true_eq, Bool.true_eq_false, reduceCtorEq, ne_eq]; done) | (simp [pLength, b2]; done))
  · replace hr1 : r1 = 1 := by rw [hr1, b2]; rfl
    subst hr1
    refine lv_if_ne (tgt := 10) hx hb dX2_length_5 (by decide) (fun _ => ?_) (fun c4 => absurd c4 (by decide))
    refine lv_aload_n hx hb dX2_length_10 rfl (lv_at hl 0 rfl) ?_
    refine va_get (D := D) (ci := 3) (v := .ref (oH t 0)) (C := RX2) (T := TX2) (N := 10) hx hb hts iwX2 hown hK hP 0 rfl rfl 0 (by decide) (hts (.fieldLink RX2 12 "ObjectRows" "kinds" "LObjectRows$Row;") (by decide +kernel)) (fun _ h9 => h9) rfl dX2_length_11 ?_
    refine lv_iload_n hx hb dX2_length_14 rfl (lv_at hl 1 rfl) ?_
    refine rcI (As := [.int x]) (rest := []) ⟨hx, hb, hml, hown, hts⟩ (c_X1_at l D Y (oH t 0) (oR t 0) x (hok 0 (by decide))) (cwV 1 hts gX2_length_X1_at rfl rfl rfl hdX1_at ⟨Nat.le_of_ble_eq_true rfl, Nat.le_of_ble_eq_true rfl⟩) (oWr0 hP) hK 0 2 rfl rfl rfl hl.1 rfl (Nat.le_of_ble_eq_true rfl) dX2_length_15 ⟨(Nat.zero_le _), (Nat.zero_le _)⟩ (fun r5 hr5 => ?_)
    obtain rfl : r5 = kd t x := hr5
    by_cases c6 : kd t x = 3
    · refine lv_tableIn (off := 34) (tgt := 52) hx hb dX2_length_18 (by rw [c6]; decide) (by rw [c6]; decide) (by rw [c6]; decide) (by decide) ?_
      refine lv_aload_n hx hb dX2_length_52 rfl (lv_at hl 0 rfl) ?_
      refine va_get (D := D) (ci := 3) (v := .ref (oH t 1)) (C := RX2) (T := TX2) (N := 10) hx hb hts iwX2 hown hK hP 0 rfl rfl 1 (by decide) (hts (.fieldLink RX2 16 "ObjectRows" "numbers" "LObjectRows$Row;") (by decide +kernel)) (fun _ h9 => h9) rfl dX2_length_53 ?_
      refine lv_iload_n hx hb dX2_length_56 rfl (lv_at hl 1 rfl) ?_
      refine rcI (As := [.int x]) (rest := []) ⟨hx, hb, hml, hown, hts⟩ (c_X1_at l D Y (oH t 1) (oR t 1) x (hok 1 (by decide))) (cwV 1 hts gX2_length_X1_at rfl rfl rfl hdX1_at ⟨Nat.le_of_ble_eq_true rfl, Nat.le_of_ble_eq_true rfl⟩) (oWr1 hP) hK 0 2 rfl rfl rfl hl.1 rfl (Nat.le_of_ble_eq_true rfl) dX2_length_57 ⟨(Nat.zero_le _), (Nat.zero_le _)⟩ (fun r7 hr7 => ?_)
      obtain rfl : r7 = nu t x := hr7
      refine scI (As := [.int (nu t x)]) (rest := []) ⟨hx, hb, hml, hown, hts⟩ (c_X2_digits l (nu t x)) (va_cwS 1 hts gX2_length_X2_digits rfl rfl rfl hdX2_digits ⟨Nat.le_of_ble_eq_true rfl, Nat.le_of_ble_eq_true rfl⟩) rfl hl.1 rfl (Nat.le_of_ble_eq_true rfl) dX2_length_60 ⟨(Nat.zero_le _), (Nat.zero_le _)⟩ (fun r8 hr8 => ?_)
      obtain rfl : r8 = pDigits (nu t x) := hr8
      exact reI hx hb hr hlocks dX2_length_63 (by first | (simp only [pLength, b2, c6, decide_true, decide_false, Bool.not_true, Bool.not_false, Bool.and_true, Bool.true_and, Bool.and_false, Bool.false_and, Bool.or_true, Bool.true_or, Bool.or_false, Bool.false_or, Bool.and_self, Bool.or_self, if_true, if_false, ite_true, ite_false, Bool.false_eq_true, reduceIte, not_true_eq_false, not_false_eq_true, and_true, true_and, and_false, false_and, or_true, true_or, or_false, false_or, and_self, or_self, eq_self, decide_eq_true_eq, Bool.true_eq_false, reduceCtorEq, ne_eq]; done) | (simp [pLength, b2, c6]; done))
    by_cases c9 : kd t x = 4 ∨ kd t x = 5 ∨ kd t x = 6
    · refine lv_tableIn (off := 46) (tgt := 64) hx hb dX2_length_18 (by rcases c9 with c9 | c9 | c9 <;> rw [c9] <;> decide) (by rcases c9 with c9 | c9 | c9 <;> rw [c9] <;> decide) (by rcases c9 with c9 | c9 | c9 <;> rw [c9] <;> decide) (by decide) ?_
      refine lv_aload_n hx hb dX2_length_64 rfl (lv_at hl 0 rfl) ?_
      refine va_get (D := D) (ci := 3) (v := .ref (oH t 4)) (C := RX2) (T := TX2) (N := 10) hx hb hts iwX2 hown hK hP 0 rfl rfl 4 (by decide) (hts (.fieldLink RX2 25 "ObjectRows" "lengths" "LObjectRows$Row;") (by decide +kernel)) (fun _ h9 => h9) rfl dX2_length_65 ?_
      refine lv_iload_n hx hb dX2_length_68 rfl (lv_at hl 1 rfl) ?_
      refine rcI (As := [.int x]) (rest := []) ⟨hx, hb, hml, hown, hts⟩ (c_X1_at l D Y (oH t 4) (oR t 4) x (hok 4 (by decide))) (cwV 1 hts gX2_length_X1_at rfl rfl rfl hdX1_at ⟨Nat.le_of_ble_eq_true rfl, Nat.le_of_ble_eq_true rfl⟩) (oWr4 hP) hK 0 2 rfl rfl rfl hl.1 rfl (Nat.le_of_ble_eq_true rfl) dX2_length_69 ⟨(Nat.zero_le _), (Nat.zero_le _)⟩ (fun r10 hr10 => ?_)
      obtain rfl : r10 = len t x := hr10
      exact reI hx hb hr hlocks dX2_length_72 (by first | (simp only [pLength, b2, c6, c9, decide_true, decide_false, Bool.not_true, Bool.not_false, Bool.and_true, Bool.true_and, Bool.and_false, Bool.false_and, Bool.or_true, Bool.true_or, Bool.or_false, Bool.false_or, Bool.and_self, Bool.or_self, if_true, if_false, ite_true, ite_false, Bool.false_eq_true, reduceIte, not_true_eq_false, not_false_eq_true, and_true, true_and, and_false, false_and, or_true, true_or, or_false, false_or, and_self, or_self, eq_self, decide_eq_true_eq, Bool.true_eq_false, reduceCtorEq, ne_eq]; done) | (simp [pLength, b2, c6, c9]; done))
    by_cases c11 : kd t x = 7
    · refine lv_tableIn (off := 55) (tgt := 73) hx hb dX2_length_18 (by rw [c11]; decide) (by rw [c11]; decide) (by rw [c11]; decide) (by decide) ?_
      refine lv_aload_n hx hb dX2_length_73 rfl (lv_at hl 0 rfl) ?_
      refine va_get (D := D) (ci := 3) (v := .ref (oNow t)) (C := RX2) (T := TX2) (N := 10) hx hb hts iwX2 hown hK hP 0 rfl rfl 6 (by decide) (hts (.fieldLink RX2 34 "ObjectRows" "now" "LObjectRows$Changing;") (by decide +kernel)) (fun _ h9 => h9) rfl dX2_length_74 ?_
      refine va_get (D := D) (ci := 1) (v := .ref (oH t 9)) (C := RX0) (T := TX0) (N := 7) hx hb hts iwX0 hown hK hP 1 rfl rfl 3 (by decide) (hts (.fieldLink RX2 159 "ObjectRows$Changing" "entries" "LObjectRows$Row;") (by decide +kernel)) (fun _ h9 => h9) rfl dX2_length_77 ?_
      refine lv_aload_n hx hb dX2_length_80 rfl (lv_at hl 0 rfl) ?_
      refine va_get (D := D) (ci := 3) (v := .ref (oH t 2)) (C := RX2) (T := TX2) (N := 10) hx hb hts iwX2 hown hK hP 0 rfl rfl 2 (by decide) (hts (.fieldLink RX2 19 "ObjectRows" "owners" "LObjectRows$Row;") (by decide +kernel)) (fun _ h9 => h9) rfl dX2_length_81 ?_
      refine lv_iload_n hx hb dX2_length_84 rfl (lv_at hl 1 rfl) ?_
      refine rcI (As := [.int x]) (rest := [.ref (oH t 9)]) ⟨hx, hb, hml, hown, hts⟩ (c_X1_at l D Y (oH t 2) (oR t 2) x (hok 2 (by decide))) (cwV 1 hts gX2_length_X1_at rfl rfl rfl hdX1_at ⟨Nat.le_of_ble_eq_true rfl, Nat.le_of_ble_eq_true rfl⟩) (oWr2 hP) hK 0 2 rfl rfl rfl hl.1 rfl (Nat.le_of_ble_eq_true rfl) dX2_length_85 ⟨(Nat.zero_le _), (Nat.zero_le _)⟩ (fun r12 hr12 => ?_)
      obtain rfl : r12 = ow t x := hr12
      refine rcI (As := [.int (ow t x)]) (rest := []) ⟨hx, hb, hml, hown, hts⟩ (c_X1_at l D Y (oH t 9) (oR t 9) (ow t x) (hok 9 (by decide))) (cwV 1 hts gX2_length_X1_at rfl rfl rfl hdX1_at ⟨Nat.le_of_ble_eq_true rfl, Nat.le_of_ble_eq_true rfl⟩) (oWr9 hP) hK 0 2 rfl rfl rfl hl.1 rfl (Nat.le_of_ble_eq_true rfl) dX2_length_88 ⟨(Nat.zero_le _), (Nat.zero_le _)⟩ (fun r13 hr13 => ?_)
      obtain rfl : r13 = rdN t (ow t x) := hr13
      exact reI hx hb hr hlocks dX2_length_91 (by first | (simp only [pLength, b2, c6, c9, c11, decide_true, decide_false, Bool.not_true, Bool.not_false, Bool.and_true, Bool.true_and, Bool.and_false, Bool.false_and, Bool.or_true, Bool.true_or, Bool.or_false, Bool.false_or, Bool.and_self, Bool.or_self, if_true, if_false, ite_true, ite_false, Bool.false_eq_true, reduceIte, not_true_eq_false, not_false_eq_true, and_true, true_and, and_false, false_and, or_true, true_or, or_false, false_or, and_self, or_self, eq_self, decide_eq_true_eq, Bool.true_eq_false, reduceCtorEq, ne_eq]; done) | (simp [pLength, b2, c6, c9, c11]; done))
    refine lv_tableD (tgt := 92) hx hb dX2_length_18 (tblD (ks := [3, 4, 5, 6, 7]) (by decide) (List.forall_mem_cons.mpr ⟨neI c6 (by decide), (List.forall_mem_cons.mpr ⟨neI (fun h9 => c9 (Or.inl h9)) (by decide), (List.forall_mem_cons.mpr ⟨neI (fun h9 => c9 (Or.inr (Or.inl h9))) (by decide), (List.forall_mem_cons.mpr ⟨neI (fun h9 => c9 (Or.inr (Or.inr (h9)))) (by decide), (List.forall_mem_cons.mpr ⟨neI c11 (by decide), (fun _ h => absurd h List.not_mem_nil)⟩)⟩)⟩)⟩)⟩) (by decide)) (by decide) ?_
    refine lv_bipush (v := (-3)) hx hb dX2_length_92 (by decide) ?_
    exact reI hx hb hr hlocks dX2_length_94 (by first | (simp only [pLength, b2, c6, c9, c11, decide_true, decide_false, Bool.not_true, Bool.not_false, Bool.and_true, Bool.true_and, Bool.and_false, Bool.false_and, Bool.or_true, Bool.true_or, Bool.or_false, Bool.false_or, Bool.and_self, Bool.or_self, if_true, if_false, ite_true, ite_false, Bool.false_eq_true, reduceIte, not_true_eq_false, not_false_eq_true, and_true, true_and, and_false, false_and, or_true, true_or, or_false, false_or, and_self, or_self, eq_self, decide_eq_true_eq, Bool.true_eq_false, reduceCtorEq, ne_eq]; done) | (simp [pLength, b2, c6, c9, c11]; done))
theorem hdX2_length : yX2_length.cls = RX2 ∧ yX2_length.cls ≠ "java/lang/invoke/MethodHandle" ∧ yX2_length.cls ≠ "java/lang/invoke/VarHandle" ∧ (parseMethodDescriptor yX2_length.desc).map (fun d => d.parameters.length) = some 1 := by decide +kernel
set_option maxHeartbeats 4000000 in
set_option maxRecDepth 100000 in
theorem c_X2_look (l : Launch) (D : va_G) (Y : Nat → ClassId) (t : OS) (d : Int32) (k : Int32) (hok : oOK t) : Met l yX2_look wsX2_look ({ frames := 6, cells := 0, slots := 0, locals := 128 }) (rdPc D Y [.ref (oO t), .int d, .int k] (oW Y t)) (vp_Si (fun ans => ans = pLook t d k)) 0 0 (fun _ => False) := by
  refine rdOf (cc := cX2_look) (maxL := 5) (ret := (some .int)) (own := RX2) (by decide) rfl rfl (Nat.le_of_ble_eq_true rfl) ?_
  intro p e s m below meth c ls hx hb hr hts hown hml hlocks hP hK hl
  have iwX0 : ∀ w ∈ u_ws RX0 TX0 7, w ∈ wsX2_look := fun _ h => List.mem_cons_of_mem _ (List.mem_append_left _ (List.mem_append_right _ h))
  have iwX2 : ∀ w ∈ u_ws RX2 TX2 10, w ∈ wsX2_look := fun _ h => List.mem_cons_of_mem _ (List.mem_append_left _ (List.mem_append_left _ (List.mem_append_right _ h)))
  have hl : lv_has ls 5 [(0, .ref (oO t)), (1, .int d), (2, .int k)] := hl
  refine lv_aload_n hx hb dX2_look_0 rfl (lv_at hl 0 rfl) ?_
  refine lv_iload_n hx hb dX2_look_1 rfl (lv_at hl 1 rfl) ?_
  refine rcI (As := [.int d]) (rest := []) ⟨hx, hb, hml, hown, hts⟩ (c_X2_known l D Y t d hok) (cwV 1 hts gX2_look_X2_known rfl rfl rfl hdX2_known ⟨Nat.le_of_ble_eq_true rfl, Nat.le_of_ble_eq_true rfl⟩) hP hK 0 3 rfl rfl rfl hl.1 rfl (Nat.le_of_ble_eq_true rfl) dX2_look_2 ⟨(Nat.zero_le _), (Nat.zero_le _)⟩ (fun r1 hr1 => ?_)
  cases b2 : pKnown t d
  · replace hr1 : r1 = 0 := by rw [hr1, b2]; rfl
    subst hr1
    refine lv_if_eq (tgt := 16) hx hb dX2_look_5 (by decide) (fun _ => ?_) (fun c3 => absurd (by decide) c3)
    refine lv_iconst (v := (-1)) hx hb dX2_look_16 (by decide) ?_
    exact reI hx hb hr hlocks dX2_look_17 (by first | (simp only [pLook, b2, decide_true, decide_false, Bool.not_true, Bool.not_false, Bool.and_true, Bool.true_and, Bool.and_false, Bool.false_and, Bool.or_true, Bool.true_or, Bool.or_false, Bool.false_or, Bool.and_self, Bool.or_self, if_true, if_false, ite_true, ite_false, Bool.false_eq_true, reduceIte, not_true_eq_false, not_false_eq_true, and_true, true_and, and_false, false_and, or_true, true_or, or_false, false_or, and_self, or_self, eq_self, decide_eq_true_eq, Bool.true_eq_false, reduceCtorEq, ne_eq]; done) | (simp [pLook, b2]; done))
  · replace hr1 : r1 = 1 := by rw [hr1, b2]; rfl
    subst hr1
    refine lv_if_eq (tgt := 16) hx hb dX2_look_5 (by decide) (fun c4 => absurd c4 (by decide)) (fun _ => ?_)
    refine lv_aload_n hx hb dX2_look_8 rfl (lv_at hl 0 rfl) ?_
    refine lv_iload_n hx hb dX2_look_9 rfl (lv_at hl 2 rfl) ?_
    refine rcI (As := [.int k]) (rest := []) ⟨hx, hb, hml, hown, hts⟩ (c_X2_known l D Y t k hok) (cwV 1 hts gX2_look_X2_known rfl rfl rfl hdX2_known ⟨Nat.le_of_ble_eq_true rfl, Nat.le_of_ble_eq_true rfl⟩) hP hK 0 3 rfl rfl rfl hl.1 rfl (Nat.le_of_ble_eq_true rfl) dX2_look_10 ⟨(Nat.zero_le _), (Nat.zero_le _)⟩ (fun r5 hr5 => ?_)
    cases b6 : pKnown t k
    · replace hr5 : r5 = 0 := by rw [hr5, b6]; rfl
      subst hr5
      refine lv_if_ne (tgt := 18) hx hb dX2_look_13 (by decide) (fun c7 => absurd (by decide) c7) (fun _ => ?_)
      refine lv_iconst (v := (-1)) hx hb dX2_look_16 (by decide) ?_
      exact reI hx hb hr hlocks dX2_look_17 (by first | (simp only [pLook, b2, b6, decide_true, decide_false, Bool.not_true, Bool.not_false, Bool.and_true, Bool.true_and, Bool.and_false, Bool.false_and, Bool.or_true, Bool.true_or, Bool.or_false, Bool.false_or, Bool.and_self, Bool.or_self, if_true, if_false, ite_true, ite_false, Bool.false_eq_true, reduceIte, not_true_eq_false, not_false_eq_true, and_true, true_and, and_false, false_and, or_true, true_or, or_false, false_or, and_self, or_self, eq_self, decide_eq_true_eq, Bool.true_eq_false, reduceCtorEq, ne_eq]; done) | (simp [pLook, b2, b6]; done))
    · replace hr5 : r5 = 1 := by rw [hr5, b6]; rfl
      subst hr5
      refine lv_if_ne (tgt := 18) hx hb dX2_look_13 (by decide) (fun _ => ?_) (fun c8 => absurd c8 (by decide))
      refine lv_aload_n hx hb dX2_look_18 rfl (lv_at hl 0 rfl) ?_
      refine lv_iload_n hx hb dX2_look_19 rfl (lv_at hl 2 rfl) ?_
      refine rcI (As := [.int k]) (rest := []) ⟨hx, hb, hml, hown, hts⟩ (c_X2_keyFor l D Y t k hok) (cwV 1 hts gX2_look_X2_keyFor rfl rfl rfl hdX2_keyFor ⟨Nat.le_of_ble_eq_true rfl, Nat.le_of_ble_eq_true rfl⟩) hP hK 0 3 rfl rfl rfl hl.1 rfl (Nat.le_of_ble_eq_true rfl) dX2_look_20 ⟨(Nat.zero_le _), (Nat.zero_le _)⟩ (fun r9 hr9 => ?_)
      obtain rfl : r9 = pKeyFor t k := hr9
      refine lv_istore_n (lv' := [(3, .int (pKeyFor t k)), (0, .ref (oO t)), (1, .int d), (2, .int k)]) hx hb dX2_look_23 rfl hl (by decide) rfl (fun ls hl => ?_)
      refine lv_aload_n hx hb dX2_look_24 rfl (lv_at hl 1 rfl) ?_
      refine va_get (D := D) (ci := 3) (v := .ref (oH t 0)) (C := RX2) (T := TX2) (N := 10) hx hb hts iwX2 hown hK hP 0 rfl rfl 0 (by decide) (hts (.fieldLink RX2 12 "ObjectRows" "kinds" "LObjectRows$Row;") (by decide +kernel)) (fun _ h9 => h9) rfl dX2_look_25 ?_
      refine lv_iload_n hx hb dX2_look_28 rfl (lv_at hl 2 rfl) ?_
      refine rcI (As := [.int d]) (rest := []) ⟨hx, hb, hml, hown, hts⟩ (c_X1_at l D Y (oH t 0) (oR t 0) d (hok 0 (by decide))) (cwV 1 hts gX2_look_X1_at rfl rfl rfl hdX1_at ⟨Nat.le_of_ble_eq_true rfl, Nat.le_of_ble_eq_true rfl⟩) (oWr0 hP) hK 0 2 rfl rfl rfl hl.1 rfl (Nat.le_of_ble_eq_true rfl) dX2_look_29 ⟨(Nat.zero_le _), (Nat.zero_le _)⟩ (fun r10 hr10 => ?_)
      obtain rfl : r10 = kd t d := hr10
      refine lv_bipush (v := 7) hx hb dX2_look_32 (by decide) ?_
      refine lv_icmp_ne (tgt := 51) hx hb dX2_look_34 (by decide) (fun c11 => ?_) (fun c11 => ?_)
      · skip
        refine lv_bipush (v := (-3)) hx hb dX2_look_51 (by decide) ?_
        exact reI hx hb hr hlocks dX2_look_53 (by first | (simp only [pLook, b2, b6, c11, decide_true, decide_false, Bool.not_true, Bool.not_false, Bool.and_true, Bool.true_and, Bool.and_false, Bool.false_and, Bool.or_true, Bool.true_or, Bool.or_false, Bool.false_or, Bool.and_self, Bool.or_self, if_true, if_false, ite_true, ite_false, Bool.false_eq_true, reduceIte, not_true_eq_false, not_false_eq_true, and_true, true_and, and_false, false_and, or_true, true_or, or_false, false_or, and_self, or_self, eq_self, decide_eq_true_eq, Bool.true_eq_false, reduceCtorEq, ne_eq]; done) | (simp [pLook, b2, b6, c11]; done))
      · skip
        refine lv_aload_n hx hb dX2_look_37 rfl (lv_at hl 1 rfl) ?_
        refine lv_iload_n hx hb dX2_look_38 rfl (lv_at hl 2 rfl) ?_
        refine rcI (As := [.int d]) (rest := []) ⟨hx, hb, hml, hown, hts⟩ (c_X2_accessOf l D Y t d hok) (cwV 1 hts gX2_look_X2_accessOf rfl rfl rfl hdX2_accessOf ⟨Nat.le_of_ble_eq_true rfl, Nat.le_of_ble_eq_true rfl⟩) hP hK 0 3 rfl rfl rfl hl.1 rfl (Nat.le_of_ble_eq_true rfl) dX2_look_39 ⟨(Nat.zero_le _), (Nat.zero_le _)⟩ (fun r12 hr12 => ?_)
        obtain rfl : r12 = pAcc t d := hr12
        refine lv_iconst (v := 2) hx hb dX2_look_42 (by decide) ?_
        refine lv_icmp_lt (tgt := 51) hx hb dX2_look_43 (by decide) (fun c13 => ?_) (fun c13 => ?_)
        · skip
          refine lv_bipush (v := (-3)) hx hb dX2_look_51 (by decide) ?_
          exact reI hx hb hr hlocks dX2_look_53 (by first | (simp only [pLook, b2, b6, c11, c13, decide_true, decide_false, Bool.not_true, Bool.not_false, Bool.and_true, Bool.true_and, Bool.and_false, Bool.false_and, Bool.or_true, Bool.true_or, Bool.or_false, Bool.false_or, Bool.and_self, Bool.or_self, if_true, if_false, ite_true, ite_false, Bool.false_eq_true, reduceIte, not_true_eq_false, not_false_eq_true, and_true, true_and, and_false, false_and, or_true, true_or, or_false, false_or, and_self, or_self, eq_self, decide_eq_true_eq, Bool.true_eq_false, reduceCtorEq, ne_eq]; done) | (simp [pLook, b2, b6, c11, c13, Int32.not_le.mpr c13]; done))
        · skip
          refine lv_iload_n hx hb dX2_look_46 rfl (lv_at hl 0 rfl) ?_
          refine lv_iconst (v := (-1)) hx hb dX2_look_47 (by decide) ?_
          refine lv_icmp_ne (tgt := 54) hx hb dX2_look_48 (by decide) (fun c14 => ?_) (fun c14 => ?_)
          · skip
            refine lv_aload_n hx hb dX2_look_54 rfl (lv_at hl 1 rfl) ?_
            refine lv_iload_n hx hb dX2_look_55 rfl (lv_at hl 2 rfl) ?_
            refine lv_iload_n hx hb dX2_look_56 rfl (lv_at hl 0 rfl) ?_
            refine rcI (As := [.int d, .int (pKeyFor t k)]) (rest := []) ⟨hx, hb, hml, hown, hts⟩ (c_X2_placeOf l D Y t d (pKeyFor t k) hok) (cwV 2 hts gX2_look_X2_placeOf rfl rfl rfl hdX2_placeOf ⟨Nat.le_of_ble_eq_true rfl, Nat.le_of_ble_eq_true rfl⟩) hP hK 0 3 rfl rfl rfl hl.1 rfl (Nat.le_of_ble_eq_true rfl) dX2_look_57 ⟨(Nat.zero_le _), (Nat.zero_le _)⟩ (fun r15 hr15 => ?_)
            obtain rfl : r15 = pPlaceOf t d (pKeyFor t k) := hr15
            refine lv_istore (lv' := [(4, .int (pPlaceOf t d (pKeyFor t k))), (3, .int (pKeyFor t k)), (0, .ref (oO t)), (1, .int d), (2, .int k)]) hx hb dX2_look_60 hl (by decide) rfl (fun ls hl => ?_)
            refine lv_iload hx hb dX2_look_62 (lv_at hl 0 rfl) ?_
            refine lv_iconst (v := (-1)) hx hb dX2_look_64 (by decide) ?_
            refine lv_icmp_ne (tgt := 73) hx hb dX2_look_65 (by decide) (fun c16 => ?_) (fun c16 => ?_)
            · skip
              refine lv_aload_n hx hb dX2_look_73 rfl (lv_at hl 2 rfl) ?_
              refine va_get (D := D) (ci := 3) (v := .ref (oNow t)) (C := RX2) (T := TX2) (N := 10) hx hb hts iwX2 hown hK hP 0 rfl rfl 6 (by decide) (hts (.fieldLink RX2 34 "ObjectRows" "now" "LObjectRows$Changing;") (by decide +kernel)) (fun _ h9 => h9) rfl dX2_look_74 ?_
              refine va_get (D := D) (ci := 1) (v := .ref (oH t 11)) (C := RX0) (T := TX0) (N := 7) hx hb hts iwX0 hown hK hP 1 rfl rfl 5 (by decide) (hts (.fieldLink RX2 67 "ObjectRows$Changing" "elements" "LObjectRows$Row;") (by decide +kernel)) (fun _ h9 => h9) rfl dX2_look_77 ?_
              refine lv_aload_n hx hb dX2_look_80 rfl (lv_at hl 2 rfl) ?_
              refine lv_iload_n hx hb dX2_look_81 rfl (lv_at hl 3 rfl) ?_
              refine lv_iload hx hb dX2_look_82 (lv_at hl 0 rfl) ?_
              refine rcI (As := [.int d, .int (pPlaceOf t d (pKeyFor t k))]) (rest := [.ref (oH t 11)]) ⟨hx, hb, hml, hown, hts⟩ (c_X2_valueCell l D Y t d (pPlaceOf t d (pKeyFor t k)) hok) (cwV 2 hts gX2_look_X2_valueCell rfl rfl rfl hdX2_valueCell ⟨Nat.le_of_ble_eq_true rfl, Nat.le_of_ble_eq_true rfl⟩) hP hK 0 3 rfl rfl rfl hl.1 rfl (Nat.le_of_ble_eq_true rfl) dX2_look_84 ⟨(Nat.zero_le _), (Nat.zero_le _)⟩ (fun r17 hr17 => ?_)
              obtain rfl : r17 = pValCell t d (pPlaceOf t d (pKeyFor t k)) := hr17
              refine rcI (As := [.int (pValCell t d (pPlaceOf t d (pKeyFor t k)))]) (rest := []) ⟨hx, hb, hml, hown, hts⟩ (c_X1_at l D Y (oH t 11) (oR t 11) (pValCell t d (pPlaceOf t d (pKeyFor t k))) (hok 11 (by decide))) (cwV 1 hts gX2_look_X1_at rfl rfl rfl hdX1_at ⟨Nat.le_of_ble_eq_true rfl, Nat.le_of_ble_eq_true rfl⟩) (oWr11 hP) hK 0 2 rfl rfl rfl hl.1 rfl (Nat.le_of_ble_eq_true rfl) dX2_look_87 ⟨(Nat.zero_le _), (Nat.zero_le _)⟩ (fun r18 hr18 => ?_)
              obtain rfl : r18 = rdE t (pValCell t d (pPlaceOf t d (pKeyFor t k))) := hr18
              exact reI hx hb hr hlocks dX2_look_90 (by first | (simp only [pLook, b2, b6, c11, c13, c14, c16, decide_true, decide_false, Bool.not_true, Bool.not_false, Bool.and_true, Bool.true_and, Bool.and_false, Bool.false_and, Bool.or_true, Bool.true_or, Bool.or_false, Bool.false_or, Bool.and_self, Bool.or_self, if_true, if_false, ite_true, ite_false, Bool.false_eq_true, reduceIte, not_true_eq_false, not_false_eq_true, and_true, true_and, and_false, false_and, or_true, true_or, or_false, false_or, and_self, or_self, eq_self, decide_eq_true_eq, Bool.true_eq_false, reduceCtorEq, ne_eq]; done) | (simp [pLook, b2, b6, c11, c13, c14, c16, Int32.not_lt.mp c13]; done))
            · skip
              refine lv_bipush (v := (-5)) hx hb dX2_look_68 (by decide) ?_
              refine lv_goto (tgt := 90) hx hb dX2_look_70 (by decide) ?_
              exact reI hx hb hr hlocks dX2_look_90 (by first | (simp only [pLook, b2, b6, c11, c13, c14, c16, decide_true, decide_false, Bool.not_true, Bool.not_false, Bool.and_true, Bool.true_and, Bool.and_false, Bool.false_and, Bool.or_true, Bool.true_or, Bool.or_false, Bool.false_or, Bool.and_self, Bool.or_self, if_true, if_false, ite_true, ite_false, Bool.false_eq_true, reduceIte, not_true_eq_false, not_false_eq_true, and_true, true_and, and_false, false_and, or_true, true_or, or_false, false_or, and_self, or_self, eq_self, decide_eq_true_eq, Bool.true_eq_false, reduceCtorEq, ne_eq]; done) | (simp [pLook, b2, b6, c11, c13, c14, c16, Int32.not_lt.mp c13]; done))
          · skip
            refine lv_bipush (v := (-3)) hx hb dX2_look_51 (by decide) ?_
            exact reI hx hb hr hlocks dX2_look_53 (by first | (simp only [pLook, b2, b6, c11, c13, c14, decide_true, decide_false, Bool.not_true, Bool.not_false, Bool.and_true, Bool.true_and, Bool.and_false, Bool.false_and, Bool.or_true, Bool.true_or, Bool.or_false, Bool.false_or, Bool.and_self, Bool.or_self, if_true, if_false, ite_true, ite_false, Bool.false_eq_true, reduceIte, not_true_eq_false, not_false_eq_true, and_true, true_and, and_false, false_and, or_true, true_or, or_false, false_or, and_self, or_self, eq_self, decide_eq_true_eq, Bool.true_eq_false, reduceCtorEq, ne_eq]; done) | (simp [pLook, b2, b6, c11, c13, c14, Int32.not_lt.mp c13]; done))
theorem hdX2_look : yX2_look.cls = RX2 ∧ yX2_look.cls ≠ "java/lang/invoke/MethodHandle" ∧ yX2_look.cls ≠ "java/lang/invoke/VarHandle" ∧ (parseMethodDescriptor yX2_look.desc).map (fun d => d.parameters.length) = some 2 := by decide +kernel
end
